/-! wb -/
/-! WHAT IS MADE: worlds in any order -/
theorem ct_Dn {A : Nat → Prop} {ws : va_W} : va_D A ws ↔ ((ws.map Prod.fst).Nodup ∧ ∀ q ∈ ws, A q.1) := by
  constructor
  · intro h
    refine ⟨?_, fun q hq => ?_⟩
    · rw [List.nodup_iff_pairwise_ne, List.pairwise_iff_getElem]
      intro i j hi hj hij e
      simp only [List.getElem_map] at e
      have hi' : i < ws.length := by simpa using hi
      have hj' : j < ws.length := by simpa using hj
      have := h.1 i j ws[i] ws[j] (List.getElem?_eq_getElem hi') (List.getElem?_eq_getElem hj') e
      omega
    · obtain ⟨i, hi⟩ := List.getElem?_of_mem hq
      exact h.2 i q hi
  · rintro ⟨h1, h2⟩
    refine ⟨fun i j p q hi hj e => ?_, fun k q hk => h2 q (List.mem_of_getElem? hk)⟩
    have hl : i < ws.length := (List.getElem?_eq_some_iff.mp hi).1
    refine (List.getElem?_inj (by simpa using hl) h1).mp ?_
    simp only [List.getElem?_map, hi, hj, Option.map_some, e]
theorem ct_Dp {A : Nat → Prop} {ws ws' : va_W} (h : va_D A ws) (p : ws.Perm ws') : va_D A ws' := by
  have h' := ct_Dn.mp h
  exact ct_Dn.mpr ⟨(p.map Prod.fst).nodup h'.1, fun q hq => h'.2 q (p.mem_iff.mpr hq)⟩
theorem ct_Pm {D : va_G} {cl : List vw_C} {ws ws' : va_W} {H : Heap} (h : va_P D cl ws H) (p : ∀ q ∈ ws', q ∈ ws) : va_P D cl ws' H := fun k q hk => by
  obtain ⟨i, hi⟩ := List.getElem?_of_mem (p q (List.mem_of_getElem? hk))
  exact h i q hi
theorem ct_Pp {D : va_G} {cl : List vw_C} {ws ws' : va_W} {H : Heap} (h : va_P D cl ws H) (p : ws.Perm ws') : va_P D cl ws' H := ct_Pm h fun _ hq => p.mem_iff.mpr hq
theorem ct_free {A : Nat → Prop} {wc wr : va_W} {H0 H : Heap} {locs : List Loc} (hD : va_D A (wc ++ wr)) (hS : va_S A H0 H locs) (hA : ∀ q, H0.size ≤ q → A q) : ∀ q, va_A wc H.size q → A q := by
  intro q h
  rcases h with ⟨k, e, h⟩ | h
  · exact (ct_Dn.mp hD).2 (q, e) (List.mem_append_left _ (List.mem_of_getElem? h))
  · exact hA q (Nat.le_trans hS.1 h)
theorem ct_join {A : Nat → Prop} {D : va_G} {cl : List vw_C} {wc wr w1 : va_W} {H H1 : Heap} (hP : va_P D cl (wc ++ wr) H) (hD : va_D A (wc ++ wr)) (hk : ∀ q : Nat, q < H.size → ¬ va_A wc H.size q → H1[q]? = H[q]?) (hF : ∀ q, va_A wc H.size q → A q) (hP1 : va_P D cl w1 H1) (hD1 : va_D (va_A wc H.size) w1) : va_P D cl (w1 ++ wr) H1 ∧ va_D A (w1 ++ wr) := by
  have hjr : ∀ (j : Nat) (q : Nat × va_E), wr[j]? = some q → (wc ++ wr)[wc.length + j]? = some q := by
    intro j q hj
    rw [List.getElem?_append_right (by omega), Nat.add_sub_cancel_left]
    exact hj
  have hr : ∀ (j : Nat) (q : Nat × va_E), wr[j]? = some q → q.1 < H.size ∧ ¬ va_A wc H.size q.1 := by
    intro j q hj
    have hlt : q.1 < H.size := (hP _ q (hjr j q hj)).lt
    refine ⟨hlt, ?_⟩
    rintro (⟨k, e, h⟩ | h)
    · have hkl : k < wc.length := (List.getElem?_eq_some_iff.mp h).1
      have := hD.1 k (wc.length + j) (q.1, e) q (by rw [List.getElem?_append_left hkl]; exact h) (hjr j q hj) rfl
      omega
    · omega
  refine ⟨hP1.app (fun j q hj => ?_), va_D.app (hD1.weaken (fun k q _ hq => hF q.1 hq)) ⟨fun i j p q hi hj e => ?_, fun j q hj => hD.2 _ q (hjr j q hj)⟩ (fun i j p q hi hj e => ?_)⟩
  · exact (hP _ q (hjr j q hj)).kept (hk q.1 (hr j q hj).1 (hr j q hj).2)
  · have := hD.1 _ _ p q (hjr i p hi) (hjr j q hj) e
    omega
  · have h1 := hD1.2 i p hi
    rw [e] at h1
    exact (hr j q hj).2 h1
theorem ct_int1 {s : State} {c1 c2 : ClassId} (h1 : va_RA s c1 .int) (h2 : va_RA s c2 .int) : c1 = c2 := Option.some.inj (Eq.trans (Eq.symm (show s.vm.findClass ("[" ++ FieldType.int.toString) = some c1 from h1)) (show s.vm.findClass ("[" ++ FieldType.int.toString) = some c2 from h2))
theorem ct_0 : (0 : Int32) = i3 0 := i3_zero.symm
/-- an int array filled with l so far -/
def ct_f (l : List Int) (n : Nat) : Nat → Int32 := fun j => i3 (if j < n then l.getD j 0 else 0)
theorem ct_f0 (l : List Int) : (fun _ => i3 0 : Nat → Int32) = ct_f l 0 := by
  funext j
  unfold ct_f
  rw [if_neg (Nat.not_lt_zero j)]
theorem ct_fs {l : List Int} {n : Nat} {i x : Int32} (hi : i.toNatClampNeg = n) (hx : x = i3 (l.getD n 0)) : upd (ct_f l n) i.toNatClampNeg x = ct_f l (n + 1) := by
  rw [hi, hx]
  funext j
  unfold upd ct_f
  by_cases h : j = n
  · rw [if_pos h, if_pos (by omega), h]
  · rw [if_neg h]
    by_cases h2 : j < n
    · rw [if_pos h2, if_pos (by omega)]
    · rw [if_neg h2, if_neg (by omega)]
