/-! wb -/
variable {wb : Bool}
/-! VALUES and LOCALS of the machine that stand for the abstract ones -/
def am_tr (ad : Nat → Nat → Nat) (fm : Value) (v : am_V) : Value := match v with
  | Sum.inl x => .int (i3 x)
  | Sum.inr (Sum.inl x) => .long (i6 x)
  | Sum.inr (Sum.inr none) => .null
  | Sum.inr (Sum.inr (some (k, i))) => bif Nat.beq k 54 then fm else .ref (ad k i)
def am_lvs (ad : Nat → Nat → Nat) (fm : Value) : Nat → List (Option am_V) → List (Nat × Value)
  | _, [] => []
  | k, none :: t => am_lvs ad fm (k + 1) t
  | k, some v :: t => (k, am_tr ad fm v) :: am_lvs ad fm (k + 1) t
theorem am_lvs_mem {ad : Nat → Nat → Nat} {fm : Value} : ∀ (ls : List (Option am_V)) (k : Nat) (q : Nat × Value), q ∈ am_lvs ad fm k ls ↔ ∃ j v, ls[j]? = some (some v) ∧ q = (k + j, am_tr ad fm v)
  | [], k, q => by simp [am_lvs]
  | none :: t, k, q => by
    rw [am_lvs, am_lvs_mem t (k + 1) q]
    constructor
    · rintro ⟨j, v, h1, h2⟩
      exact ⟨j + 1, v, by simpa using h1, by rw [h2]; congr 1; omega⟩
    · rintro ⟨j, v, h1, h2⟩
      match j, h1 with
      | 0, h1 => simp at h1
      | j + 1, h1 => exact ⟨j, v, by simpa using h1, by rw [h2]; congr 1; omega⟩
  | some w :: t, k, q => by
    rw [am_lvs, List.mem_cons, am_lvs_mem t (k + 1) q]
    constructor
    · rintro (h | ⟨j, v, h1, h2⟩)
      · exact ⟨0, w, by simp, by rw [h]; rfl⟩
      · exact ⟨j + 1, v, by simpa using h1, by rw [h2]; congr 1; omega⟩
    · rintro ⟨j, v, h1, h2⟩
      match j, h1 with
      | 0, h1 =>
        simp at h1
        subst h1
        exact Or.inl h2
      | j + 1, h1 => exact Or.inr ⟨j, v, by simpa using h1, by rw [h2]; congr 1; omega⟩
theorem am_g_get : ∀ (ls : List (Option am_V)) (k : Nat) (v : am_V), am_g ls k = some v → ls[k]? = some (some v)
  | [], _, _, h => by simp [am_g] at h
  | x :: t, 0, v, h => by simp [am_g] at h; simp [h]
  | x :: t, k + 1, v, h => by
    have := am_g_get t k v (by simpa [am_g] using h)
    simpa using this
def am_isl (v : am_V) : Prop := match v with
  | Sum.inr (Sum.inl _) => True
  | _ => False
theorem am_nl_some {x : Option am_V} {w : am_V} (h : am_nl x = some w) : x = some w ∧ ¬ am_isl w := by
  cases x with
  | none => simp [am_nl] at h
  | some y =>
    match y, h with
    | Sum.inl a, h => simp [am_nl] at h; subst h; exact ⟨rfl, fun z => z⟩
    | Sum.inr (Sum.inl a), h => simp [am_nl] at h
    | Sum.inr (Sum.inr a), h => simp [am_nl] at h; subst h; exact ⟨rfl, fun z => z⟩
/-- what a store of one slot leaves -/
theorem am_s1_spec : ∀ (ls : List (Option am_V)) (k : Nat) (v : am_V) (ls2 : List (Option am_V)), am_s1 ls k v = some ls2 → ls2.length = ls.length ∧ k < ls.length ∧ ∀ (j : Nat) (w : am_V), ls2[j]? = some (some w) → (j = k ∧ w = v) ∨ (j ≠ k ∧ ls[j]? = some (some w) ∧ ¬ (j + 1 = k ∧ am_isl w))
  | [], _, _, _, h => by simp [am_s1] at h
  | x :: t, 0, v, ls2, h => by
    simp only [am_s1, Option.some.injEq] at h
    subst h
    refine ⟨rfl, by simp, fun j w hw => ?_⟩
    match j, hw with
    | 0, hw => simp at hw; exact Or.inl ⟨rfl, hw.symm⟩
    | j + 1, hw => exact Or.inr ⟨by omega, by simpa using hw, by omega⟩
  | x :: t, 1, v, ls2, h => by
    simp only [am_s1] at h
    cases ht : am_s1 t 0 v with
    | none => rw [ht] at h; simp at h
    | some t' =>
      rw [ht] at h
      simp only [Option.some.injEq] at h
      subst h
      obtain ⟨h1, h2, h3⟩ := am_s1_spec t 0 v t' ht
      refine ⟨by simp [h1], by simp; omega, fun j w hw => ?_⟩
      match j, hw with
      | 0, hw =>
        have hw : am_nl x = some w := by simpa using hw
        obtain ⟨q1, q2⟩ := am_nl_some hw
        exact Or.inr ⟨by omega, by simp [q1], fun z => q2 z.2⟩
      | j + 1, hw =>
        rcases h3 j w (by simpa using hw) with ⟨q1, q2⟩ | ⟨q1, q2, q3⟩
        · exact Or.inl ⟨by omega, q2⟩
        · exact Or.inr ⟨by omega, by simpa using q2, fun z => q3 ⟨by omega, z.2⟩⟩
  | x :: t, k + 2, v, ls2, h => by
    simp only [am_s1] at h
    cases ht : am_s1 t (k + 1) v with
    | none => rw [ht] at h; simp at h
    | some t' =>
      rw [ht] at h
      simp only [Option.some.injEq] at h
      subst h
      obtain ⟨h1, h2, h3⟩ := am_s1_spec t (k + 1) v t' ht
      refine ⟨by simp [h1], by simp; omega, fun j w hw => ?_⟩
      match j, hw with
      | 0, hw => exact Or.inr ⟨by omega, by simpa using hw, by omega⟩
      | j + 1, hw =>
        rcases h3 j w (by simpa using hw) with ⟨q1, q2⟩ | ⟨q1, q2, q3⟩
        · exact Or.inl ⟨by omega, q2⟩
        · exact Or.inr ⟨by omega, by simpa using q2, fun z => q3 ⟨by omega, z.2⟩⟩
theorem am_s2_spec : ∀ (ls : List (Option am_V)) (k : Nat) (v : am_V) (ls2 : List (Option am_V)), am_s2 ls k v = some ls2 → ls2.length = ls.length ∧ k + 1 < ls.length ∧ ∀ (j : Nat) (w : am_V), ls2[j]? = some (some w) → (j = k ∧ w = v) ∨ (j ≠ k ∧ j ≠ k + 1 ∧ ls[j]? = some (some w) ∧ ¬ (j + 1 = k ∧ am_isl w))
  | [], _, _, _, h => by simp [am_s2] at h
  | [x], 0, _, _, h => by simp [am_s2] at h
  | [x], 1, _, _, h => by simp [am_s2] at h
  | [x], k + 2, _, _, h => by simp [am_s2] at h
  | x :: y :: t, 0, v, ls2, h => by
    simp only [am_s2, Option.some.injEq] at h
    subst h
    refine ⟨rfl, by simp, fun j w hw => ?_⟩
    match j, hw with
    | 0, hw => simp at hw; exact Or.inl ⟨rfl, hw.symm⟩
    | 1, hw => simp at hw
    | j + 2, hw => exact Or.inr ⟨by omega, by omega, by simpa using hw, by omega⟩
  | x :: y :: t, 1, v, ls2, h => by
    simp only [am_s2] at h
    cases ht : am_s2 (y :: t) 0 v with
    | none => rw [ht] at h; simp at h
    | some t' =>
      rw [ht] at h
      simp only [Option.some.injEq] at h
      subst h
      obtain ⟨h1, h2, h3⟩ := am_s2_spec (y :: t) 0 v t' ht
      refine ⟨by simp at h1 ⊢; omega, by simp at h2 ⊢; omega, fun j w hw => ?_⟩
      match j, hw with
      | 0, hw =>
        have hw : am_nl x = some w := by simpa using hw
        obtain ⟨q1, q2⟩ := am_nl_some hw
        exact Or.inr ⟨by omega, by omega, by simp [q1], fun z => q2 z.2⟩
      | j + 1, hw =>
        rcases h3 j w (by simpa using hw) with ⟨q1, q2⟩ | ⟨q1, q0, q2, q3⟩
        · exact Or.inl ⟨by omega, q2⟩
        · exact Or.inr ⟨by omega, by omega, by simpa using q2, fun z => q3 ⟨by omega, z.2⟩⟩
  | x :: y :: t, k + 2, v, ls2, h => by
    simp only [am_s2] at h
    cases ht : am_s2 (y :: t) (k + 1) v with
    | none => rw [ht] at h; simp at h
    | some t' =>
      rw [ht] at h
      simp only [Option.some.injEq] at h
      subst h
      obtain ⟨h1, h2, h3⟩ := am_s2_spec (y :: t) (k + 1) v t' ht
      refine ⟨by simp at h1 ⊢; omega, by simp at h2 ⊢; omega, fun j w hw => ?_⟩
      match j, hw with
      | 0, hw => exact Or.inr ⟨by omega, by omega, by simpa using hw, by omega⟩
      | j + 1, hw =>
        rcases h3 j w (by simpa using hw) with ⟨q1, q2⟩ | ⟨q1, q0, q2, q3⟩
        · exact Or.inl ⟨by omega, q2⟩
        · exact Or.inr ⟨by omega, by omega, by simpa using q2, fun z => q3 ⟨by omega, z.2⟩⟩
def am_L (ad : Nat → Nat → Nat) (fm : Value) (n : Nat) (ls : List (Option am_V)) (ls' : Array Slot) : Prop := ls.length = n ∧ lv_has ls' n (am_lvs ad fm 0 ls)
theorem am_L.get {ad : Nat → Nat → Nat} {fm : Value} {n k : Nat} {ls : List (Option am_V)} {ls' : Array Slot} {v : am_V} (h : am_L ad fm n ls ls') (hg : am_g ls k = some v) : ls'[k]? = some (.val (am_tr ad fm v)) := by
  have := h.2.2.2 (k, am_tr ad fm v) ((am_lvs_mem ls 0 _).mpr ⟨k, v, am_g_get ls k v hg, by simp⟩)
  exact this
theorem am_tr_cat {ad : Nat → Nat → Nat} {fm : Value} (hf : fm.isRef = true) (w : am_V) (h : (am_tr ad fm w).category = 2) : am_isl w := by
  match w, h with
  | Sum.inl x, h => simp [am_tr, Value.category] at h
  | Sum.inr (Sum.inl x), h => exact trivial
  | Sum.inr (Sum.inr none), h => simp [am_tr, Value.category] at h
  | Sum.inr (Sum.inr (some (k, i))), h =>
    exfalso
    simp only [am_tr] at h
    cases hb : Nat.beq k 54 with
    | true =>
      rw [hb] at h
      cases fm <;> simp [Value.isRef, Value.category, cond] at h hf
    | false => rw [hb] at h; simp [Value.category, cond] at h
theorem am_L.set1 {ad : Nat → Nat → Nat} {fm : Value} (hf : fm.isRef = true) {n k : Nat} {ls ls2 : List (Option am_V)} {ls1 : Array Slot} {v : am_V} (hl : ls.length = n) (hs : am_s1 ls k v = some ls2) (h : lv_has ls1 n ((k, am_tr ad fm v) :: (am_lvs ad fm 0 ls).filter (fun q => !(q.1 == k) && !(q.1 + 1 == k && q.2.category == 2)))) : am_L ad fm n ls2 ls1 := by
  obtain ⟨h1, h2, h3⟩ := am_s1_spec ls k v ls2 hs
  refine ⟨by omega, h.1, h.2.1, fun q hq => ?_⟩
  obtain ⟨j, w, q1, q2⟩ := (am_lvs_mem ls2 0 q).mp hq
  rw [Nat.zero_add] at q2
  subst q2
  rcases h3 j w q1 with ⟨g1, g2⟩ | ⟨g1, g2, g3⟩
  · subst g1; subst g2
    exact h.2.2 _ List.mem_cons_self
  · refine h.2.2 (j, am_tr ad fm w) (List.mem_cons_of_mem _ (List.mem_filter.mpr ⟨(am_lvs_mem ls 0 _).mpr ⟨j, w, g2, by simp⟩, ?_⟩))
    have e1 : (j == k) = false := by simp [g1]
    by_cases hjk : j + 1 = k
    · have : ¬ (am_tr ad fm w).category = 2 := fun z => g3 ⟨hjk, am_tr_cat hf w z⟩
      simp [e1, this]
    · simp [e1, hjk]
theorem am_L.set2 {ad : Nat → Nat → Nat} {fm : Value} (hf : fm.isRef = true) {n k : Nat} {ls ls2 : List (Option am_V)} {ls1 : Array Slot} {v : am_V} (hl : ls.length = n) (hs : am_s2 ls k v = some ls2) (h : lv_has ls1 n ((k, am_tr ad fm v) :: (am_lvs ad fm 0 ls).filter (fun q => !(q.1 == k) && (!(q.1 == k + 1) && !(q.1 + 1 == k && q.2.category == 2))))) : am_L ad fm n ls2 ls1 := by
  obtain ⟨h1, h2, h3⟩ := am_s2_spec ls k v ls2 hs
  refine ⟨by omega, h.1, h.2.1, fun q hq => ?_⟩
  obtain ⟨j, w, q1, q2⟩ := (am_lvs_mem ls2 0 q).mp hq
  rw [Nat.zero_add] at q2
  subst q2
  rcases h3 j w q1 with ⟨g1, g2⟩ | ⟨g1, g0, g2, g3⟩
  · subst g1; subst g2
    exact h.2.2 _ List.mem_cons_self
  · refine h.2.2 (j, am_tr ad fm w) (List.mem_cons_of_mem _ (List.mem_filter.mpr ⟨(am_lvs_mem ls 0 _).mpr ⟨j, w, g2, by simp⟩, ?_⟩))
    have e1 : (j == k) = false := by simp [g1]
    have e2 : (j == k + 1) = false := by simp [g0]
    by_cases hjk : j + 1 = k
    · have : ¬ (am_tr ad fm w).category = 2 := fun z => g3 ⟨hjk, am_tr_cat hf w z⟩
      simp [e1, e2, this]
    · simp [e1, e2, hjk]
