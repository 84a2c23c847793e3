/-! wb -/
/-! WHAT IS MADE: the contract of the reference's constructor -/
def ct_ad8 (h8 : Nat) (l : List Nat) (ad : Nat → Nat → Nat) : Nat → Nat → Nat := fun k i => bif Nat.beq k 8 then h8 else bif Nat.ble 22 k && Nat.ble k 41 then l.getD (k - 22) 0 else ad k i
def ct_ca8 (cI : ClassId) (ca : Nat → Nat → ClassId) : Nat → Nat → ClassId := fun k i => bif Nat.ble 22 k && Nat.ble k 41 then cI else ca k i
theorem ct_b22 {k : Nat} (h : 22 ≤ k ∧ k ≤ 41) : (Nat.ble 22 k && Nat.ble k 41) = true := by
  rw [Nat.ble_eq_true_of_le h.1, Nat.ble_eq_true_of_le h.2]
  rfl
theorem ct_n22 {k : Nat} (h : ¬ (22 ≤ k ∧ k ≤ 41)) : (Nat.ble 22 k && Nat.ble k 41) = false := by
  refine Bool.eq_false_iff.mpr (fun e => h ?_)
  rw [Bool.and_eq_true] at e
  exact ⟨Nat.le_of_ble_eq_true e.1, Nat.le_of_ble_eq_true e.2⟩
theorem ct_ad8_5 {h8 : Nat} {l : List Nat} {ad : Nat → Nat → Nat} {k : Nat} (h : 42 ≤ k) : ct_ad8 h8 l ad k = ad k := by
  funext i
  unfold ct_ad8
  rw [ct_bf (show k ≠ 8 by omega), ct_n22 (by omega)]
  rfl
theorem ct_cnt : ∀ k, k < 22 → 9 ≤ k → am_cnt true k = am_cnt false k := by decide +kernel
theorem ct_ca8s {s : State} {dC : Nat → ClassId} {dI : Nat → Nat → Nat} {cI : ClassId} {ca : Nat → Nat → ClassId} (hI : va_K (dC, dI) vwCl [(cI, .int)] s) (hca : ∀ k i, 9 ≤ k → k < 42 → i < am_cnt false k → ArrOfT s (ca k i) (am_aty k) ∧ va_RA s (ca k i) (am_aty k)) : ∀ k i, 9 ≤ k → k < 42 → i < am_cnt true k → ArrOfT s (ct_ca8 cI ca k i) (am_aty k) ∧ va_RA s (ct_ca8 cI ca k i) (am_aty k) := by
  intro k i h1 h2 h3
  unfold ct_ca8
  by_cases c : 22 ≤ k ∧ k ≤ 41
  · rw [ct_b22 c]
    have e2 : am_aty k = .int := by
      unfold am_aty
      rw [if_neg (by omega), if_neg (by omega), if_neg (by omega)]
    rw [e2]
    exact hI.2 0 _ rfl
  · rw [ct_n22 c]
    exact hca k i h1 h2 (by rw [← ct_cnt k (by omega) h1]; exact h3)
set_option maxHeartbeats 8000000 in
set_option maxRecDepth 100000 in
theorem ct_W8 {ad : Nat → Nat → Nat} {ca : Nat → Nat → ClassId} {M0 : am_M} {cI : ClassId} (h8 y0 y1 y2 y3 y4 y5 y6 y7 y8 y9 y10 y11 y12 y13 y14 y15 y16 y17 y18 y19 : Nat) : am_W true (ct_ad8 h8 [y0, y1, y2, y3, y4, y5, y6, y7, y8, y9, y10, y11, y12, y13, y14, y15, y16, y17, y18, y19] ad) (ct_ca8 cI ca) (am_mix ct_S8 ct_N0 M0) = am_W false ad ca M0 ++ ct_w8 cI h8 y0 y1 y2 y3 y4 y5 y6 y7 y8 y9 y10 y11 y12 y13 y14 y15 y16 y17 y18 y19 := rfl
/-- behind the reference's constructor -/
def ct_B8 (dC : Nat → ClassId) (dI : Nat → Nat → Nat) (ad : Nat → Nat → Nat) (L : Nat) (xs : Nat → Int) (A : Nat → Prop) (h8 : Nat) (t : State) : Prop :=
  ∃ (ad2 : Nat → Nat → Nat) (ca2 : Nat → Nat → ClassId) (M : am_M), (∀ k, 42 ≤ k → ad2 k = ad k) ∧ (ad2 8 0 = h8 ∧ ad2 7 0 = ad 7 0) ∧ va_P (dC, dI) vwCl (am_W true ad2 ca2 M) t.heap ∧ va_D A (am_W true ad2 ca2 M) ∧ (∀ k i, 9 ≤ k → k < 42 → i < am_cnt true k → ArrOfT t (ca2 k i) (am_aty k) ∧ va_RA t (ca2 k i) (am_aty k)) ∧ jf_J M ∧ jf_C M ∧ am_scr L xs M
set_option maxHeartbeats 8000000 in
set_option maxRecDepth 100000 in
theorem ct_Y (l : Launch) (dC : Nat → ClassId) (dI : Nat → Nat → Nat) (cI : ClassId) (ad : Nat → Nat → Nat) (ca : Nat → Nat → ClassId) (M0 : am_M) (fm : Value) (L : Nat) (xs : Nat → Int) (hfm : fm.isRef = true) (hm : ct_made L xs M0) (h8 sz : Nat) : Met l (tb_y 122) (.code (tb_y 122) (tb_cc 122) (tb_ml 122) (tb_ret 122) :: ct_ws) ({ frames := 61, cells := 20, slots := 2172, locals := 4880 }) (va_Pc [.ref h8] (fun U => U.heap.size = sz ∧ va_P (dC, dI) vwCl (ct_o8 h8 ++ am_W false ad ca M0) U.heap ∧ va_D (fun _ => True) (ct_o8 h8 ++ am_W false ad ca M0) ∧ va_K (dC, dI) vwCl [(cI, .int)] U ∧ (∀ k i, 9 ≤ k → k < 42 → i < am_cnt false k → ArrOfT U (ca k i) (am_aty k) ∧ va_RA U (ca k i) (am_aty k)) ∧ ct_T5 (ad 50) (ad 51) (ad 52) (ad 53) fm L xs (va_A (ct_o8 h8 ++ am_W false ad ca M0) sz) U U.heap)) (va_Qv (fun _ : Unit => True) (fun _ t => ct_B8 dC dI ad L xs (va_A (ct_o8 h8 ++ am_W false ad ca M0) sz) h8 t) (va_A (ct_o8 h8 ++ am_W false ad ca M0) sz)) 20 2172 (va_A (ct_o8 h8 ++ am_W false ad ca M0) sz) := by
  refine Met.ofW (cc := tb_cc 122) (maxL := 2) (ret := none) (by decide) rfl ?_
  intro p e s m args below meth c s₁ B hml hv
  obtain ⟨rfl, hsz, hP0, hD0, hK, hca, hT5⟩ := hv
  have hx := B.exec
  have hb := B.bytes
  have hr := B.returns
  have hts0 := atoms_spec (ws := .code (tb_y 122) (tb_cc 122) (tb_ml 122) (tb_ret 122) :: ct_ws) B.pre
  have hts : ∀ w ∈ ct_ws, w.before ([Value.ref h8].toArray) s = true := fun w hw => hts0 w (List.mem_cons_of_mem _ hw)
  have hown : s.vm.findClass RX8 = some m.cls := findClass_of_methodNamed B.named
  have hlocks := B.notSynchronized
  have hin : meth.name = "<init>" := (name_of_methodNamed B.named B.method).1
  subst hsz
  have hD2 := hD0.self (sz := s.heap.size)
  have hPm : va_P (dC, dI) vwCl (ct_o8 h8) s.heap := ct_Pm hP0 (fun q h => List.mem_append_left _ h)
  have hDm : va_D (fun _ => True) (ct_o8 h8) := hD0.sub [0] (by decide) rfl
  have hD1 := hDm.self (sz := s.heap.size)
  have hcl : ∀ q, va_A (ct_o8 h8) s.heap.size q → va_A (ct_o8 h8 ++ am_W false ad ca M0) s.heap.size q := by
    rintro q (⟨k, e, h⟩ | h)
    · exact Or.inl (by
        obtain ⟨i, hi⟩ := List.getElem?_of_mem (List.mem_append_left (am_W false ad ca M0) (List.mem_of_getElem? h))
        exact ⟨i, e, hi⟩)
    · exact Or.inr h
  have hcA : ∀ (j : Nat) (q : Nat × va_E), (am_W false ad ca M0)[j]? = some q → q.1 < s.heap.size ∧ ¬ va_A (ct_o8 h8) s.heap.size q.1 := by
    intro j q hj
    have hj2 : (ct_o8 h8 ++ am_W false ad ca M0)[1 + j]? = some q := by
      rw [List.getElem?_append_right (by show 1 ≤ 1 + j; omega)]
      rw [show 1 + j - (ct_o8 h8).length = j from by show 1 + j - 1 = j; omega]
      exact hj
    have hlt : q.1 < s.heap.size := (hP0 _ q hj2).lt
    refine ⟨hlt, ?_⟩
    rintro (⟨k, e, h⟩ | h)
    · have hk0 : k = 0 := by
        have := (List.getElem?_eq_some_iff.mp h).1
        have : k < 1 := this
        omega
      subst hk0
      have := hD0.1 0 (1 + j) (q.1, e) q (by rw [List.getElem?_append_left (by show 0 < 1; omega)]; exact h) hj2 rfl
      omega
    · omega
  obtain ⟨A2, hA2e⟩ : ∃ A, A = va_A (ct_o8 h8 ++ am_W false ad ca M0) s.heap.size := ⟨_, rfl⟩
  rw [← hA2e] at hD2 hT5 hcl ⊢
  obtain ⟨A1, hA1e⟩ : ∃ A, A = va_A (ct_o8 h8) s.heap.size := ⟨_, rfl⟩
  rw [← hA1e] at hD1 hcl hcA
  have hA1 : ∀ q : Nat, s.heap.size ≤ q → A1 q := fun q h => by rw [hA1e]; exact Or.inr h
  have hA2 : ∀ q : Nat, s.heap.size ≤ q → A2 q := fun q h => hcl q (hA1 q h)
  have hS : va_S A1 s.heap s.heap [] := va_S.rf
  have hl := lv_entry ([.ref h8]) (n := 2) (Nat.le_of_ble_eq_true rfl)
  rw [lg_entry_eq]
  generalize (lg_sl ([.ref h8]) ++ List.replicate (2 - (lg_sl ([.ref h8])).length) Slot.unset).toArray = ls at hl ⊢
  have hl : lv_has ls 2 [(0, .ref h8)] := hl
  refine ct_yfirst hx hb hml hown hts hK hA1 (by decide) hin hPm hD1 hS hl ⟨Nat.le_of_ble_eq_true rfl, Nat.le_of_ble_eq_true rfl⟩ (fun H locs y0 y1 y2 y3 y4 y5 y6 y7 y8 y9 y10 y11 y12 y13 y14 y15 y16 y17 y18 y19 hP hD hS => ?_)
  refine W.widen (k := 20) (n := 2172) (Nat.le_of_ble_eq_true rfl) (Nat.le_of_ble_eq_true rfl) ?_
  have hPc : va_P (dC, dI) vwCl (am_W false ad ca M0) H := fun j q hj => (ct_Pm hP0 (fun q h => List.mem_append_right _ h) j q hj).kept (hS.2.1 q.1 (hcA j q hj).1 (hcA j q hj).2)
  have hDc : va_D A2 (am_W false ad ca M0) := by
    have h' := ct_Dn.mp hD2
    refine ct_Dn.mpr ⟨?_, fun q hq => h'.2 q (List.mem_append_right _ hq)⟩
    have h2 := h'.1
    rw [List.map_append] at h2
    exact (List.nodup_append.mp h2).2.1
  have hPt : va_P (dC, dI) vwCl (am_W true (ct_ad8 h8 [y0, y1, y2, y3, y4, y5, y6, y7, y8, y9, y10, y11, y12, y13, y14, y15, y16, y17, y18, y19] ad) (ct_ca8 cI ca) (am_mix ct_S8 ct_N0 M0)) H := by
    rw [ct_W8]
    exact hPc.app hP
  have hDt : va_D A2 (am_W true (ct_ad8 h8 [y0, y1, y2, y3, y4, y5, y6, y7, y8, y9, y10, y11, y12, y13, y14, y15, y16, y17, y18, y19] ad) (ct_ca8 cI ca) (am_mix ct_S8 ct_N0 M0)) := by
    rw [ct_W8]
    refine va_D.app hDc (hD.weaken (fun k q _ h => hcl q.1 h)) (fun i j p q hi hj e => ?_)
    have h1 := (hcA i p hi).2
    rw [e] at h1
    exact h1 (hD.2 j q hj)
  have hS2 : va_S A2 s.heap H locs := ⟨hS.1, fun q h1 h2 => hS.2.1 q h1 (fun h => h2 (hcl q h)), fun lc hlc => hcl _ (hS.2.2 lc hlc)⟩
  have hca2 := ct_ca8s hK hca
  have h88 : ct_ad8 h8 [y0, y1, y2, y3, y4, y5, y6, y7, y8, y9, y10, y11, y12, y13, y14, y15, y16, y17, y18, y19] ad 8 0 = h8 := rfl
  have h87 : ct_ad8 h8 [y0, y1, y2, y3, y4, y5, y6, y7, y8, y9, y10, y11, y12, y13, y14, y15, y16, y17, y18, y19] ad 7 0 = ad 7 0 := rfl
  have h85 : ∀ k, 42 ≤ k → ct_ad8 h8 [y0, y1, y2, y3, y4, y5, y6, y7, y8, y9, y10, y11, y12, y13, y14, y15, y16, y17, y18, y19] ad k = ad k := fun k hk => ct_ad8_5 hk
  generalize ct_ad8 h8 [y0, y1, y2, y3, y4, y5, y6, y7, y8, y9, y10, y11, y12, y13, y14, y15, y16, y17, y18, y19] ad = ad2 at hPt hDt h88 h87 h85
  have hEa : am_E true dC dI ad2 (ct_ca8 cI ca) fm L xs A2 s s.heap := hT5.am (hK.sub (tys' := []) [] rfl) hca2 (fun M => ct_DM hDt M) ⟨h85 50 (by decide), h85 51 (by decide), h85 52 (by decide), h85 53 (by decide)⟩
  have hJ := ct_tail8 (d := 60) (K := fun v M => v = none ∧ (jf_J M ∧ jf_C M ∧ am_scr L xs M)) (by omega) (am_step (e := e) (i := 122) (d := 60) (by decide) hx hb hml hown (fun w hw => hts w (List.mem_append_left _ hw)) hEa hA2 (R := (headSpec (.code (tb_y 122) (tb_cc 122) (tb_ml 122) (tb_ret 122) :: ct_ws) ({ frames := 61, cells := 20, slots := 2172, locals := 4880 })).room) ⟨Nat.le_of_ble_eq_true rfl, Nat.le_of_ble_eq_true rfl⟩ (cells := 20) (slots := 2172) ⟨Nat.le_of_ble_eq_true rfl, Nat.le_of_ble_eq_true rfl⟩ (fun j as M k h1 h2 h3 => am_met l hfm 60 j as M k h1 h2 h3) (Q := MQ below (va_Qv (fun _ : Unit => True) (fun _ t => ct_B8 dC dI ad L xs A2 h8 t) A2) ([Value.ref h8].toArray) s 20 2172 A2) (fun pc H locs ls v M hret hk hP' hS' _ => by
      obtain ⟨rfl, hm1, hm2, hm3⟩ := hk
      exact W.vret hx hb hr (fun t ht hW => ⟨⟨(), rfl, trivial, ad2, _, M, h85, ⟨h88, h87⟩, by rw [ht]; exact hP', ct_DM hDt M, fun k i h1 h2 h3 => ⟨arrOfT_moved hW.alike (hca2 k i h1 h2 h3).1, (hca2 k i h1 h2 h3).2.moved hW.alike⟩, hm1, hm2, hm3⟩, hS'.F ht⟩) hS'.2.2 hret.2)) (L := L) (xs := xs) (M0 := M0) hm (fun M h1 h2 h3 => ⟨rfl, h1, h2, h3⟩)
  refine hJ H _ ls hPt hS2 ⟨rfl, ?_⟩ ⟨hm.2.1.1, hm.2.1.2⟩
  rw [← h88] at hl
  exact hl
