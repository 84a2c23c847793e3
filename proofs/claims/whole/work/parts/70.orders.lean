/-! wb -/
/-! THE PAIRS: orders -/
theorem pr_wi {M : am_M} {v i k : Nat} {x : Int} : am_wr M v i 0 x v k 0 = if k = i then x else M v k 0 := by
  by_cases h : k = i
  · subst h
    rw [if_pos rfl]
    exact am_wr_eq
  · rw [if_neg h]
    exact am_wr_ne (Or.inr (Or.inl h))
theorem pr_wj {M : am_M} {v i k : Nat} {x : Int} : am_wr M v 0 i x v 0 k = if k = i then x else M v 0 k := by
  by_cases h : k = i
  · subst h
    rw [if_pos rfl]
    exact am_wr_eq
  · rw [if_neg h]
    exact am_wr_ne (Or.inr (Or.inr h))
theorem pr_asks {d : Nat} (hd : 14 ≤ d) {pt na oo mo : Int} {M : am_M} {K : am_K} (hJ : jf_J M) (hW : jf_C M) (ha0 : am_in pt) (ha1 : am_in na) (ha2 : am_in oo) (ha3 : am_in mo) (hp : pr_K d M 140 [aR 8 0, aI pt, aI na, aI oo, aI mo] K) : am_Call true d 36 [aR 7 0, aI pt, aI na, aI oo, aI mo] M K := sq_asks (by omega) hJ ha0 ha1 ha2 ha3 (fun hj g1 => hp _ (am_mix [12, 13, 14, 263, 264, 265, 266, 346, 17, 19, 100, 101, 102] g1 M) ⟨rfl, rfl⟩ (fun K2 h2 => sm_asks (M := am_mix [12, 13, 14, 263, 264, 265, 266, 346, 17, 19, 100, 101, 102] g1 M) (by omega) hJ hW ha0 ha1 ha2 ha3 (fun _ g2 => h2 _ ⟨hJ, hW, rfl, rfl⟩) (fun hn => absurd hj hn))) (fun hn => hp _ M ⟨rfl, rfl⟩ (fun K2 h2 => sm_asks (by omega) hJ hW ha0 ha1 ha2 ha3 (fun hj => absurd hj hn) (fun _ => h2 _ ⟨hJ, hW, rfl, rfl⟩)))
theorem pr_train {d : Nat} (hd : 14 ≤ d) {h w v : Int} {M : am_M} {K : am_K} (hJ : jf_J M) (hW : jf_C M) (ha0 : am_in h) (ha1 : am_in w) (ha2 : am_in v) (hp : pr_K d M 146 [aR 8 0, aI h, aI w, aI v] K) : am_Call true d 46 [aR 7 0, aI h, aI w, aI v] M K := by
  have e1 : M 421 0 0 = M 227 0 0 := hW.1.2.1.1
  have hn5 : 0 ≤ M 227 0 0 ∧ M 227 0 0 ≤ 5 := hJ.1.1.2.2.2.2.2.2.2.1
  have hn' : 0 ≤ M 421 0 0 ∧ M 421 0 0 ≤ 5 := by omega
  refine sq_train (by omega) hJ ha0 ha1 ha2 (fun k h1 h3 h4 h5 => hp _ (am_wr M 142 k 0 v) ⟨rfl, rfl⟩ (fun K2 h2 => ?_)) (fun k h1 h3 h4 h5 => hp _ (am_wr M 143 k 0 v) ⟨rfl, rfl⟩ (fun K2 h2 => ?_)) (fun h0 => hp _ M ⟨rfl, rfl⟩ (fun K2 h2 => ?_))
  · have hk5 : k < 5 := by omega
    refine sm_train (M := am_wr M 142 k 0 v) (by omega) hn' ha0 ha1 ha2 (fun k2 e2 _ _ _ => ?_) (fun k2 e2 _ _ _ => ?_) (fun h3 => absurd (show (0 ≤ h ∧ h < M 421 0 0) ∧ ((w = 0 ∧ 0 ≤ v ∧ v ≤ 99) ∨ (w = 1 ∧ 0 ≤ v ∧ v ≤ 500)) by omega) h3)
    · have ek : k2 = k := by omega
      subst ek
      show K2 (some (aI (M 25 0 (2 * k2)))) _
      rw [(hW.1.2.2 k2 hk5).2.2.1]
      have f1 : ∀ q, (am_wr (am_wr M 142 k2 0 v) 25 0 (2 * k2) v) 142 q 0 = if q = k2 then v else M 142 q 0 := fun q => pr_wi (M := M) (v := 142) (i := k2) (k := q) (x := v)
      have f2 : ∀ q, (am_wr (am_wr M 142 k2 0 v) 25 0 (2 * k2) v) 25 0 q = if q = 2 * k2 then v else M 25 0 q := fun q => pr_wj (M := am_wr M 142 k2 0 v) (v := 25)
      refine h2 _ ⟨⟨hJ.1, fun q hq => ?_, hJ.2.2⟩, ⟨⟨hW.1.1, hW.1.2.1, fun q hq => ?_⟩, hW.2⟩, rfl, rfl⟩
      · obtain ⟨b1, b2, b3, b4, b5⟩ := hJ.2.1 q hq
        refine ⟨b1, b2, ?_, b4, b5⟩
        rw [f1]
        split <;> omega
      · obtain ⟨b1, b2, b3, b4⟩ := hW.1.2.2 q hq
        refine ⟨b1, b2, ?_, ?_⟩
        · rw [f2]
          show _ = (am_wr (am_wr M 142 k2 0 v) 25 0 (2 * k2) v) 142 q 0
          rw [f1]
          by_cases e : q = k2
          · rw [if_pos e, if_pos (by omega)]
          · rw [if_neg e, if_neg (by omega)]
            exact b3
        · rw [f2]
          show _ = (am_wr (am_wr M 142 k2 0 v) 25 0 (2 * k2) v) 143 q 0
          rw [if_neg (by omega)]
          exact b4
    · exfalso
      omega
  · have hk5 : k < 5 := by omega
    refine sm_train (M := am_wr M 143 k 0 v) (by omega) hn' ha0 ha1 ha2 (fun k2 e2 _ _ _ => ?_) (fun k2 e2 _ _ _ => ?_) (fun h3 => absurd (show (0 ≤ h ∧ h < M 421 0 0) ∧ ((w = 0 ∧ 0 ≤ v ∧ v ≤ 99) ∨ (w = 1 ∧ 0 ≤ v ∧ v ≤ 500)) by omega) h3)
    · exfalso
      omega
    · have ek : k2 = k := by omega
      subst ek
      show K2 (some (aI (M 25 0 (2 * k2 + 1)))) _
      rw [(hW.1.2.2 k2 hk5).2.2.2]
      have f1 : ∀ q, (am_wr (am_wr M 143 k2 0 v) 25 0 (2 * k2 + 1) v) 143 q 0 = if q = k2 then v else M 143 q 0 := fun q => pr_wi (M := M) (v := 143) (i := k2) (k := q) (x := v)
      have f2 : ∀ q, (am_wr (am_wr M 143 k2 0 v) 25 0 (2 * k2 + 1) v) 25 0 q = if q = 2 * k2 + 1 then v else M 25 0 q := fun q => pr_wj (M := am_wr M 143 k2 0 v) (v := 25)
      refine h2 _ ⟨⟨hJ.1, fun q hq => ?_, hJ.2.2⟩, ⟨⟨hW.1.1, hW.1.2.1, fun q hq => ?_⟩, hW.2⟩, rfl, rfl⟩
      · obtain ⟨b1, b2, b3, b4, b5⟩ := hJ.2.1 q hq
        refine ⟨b1, b2, b3, ?_, b5⟩
        rw [f1]
        split <;> omega
      · obtain ⟨b1, b2, b3, b4⟩ := hW.1.2.2 q hq
        refine ⟨b1, b2, ?_, ?_⟩
        · rw [f2]
          show _ = (am_wr (am_wr M 143 k2 0 v) 25 0 (2 * k2 + 1) v) 142 q 0
          rw [if_neg (by omega)]
          exact b3
        · rw [f2]
          show _ = (am_wr (am_wr M 143 k2 0 v) 25 0 (2 * k2 + 1) v) 143 q 0
          rw [f1]
          by_cases e : q = k2
          · rw [if_pos e, if_pos (by omega)]
          · rw [if_neg e, if_neg (by omega)]
            exact b4
  · rw [← e1] at h2 h0
    exact sm_train (by omega) hn' ha0 ha1 ha2 (fun k _ _ _ _ => by exfalso; omega) (fun k _ _ _ _ => by exfalso; omega) (fun _ => h2 _ ⟨hJ, hW, rfl, rfl⟩)
