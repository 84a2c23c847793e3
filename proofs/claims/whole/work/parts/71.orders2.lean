/-! wb -/
/-! THE PAIRS: a hand, a sheet -/
theorem pr_hand {d : Nat} (hd : 14 ≤ d) {km ah ch : Int} {M : am_M} {K : am_K} (hJ : jf_J M) (hW : jf_C M) (ha0 : am_in km) (ha1 : am_in ah) (ha2 : am_in ch) (hp : pr_K d M 145 [aR 8 0, aI km, aI ah, aI ch] K) : am_Call true d 44 [aR 7 0, aI km, aI ah, aI ch] M K := by
  have e1 : M 421 0 0 = M 227 0 0 := hW.1.2.1.1
  have hn5 : 0 ≤ M 227 0 0 ∧ M 227 0 0 ≤ 5 := hJ.1.1.2.2.2.2.2.2.2.1
  have hN : M 227 0 0 = (((M 227 0 0).toNat : Nat) : Int) := by omega
  refine sq_hand (by omega) hn5 ha0 ha1 ha2 (fun h1 h3 => hp _ (am_wr (am_wr (am_wr (am_wr (am_wr M 140 (M 227 0 0).toNat 0 (Int.tdiv km 10)) 141 (M 227 0 0).toNat 0 (Int.tmod km 10)) 142 (M 227 0 0).toNat 0 ah) 143 (M 227 0 0).toNat 0 ch) 227 0 0 (M 227 0 0 + 1)) ⟨rfl, rfl⟩ (fun K2 h2 => ?_)) (fun h0 => hp _ M ⟨rfl, rfl⟩ (fun K2 h2 => ?_))
  · refine sm_hand (N := (M 227 0 0).toNat) (M := am_wr (am_wr (am_wr (am_wr (am_wr M 140 (M 227 0 0).toNat 0 (Int.tdiv km 10)) 141 (M 227 0 0).toNat 0 (Int.tmod km 10)) 142 (M 227 0 0).toNat 0 ah) 143 (M 227 0 0).toNat 0 ch) 227 0 0 (M 227 0 0 + 1)) (by omega) (show M 421 0 0 = (((M 227 0 0).toNat : Nat) : Int) by omega) (by omega) ha0 ha1 ha2 (fun _ _ => ?_) (fun h4 => absurd ⟨h1, by omega⟩ h4)
    rw [← hN]
    have f140 : ∀ q, (am_wr (am_wr (am_wr (am_wr (am_wr (am_wr (am_wr (am_wr (am_wr (am_wr M 140 (M 227 0 0).toNat 0 (Int.tdiv km 10)) 141 (M 227 0 0).toNat 0 (Int.tmod km 10)) 142 (M 227 0 0).toNat 0 ah) 143 (M 227 0 0).toNat 0 ch) 227 0 0 (M 227 0 0 + 1)) 23 0 (M 227 0 0).toNat (Int.tdiv km 10)) 24 0 (M 227 0 0).toNat (Int.tmod km 10)) 25 0 (2 * (M 227 0 0).toNat) ah) 25 0 (2 * (M 227 0 0).toNat + 1) ch) 421 0 0 (M 227 0 0 + 1)) 140 q 0 = if q = (M 227 0 0).toNat then (Int.tdiv km 10) else M 140 q 0 := fun q => pr_wi (M := M) (v := 140) (i := (M 227 0 0).toNat) (k := q) (x := (Int.tdiv km 10))
    have f141 : ∀ q, (am_wr (am_wr (am_wr (am_wr (am_wr (am_wr (am_wr (am_wr (am_wr (am_wr M 140 (M 227 0 0).toNat 0 (Int.tdiv km 10)) 141 (M 227 0 0).toNat 0 (Int.tmod km 10)) 142 (M 227 0 0).toNat 0 ah) 143 (M 227 0 0).toNat 0 ch) 227 0 0 (M 227 0 0 + 1)) 23 0 (M 227 0 0).toNat (Int.tdiv km 10)) 24 0 (M 227 0 0).toNat (Int.tmod km 10)) 25 0 (2 * (M 227 0 0).toNat) ah) 25 0 (2 * (M 227 0 0).toNat + 1) ch) 421 0 0 (M 227 0 0 + 1)) 141 q 0 = if q = (M 227 0 0).toNat then (Int.tmod km 10) else M 141 q 0 := fun q => pr_wi (M := M) (v := 141) (i := (M 227 0 0).toNat) (k := q) (x := (Int.tmod km 10))
    have f142 : ∀ q, (am_wr (am_wr (am_wr (am_wr (am_wr (am_wr (am_wr (am_wr (am_wr (am_wr M 140 (M 227 0 0).toNat 0 (Int.tdiv km 10)) 141 (M 227 0 0).toNat 0 (Int.tmod km 10)) 142 (M 227 0 0).toNat 0 ah) 143 (M 227 0 0).toNat 0 ch) 227 0 0 (M 227 0 0 + 1)) 23 0 (M 227 0 0).toNat (Int.tdiv km 10)) 24 0 (M 227 0 0).toNat (Int.tmod km 10)) 25 0 (2 * (M 227 0 0).toNat) ah) 25 0 (2 * (M 227 0 0).toNat + 1) ch) 421 0 0 (M 227 0 0 + 1)) 142 q 0 = if q = (M 227 0 0).toNat then ah else M 142 q 0 := fun q => pr_wi (M := M) (v := 142) (i := (M 227 0 0).toNat) (k := q) (x := ah)
    have f143 : ∀ q, (am_wr (am_wr (am_wr (am_wr (am_wr (am_wr (am_wr (am_wr (am_wr (am_wr M 140 (M 227 0 0).toNat 0 (Int.tdiv km 10)) 141 (M 227 0 0).toNat 0 (Int.tmod km 10)) 142 (M 227 0 0).toNat 0 ah) 143 (M 227 0 0).toNat 0 ch) 227 0 0 (M 227 0 0 + 1)) 23 0 (M 227 0 0).toNat (Int.tdiv km 10)) 24 0 (M 227 0 0).toNat (Int.tmod km 10)) 25 0 (2 * (M 227 0 0).toNat) ah) 25 0 (2 * (M 227 0 0).toNat + 1) ch) 421 0 0 (M 227 0 0 + 1)) 143 q 0 = if q = (M 227 0 0).toNat then ch else M 143 q 0 := fun q => pr_wi (M := M) (v := 143) (i := (M 227 0 0).toNat) (k := q) (x := ch)
    have f23 : ∀ q, (am_wr (am_wr (am_wr (am_wr (am_wr (am_wr (am_wr (am_wr (am_wr (am_wr M 140 (M 227 0 0).toNat 0 (Int.tdiv km 10)) 141 (M 227 0 0).toNat 0 (Int.tmod km 10)) 142 (M 227 0 0).toNat 0 ah) 143 (M 227 0 0).toNat 0 ch) 227 0 0 (M 227 0 0 + 1)) 23 0 (M 227 0 0).toNat (Int.tdiv km 10)) 24 0 (M 227 0 0).toNat (Int.tmod km 10)) 25 0 (2 * (M 227 0 0).toNat) ah) 25 0 (2 * (M 227 0 0).toNat + 1) ch) 421 0 0 (M 227 0 0 + 1)) 23 0 q = if q = (M 227 0 0).toNat then (Int.tdiv km 10) else M 23 0 q := fun q => pr_wj (M := M) (v := 23) (i := (M 227 0 0).toNat) (k := q) (x := (Int.tdiv km 10))
    have f24 : ∀ q, (am_wr (am_wr (am_wr (am_wr (am_wr (am_wr (am_wr (am_wr (am_wr (am_wr M 140 (M 227 0 0).toNat 0 (Int.tdiv km 10)) 141 (M 227 0 0).toNat 0 (Int.tmod km 10)) 142 (M 227 0 0).toNat 0 ah) 143 (M 227 0 0).toNat 0 ch) 227 0 0 (M 227 0 0 + 1)) 23 0 (M 227 0 0).toNat (Int.tdiv km 10)) 24 0 (M 227 0 0).toNat (Int.tmod km 10)) 25 0 (2 * (M 227 0 0).toNat) ah) 25 0 (2 * (M 227 0 0).toNat + 1) ch) 421 0 0 (M 227 0 0 + 1)) 24 0 q = if q = (M 227 0 0).toNat then (Int.tmod km 10) else M 24 0 q := fun q => pr_wj (M := M) (v := 24) (i := (M 227 0 0).toNat) (k := q) (x := (Int.tmod km 10))
    have f25a : ∀ q, (am_wr (am_wr (am_wr (am_wr (am_wr (am_wr (am_wr (am_wr M 140 (M 227 0 0).toNat 0 (Int.tdiv km 10)) 141 (M 227 0 0).toNat 0 (Int.tmod km 10)) 142 (M 227 0 0).toNat 0 ah) 143 (M 227 0 0).toNat 0 ch) 227 0 0 (M 227 0 0 + 1)) 23 0 (M 227 0 0).toNat (Int.tdiv km 10)) 24 0 (M 227 0 0).toNat (Int.tmod km 10)) 25 0 (2 * (M 227 0 0).toNat) ah) 25 0 q = if q = 2 * (M 227 0 0).toNat then ah else M 25 0 q := fun q => pr_wj (M := M) (v := 25) (i := 2 * (M 227 0 0).toNat) (k := q) (x := ah)
    have f25 : ∀ q, (am_wr (am_wr (am_wr (am_wr (am_wr (am_wr (am_wr (am_wr (am_wr (am_wr M 140 (M 227 0 0).toNat 0 (Int.tdiv km 10)) 141 (M 227 0 0).toNat 0 (Int.tmod km 10)) 142 (M 227 0 0).toNat 0 ah) 143 (M 227 0 0).toNat 0 ch) 227 0 0 (M 227 0 0 + 1)) 23 0 (M 227 0 0).toNat (Int.tdiv km 10)) 24 0 (M 227 0 0).toNat (Int.tmod km 10)) 25 0 (2 * (M 227 0 0).toNat) ah) 25 0 (2 * (M 227 0 0).toNat + 1) ch) 421 0 0 (M 227 0 0 + 1)) 25 0 q = if q = 2 * (M 227 0 0).toNat + 1 then ch else (am_wr (am_wr (am_wr (am_wr (am_wr (am_wr (am_wr (am_wr M 140 (M 227 0 0).toNat 0 (Int.tdiv km 10)) 141 (M 227 0 0).toNat 0 (Int.tmod km 10)) 142 (M 227 0 0).toNat 0 ah) 143 (M 227 0 0).toNat 0 ch) 227 0 0 (M 227 0 0 + 1)) 23 0 (M 227 0 0).toNat (Int.tdiv km 10)) 24 0 (M 227 0 0).toNat (Int.tmod km 10)) 25 0 (2 * (M 227 0 0).toNat) ah) 25 0 q := fun q => pr_wj (M := am_wr (am_wr (am_wr (am_wr (am_wr (am_wr (am_wr (am_wr M 140 (M 227 0 0).toNat 0 (Int.tdiv km 10)) 141 (M 227 0 0).toNat 0 (Int.tmod km 10)) 142 (M 227 0 0).toNat 0 ah) 143 (M 227 0 0).toNat 0 ch) 227 0 0 (M 227 0 0 + 1)) 23 0 (M 227 0 0).toNat (Int.tdiv km 10)) 24 0 (M 227 0 0).toNat (Int.tmod km 10)) 25 0 (2 * (M 227 0 0).toNat) ah) (v := 25) (i := 2 * (M 227 0 0).toNat + 1) (k := q) (x := ch)
    have k1 : 0 ≤ Int.tdiv km 10 ∧ Int.tdiv km 10 ≤ 5 := by rw [Int.tdiv_eq_ediv_of_nonneg h1.1.1]; omega
    have k2 : 0 ≤ Int.tmod km 10 ∧ Int.tmod km 10 ≤ 9 := by rw [Int.tmod_eq_emod_of_nonneg h1.1.1]; omega
    refine h2 _ ⟨⟨⟨?_, hJ.1.2⟩, fun q hq => ?_, hJ.2.2⟩, ⟨⟨hW.1.1, ⟨rfl, hW.1.2.1.2⟩, fun q hq => ?_⟩, hW.2⟩, rfl, rfl⟩
    · obtain ⟨a1, a2, a3, a4, a5, a6, a7, a8, a9⟩ := hJ.1.1
      exact ⟨a1, a2, a3, a4, a5, a6, a7, ⟨by show 0 ≤ M 227 0 0 + 1; omega, by show M 227 0 0 + 1 ≤ 5; omega⟩, a9⟩
    · obtain ⟨b1, b2, b3, b4, b5⟩ := hJ.2.1 q hq
      refine ⟨?_, ?_, ?_, ?_, b5⟩
      · rw [f140]
        split <;> omega
      · rw [f141]
        split <;> omega
      · rw [f142]
        split <;> omega
      · rw [f143]
        split <;> omega
    · obtain ⟨b1, b2, b3, b4⟩ := hW.1.2.2 q hq
      refine ⟨?_, ?_, ?_, ?_⟩
      · rw [f23, f140, b1]
      · rw [f24, f141, b2]
      · rw [f25, f25a, f142, b3]
        by_cases e : q = (M 227 0 0).toNat
        · rw [if_neg (by omega), if_pos (by omega), if_pos e]
        · rw [if_neg (by omega), if_neg (by omega), if_neg e]
      · rw [f25, f25a, f143, b4]
        by_cases e : q = (M 227 0 0).toNat
        · rw [if_pos (by omega), if_pos e]
        · rw [if_neg (by omega), if_neg (by omega), if_neg e]
  · exact sm_hand (N := (M 227 0 0).toNat) (by omega) (show M 421 0 0 = (((M 227 0 0).toNat : Nat) : Int) by omega) (by omega) ha0 ha1 ha2 (fun h5 h6 => absurd ⟨h5, by omega⟩ h0) (fun _ => h2 _ ⟨hJ, hW, rfl, rfl⟩)

theorem pr_put0 {so : Int} : jf_put so 0 = 0 := by
  unfold jf_put
  split
  · rfl
  · split
    · rfl
    · rfl
theorem pr_sheet {d : Nat} (hd : 14 ≤ d) {sa so n : Int} {M : am_M} {K : am_K} (hJ : jf_J M) (hW : jf_C M) (ha0 : am_in sa) (ha1 : am_in so) (ha2 : am_in n) (hp : pr_K d M 199 [aR 8 0, aI sa, aI so, aI n] K) : am_Call true d 116 [aR 7 0, aI sa, aI so, aI n] M K := by
  refine sq_sheet (by omega) hJ ha0 ha1 ha2 (fun s h1 h3 h4 h5 g1 x1 x2 x3 x4 => hp _ (am_mix [180, 181, 21] g1 M) ⟨rfl, rfl⟩ (fun K2 h2 => ?_)) (fun h0 => hp _ M ⟨rfl, rfl⟩ (fun K2 h2 => ?_))
  · refine sm_sheet (M := am_mix [180, 181, 21] g1 M) (by omega) ha0 ha1 ha2 (fun s2 e2 _ _ _ g2 y1 y2 y3 y4 y5 => ?_) (fun h6 => absurd (by omega) h6)
    have es : s2 = s := by omega
    subst es
    have hnn : 0 ≤ (if so = -1 then 0 else n) ∧ (if so = -1 then 0 else n) ≤ 40 := by split <;> omega
    refine h2 _ ⟨⟨hJ.1, hJ.2.1, hJ.2.2.1, fun q hq => ?_, hJ.2.2.2.2⟩, ⟨hW.1, hW.2.1, hW.2.2.1, fun q hq => ?_, hW.2.2.2.2⟩, rfl, rfl⟩
    · by_cases e : q = s2
      · subst e
        refine ⟨?_, ?_, fun j hj => ?_⟩
        · show -1 ≤ g1 180 q 0 ∧ g1 180 q 0 ≤ 2
          omega
        · show 0 ≤ g1 181 q 0 ∧ g1 181 q 0 ≤ 40
          rw [x2]
          exact hnn
        · show am_in (g1 21 q j) ∧ jf_put (g1 180 q 0) (g1 21 q j) = g1 21 q j
          rw [x3 j hj]
          exact ⟨by omega, pr_put0⟩
      · obtain ⟨b1, b2, b3⟩ := hJ.2.2.2.1 q hq
        obtain ⟨z1, z2, z3⟩ := x4 q e
        refine ⟨?_, ?_, fun j hj => ?_⟩
        · show -1 ≤ g1 180 q 0 ∧ g1 180 q 0 ≤ 2
          rw [z1]
          exact b1
        · show 0 ≤ g1 181 q 0 ∧ g1 181 q 0 ≤ 40
          rw [z2]
          exact b2
        · show am_in (g1 21 q j) ∧ jf_put (g1 180 q 0) (g1 21 q j) = g1 21 q j
          rw [z1, z3]
          exact b3 j hj
    · by_cases e : q = s2
      · subst e
        refine ⟨?_, ?_, fun j hj => ?_⟩
        · show g2 31 0 q = g1 180 q 0
          rw [y1, x1]
        · show g2 32 0 q = g1 181 q 0
          rw [y2, x2]
        · show g2 33 0 (40 * q + j) = g1 21 q j
          rw [y3 j hj, x3 j hj]
      · obtain ⟨b1, b2, b3⟩ := hW.2.2.2.1 q hq
        obtain ⟨z1, z2, z3⟩ := x4 q e
        refine ⟨?_, ?_, fun j hj => ?_⟩
        · show g2 31 0 q = g1 180 q 0
          rw [z1]
          exact (y4 q e).1.trans b1
        · show g2 32 0 q = g1 181 q 0
          rw [z2]
          exact (y4 q e).2.trans b2
        · show g2 33 0 (40 * q + j) = g1 21 q j
          rw [z3]
          exact (y5 _ (by omega)).trans (b3 j hj)
  · exact sm_sheet (by omega) ha0 ha1 ha2 (fun s h1 h3 h4 h5 => absurd (by omega) h0) (fun _ => h2 _ ⟨hJ, hW, rfl, rfl⟩)
