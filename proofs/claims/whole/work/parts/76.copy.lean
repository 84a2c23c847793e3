/-! wb -/
/-! THE PAIRS: copy, handsBy -/
theorem pr_copy {d : Nat} (hd : 14 ≤ d) {sa i sb j n : Int} {M : am_M} {K : am_K} (hJ : jf_J M) (hW : jf_C M) (ha0 : am_in sa) (ha1 : am_in i) (ha2 : am_in sb) (ha3 : am_in j) (ha4 : am_in n) (hp : pr_K d M 201 [aR 8 0, aI sa, aI i, aI sb, aI j, aI n] K) : am_Call true d 118 [aR 7 0, aI sa, aI i, aI sb, aI j, aI n] M K := by
  have hso := pr_so hJ hW
  refine sq_copy (by omega) hJ ha0 ha1 ha2 ha3 ha4 (fun s s2 A F N h1 h2 h3 h4 h5 h6 h7 h8 h9 h10 h11 g1 x1 x2 x3 => hp _ (am_mix [21] g1 M) ⟨rfl, rfl⟩ (fun K2 hh => ?_)) (fun h0 => hp _ M ⟨rfl, rfl⟩ (fun K2 hh => ?_))
  · have c1 := hW.2.2.2.1 s h3
    have c2 := hW.2.2.2.1 s2 h4
    have j1 := hJ.2.2.2.1 s h3
    have j2 := hJ.2.2.2.1 s2 h4
    have c11 := c1.1
    have c12 := c1.2.1
    have c21 := c2.1
    have c22 := c2.2.1
    have j12 := j1.2.1
    have j22 := j2.2.1
    refine sm_copy (M := am_mix [21] g1 M) (by omega) hso ha0 ha1 ha2 ha3 ha4 (fun t t2 A2 F2 N2 e1 e2 _ _ e5 e6 e7 _ _ _ _ g2 y1 y2 => ?_) (fun h12 => absurd ?_ h12)
    · have q1 : t = s := by omega
      have q2 : t2 = s2 := by omega
      have q3 : A2 = A := by omega
      have q4 : F2 = F := by omega
      have q5 : N2 = N := by omega
      subst q1 q2 q3 q4 q5
      refine hh _ ⟨⟨hJ.1, hJ.2.1, hJ.2.2.1, fun q hq => ?_, hJ.2.2.2.2⟩, ⟨hW.1, hW.2.1, hW.2.2.1, fun q hq => ?_, hW.2.2.2.2⟩, rfl, rfl⟩
      · obtain ⟨b1, b2, b3⟩ := hJ.2.2.2.1 q hq
        refine ⟨b1, b2, fun k hk => ?_⟩
        show am_in (g1 21 q k) ∧ jf_put (M 180 q 0) (g1 21 q k) = g1 21 q k
        by_cases e : q = t2
        · subst e
          by_cases c : A2 ≤ k ∧ k < A2 + N2
          · obtain ⟨r, rfl⟩ : ∃ r, k = A2 + r := ⟨k - A2, by omega⟩
            rw [x1 r (by omega), ← h9]
            exact j1.2.2 (F2 + r) (by omega)
          · rw [x2 k hk (fun r hr => by omega)]
            exact b3 k hk
        · rw [x3 q e k]
          exact b3 k hk
      · obtain ⟨b1, b2, b3⟩ := hW.2.2.2.1 q hq
        refine ⟨b1, b2, fun k hk => ?_⟩
        show g2 33 0 (40 * q + k) = g1 21 q k
        by_cases e : q = t2
        · subst e
          by_cases c : A2 ≤ k ∧ k < A2 + N2
          · obtain ⟨r, rfl⟩ : ∃ r, k = A2 + r := ⟨k - A2, by omega⟩
            rw [x1 r (by omega), show 40 * q + (A2 + r) = 40 * q + A2 + r by omega]
            refine (y1 r (by omega)).trans ?_
            show M 33 0 (40 * t + F2 + r) = M 21 t (F2 + r)
            rw [show 40 * t + F2 + r = 40 * t + (F2 + r) by omega]
            exact c1.2.2 (F2 + r) (by omega)
          · rw [x2 k hk (fun r hr => by omega)]
            exact (y2 (40 * q + k) (fun r hr => by omega)).trans (b3 k hk)
        · rw [x3 q e k]
          exact (y2 (40 * q + k) (fun r hr => by omega)).trans (b3 k hk)
    · subst h1 h2
      refine ⟨by omega, ?_, ?_, ?_, by omega, by omega, by omega, ?_, ?_⟩
      · show M 31 0 s ≠ -1
        omega
      · show M 31 0 s2 ≠ -1
        omega
      · show M 31 0 s = M 31 0 s2
        omega
      · show i + n ≤ M 32 0 s
        omega
      · show j + n ≤ M 32 0 s2
        omega
  · have e : ∀ x : Int, 0 ≤ x ∧ x < 4 → M 31 0 x.toNat = M 180 x.toNat 0 ∧ M 32 0 x.toNat = M 181 x.toNat 0 := fun x h => ⟨(hW.2.2.2.1 x.toNat (by omega)).1, (hW.2.2.2.1 x.toNat (by omega)).2.1⟩
    refine sm_copy (by omega) hso ha0 ha1 ha2 ha3 ha4 (fun s s2 A F N h1 h2 h3 h4 h5 h6 h7 h8 h9 h10 h11 g2 _ _ => absurd ?_ h0) (fun _ => am_kr (hh _ ⟨hJ, hW, rfl, rfl⟩) ?_)
    · have c1 := hW.2.2.2.1 s h3
      have c2 := hW.2.2.2.1 s2 h4
      have c11 := c1.1
      have c12 := c1.2.1
      have c21 := c2.1
      have c22 := c2.2.1
      subst h1 h2
      refine ⟨by omega, ?_, ?_, ?_, by omega, by omega, by omega, ?_, ?_⟩
      · show M 180 s 0 ≠ -1
        omega
      · show M 180 s2 0 ≠ -1
        omega
      · show M 180 s 0 = M 180 s2 0
        omega
      · show i + n ≤ M 181 s 0
        omega
      · show j + n ≤ M 181 s2 0
        omega
    · by_cases h : (0 ≤ sa ∧ sa < 4) ∧ 0 ≤ sb ∧ sb < 4
      · rw [(e sa h.1).1, (e sb h.2).1]
      · rw [if_neg h, if_neg h]
/-- the HANDs of m and those of the other side, m' -/
def pr_H (m m' : am_M) : Prop := (m' 421 0 0 = m 227 0 0 ∧ 0 ≤ m 227 0 0 ∧ m 227 0 0 ≤ 5) ∧ ∀ k, k < 5 → (m' 23 0 k = m 140 k 0 ∧ m' 24 0 k = m 141 k 0 ∧ m' 25 0 (2 * k) = m 142 k 0 ∧ m' 25 0 (2 * k + 1) = m 143 k 0) ∧ (0 ≤ m 140 k 0 ∧ m 140 k 0 ≤ 5) ∧ (0 ≤ m 141 k 0 ∧ m 141 k 0 ≤ 9) ∧ (0 ≤ m 142 k 0 ∧ m 142 k 0 ≤ 99) ∧ 0 ≤ m 143 k 0 ∧ m 143 k 0 ≤ 500
theorem pr_h1 {m m' : am_M} {km ah ch : Int} (h : pr_H m m') : pr_H (jf_h1 m km ah ch) (mo_h1 m' km ah ch) := by
  obtain ⟨⟨e1, e2, e3⟩, hk⟩ := h
  unfold jf_h1 mo_h1
  by_cases c : ((0 ≤ km ∧ km ≤ 59) ∧ (0 ≤ ah ∧ ah ≤ 99) ∧ 0 ≤ ch ∧ ch ≤ 500) ∧ m 227 0 0 < 5
  · rw [if_pos c, if_pos (show ((0 ≤ km ∧ km ≤ 59) ∧ (0 ≤ ah ∧ ah ≤ 99) ∧ 0 ≤ ch ∧ ch ≤ 500) ∧ (m' 421 0 0).toNat < 5 by omega), e1]
    obtain ⟨c1, c2⟩ := c
    have k1 : 0 ≤ Int.tdiv km 10 ∧ Int.tdiv km 10 ≤ 5 := by rw [Int.tdiv_eq_ediv_of_nonneg c1.1.1]; omega
    have k2 : 0 ≤ Int.tmod km 10 ∧ Int.tmod km 10 ≤ 9 := by rw [Int.tmod_eq_emod_of_nonneg c1.1.1]; omega
    obtain ⟨N, hN⟩ : ∃ N : Nat, m 227 0 0 = (N : Int) := ⟨(m 227 0 0).toNat, by omega⟩
    rw [hN, Int.toNat_natCast]
    refine ⟨⟨rfl, by show 0 ≤ (N : Int) + 1; omega, by show (N : Int) + 1 ≤ 5; omega⟩, fun k hk5 => ?_⟩
    obtain ⟨⟨b1, b2, b3, b4⟩, b5, b6, b7, b8⟩ := hk k hk5
    have f140 : (am_wr (am_wr (am_wr (am_wr (am_wr m 140 N 0 (Int.tdiv km 10)) 141 N 0 (Int.tmod km 10)) 142 N 0 ah) 143 N 0 ch) 227 0 0 ((N : Int) + 1)) 140 k 0 = if k = N then Int.tdiv km 10 else m 140 k 0 := pr_wi (M := m) (v := 140) (i := N) (k := k) (x := Int.tdiv km 10)
    have f141 : (am_wr (am_wr (am_wr (am_wr (am_wr m 140 N 0 (Int.tdiv km 10)) 141 N 0 (Int.tmod km 10)) 142 N 0 ah) 143 N 0 ch) 227 0 0 ((N : Int) + 1)) 141 k 0 = if k = N then Int.tmod km 10 else m 141 k 0 := pr_wi (M := m) (v := 141) (i := N) (k := k) (x := Int.tmod km 10)
    have f142 : (am_wr (am_wr (am_wr (am_wr (am_wr m 140 N 0 (Int.tdiv km 10)) 141 N 0 (Int.tmod km 10)) 142 N 0 ah) 143 N 0 ch) 227 0 0 ((N : Int) + 1)) 142 k 0 = if k = N then ah else m 142 k 0 := pr_wi (M := m) (v := 142) (i := N) (k := k) (x := ah)
    have f143 : (am_wr (am_wr (am_wr (am_wr (am_wr m 140 N 0 (Int.tdiv km 10)) 141 N 0 (Int.tmod km 10)) 142 N 0 ah) 143 N 0 ch) 227 0 0 ((N : Int) + 1)) 143 k 0 = if k = N then ch else m 143 k 0 := pr_wi (M := m) (v := 143) (i := N) (k := k) (x := ch)
    have f23 : (am_wr (am_wr (am_wr (am_wr (am_wr m' 23 0 N (Int.tdiv km 10)) 24 0 N (Int.tmod km 10)) 25 0 (2 * N) ah) 25 0 (2 * N + 1) ch) 421 0 0 ((N : Int) + 1)) 23 0 k = if k = N then Int.tdiv km 10 else m' 23 0 k := pr_wj (M := m') (v := 23) (i := N) (k := k) (x := Int.tdiv km 10)
    have f24 : (am_wr (am_wr (am_wr (am_wr (am_wr m' 23 0 N (Int.tdiv km 10)) 24 0 N (Int.tmod km 10)) 25 0 (2 * N) ah) 25 0 (2 * N + 1) ch) 421 0 0 ((N : Int) + 1)) 24 0 k = if k = N then Int.tmod km 10 else m' 24 0 k := pr_wj (M := m') (v := 24) (i := N) (k := k) (x := Int.tmod km 10)
    have f25a : ∀ q, (am_wr m' 25 0 (2 * N) ah) 25 0 q = if q = 2 * N then ah else m' 25 0 q := fun q => pr_wj (M := m') (v := 25) (i := 2 * N) (k := q) (x := ah)
    have f25 : ∀ q, (am_wr (am_wr (am_wr (am_wr (am_wr m' 23 0 N (Int.tdiv km 10)) 24 0 N (Int.tmod km 10)) 25 0 (2 * N) ah) 25 0 (2 * N + 1) ch) 421 0 0 ((N : Int) + 1)) 25 0 q = if q = 2 * N + 1 then ch else (am_wr m' 25 0 (2 * N) ah) 25 0 q := fun q => pr_wj (M := am_wr (am_wr (am_wr m' 23 0 N (Int.tdiv km 10)) 24 0 N (Int.tmod km 10)) 25 0 (2 * N) ah) (v := 25) (i := 2 * N + 1) (k := q) (x := ch)
    rw [f140, f141, f142, f143, f23, f24, f25, f25, f25a, f25a, b1, b2, b3, b4]
    by_cases q : k = N
    · subst q
      rw [if_pos rfl, if_pos rfl, if_pos rfl, if_pos rfl, if_pos rfl, if_neg (by omega), if_pos rfl]
      exact ⟨⟨rfl, rfl, rfl, rfl⟩, k1, k2, c1.2.1, c1.2.2⟩
    · rw [if_neg q, if_neg q, if_neg q, if_neg q, if_neg (show ¬ 2 * k = 2 * N + 1 by omega), if_neg (show ¬ 2 * k = 2 * N by omega), if_neg (show ¬ 2 * k + 1 = 2 * N + 1 by omega), if_neg (show ¬ 2 * k + 1 = 2 * N by omega)]
      exact ⟨⟨rfl, rfl, rfl, rfl⟩, b5, b6, b7, b8⟩
  · rw [if_neg c, if_neg (show ¬ (((0 ≤ km ∧ km ≤ 59) ∧ (0 ≤ ah ∧ ah ≤ 99) ∧ 0 ≤ ch ∧ ch ≤ 500) ∧ (m' 421 0 0).toNat < 5) by omega)]
    exact ⟨⟨e1, e2, e3⟩, hk⟩
theorem pr_hs {M M' : am_M} {s a : Nat} (h : pr_H M M') : ∀ i, (∀ q, q < i → ∀ r, r < 3 → M' 33 0 (40 * s + a + 3 * q + r) = M 21 s (a + 3 * q + r)) → pr_H (jf_hs M s a i) (mo_hs M' (40 * s + a) i) ∧ mo_hc M' (40 * s + a) i = jf_hc M s a i
  | 0, _ => ⟨h, rfl⟩
  | i + 1, hc => by
    have ih := pr_hs (s := s) (a := a) h i (fun q hq => hc q (by omega))
    have r0 : M' 33 0 (40 * s + a + 3 * i) = M 21 s (a + 3 * i) := hc i (by omega) 0 (by omega)
    have r1 : M' 33 0 (40 * s + a + 3 * i + 1) = M 21 s (a + 3 * i + 1) := hc i (by omega) 1 (by omega)
    have r2 : M' 33 0 (40 * s + a + 3 * i + 2) = M 21 s (a + 3 * i + 2) := hc i (by omega) 2 (by omega)
    have e1 := ih.1.1.1
    have e2 := ih.1.1.2
    refine ⟨?_, ?_⟩
    · show pr_H (jf_h1 (jf_hs M s a i) _ _ _) (mo_h1 (mo_hs M' (40 * s + a) i) (M' 33 0 (40 * s + a + 3 * i)) (M' 33 0 (40 * s + a + 3 * i + 1)) (M' 33 0 (40 * s + a + 3 * i + 2)))
      rw [r0, r1, r2]
      exact pr_h1 ih.1
    · show (if ((0 ≤ M' 33 0 (40 * s + a + 3 * i) ∧ M' 33 0 (40 * s + a + 3 * i) ≤ 59) ∧ (0 ≤ M' 33 0 (40 * s + a + 3 * i + 1) ∧ M' 33 0 (40 * s + a + 3 * i + 1) ≤ 99) ∧ 0 ≤ M' 33 0 (40 * s + a + 3 * i + 2) ∧ M' 33 0 (40 * s + a + 3 * i + 2) ≤ 500) ∧ (mo_hs M' (40 * s + a) i 421 0 0).toNat < 5 then mo_hc M' (40 * s + a) i + 1 else mo_hc M' (40 * s + a) i) = (if ((0 ≤ M 21 s (a + 3 * i) ∧ M 21 s (a + 3 * i) ≤ 59) ∧ (0 ≤ M 21 s (a + 3 * i + 1) ∧ M 21 s (a + 3 * i + 1) ≤ 99) ∧ 0 ≤ M 21 s (a + 3 * i + 2) ∧ M 21 s (a + 3 * i + 2) ≤ 500) ∧ jf_hs M s a i 227 0 0 < 5 then jf_hc M s a i + 1 else jf_hc M s a i)
      rw [r0, r1, r2, ih.2, e1]
      by_cases c : jf_hs M s a i 227 0 0 < 5
      · by_cases c2 : (0 ≤ M 21 s (a + 3 * i) ∧ M 21 s (a + 3 * i) ≤ 59) ∧ (0 ≤ M 21 s (a + 3 * i + 1) ∧ M 21 s (a + 3 * i + 1) ≤ 99) ∧ 0 ≤ M 21 s (a + 3 * i + 2) ∧ M 21 s (a + 3 * i + 2) ≤ 500
        · rw [if_pos ⟨c2, by omega⟩, if_pos ⟨c2, c⟩]
        · rw [if_neg (fun q => c2 q.1), if_neg (fun q => c2 q.1)]
      · rw [if_neg (fun q => c (by omega)), if_neg (fun q => c q.2)]
theorem jf_hs_1 {M : am_M} {s a : Nat} : ∀ i, jf_hs M s a i 227 1 0 = M 227 1 0
  | 0 => rfl
  | i + 1 => by
    have ih := jf_hs_1 (M := M) (s := s) (a := a) i
    show jf_h1 (jf_hs M s a i) _ _ _ 227 1 0 = _
    unfold jf_h1
    split
    · exact ih
    · exact ih
theorem pr_hsA {M X Y : am_M} (hX : am_ag [140, 141, 142, 143, 227] M X) (hY : am_ag [23, 24, 25, 421] X Y) (h1 : X 227 1 0 = M 227 1 0) (hJ : jf_J M) (hW : jf_C M) (h : pr_H X Y) : jf_J Y ∧ jf_C Y ∧ Y 49 = M 49 ∧ Y 50 = M 50 := by
  have e1 := hX.eq
  have e2 := hY.eq
  have e3 : Y = am_mix [23, 24, 25, 421] Y (am_mix [140, 141, 142, 143, 227] X M) := by
    rw [← e1]
    exact e2
  obtain ⟨⟨e421, n0, n5⟩, hk⟩ := h
  rw [e3]
  obtain ⟨a1, a2, a3, a4, a5, a6, a7, a8, a9⟩ := hJ.1.1
  obtain ⟨z1, z2, z3, z4, z5, z6, z7, z8, z9⟩ := hJ.1.2
  refine ⟨⟨⟨⟨a1, a2, a3, a4, a5, a6, a7, ⟨n0, n5⟩, a9⟩, ⟨z1, z2, z3, z4, z5, z6, z7, ?_, z9⟩⟩, fun k hk5 => ?_, hJ.2.2⟩, ⟨⟨hW.1.1, ⟨e421, hW.1.2.1.2⟩, fun k hk5 => (hk k hk5).1⟩, hW.2.1, ⟨hW.2.2.1.1, fun hi => ?_⟩, hW.2.2.2⟩, rfl, rfl⟩
  · show 0 ≤ X 227 1 0 ∧ X 227 1 0 ≤ 5
    rw [h1]
    exact z8
  rotate_left
  · obtain ⟨⟨i1, i2⟩, i3⟩ := hW.2.2.1.2 hi
    refine ⟨⟨?_, i2⟩, i3⟩
    show M 433 0 0 = X 227 1 0
    rw [h1]
    exact i1
  obtain ⟨b1, b2, b3, b4, b5⟩ := hk k hk5
  obtain ⟨d1, d2, d3, d4, d5⟩ := hJ.2.1 k hk5
  exact ⟨b2, b3, b4, b5, d5⟩
theorem pr_handsBy {d : Nat} (hd : 14 ≤ d) {sa so at' n : Int} {M : am_M} {K : am_K} (hJ : jf_J M) (hW : jf_C M) (ha0 : am_in sa) (ha1 : am_in so) (ha2 : am_in at') (ha3 : am_in n) (hp : pr_K d M 202 [aR 8 0, aI sa, aI so, aI at', aI n] K) : am_Call true d 120 [aR 7 0, aI sa, aI so, aI at', aI n] M K := by
  have hso := pr_so hJ hW
  have hcell : ∀ j, j < 160 → am_in (M 33 0 j) := fun j hj => by
    have h1 := (hW.2.2.2.1 (j / 40) (by omega)).2.2 (j % 40) (by omega)
    have h2 := (hJ.2.2.2.1 (j / 40) (by omega)).2.2 (j % 40) (by omega)
    rw [show 40 * (j / 40) + j % 40 = j by omega] at h1
    rw [h1]
    exact h2.1
  have hn5 := hJ.1.1.2.2.2.2.2.2.2.1
  have e421 : M 421 0 0 = M 227 0 0 := hW.1.2.1.1
  have hH : pr_H M M := ⟨⟨e421, hn5⟩, fun k hk => by
    obtain ⟨d1, d2, d3, d4, d5⟩ := hJ.2.1 k hk
    exact ⟨hW.1.2.2 k hk, d1, d2, d3, d4⟩⟩
  have hcs : ∀ s : Nat, s < 4 → M 31 0 s = M 180 s 0 ∧ M 32 0 s = M 181 s 0 ∧ M 181 s 0 ≤ 40 := fun s hs => by
    have h1 := hW.2.2.2.1 s hs
    have h2 := (hJ.2.2.2.1 s hs).2.1
    exact ⟨h1.1, h1.2.1, by omega⟩
  have key : ∀ s i : Nat, s < 4 → (∀ q : Nat, q < i → 0 ≤ at' + 3 * (q : Int) ∧ at' + 3 * (q : Int) ≤ M 181 s 0 - 3) → pr_H (jf_hs M s at'.toNat i) (mo_hs (jf_hs M s at'.toNat i) (40 * s + at'.toNat) i) ∧ mo_hc (jf_hs M s at'.toNat i) (40 * s + at'.toNat) i = jf_hc M s at'.toNat i := by
    intro s i hs hr
    have x421 : jf_hs M s at'.toNat i 421 = M 421 := jf_hs_v rfl i
    have x23 : jf_hs M s at'.toNat i 23 = M 23 := jf_hs_v rfl i
    have x24 : jf_hs M s at'.toNat i 24 = M 24 := jf_hs_v rfl i
    have x25 : jf_hs M s at'.toNat i 25 = M 25 := jf_hs_v rfl i
    have x33 : jf_hs M s at'.toNat i 33 = M 33 := jf_hs_v rfl i
    refine pr_hs (s := s) (a := at'.toNat) ?_ i ?_
    · unfold pr_H
      rw [x421, x23, x24, x25]
      exact hH
    · intro q hq r hr3
      rw [x33]
      have h0 := hr 0 (by omega)
      have h1 := hr q hq
      have h2 := (hcs s hs).2.2
      rw [show 40 * s + at'.toNat + 3 * q + r = 40 * s + (at'.toNat + 3 * q + r) by omega]
      exact (hW.2.2.2.1 s hs).2.2 _ (by omega)
  have fin : ∀ s i : Nat, s < 4 → (∀ q : Nat, q < i → 0 ≤ at' + 3 * (q : Int) ∧ at' + 3 * (q : Int) ≤ M 181 s 0 - 3) → pr_ok M (mo_hs (jf_hs M s at'.toNat i) (40 * s + at'.toNat) i) := fun s i hs hr => pr_hsA (fun v hv => jf_hs_v hv i) (fun v hv => mo_hs_v hv i) (jf_hs_1 i) hJ hW (key s i hs hr).1
  have two : ∀ (s i : Nat) (K2 : am_K), sa = s → s < 4 → 0 ≤ so ∧ so ≤ 2 → 0 ≤ n ∧ n ≤ 5 → M 180 s 0 = so → (i : Int) ≤ n → (∀ q : Nat, q < i → 0 ≤ at' + 3 * (q : Int) ∧ at' + 3 * (q : Int) ≤ M 181 s 0 - 3) → ((i : Int) < n → ¬ (0 ≤ at' + 3 * (i : Int) ∧ at' + 3 * (i : Int) ≤ M 181 s 0 - 3)) → K2 (some (aI (if (i : Int) = n then jf_hc M s at'.toNat i else -12))) (mo_hs (jf_hs M s at'.toNat i) (40 * s + at'.toNat) i) → am_Call true d 202 [aR 8 0, aI sa, aI so, aI at', aI n] (jf_hs M s at'.toNat i) K2 := by
    intro s i K2 q1 q2 q3 q4 q5 q6 q7 q8 hK
    have x421 : jf_hs M s at'.toNat i 421 = M 421 := jf_hs_v rfl i
    have x31 : jf_hs M s at'.toNat i 31 = M 31 := jf_hs_v rfl i
    have x32 : jf_hs M s at'.toNat i 32 = M 32 := jf_hs_v rfl i
    have x33 : jf_hs M s at'.toNat i 33 = M 33 := jf_hs_v rfl i
    obtain ⟨c1, c2, c3⟩ := hcs s q2
    refine sm_handsBy (M := jf_hs M s at'.toNat i) (by omega) (by rw [x31, x32]; exact hso) (by rw [x33]; exact hcell) (by rw [x421]; omega) ha0 ha1 ha2 ha3 (fun s2 e1 _ _ _ _ er => ?_) (fun s2 e1 _ _ _ _ i2 ei er en => ?_) (fun h0 => absurd ?_ h0)
    · have es : s2 = s := by omega
      subst es
      rw [x32, c2] at er
      have ei : (i : Int) = n := by
        by_cases c : (i : Int) < n
        · exact absurd (er i c) (q8 c)
        · omega
      have en : n.toNat = i := by omega
      rw [en, (key s2 i q2 q7).2]
      rw [if_pos ei] at hK
      exact hK
    · have es : s2 = s := by omega
      subst es
      rw [x32, c2] at er en
      have e2 : i2 = i := by
        by_cases c : i2 < i
        · exact absurd (q7 i2 c) en
        · by_cases c2 : i < i2
          · exact absurd (er i c2) (q8 (by omega))
          · omega
      subst e2
      rw [if_neg (show ¬ (i2 : Int) = n by omega)] at hK
      exact hK
    · subst q1
      rw [x31]
      exact ⟨⟨by omega, q3, q4⟩, c1.trans q5⟩
  refine sq_handsBy (by omega) hJ ha0 ha1 ha2 ha3 (fun s q1 q2 q3 q4 q5 q7 => hp _ (jf_hs M s at'.toNat n.toNat) ⟨jf_hs_v rfl _, jf_hs_v rfl _⟩ (fun K2 h2 => ?_)) (fun s q1 q2 q3 q4 q5 i q6 q7 q8 => hp _ (jf_hs M s at'.toNat i) ⟨jf_hs_v rfl _, jf_hs_v rfl _⟩ (fun K2 h2 => ?_)) (fun h0 => hp _ M ⟨rfl, rfl⟩ (fun K2 h2 => ?_))
  · refine two s n.toNat K2 q1 q2 q3 q4 q5 (by omega) (fun q hq => q7 q (by omega)) (fun c => by omega) ?_
    rw [if_pos (by omega)]
    exact h2 _ (fin s n.toNat q2 (fun q hq => q7 q (by omega)))
  · refine two s i K2 q1 q2 q3 q4 q5 (by omega) q7 (fun _ => q8) ?_
    rw [if_neg (by omega)]
    exact h2 _ (fin s i q2 q7)
  · refine sm_handsBy (by omega) hso hcell (by omega) ha0 ha1 ha2 ha3 (fun s e1 e2 e3 e4 e5 _ => absurd ?_ h0) (fun s e1 e2 e3 e4 e5 _ _ _ _ => absurd ?_ h0) (fun _ => am_kr (h2 _ ⟨hJ, hW, rfl, rfl⟩) ?_)
    · subst e1
      exact ⟨⟨by omega, e3, e4⟩, (hcs s e2).1.symm.trans e5⟩
    · subst e1
      exact ⟨⟨by omega, e3, e4⟩, (hcs s e2).1.symm.trans e5⟩
    · by_cases h : (0 ≤ sa ∧ sa < 4) ∧ (0 ≤ so ∧ so ≤ 2) ∧ 0 ≤ n ∧ n ≤ 5
      · rw [if_pos h, if_pos h, (hcs sa.toNat (by omega)).1]
      · rw [if_neg h, if_neg h]
