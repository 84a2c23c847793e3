/-! wb -/
/-! THE PAIRS: film, image, back -/
theorem pr_fl_in {p : jf_par} (hp : jf_ok p) : ∀ n : Nat, n ≤ 5 → ∀ j : Nat, am_in ((jf_fl p n).getD j 0)
  | 0, _, j => ⟨by show -2147483648 ≤ (0 : Int); decide, by show (0 : Int) ≤ 2147483647; decide⟩
  | n + 1, h, j => by
    have ih := pr_fl_in hp n (by omega)
    by_cases c : jf_O p n ≤ 0
    · rw [jf_fl_0 c]
      exact ih j
    · rw [jf_fl_1 c, jf_app]
      split
      · have := jf_E_b hp (a := n) (by omega)
        omega
      · exact ih j
theorem pr_put2 {v : Int} : jf_put 2 v = v := by
  unfold jf_put
  rw [if_neg (by decide), if_neg (by decide)]
theorem pr_film {d : Nat} (hd : 14 ≤ d) {sa h : Int} {M : am_M} {K : am_K} (hJ : jf_J M) (hW : jf_C M) (ha0 : am_in sa) (ha1 : am_in h) (hp : pr_K d M 191 [aR 8 0, aI sa, aI h] K) : am_Call true d 102 [aR 7 0, aI sa, aI h] M K := by
  have hM0 : am_mix [12, 13, 14, 263, 264, 265, 266, 346, 17, 19, 180, 181, 21] M M = M := (am_ag.rf (S := [12, 13, 14, 263, 264, 265, 266, 346, 17, 19, 180, 181, 21]) (M := M)).eq.symm
  refine sq_film (by omega) hJ ha0 ha1 (fun s k h1 h3 h4 h5 g1 x1 x2 x3 x4 => hp _ (am_mix [12, 13, 14, 263, 264, 265, 266, 346, 17, 19, 180, 181, 21] g1 M) ⟨rfl, rfl⟩ (fun K2 h2 => ?_)) (fun h0 => hp _ M ⟨rfl, rfl⟩ (fun K2 h2 => ?_))
  · refine sm_film (g0 := g1) (M := M) (by omega) hJ hW ha0 ha1 (fun s2 k2 e2 e3 _ _ g2 y1 y2 y3 y4 y5 => ?_) (fun h6 => absurd ⟨by omega, by omega⟩ h6)
    have es : s2 = s := by omega
    have ek : k2 = k := by omega
    subst es ek
    have hk5 : k2 < 5 := by
      have := hJ.1.1.2.2.2.2.2.2.2.1
      omega
    have hln := jf_fl_b (jf_px M k2) 5
    refine h2 _ ⟨⟨hJ.1, hJ.2.1, hJ.2.2.1, fun q hq => ?_, hJ.2.2.2.2⟩, ⟨hW.1, hW.2.1, hW.2.2.1, fun q hq => ?_, hW.2.2.2.2⟩, rfl, rfl⟩
    · by_cases e : q = s2
      · subst e
        refine ⟨?_, ?_, fun j hj => ?_⟩
        · show -1 ≤ g1 180 q 0 ∧ g1 180 q 0 ≤ 2
          omega
        · show 0 ≤ g1 181 q 0 ∧ g1 181 q 0 ≤ 40
          omega
        · show am_in (g1 21 q j) ∧ jf_put (g1 180 q 0) (g1 21 q j) = g1 21 q j
          rw [x1, x3 j hj]
          exact ⟨pr_fl_in (hJ.px hk5) 5 (Nat.le_refl 5) j, pr_put2⟩
      · obtain ⟨b1, b2, b3⟩ := hJ.2.2.2.1 q hq
        obtain ⟨z1, z2, z3⟩ := x4 q e
        refine ⟨?_, ?_, fun j hj => ?_⟩
        · show -1 ≤ g1 180 q 0 ∧ g1 180 q 0 ≤ 2
          rw [z1]
          exact b1
        · show 0 ≤ g1 181 q 0 ∧ g1 181 q 0 ≤ 40
          rw [z2]
          exact b2
        · show am_in (g1 21 q j) ∧ jf_put (g1 180 q 0) (g1 21 q j) = g1 21 q j
          rw [z1, z3]
          exact b3 j hj
    · by_cases e : q = s2
      · subst e
        refine ⟨?_, ?_, fun j hj => ?_⟩
        · show g2 31 0 q = g1 180 q 0
          rw [y1, x1]
        · show g2 32 0 q = g1 181 q 0
          rw [y2, x2]
        · show g2 33 0 (40 * q + j) = g1 21 q j
          rw [y3 j hj, x3 j hj]
      · obtain ⟨b1, b2, b3⟩ := hW.2.2.2.1 q hq
        obtain ⟨z1, z2, z3⟩ := x4 q e
        refine ⟨?_, ?_, fun j hj => ?_⟩
        · show g2 31 0 q = g1 180 q 0
          rw [z1]
          exact (y4 q e).1.trans b1
        · show g2 32 0 q = g1 181 q 0
          rw [z2]
          exact (y4 q e).2.trans b2
        · show g2 33 0 (40 * q + j) = g1 21 q j
          rw [z3]
          exact (y5 _ (by omega)).trans (b3 j hj)
  · have hs := sm_film (d := d) (g0 := M) (M := M) (K := K2) (by omega) hJ hW ha0 ha1 (fun s2 k2 e2 e3 e4 e5 g2 _ _ _ _ _ => absurd ⟨by omega, by omega⟩ h0) (fun _ => by rw [hM0]; exact h2 _ ⟨hJ, hW, rfl, rfl⟩)
    rwa [hM0] at hs
theorem pr_Jn {m M : am_M} {i i2 : Nat} (h : m 220 i 0 = M 220 i2 0 ∧ m 221 i 0 = M 221 i2 0 ∧ m 222 i 0 = M 222 i2 0 ∧ m 223 i 0 = M 223 i2 0 ∧ m 224 i 0 = M 224 i2 0 ∧ m 225 i 0 = M 225 i2 0 ∧ m 226 i 0 = M 226 i2 0 ∧ m 227 i 0 = M 227 i2 0 ∧ m 228 i 0 = M 228 i2 0) (h9 : m 386 0 0 = M 386 0 0) (hJ : jf_Jn M i2) : jf_Jn m i := by
  obtain ⟨h220, h221, h222, h223, h224, h225, h226, h227, h228⟩ := h
  unfold jf_Jn
  rw [h220, h221, h222, h223, h224, h225, h226, h227, h228, h9]
  exact hJ
theorem pr_image {d : Nat} (hd : 14 ≤ d) {M : am_M} {K : am_K} (hJ : jf_J M) (hW : jf_C M) (hp : pr_K d M 197 [aR 8 0] K) : am_Call true d 111 [aR 7 0] M K := by
  obtain ⟨w1, w2, w3, w4⟩ := hW.1.2.1
  obtain ⟨p1, p2, p3, p4⟩ := hW.1.1
  obtain ⟨c1, c2, c3⟩ := hW.2.1.1
  refine sq_image (by omega) hJ (fun g1 hx => hp _ (am_mix [220, 221, 222, 223, 224, 225, 226, 227, 228, 144, 145, 382] g1 M) ⟨rfl, rfl⟩ (fun K2 h2 => ?_))
  obtain ⟨x1, ⟨u220a, u220b, u221a, u221b, u222a, u222b, u223a, u223b, u224a, u224b, u225a, u225b, u226a, u226b, u227a, u227b, u228a, u228b⟩, x3, x4⟩ := hx
  refine sm_image (M := am_mix [220, 221, 222, 223, 224, 225, 226, 227, 228, 144, 145, 382] g1 M) (by omega) (fun g2 hy => ?_)
  obtain ⟨y1, ⟨y2, y3⟩, y4, y5, y6⟩ := hy
  show K2 (some (aI (M 421 0 0))) (am_mix [30, 432, 433, 434] g2 (am_mix [220, 221, 222, 223, 224, 225, 226, 227, 228, 144, 145, 382] g1 M))
  replace y2 : g2 433 0 0 = M 421 0 0 := y2
  replace y3 : g2 434 0 0 = M 431 0 0 := y3
  replace y4 : ∀ j, j < 4 → g2 30 0 j = M 22 0 j := y4
  replace y5 : ∀ j, j < 10 → g2 30 0 (4 + j) = M 25 0 j := y5
  replace y6 : ∀ j, j < 3 → g2 30 0 (14 + j) = M 26 0 j := y6
  rw [w1]
  have hn := hJ.1.1
  refine h2 _ ⟨⟨⟨pr_Jn (M := M) (i2 := 0) ⟨u220b, u221b, u222b, u223b, u224b, u225b, u226b, u227b, u228b⟩ rfl hn, pr_Jn (M := M) (i2 := 0) ⟨u220a, u221a, u222a, u223a, u224a, u225a, u226a, u227a, u228a⟩ rfl hn⟩, fun k hk => ?_, hJ.2.2.1, hJ.2.2.2.1, hJ.2.2.2.2.1, Or.inr x1⟩, ⟨⟨?_, ?_, hW.1.2.2⟩, ⟨?_, hW.2.1.2⟩, ⟨?_, fun _ => ⟨?_, ?_, ?_, fun k hk => ?_⟩⟩, hW.2.2.2⟩, rfl, rfl⟩
  · obtain ⟨b1, b2, b3, b4, b5, b6⟩ := hJ.2.1 k hk
    obtain ⟨z1, z2⟩ := x3 k hk
    refine ⟨b1, b2, b3, b4, ?_, ?_⟩
    · show 0 ≤ g1 144 k 0 ∧ g1 144 k 0 ≤ 99
      rw [z1]
      exact b3
    · show 0 ≤ g1 145 k 0 ∧ g1 145 k 0 ≤ 500
      rw [z2]
      exact b4
  · show M 22 0 0 = g1 220 0 0 ∧ M 22 0 1 = g1 221 0 0 ∧ M 22 0 2 = g1 222 0 0 ∧ M 22 0 3 = g1 223 0 0
    rw [u220b, u221b, u222b, u223b]
    exact ⟨p1, p2, p3, p4⟩
  · show M 421 0 0 = g1 227 0 0 ∧ M 430 0 0 = M 386 0 0 ∧ M 431 0 0 = g1 228 0 0 ∧ M 427 0 0 = M 301 0 0
    rw [u227b, u228b]
    exact ⟨w1, w2, w3, w4⟩
  · show M 26 0 0 = g1 224 0 0 ∧ M 26 0 1 = g1 225 0 0 ∧ M 26 0 2 = g1 226 0 0
    rw [u224b, u225b, u226b]
    exact ⟨c1, c2, c3⟩
  · show g2 432 0 0 = g1 382 0 0
    rw [y1, x1]
  · show g2 433 0 0 = g1 227 1 0 ∧ g2 434 0 0 = g1 228 1 0
    rw [u227a, u228a, y2, y3]
    exact ⟨w1, w3⟩
  · show g2 30 0 0 = g1 220 1 0 ∧ g2 30 0 1 = g1 221 1 0 ∧ g2 30 0 2 = g1 222 1 0 ∧ g2 30 0 3 = g1 223 1 0
    rw [u220a, u221a, u222a, u223a]
    exact ⟨(y4 0 (by omega)).trans p1, (y4 1 (by omega)).trans p2, (y4 2 (by omega)).trans p3, (y4 3 (by omega)).trans p4⟩
  · show g2 30 0 14 = g1 224 1 0 ∧ g2 30 0 15 = g1 225 1 0 ∧ g2 30 0 16 = g1 226 1 0
    rw [u224a, u225a, u226a]
    exact ⟨(y6 0 (by omega)).trans c1, (y6 1 (by omega)).trans c2, (y6 2 (by omega)).trans c3⟩
  · obtain ⟨b1, b2, b3, b4⟩ := hW.1.2.2 k hk
    obtain ⟨z1, z2⟩ := x3 k hk
    show g2 30 0 (4 + 2 * k) = g1 144 k 0 ∧ g2 30 0 (4 + 2 * k + 1) = g1 145 k 0
    rw [z1, z2]
    exact ⟨(y5 (2 * k) (by omega)).trans b3, (y5 (2 * k + 1) (by omega)).trans b4⟩
theorem pr_back {d : Nat} (hd : 14 ≤ d) {M : am_M} {K : am_K} (hJ : jf_J M) (hW : jf_C M) (hp : pr_K d M 198 [aR 8 0] K) : am_Call true d 114 [aR 7 0] M K := by
  have e0 : M 432 0 0 = M 382 0 0 := hW.2.2.1.1
  have hi := hJ.2.2.2.2.2
  refine sq_back (by omega) hJ (fun h1 g1 hx => hp _ (am_mix [220, 221, 222, 223, 224, 225, 226, 227, 228, 142, 143] g1 M) ⟨rfl, rfl⟩ (fun K2 h2 => ?_)) (fun h0 => hp _ M ⟨rfl, rfl⟩ (fun K2 h2 => ?_))
  · obtain ⟨⟨u220a, u220b, u221a, u221b, u222a, u222b, u223a, u223b, u224a, u224b, u225a, u225b, u226a, u226b, u227a, u227b, u228a, u228b⟩, x3, x4⟩ := hx
    refine sm_back (M := am_mix [220, 221, 222, 223, 224, 225, 226, 227, 228, 142, 143] g1 M) (by omega) (show am_in (M 432 0 0) by omega) (fun _ g2 hy => ?_) (fun h3 => absurd (show M 432 0 0 = 0 from h3) (by omega))
    obtain ⟨⟨y2, y3⟩, y4, y5, y6⟩ := hy
    show K2 (some (aI (M 433 0 0))) (am_mix [421, 431, 22, 25, 26] g2 (am_mix [220, 221, 222, 223, 224, 225, 226, 227, 228, 142, 143] g1 M))
    replace y2 : g2 421 0 0 = M 433 0 0 := y2
    replace y3 : g2 431 0 0 = M 434 0 0 := y3
    replace y4 : ∀ j, j < 4 → g2 22 0 j = M 30 0 j := y4
    replace y5 : ∀ j, j < 10 → g2 25 0 j = M 30 0 (4 + j) := y5
    replace y6 : ∀ j, j < 3 → g2 26 0 j = M 30 0 (14 + j) := y6
    obtain ⟨⟨i1, i2⟩, ⟨p1, p2, p3, p4⟩, ⟨c1, c2, c3⟩, i4⟩ := hW.2.2.1.2 (by omega)
    rw [i1]
    have hn := hJ.1.2
    refine h2 _ ⟨⟨⟨pr_Jn (M := M) (i2 := 1) ⟨u220a, u221a, u222a, u223a, u224a, u225a, u226a, u227a, u228a⟩ rfl hn, pr_Jn (M := M) (i2 := 1) ⟨u220b, u221b, u222b, u223b, u224b, u225b, u226b, u227b, u228b⟩ rfl hn⟩, fun k hk => ?_, hJ.2.2⟩, ⟨⟨?_, ?_, fun k hk => ?_⟩, ⟨?_, hW.2.1.2⟩, ⟨hW.2.2.1.1, fun _ => ⟨?_, ?_, ?_, i4⟩⟩, hW.2.2.2⟩, rfl, rfl⟩
    · obtain ⟨b1, b2, b3, b4, b5, b6⟩ := hJ.2.1 k hk
      obtain ⟨z1, z2⟩ := x3 k hk
      refine ⟨b1, b2, ?_, ?_, b5, b6⟩
      · show 0 ≤ g1 142 k 0 ∧ g1 142 k 0 ≤ 99
        rw [z1]
        exact b5
      · show 0 ≤ g1 143 k 0 ∧ g1 143 k 0 ≤ 500
        rw [z2]
        exact b6
    · show g2 22 0 0 = g1 220 0 0 ∧ g2 22 0 1 = g1 221 0 0 ∧ g2 22 0 2 = g1 222 0 0 ∧ g2 22 0 3 = g1 223 0 0
      rw [u220a, u221a, u222a, u223a]
      exact ⟨(y4 0 (by omega)).trans p1, (y4 1 (by omega)).trans p2, (y4 2 (by omega)).trans p3, (y4 3 (by omega)).trans p4⟩
    · show g2 421 0 0 = g1 227 0 0 ∧ M 430 0 0 = M 386 0 0 ∧ g2 431 0 0 = g1 228 0 0 ∧ M 427 0 0 = M 301 0 0
      rw [u227a, u228a, y2, y3]
      exact ⟨i1, hW.1.2.1.2.1, i2, hW.1.2.1.2.2.2⟩
    · obtain ⟨b1, b2, b3, b4⟩ := hW.1.2.2 k hk
      obtain ⟨z1, z2⟩ := x3 k hk
      obtain ⟨v1, v2⟩ := i4 k hk
      refine ⟨b1, b2, ?_, ?_⟩
      · show g2 25 0 (2 * k) = g1 142 k 0
        rw [z1]
        exact (y5 (2 * k) (by omega)).trans v1
      · show g2 25 0 (2 * k + 1) = g1 143 k 0
        rw [z2]
        exact (y5 (2 * k + 1) (by omega)).trans v2
    · show g2 26 0 0 = g1 224 0 0 ∧ g2 26 0 1 = g1 225 0 0 ∧ g2 26 0 2 = g1 226 0 0
      rw [u224a, u225a, u226a]
      exact ⟨(y6 0 (by omega)).trans c1, (y6 1 (by omega)).trans c2, (y6 2 (by omega)).trans c3⟩
    · show M 433 0 0 = g1 227 1 0 ∧ M 434 0 0 = g1 228 1 0
      rw [u227b, u228b]
      exact ⟨i1, i2⟩
    · show M 30 0 0 = g1 220 1 0 ∧ M 30 0 1 = g1 221 1 0 ∧ M 30 0 2 = g1 222 1 0 ∧ M 30 0 3 = g1 223 1 0
      rw [u220b, u221b, u222b, u223b]
      exact ⟨p1, p2, p3, p4⟩
    · show M 30 0 14 = g1 224 1 0 ∧ M 30 0 15 = g1 225 1 0 ∧ M 30 0 16 = g1 226 1 0
      rw [u224b, u225b, u226b]
      exact ⟨c1, c2, c3⟩
  · exact sm_back (by omega) (by omega) (fun h3 g2 _ => absurd (by omega) h3) (fun _ => h2 _ ⟨hJ, hW, rfl, rfl⟩)
