/-! wb -/
/-! THE PAIRS: feed, serve -/
theorem pr_l5 {a b c e f : Int} (h : (0 ≤ a ∧ a ≤ 255) ∧ (0 ≤ b ∧ b ≤ 255) ∧ (0 ≤ c ∧ c ≤ 255) ∧ (0 ≤ e ∧ e ≤ 255) ∧ 0 ≤ f ∧ f ≤ 255) : ∀ i : Nat, 0 ≤ [a, b, c, e, f].getD i 0 ∧ [a, b, c, e, f].getD i 0 ≤ 255
  | 0 => h.1
  | 1 => h.2.1
  | 2 => h.2.2.1
  | 3 => h.2.2.2.1
  | 4 => h.2.2.2.2
  | n + 5 => ⟨Int.le_refl 0, show (0 : Int) ≤ 255 by decide⟩
theorem pr_feed {d : Nat} (hd : 14 ≤ d) {n a b c e f : Int} {M : am_M} {K : am_K} (hJ : jf_J M) (hW : jf_C M) (ha0 : am_in n) (ha1 : am_in a) (ha2 : am_in b) (ha3 : am_in c) (ha4 : am_in e) (ha5 : am_in f) (hp : pr_K d M 137 [aR 8 0, aI n, aI a, aI b, aI c, aI e, aI f] K) : am_Call true d 33 [aR 7 0, aI n, aI a, aI b, aI c, aI e, aI f] M K := by
  have e1 : M 427 0 0 = M 301 0 0 := hW.1.2.1.2.2.2
  have hz : 0 ≤ M 427 0 0 ∧ M 427 0 0 ≤ 160 := by
    have := hJ.2.2.2.2.1.1
    omega
  refine sq_feed (by omega) hJ ha0 ha1 ha2 ha3 ha4 ha5 (fun h1 h3 g1 x1 x2 => hp _ (am_mix [20, 301] g1 M) ⟨rfl, rfl⟩ (fun K2 h2 => ?_)) (fun h0 => hp _ M ⟨rfl, rfl⟩ (fun K2 h2 => ?_))
  · refine sm_feed (M := am_mix [20, 301] g1 M) (by omega) hz ha0 ha1 ha2 ha3 ha4 ha5 (fun _ _ g2 y1 y2 => ?_) (fun h4 => absurd ⟨h1, by show M 427 0 0 + n ≤ 160; omega⟩ h4)
    show K2 (some (aI (M 427 0 0 + n))) (am_mix [27, 427] g2 (am_mix [20, 301] g1 M))
    replace y1 : g2 427 0 0 = M 427 0 0 + n := y1
    replace y2 : jf_fed (fun j => M 27 0 j) (g2 27 0) (M 427 0 0).toNat n.toNat [a, b, c, e, f] := y2
    rw [e1] at y1 y2 ⊢
    have hk := hJ.2.2.2.2.1
    have hck := hW.2.1.2.1
    refine h2 _ ⟨⟨hJ.1, hJ.2.1, hJ.2.2.1, hJ.2.2.2.1, ⟨?_, fun j hj => ?_⟩, hJ.2.2.2.2.2⟩, ⟨⟨hW.1.1, ⟨hW.1.2.1.1, hW.1.2.1.2.1, hW.1.2.1.2.2.1, ?_⟩, hW.1.2.2⟩, ⟨hW.2.1.1, fun j hj => ?_, hW.2.1.2.2⟩, hW.2.2⟩, rfl, rfl⟩
    · show 0 ≤ g1 301 0 0 ∧ g1 301 0 0 ≤ 160
      have := hk.1
      omega
    · replace hj : (j : Int) < g1 301 0 0 := hj
      show 0 ≤ g1 20 0 j ∧ g1 20 0 j ≤ 255
      rw [x2 j (by have := hk.1; omega)]
      by_cases q : j < (M 301 0 0).toNat
      · rw [if_pos q]
        exact hk.2 j (by omega)
      · rw [if_neg q]
        exact pr_l5 h1.2 _
    · show g2 427 0 0 = g1 301 0 0
      rw [y1, x1]
    · replace hj : (j : Int) < g1 301 0 0 := hj
      show g2 27 0 j = g1 20 0 j
      rw [x2 j (by have := hk.1; omega), y2 j (by have := hk.1; omega)]
      by_cases q : j < (M 301 0 0).toNat
      · rw [if_pos q, if_pos q]
        exact hck j (by omega)
      · rw [if_neg q, if_neg q]
  · exact sm_feed (by omega) hz ha0 ha1 ha2 ha3 ha4 ha5 (fun h4 h5 g2 _ _ => absurd ⟨h4, by omega⟩ h0) (fun _ => h2 _ ⟨hJ, hW, rfl, rfl⟩)
theorem pr_serve {d : Nat} (hd : 14 ≤ d) {sd h : Int} {M : am_M} {K : am_K} (hJ : jf_J M) (hW : jf_C M) (ha0 : am_in sd) (ha1 : am_in h) (hp : pr_K d M 195 [aR 8 0, aI sd, aI h] K) : am_Call true d 109 [aR 7 0, aI sd, aI h] M K := by
  have hM0 : am_mix [12, 13, 14, 263, 264, 265, 266, 346, 17, 19, 100, 101, 102, 224, 225, 226] M M = M := (am_ag.rf (S := [12, 13, 14, 263, 264, 265, 266, 346, 17, 19, 100, 101, 102, 224, 225, 226]) (M := M)).eq.symm
  refine sq_serve (by omega) hJ ha0 ha1 (fun k h1 h3 h4 h5 g1 x1 x2 => hp _ (am_mix [12, 13, 14, 263, 264, 265, 266, 346, 17, 19, 100, 101, 102, 224, 225, 226] g1 M) ⟨rfl, rfl⟩ (fun K2 h2 => ?_)) (fun h0 => hp _ M ⟨rfl, rfl⟩ (fun K2 h2 => ?_))
  · refine sm_serve (g0 := g1) (M := M) (by omega) hJ hW ha0 ha1 (fun k2 e2 _ _ _ g2 y1 => ?_) (fun h6 => absurd ⟨⟨by omega, by omega⟩, h4, h5⟩ h6)
    have es : k2 = k := by omega
    subst es
    obtain ⟨q1, q2, q3⟩ := x1
    obtain ⟨w1, w2, w3⟩ := y1
    obtain ⟨a1, a2, a3, a4, a5, a6, a7, a8, a9⟩ := hJ.1.1
    obtain ⟨b1, b2, b3, b4, b5, b6, b7, b8, b9⟩ := hJ.1.2
    obtain ⟨z1, z2, z3⟩ := x2 1 (by omega)
    have hco := jf_co_b (jf_px M k2) (M 220 0 0) (jf_E (jf_px M k2) (jf_lb (jf_px M k2) sd))
    refine h2 _ ⟨⟨⟨⟨a1, a2, a3, a4, ?_, ?_, ?_, a8, a9⟩, ⟨b1, b2, b3, b4, ?_, ?_, ?_, b8, b9⟩⟩, hJ.2⟩, ⟨hW.1, ⟨⟨?_, ?_, ?_⟩, hW.2.1.2⟩, ⟨hW.2.2.1.1, fun hi => ?_⟩, hW.2.2.2⟩, rfl, rfl⟩
    · show 0 ≤ g1 224 0 0 ∧ g1 224 0 0 ≤ 999
      omega
    · show 0 ≤ g1 225 0 0 ∧ g1 225 0 0 ≤ g1 224 0 0
      rw [q1, q2]
      split <;> omega
    · show 0 ≤ g1 226 0 0 ∧ g1 226 0 0 ≤ 999 * g1 224 0 0
      rw [q1, q3]
      omega
    · show 0 ≤ g1 224 1 0 ∧ g1 224 1 0 ≤ 999
      rw [z1]
      exact b5
    · show 0 ≤ g1 225 1 0 ∧ g1 225 1 0 ≤ g1 224 1 0
      rw [z1, z2]
      exact b6
    · show 0 ≤ g1 226 1 0 ∧ g1 226 1 0 ≤ 999 * g1 224 1 0
      rw [z1, z3]
      exact b7
    · show g2 26 0 0 = g1 224 0 0
      rw [w1, q1]
    · show g2 26 0 1 = g1 225 0 0
      rw [w2, q2]
    · show g2 26 0 2 = g1 226 0 0
      rw [w3, q3]
    · obtain ⟨c1, c2, c3, c4⟩ := hW.2.2.1.2 hi
      refine ⟨c1, c2, ?_, c4⟩
      show M 30 0 14 = g1 224 1 0 ∧ M 30 0 15 = g1 225 1 0 ∧ M 30 0 16 = g1 226 1 0
      rw [z1, z2, z3]
      exact c3
  · have hs := sm_serve (d := d) (g0 := M) (M := M) (K := K2) (by omega) hJ hW ha0 ha1 (fun k2 e2 e3 e4 e5 g2 _ => absurd ⟨⟨by omega, by omega⟩, e4, e5⟩ h0) (fun _ => by rw [hM0]; exact h2 _ ⟨hJ, hW, rfl, rfl⟩)
    rwa [hM0] at hs
