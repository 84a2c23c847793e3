/-! wb -/
variable {wb : Bool}
/-! The tape: numbers and tokens -/

set_option maxHeartbeats 1000000 in
theorem sp_readNumber {d : Nat} (hd : 6 ≤ d) {q z : Nat} {M : am_M} {K : am_K} (hz : M 301 0 0 = (z : Int)) (hz2 : z ≤ 160) (hby : ∀ j, j < z → 0 ≤ M 20 0 j ∧ M 20 0 j ≤ 255) (hq0 : M 304 0 0 = (q : Int)) (hq1 : M 302 0 0 = (q : Int)) (hqz : q ≤ z) (h : ∀ g : am_M, g 303 0 0 = (if lx_sc lx_di (M 20 0) z 160 q - q ≤ 4 then 2 else 1) → g 302 0 0 = (lx_sc lx_di (M 20 0) z 160 q : Int) → g 305 0 0 = lx_nv (M 20 0) q (lx_sc lx_di (M 20 0) z 160 q - q) → K none (am_mix [302, 303, 305] g M)) : am_Call wb d 20 [aR 5 0] M K := by
  obtain ⟨d, rfl⟩ : ∃ e, d = e + 1 := ⟨d - 1, by omega⟩
  refine ⟨rfl, fun R hR hC => ?_⟩
  replace hR : ∀ c, am_F wb tb_f20 0 (am_Call wb d) K R c → R c := hR
  show R (0, [some (aR 5 0), none], [], M)
  refine hR _ (hR _ (hR _ (hR _ (hR _ (?_)))))
  show R (7, [some (aR 5 0), some (aI 0)], [], am_wr M 305 0 0 0)
  obtain ⟨e, hee⟩ : ∃ e, e = lx_sc lx_di (M 20 0) z 160 q := ⟨_, rfl⟩
  have heb := lx_sc_b (c := lx_di) (b := M 20 0) (z := z) (by decide) 160 q hqz
  rw [← hee] at heb h
  have fin : ∀ (g : am_M) (o : Int), g 302 0 0 = (e : Int) → g 305 0 0 = lx_nv (M 20 0) q (e - q) → R (67, [some (aR 5 0), some (aI o)], [], am_mix [302, 303, 305] g M) := by
    intro g o he0 hn0
    refine hR _ (hR _ (hR _ (?_)))
    show R (72, [some (aR 5 0), some (aI o)], [aI (g 302 0 0), aR 5 0], am_mix [302, 303, 305] g M)
    rw [he0]
    show R (72, [some (aR 5 0), some (aI o)], [aI ((e : Nat) : Int), aR 5 0], am_mix [302, 303, 305] g M)
    refine hR _ (hR _ (?_))
    show R (76, [some (aR 5 0), some (aI o)], [aI (M 304 0 0), aI ((e : Nat) : Int), aR 5 0], am_mix [302, 303, 305] g M)
    rw [hq0]
    show R (76, [some (aR 5 0), some (aI o)], [aI ((q : Nat) : Int), aI ((e : Nat) : Int), aR 5 0], am_mix [302, 303, 305] g M)
    refine hR _ (hR _ (hR _ (am_brc (rg := am_in (((e : Nat) : Int) - ((q : Nat) : Int)) ∧ am_in 4) (P := (((e : Nat) : Int) - ((q : Nat) : Int)) ≤ 4) (A := R (85, [some (aR 5 0), some (aI o)], [aR 5 0], am_mix [302, 303, 305] g M)) (B := R (81, [some (aR 5 0), some (aI o)], [aR 5 0], am_mix [302, 303, 305] g M)) (by omega) (fun c78 => ?_) (fun c78 => ?_))))
    · refine hR _ (hR _ (?_))
      show R (89, [some (aR 5 0), some (aI o)], [], am_wr (am_mix [302, 303, 305] g M) 303 0 0 2)
      refine hR _ (show K none (am_wr (am_mix [302, 303, 305] g M) 303 0 0 2) from ?_)
      refine am_fin (S := [302, 303, 305]) (F := fun m => m 303 0 0 = (if e - q ≤ 4 then 2 else 1) ∧ m 302 0 0 = (e : Int) ∧ m 305 0 0 = lx_nv (M 20 0) q (e - q)) (((am_ag.rf).mix rfl).wr rfl) ⟨?_, he0, hn0⟩ (fun g hg => h g hg.1 hg.2.1 hg.2.2)
      show (2 : Int) = _
      rw [if_pos (by omega)]
    · refine hR _ (hR _ (hR _ (?_)))
      show R (89, [some (aR 5 0), some (aI o)], [], am_wr (am_mix [302, 303, 305] g M) 303 0 0 1)
      refine hR _ (show K none (am_wr (am_mix [302, 303, 305] g M) 303 0 0 1) from ?_)
      refine am_fin (S := [302, 303, 305]) (F := fun m => m 303 0 0 = (if e - q ≤ 4 then 2 else 1) ∧ m 302 0 0 = (e : Int) ∧ m 305 0 0 = lx_nv (M 20 0) q (e - q)) (((am_ag.rf).mix rfl).wr rfl) ⟨?_, he0, hn0⟩ (fun g hg => h g hg.1 hg.2.1 hg.2.2)
      show (1 : Int) = _
      rw [if_neg (by omega)]
  have key : ∀ (n i p : Nat) (x : Int) (g : am_M), x = (i : Int) → i + n = 160 → g 302 0 0 = (p : Int) → q ≤ p → p ≤ z → g 305 0 0 = lx_nv (M 20 0) q (p - q) → lx_sc lx_di (M 20 0) z n p = e → R (7, [some (aR 5 0), some (aI x)], [], am_mix [302, 303, 305] g M) := by
    intro n
    induction n with
    | zero =>
      intro i p x g hx hin hp hqp hpz hv hs
      subst hx
      refine hR _ (hR _ (hR _ (am_brt (rg := am_in ((i : Nat) : Int) ∧ am_in 160) (P := 160 ≤ ((i : Nat) : Int)) (A := R (67, [some (aR 5 0), some (aI ((i : Nat) : Int))], [], am_mix [302, 303, 305] g M)) (B := R (14, [some (aR 5 0), some (aI ((i : Nat) : Int))], [], am_mix [302, 303, 305] g M)) (by omega) (by omega) ?_)))
      show R (67, [some (aR 5 0), some (aI ((i : Nat) : Int))], [], am_mix [302, 303, 305] g M)
      have hpe : p = e := hs
      rw [hpe] at hp hv
      exact fin g _ hp hv
    | succ n ih =>
      intro i p x g hx hin hp hqp hpz hv hs
      subst hx
      unfold lx_sc at hs
      refine hR _ (hR _ (hR _ (am_brf (rg := am_in ((i : Nat) : Int) ∧ am_in 160) (P := 160 ≤ ((i : Nat) : Int)) (A := R (67, [some (aR 5 0), some (aI ((i : Nat) : Int))], [], am_mix [302, 303, 305] g M)) (B := R (14, [some (aR 5 0), some (aI ((i : Nat) : Int))], [], am_mix [302, 303, 305] g M)) (by omega) (by omega) ?_)))
      show R (14, [some (aR 5 0), some (aI ((i : Nat) : Int))], [], am_mix [302, 303, 305] g M)
      refine hR _ (hR _ (hR _ (?_)))
      show R (19, [some (aR 5 0), some (aI ((i : Nat) : Int))], [aI (g 302 0 0), aR 5 0], am_mix [302, 303, 305] g M)
      rw [hp]
      show R (19, [some (aR 5 0), some (aI ((i : Nat) : Int))], [aI ((p : Nat) : Int), aR 5 0], am_mix [302, 303, 305] g M)
      refine hR _ (sp_byteAt (z := z) (i := p) (by omega) hz (by omega) hby (by omega) (by omega) ?_)
      have hbr19 := lx_by_b hby p
      show R (22, [some (aR 5 0), some (aI ((i : Nat) : Int))], [aI (lx_by (M 20 0) z p)], am_mix [302, 303, 305] g M)
      refine hR _ (sp_isDigit (by omega) (by omega) (fun h22 => ?_) (fun h22 => ?_))
      · show R (25, [some (aR 5 0), some (aI ((i : Nat) : Int))], [aI 1], am_mix [302, 303, 305] g M)
        refine hR _ (am_brf (rg := am_in 1) (P := (1 : Int) = 0) (A := R (67, [some (aR 5 0), some (aI ((i : Nat) : Int))], [], am_mix [302, 303, 305] g M)) (B := R (28, [some (aR 5 0), some (aI ((i : Nat) : Int))], [], am_mix [302, 303, 305] g M)) (by omega) (by omega) ?_)
        show R (28, [some (aR 5 0), some (aI ((i : Nat) : Int))], [], am_mix [302, 303, 305] g M)
        refine hR _ (hR _ (hR _ (hR _ (hR _ (hR _ (hR _ (hR _ (?_))))))))
        show R (41, [some (aR 5 0), some (aI ((i : Nat) : Int))], [aI (g 302 0 0), aR 5 0, aI (g 305 0 0 * 10), aR 5 0], am_mix [302, 303, 305] g M)
        rw [hp]
        show R (41, [some (aR 5 0), some (aI ((i : Nat) : Int))], [aI ((p : Nat) : Int), aR 5 0, aI (g 305 0 0 * 10), aR 5 0], am_mix [302, 303, 305] g M)
        refine hR _ (sp_byteAt (z := z) (i := p) (by omega) hz (by omega) hby (by omega) (by omega) ?_)
        have hbr41 := lx_by_b hby p
        show R (44, [some (aR 5 0), some (aI ((i : Nat) : Int))], [aI (lx_by (M 20 0) z p), aI (g 305 0 0 * 10), aR 5 0], am_mix [302, 303, 305] g M)
        refine hR _ (hR _ (hR _ (hR _ (hR _ (hR _ (hR _ (?_)))))))
        show R (56, [some (aR 5 0), some (aI ((i : Nat) : Int))], [aI (g 302 0 0), aR 5 0], am_wr (am_mix [302, 303, 305] g M) 305 0 0 (((g 305 0 0 * 10) + (lx_by (M 20 0) z p)) - 48))
        rw [hp]
        show R (56, [some (aR 5 0), some (aI ((i : Nat) : Int))], [aI ((p : Nat) : Int), aR 5 0], am_wr (am_mix [302, 303, 305] g M) 305 0 0 (((g 305 0 0 * 10) + (lx_by (M 20 0) z p)) - 48))
        refine hR _ (hR _ (hR _ (hR _ (hR _ (?_)))))
        show R (7, [some (aR 5 0), some (aI (((i : Nat) : Int) + 1))], [], am_wr (am_wr (am_mix [302, 303, 305] g M) 305 0 0 (((g 305 0 0 * 10) + (lx_by (M 20 0) z p)) - 48)) 302 0 0 (((p : Nat) : Int) + 1))
        rw [show lx_di (lx_by (M 20 0) z p) = true from decide_eq_true h22] at hs
        have hpz2 : p < z := by
          by_cases hh : p < z
          · exact hh
          · rw [show lx_by (M 20 0) z p = -1 from if_neg hh] at h22
            omega
        have hbe : lx_by (M 20 0) z p = M 20 0 p := if_pos hpz2
        have e9 : am_ag [302, 303, 305] M (am_wr (am_wr (am_mix [302, 303, 305] g M) 305 0 0 (((g 305 0 0 * 10) + (lx_by (M 20 0) z p)) - 48)) 302 0 0 (((p : Nat) : Int) + 1)) := (((am_ag.rf).mix rfl).wr rfl).wr rfl
        rw [e9.eq]
        refine ih (i + 1) (p + 1) _ _ rfl (by omega) rfl (by omega) (by omega) ?_ hs
        show (((g 305 0 0 * 10) + (lx_by (M 20 0) z p)) - 48) = _
        rw [hv, hbe, show p + 1 - q = (p - q) + 1 by omega, lx_nv, show q + (p - q) = p by omega]
      · show R (25, [some (aR 5 0), some (aI ((i : Nat) : Int))], [aI 0], am_mix [302, 303, 305] g M)
        refine hR _ (am_brt (rg := am_in 0) (P := (0 : Int) = 0) (A := R (67, [some (aR 5 0), some (aI ((i : Nat) : Int))], [], am_mix [302, 303, 305] g M)) (B := R (28, [some (aR 5 0), some (aI ((i : Nat) : Int))], [], am_mix [302, 303, 305] g M)) (by omega) (by omega) ?_)
        show R (67, [some (aR 5 0), some (aI ((i : Nat) : Int))], [], am_mix [302, 303, 305] g M)
        rw [show lx_di (lx_by (M 20 0) z p) = false from decide_eq_false h22] at hs
        have hpe : p = e := hs
        rw [hpe] at hp hv
        exact fin g _ hp hv
  have e9 : am_ag [302, 303, 305] M (am_wr M 305 0 0 0) := (am_ag.rf).wr rfl
  rw [e9.eq]
  refine key 160 0 q _ _ rfl rfl hq1 (Nat.le_refl _) hqz ?_ hee.symm
  rw [Nat.sub_self]
  rfl
