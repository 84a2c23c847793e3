/-! wb -/
variable {wb : Bool}
/-! The class's questions that think of another HAND -/
def jf_tr (g M : am_M) : Prop := ∀ k, k < 5 → g 140 k 0 = M 140 k 0 ∧ g 141 k 0 = M 141 k 0 ∧ g 142 k 0 = M 142 k 0 ∧ g 143 k 0 = M 143 k 0
theorem jf_wr5 {m : am_M} {v w k : Nat} {x : Int} (h : k < 5) : am_wr m v 5 0 x w k 0 = m w k 0 := am_wr_ne (Or.inr (Or.inl (by omega)))
theorem jf_J.pa {M : am_M} (h : jf_J M) {k : Nat} (hk : k < 5) {v : Int} (hv : 0 ≤ v ∧ v ≤ 99) : jf_ok (jf_pa M k v) := by
  have h1 := h.2.1 k hk
  have h2 := h.1.1
  have h3 := h2.1
  exact ⟨h1.1, h1.2.1, hv, h1.2.2.2.1, h2.2.1, h2.2.2.1, h2.2.2.2.1, (show 1 ≤ M 220 0 0 ∧ M 220 0 0 ≤ 5100 by omega), (show (0 : Int) ≤ 0 by omega), (show (0 : Int) ≤ 5000 by omega)⟩
theorem jf_J.pc {M : am_M} (h : jf_J M) {k : Nat} (hk : k < 5) {v : Int} (hv : 0 ≤ v ∧ v ≤ 500) : jf_ok (jf_pc M k v) := by
  have h1 := h.2.1 k hk
  have h2 := h.1.1
  have h3 := h2.1
  exact ⟨h1.1, h1.2.1, h1.2.2.1, hv, h2.2.1, h2.2.2.1, h2.2.2.2.1, (show 1 ≤ M 220 0 0 ∧ M 220 0 0 ≤ 5100 by omega), (show (0 : Int) ≤ 0 by omega), (show (0 : Int) ≤ 5000 by omega)⟩
theorem jf_bc_s (M : am_M) (k : Nat) (goal : Int) (i : Nat) : jf_bc M k goal (i + 1) = bif decide (goal = 1 ∧ ¬ jf_at (jf_px M k) (M 220 0 0) * jf_A (jf_pc M k (10 * (i : Int))) ≤ jf_at (jf_pc M k (10 * (i : Int))) (M 220 0 0) * jf_A (jf_px M k)) then jf_bc M k goal i else jf_bst (jf_bc M k goal i) (10 * (i : Int)) (jf_wo (jf_pc M k (10 * (i : Int))) (if goal ≠ 0 then 1 else 0)) (jf_A (jf_pc M k (10 * (i : Int)))) := rfl

set_option maxHeartbeats 1000000 in
theorem sq_ahead {d : Nat} (hd : 8 ≤ d) {h goal : Int} {M : am_M} {K : am_K} (hJ : jf_J M) (ha_h : am_in h) (ha_g : am_in goal) (hK : ∀ g, jf_tr g M → K (some (aI (jx_ahead M h goal))) (am_mix [12, 13, 14, 263, 264, 265, 266, 346, 17, 19, 100, 101, 102, 140, 141, 142, 143] g M)) : am_Call wb d 75 [aR 7 0, aI h, aI goal] M K := by
  obtain ⟨d, rfl⟩ : ∃ e, d = e + 1 := ⟨d - 1, by omega⟩
  refine ⟨rfl, fun R hR hC => ?_⟩
  replace hR : ∀ c, am_F wb tb_f75 1 (am_Call wb d) K R c → R c := hR
  have hn := hJ.1.1.2.2.2.2.2.2.2.1
  have hl0 := hJ.1.1.2.2.2.2.2.2.2.2
  have htc := hJ.2.2.1.1
  have hlt : 0 ≤ M 228 0 0 ∧ M 228 0 0 < 6 := by omega
  have hmk := hJ.1.1.1
  have hdr := hJ.1.1.2.1
  have hpr := hJ.1.1.2.2.1
  have hfu := hJ.1.1.2.2.2.1
  show R (0, [some (aR 7 0), some (aI h), some (aI goal), none, none], [], M)
  refine hR _ (hR _ (?_))
  show R (2, [some (aR 7 0), some (aI h), some (aI goal), none, none], [aI h, aR 7 0], M)
  refine hR _ (sp_handAt (by omega) hn (by omega) (fun k hhk hk5 => ?_) (fun hno => ?_))
  · replace hk5 : (k : Int) < M 227 0 0 := hk5
    have hkw := hJ.wk (k := k) (by omega)
    have hok := hJ.px (k := k) (by omega)
    show R (5, [some (aR 7 0), some (aI h), some (aI goal), none, none], [aR 1 k], M)
    refine hR _ (hR _ (hR _ (hR _ (hR _ (hR _ (?_))))))
    show R (16, [some (aR 7 0), some (aI h), some (aI goal), some (aR 1 k), none], [aI 1, aI 0, aI goal], M)
    refine hR _ (sp_within (by omega) (by omega) (fun h16 => ?_) (fun h16 => ?_))
    · show R (19, [some (aR 7 0), some (aI h), some (aI goal), some (aR 1 k), none], [aI 1], M)
      refine hR _ (am_brt (rg := am_in 1) (P := (1 : Int) ≠ 0) (A := R (25, [some (aR 7 0), some (aI h), some (aI goal), some (aR 1 k), none], [], M)) (B := R (22, [some (aR 7 0), some (aI h), some (aI goal), some (aR 1 k), none], [], M)) (by omega) (by omega) ?_)
      show R (25, [some (aR 7 0), some (aI h), some (aI goal), some (aR 1 k), none], [], M)
      refine hR _ (hR _ (?_))
      show R (29, [some (aR 7 0), some (aI h), some (aI goal), some (aR 1 k), none], [aR 0 0], M)
      refine hR _ (sp_Best_start (by omega) ?_)
      show R (32, [some (aR 7 0), some (aI h), some (aI goal), some (aR 1 k), none], [], am_wr (am_wr (am_wr M 100 0 0 (-1)) 101 0 0 0) 102 0 0 1)
      refine hR _ (hR _ (hR _ (?_)))
      show R (37, [some (aR 7 0), some (aI h), some (aI goal), some (aR 1 k), none], [aR 1 k, aR 1 5], am_wr (am_wr (am_wr M 100 0 0 (-1)) 101 0 0 0) 102 0 0 1)
      refine hR _ (sp_Hand_becomeLike (by omega) (by omega) ?_)
      show R (40, [some (aR 7 0), some (aI h), some (aI goal), some (aR 1 k), none], [], am_wr (am_wr (am_wr (am_wr (am_wr (am_wr (am_wr M 100 0 0 (-1)) 101 0 0 0) 102 0 0 1) 140 5 0 (M 140 k 0)) 141 5 0 (M 141 k 0)) 142 5 0 (M 142 k 0)) 143 5 0 (M 143 k 0))
      refine hR _ (hR _ (?_))
      show R (43, [some (aR 7 0), some (aI h), some (aI goal), some (aR 1 k), some (aI 0)], [], am_wr (am_wr (am_wr (am_wr (am_wr (am_wr (am_wr M 100 0 0 (-1)) 101 0 0 0) 102 0 0 1) 140 5 0 (M 140 k 0)) 141 5 0 (M 141 k 0)) 142 5 0 (M 142 k 0)) 143 5 0 (M 143 k 0))
      have hkw5 : jf_wk M 5 (M 228 0 0).toNat := hJ.wk (by omega)
      have hbnd : ∀ i : Nat, i ≤ 100 → jf_bp (jf_ba M k goal i) 1000000000 65 500 := jf_best_b (by omega) (by omega) (by omega) (fun i hi => by
        have hok : jf_ok (jf_pa M k (i : Int)) := hJ.pa (by omega) (by omega)
        have h1 := jf_wo_b hok (if goal ≠ 0 then 2 else 0)
        have h2 := jf_A_b hok
        dsimp only
        omega)
      have key : ∀ (n i : Nat) (x : Int) (o9 : Option am_V) (g : am_M), x = (i : Int) → i + n = 100 → (g 100 0 0, g 101 0 0, g 102 0 0) = jf_ba M k goal i → jf_tr g M → (g 140 5 0 = M 140 k 0 ∧ g 141 5 0 = M 141 k 0 ∧ g 143 5 0 = M 143 k 0) → R (43, [some (aR 7 0), some (aI h), some (aI goal), some (aR 1 k), some (aI x)], [], am_mix [12, 13, 14, 263, 264, 265, 266, 346, 17, 19, 100, 101, 102, 140, 141, 142, 143] g M) := by
        intro n
        induction n with
        | zero =>
          intro i x o9 g hx hin hst htr h5
          subst hx
          have hi : i = 100 := by omega
          refine hR _ (hR _ (hR _ (am_brt (rg := am_in (((i : Nat) : Int)) ∧ am_in 99) (P := 99 < (((i : Nat) : Int))) (A := R (107, [some (aR 7 0), some (aI h), some (aI goal), some (aR 1 k), some (aI (((i : Nat) : Int)))], [], am_mix [12, 13, 14, 263, 264, 265, 266, 346, 17, 19, 100, 101, 102, 140, 141, 142, 143] g M)) (B := R (50, [some (aR 7 0), some (aI h), some (aI goal), some (aR 1 k), some (aI (((i : Nat) : Int)))], [], am_mix [12, 13, 14, 263, 264, 265, 266, 346, 17, 19, 100, 101, 102, 140, 141, 142, 143] g M)) (by omega) (by omega) ?_)))
          show R (107, [some (aR 7 0), some (aI h), some (aI goal), some (aR 1 k), some (aI (((i : Nat) : Int)))], [], am_mix [12, 13, 14, 263, 264, 265, 266, 346, 17, 19, 100, 101, 102, 140, 141, 142, 143] g M)
          refine hR _ (hR _ (hR _ (?_)))
          show R (114, [some (aR 7 0), some (aI h), some (aI goal), some (aR 1 k), some (aI (((i : Nat) : Int)))], [aI (g 100 0 0)], am_mix [12, 13, 14, 263, 264, 265, 266, 346, 17, 19, 100, 101, 102, 140, 141, 142, 143] g M)
          refine hR _ (show K (some (aI (g 100 0 0))) (am_mix [12, 13, 14, 263, 264, 265, 266, 346, 17, 19, 100, 101, 102, 140, 141, 142, 143] g M) from ?_)
          have hres : jx_ahead M h goal = g 100 0 0 := by
            subst hhk
            unfold jx_ahead
            rw [if_pos (by omega), if_pos (by omega)]
            rw [hi] at hst
            exact (congrArg (fun z => z.1) hst).symm
          rw [hres] at hK
          exact hK _ htr
        | succ n ih =>
          intro i x o9 g hx hin hst htr h5
          subst hx
          have hb := hbnd i (by omega)
          rw [← hst] at hb
          have hb1 : -1 ≤ g 100 0 0 ∧ g 100 0 0 ≤ 500 := hb.1
          have hb2 : -1000000000 ≤ g 101 0 0 ∧ g 101 0 0 ≤ 1000000000 := hb.2.1
          have hb3 : 1 ≤ g 102 0 0 ∧ g 102 0 0 ≤ 65 := hb.2.2
          have hpe : ∀ _ : Unit, jf_px (am_wr (am_mix [12, 13, 14, 263, 264, 265, 266, 346, 17, 19, 100, 101, 102, 140, 141, 142, 143] g M) 142 5 0 (((i : Nat) : Int))) 5 = jf_pa M k (((i : Nat) : Int)) := fun _ => by
            show (g 140 5 0, g 141 5 0, (((i : Nat) : Int)), g 143 5 0, M 221 0 0, M 222 0 0, M 223 0 0, jf_tk M (M 228 0 0).toNat, M 220 0 0, 0) = _
            rw [h5.1, h5.2.1, h5.2.2]
          refine hR _ (hR _ (hR _ (am_brf (rg := am_in (((i : Nat) : Int)) ∧ am_in 99) (P := 99 < (((i : Nat) : Int))) (A := R (107, [some (aR 7 0), some (aI h), some (aI goal), some (aR 1 k), some (aI (((i : Nat) : Int)))], [], am_mix [12, 13, 14, 263, 264, 265, 266, 346, 17, 19, 100, 101, 102, 140, 141, 142, 143] g M)) (B := R (50, [some (aR 7 0), some (aI h), some (aI goal), some (aR 1 k), some (aI (((i : Nat) : Int)))], [], am_mix [12, 13, 14, 263, 264, 265, 266, 346, 17, 19, 100, 101, 102, 140, 141, 142, 143] g M)) (by omega) (by omega) ?_)))
          show R (50, [some (aR 7 0), some (aI h), some (aI goal), some (aR 1 k), some (aI (((i : Nat) : Int)))], [], am_mix [12, 13, 14, 263, 264, 265, 266, 346, 17, 19, 100, 101, 102, 140, 141, 142, 143] g M)
          refine hR _ (hR _ (hR _ (hR _ (hR _ (hR _ (hR _ (?_)))))))
          show R (64, [some (aR 7 0), some (aI h), some (aI goal), some (aR 1 k), some (aI (((i : Nat) : Int)))], [aR 1 5, aR 7 0], am_wr (am_mix [12, 13, 14, 263, 264, 265, 266, 346, 17, 19, 100, 101, 102, 140, 141, 142, 143] g M) 142 5 0 (((i : Nat) : Int)))
          refine hR _ (sp_Xthink (by omega) hkw5 hlt (show jf_ok (jf_px (am_wr (am_mix [12, 13, 14, 263, 264, 265, 266, 346, 17, 19, 100, 101, 102, 140, 141, 142, 143] g M) 142 5 0 (((i : Nat) : Int))) 5) from (hpe ()).symm ▸ hJ.pa (by omega) (by omega)) (fun g76 hth => ?_))
          replace hth : jf_th (am_mix [12, 13, 14, 263, 264, 265, 266, 346, 17, 19] g76 (am_wr (am_mix [12, 13, 14, 263, 264, 265, 266, 346, 17, 19, 100, 101, 102, 140, 141, 142, 143] g M) 142 5 0 (((i : Nat) : Int)))) (jf_px (am_wr (am_mix [12, 13, 14, 263, 264, 265, 266, 346, 17, 19, 100, 101, 102, 140, 141, 142, 143] g M) 142 5 0 (((i : Nat) : Int))) 5) := hth
          rw [hpe ()] at hth
          have hok : jf_ok (jf_pa M k (((i : Nat) : Int))) := hJ.pa (by omega) (by omega)
          obtain ⟨p, hp⟩ : ∃ p, p = jf_pa M k (((i : Nat) : Int)) := ⟨_, rfl⟩
          rw [← hp] at hth hok
          have hthA : g76 263 0 0 = jf_A p := hth.2.1
          have hA := jf_A_b hok
          have hpw := hp.trans (hpe ()).symm
          show R (67, [some (aR 7 0), some (aI h), some (aI goal), some (aR 1 k), some (aI (((i : Nat) : Int)))], [], am_mix [12, 13, 14, 263, 264, 265, 266, 346, 17, 19] g76 (am_wr (am_mix [12, 13, 14, 263, 264, 265, 266, 346, 17, 19, 100, 101, 102, 140, 141, 142, 143] g M) 142 5 0 (((i : Nat) : Int))))
          refine hR _ (hR _ (hR _ (hR _ (hR _ (hR _ (hR _ (?_)))))))
          show R (79, [some (aR 7 0), some (aI h), some (aI goal), some (aR 1 k), some (aI (((i : Nat) : Int)))], [aI goal, aR 1 5, aR 7 0, aI (((i : Nat) : Int)), aR 0 0], am_mix [12, 13, 14, 263, 264, 265, 266, 346, 17, 19] g76 (am_wr (am_mix [12, 13, 14, 263, 264, 265, 266, 346, 17, 19, 100, 101, 102, 140, 141, 142, 143] g M) 142 5 0 (((i : Nat) : Int))))
          suffices hJ : R (87, [some (aR 7 0), some (aI h), some (aI goal), some (aR 1 k), some (aI (((i : Nat) : Int)))], [aI (if goal ≠ 0 then 2 else 0), aR 1 5, aR 7 0, aI (((i : Nat) : Int)), aR 0 0], am_mix [12, 13, 14, 263, 264, 265, 266, 346, 17, 19] g76 (am_wr (am_mix [12, 13, 14, 263, 264, 265, 266, 346, 17, 19, 100, 101, 102, 140, 141, 142, 143] g M) 142 5 0 (((i : Nat) : Int)))) by
            refine hR _ (am_brc (rg := am_in goal) (P := goal ≠ 0) (A := R (86, [some (aR 7 0), some (aI h), some (aI goal), some (aR 1 k), some (aI (((i : Nat) : Int)))], [aR 1 5, aR 7 0, aI (((i : Nat) : Int)), aR 0 0], am_mix [12, 13, 14, 263, 264, 265, 266, 346, 17, 19] g76 (am_wr (am_mix [12, 13, 14, 263, 264, 265, 266, 346, 17, 19, 100, 101, 102, 140, 141, 142, 143] g M) 142 5 0 (((i : Nat) : Int))))) (B := R (82, [some (aR 7 0), some (aI h), some (aI goal), some (aR 1 k), some (aI (((i : Nat) : Int)))], [aR 1 5, aR 7 0, aI (((i : Nat) : Int)), aR 0 0], am_mix [12, 13, 14, 263, 264, 265, 266, 346, 17, 19] g76 (am_wr (am_mix [12, 13, 14, 263, 264, 265, 266, 346, 17, 19, 100, 101, 102, 140, 141, 142, 143] g M) 142 5 0 (((i : Nat) : Int))))) (by omega) (fun c79 => ?_) (fun c79 => ?_))
            · refine hR _ (?_)
              show R (87, [some (aR 7 0), some (aI h), some (aI goal), some (aR 1 k), some (aI (((i : Nat) : Int)))], [aI 2, aR 1 5, aR 7 0, aI (((i : Nat) : Int)), aR 0 0], am_mix [12, 13, 14, 263, 264, 265, 266, 346, 17, 19] g76 (am_wr (am_mix [12, 13, 14, 263, 264, 265, 266, 346, 17, 19, 100, 101, 102, 140, 141, 142, 143] g M) 142 5 0 (((i : Nat) : Int))))
              rw [if_pos (show goal ≠ 0 by omega)] at hJ
              exact hJ
            · refine hR _ (hR _ (?_))
              show R (87, [some (aR 7 0), some (aI h), some (aI goal), some (aR 1 k), some (aI (((i : Nat) : Int)))], [aI 0, aR 1 5, aR 7 0, aI (((i : Nat) : Int)), aR 0 0], am_mix [12, 13, 14, 263, 264, 265, 266, 346, 17, 19] g76 (am_wr (am_mix [12, 13, 14, 263, 264, 265, 266, 346, 17, 19, 100, 101, 102, 140, 141, 142, 143] g M) 142 5 0 (((i : Nat) : Int))))
              rw [if_neg (show ¬ (goal ≠ 0) by omega)] at hJ
              exact hJ
          show R (87, [some (aR 7 0), some (aI h), some (aI goal), some (aR 1 k), some (aI (((i : Nat) : Int)))], [aI (if goal ≠ 0 then 2 else 0), aR 1 5, aR 7 0, aI (((i : Nat) : Int)), aR 0 0], am_mix [12, 13, 14, 263, 264, 265, 266, 346, 17, 19] g76 (am_wr (am_mix [12, 13, 14, 263, 264, 265, 266, 346, 17, 19, 100, 101, 102, 140, 141, 142, 143] g M) 142 5 0 (((i : Nat) : Int))))
          refine hR _ (sp_worth (s0 := 0) (by omega) hpw hkw5 hlt hok hth (by omega) (fun g77 => ?_))
          have hwo87 := jf_wo_b hok ((if goal ≠ 0 then 2 else 0))
          show R (90, [some (aR 7 0), some (aI h), some (aI goal), some (aR 1 k), some (aI (((i : Nat) : Int)))], [aL (jf_wo p (if goal ≠ 0 then 2 else 0)), aI (((i : Nat) : Int)), aR 0 0], am_mix [346, 17, 19] g77 (am_mix [12, 13, 14, 263, 264, 265, 266, 346, 17, 19] g76 (am_wr (am_mix [12, 13, 14, 263, 264, 265, 266, 346, 17, 19, 100, 101, 102, 140, 141, 142, 143] g M) 142 5 0 (((i : Nat) : Int)))))
          refine hR _ (hR _ (hR _ (?_)))
          show R (97, [some (aR 7 0), some (aI h), some (aI goal), some (aR 1 k), some (aI (((i : Nat) : Int)))], [aI (g76 263 0 0), aL (jf_wo p (if goal ≠ 0 then 2 else 0)), aI (((i : Nat) : Int)), aR 0 0], am_mix [346, 17, 19] g77 (am_mix [12, 13, 14, 263, 264, 265, 266, 346, 17, 19] g76 (am_wr (am_mix [12, 13, 14, 263, 264, 265, 266, 346, 17, 19, 100, 101, 102, 140, 141, 142, 143] g M) 142 5 0 (((i : Nat) : Int)))))
          rw [hthA]
          show R (97, [some (aR 7 0), some (aI h), some (aI goal), some (aR 1 k), some (aI (((i : Nat) : Int)))], [aI (jf_A p), aL (jf_wo p (if goal ≠ 0 then 2 else 0)), aI (((i : Nat) : Int)), aR 0 0], am_mix [346, 17, 19] g77 (am_mix [12, 13, 14, 263, 264, 265, 266, 346, 17, 19] g76 (am_wr (am_mix [12, 13, 14, 263, 264, 265, 266, 346, 17, 19, 100, 101, 102, 140, 141, 142, 143] g M) 142 5 0 (((i : Nat) : Int)))))
          refine hR _ ⟨(by omega), ?_⟩
          show R (98, [some (aR 7 0), some (aI h), some (aI goal), some (aR 1 k), some (aI (((i : Nat) : Int)))], [aL (jf_A p), aL (jf_wo p (if goal ≠ 0 then 2 else 0)), aI (((i : Nat) : Int)), aR 0 0], am_mix [346, 17, 19] g77 (am_mix [12, 13, 14, 263, 264, 265, 266, 346, 17, 19] g76 (am_wr (am_mix [12, 13, 14, 263, 264, 265, 266, 346, 17, 19, 100, 101, 102, 140, 141, 142, 143] g M) 142 5 0 (((i : Nat) : Int)))))
          refine hR _ (sp_offer (by omega) (show am_in (g 100 0 0) from by omega) (show -1000000000000000000 ≤ (jf_wo p (if goal ≠ 0 then 2 else 0)) * g 102 0 0 ∧ (jf_wo p (if goal ≠ 0 then 2 else 0)) * g 102 0 0 ≤ 1000000000000000000 from by have hx := jf_mb (a := (jf_wo p (if goal ≠ 0 then 2 else 0))) (b := g 102 0 0) (A := 1000000000) (B := 65) (by omega) (by omega); omega) (show -1000000000000000000 ≤ g 101 0 0 * (jf_A p) ∧ g 101 0 0 * (jf_A p) ≤ 1000000000000000000 from by have hx := jf_mb (a := g 101 0 0) (b := (jf_A p)) (A := 1000000000) (B := 65) (by omega) (by omega); omega) (fun g78 hof => ?_))
          replace hof : (g78 100 0 0, g78 101 0 0, g78 102 0 0) = jf_bst (g 100 0 0, g 101 0 0, g 102 0 0) (((i : Nat) : Int)) (jf_wo p (if goal ≠ 0 then 2 else 0)) (jf_A p) := hof
          show R (101, [some (aR 7 0), some (aI h), some (aI goal), some (aR 1 k), some (aI (((i : Nat) : Int)))], [], am_mix [100, 101, 102] g78 (am_mix [346, 17, 19] g77 (am_mix [12, 13, 14, 263, 264, 265, 266, 346, 17, 19] g76 (am_wr (am_mix [12, 13, 14, 263, 264, 265, 266, 346, 17, 19, 100, 101, 102, 140, 141, 142, 143] g M) 142 5 0 (((i : Nat) : Int))))))
          refine hR _ (hR _ (?_))
          show R (43, [some (aR 7 0), some (aI h), some (aI goal), some (aR 1 k), some (aI ((((i : Nat) : Int)) + 1))], [], am_mix [100, 101, 102] g78 (am_mix [346, 17, 19] g77 (am_mix [12, 13, 14, 263, 264, 265, 266, 346, 17, 19] g76 (am_wr (am_mix [12, 13, 14, 263, 264, 265, 266, 346, 17, 19, 100, 101, 102, 140, 141, 142, 143] g M) 142 5 0 (((i : Nat) : Int))))))
          have e9 : am_ag [12, 13, 14, 263, 264, 265, 266, 346, 17, 19, 100, 101, 102, 140, 141, 142, 143] M (am_mix [100, 101, 102] g78 (am_mix [346, 17, 19] g77 (am_mix [12, 13, 14, 263, 264, 265, 266, 346, 17, 19] g76 (am_wr (am_mix [12, 13, 14, 263, 264, 265, 266, 346, 17, 19, 100, 101, 102, 140, 141, 142, 143] g M) 142 5 0 (((i : Nat) : Int)))))) := (((((am_ag.rf).mix rfl).wr rfl).mix rfl).mix rfl).mix rfl
          rw [e9.eq]
          refine ih (i + 1) _ none _ (by omega) (by omega) ?_ ?_ h5
          · refine hof.trans ?_
            rw [hst, hp]
            rfl
          · intro j hj
            have hw : ∀ v, (am_wr (am_mix [12, 13, 14, 263, 264, 265, 266, 346, 17, 19, 100, 101, 102, 140, 141, 142, 143] g M) 142 5 0 (((i : Nat) : Int))) v j 0 = am_mix [12, 13, 14, 263, 264, 265, 266, 346, 17, 19, 100, 101, 102, 140, 141, 142, 143] g M v j 0 := fun v => jf_wr5 hj
            exact ⟨(hw 140).trans (htr j hj).1, (hw 141).trans (htr j hj).2.1, (hw 142).trans (htr j hj).2.2.1, (hw 143).trans (htr j hj).2.2.2⟩
      have e9 : am_ag [12, 13, 14, 263, 264, 265, 266, 346, 17, 19, 100, 101, 102, 140, 141, 142, 143] M (am_wr (am_wr (am_wr (am_wr (am_wr (am_wr (am_wr M 100 0 0 (-1)) 101 0 0 0) 102 0 0 1) 140 5 0 (M 140 k 0)) 141 5 0 (M 141 k 0)) 142 5 0 (M 142 k 0)) 143 5 0 (M 143 k 0)) := (((((((am_ag.rf).wr rfl).wr rfl).wr rfl).wr rfl).wr rfl).wr rfl).wr rfl
      rw [e9.eq]
      refine key 100 0 _ none _ rfl rfl rfl ?_ ⟨rfl, rfl, rfl⟩
      intro j hj
      have hw : ∀ v, (am_wr (am_wr (am_wr (am_wr (am_wr (am_wr (am_wr M 100 0 0 (-1)) 101 0 0 0) 102 0 0 1) 140 5 0 (M 140 k 0)) 141 5 0 (M 141 k 0)) 142 5 0 (M 142 k 0)) 143 5 0 (M 143 k 0)) v j 0 = (am_wr (am_wr (am_wr M 100 0 0 (-1)) 101 0 0 0) 102 0 0 1) v j 0 := fun v => (jf_wr5 hj).trans ((jf_wr5 hj).trans ((jf_wr5 hj).trans (jf_wr5 hj)))
      exact ⟨hw 140, hw 141, hw 142, hw 143⟩
    · show R (19, [some (aR 7 0), some (aI h), some (aI goal), some (aR 1 k), none], [aI 0], M)
      refine hR _ (am_brf (rg := am_in 0) (P := (0 : Int) ≠ 0) (A := R (25, [some (aR 7 0), some (aI h), some (aI goal), some (aR 1 k), none], [], M)) (B := R (22, [some (aR 7 0), some (aI h), some (aI goal), some (aR 1 k), none], [], M)) (by omega) (by omega) ?_)
      show R (22, [some (aR 7 0), some (aI h), some (aI goal), some (aR 1 k), none], [], M)
      refine hR _ (?_)
      show R (24, [some (aR 7 0), some (aI h), some (aI goal), some (aR 1 k), none], [aI (-7)], M)
      refine hR _ (show K (some (aI (-7))) M from ?_)
      have hres : jx_ahead M h goal = (-7) := by
        unfold jx_ahead
        repeat' split
        all_goals first | omega | rfl
      rw [hres] at hK
      have e9 : am_ag [12, 13, 14, 263, 264, 265, 266, 346, 17, 19, 100, 101, 102, 140, 141, 142, 143] M M := am_ag.rf
      rw [e9.eq]
      exact hK _ (fun j hj => ⟨rfl, rfl, rfl, rfl⟩)
  · replace hno : ¬ (0 ≤ h ∧ h < M 227 0 0) := hno
    show R (5, [some (aR 7 0), some (aI h), some (aI goal), none, none], [aN], M)
    refine hR _ (hR _ (hR _ (hR _ (?_))))
    show R (12, [some (aR 7 0), some (aI h), some (aI goal), some (aN), none], [aI (-5)], M)
    refine hR _ (show K (some (aI (-5))) M from ?_)
    have hres : jx_ahead M h goal = (-5) := by
      unfold jx_ahead
      repeat' split
      all_goals first | omega | rfl
    rw [hres] at hK
    have e9 : am_ag [12, 13, 14, 263, 264, 265, 266, 346, 17, 19, 100, 101, 102, 140, 141, 142, 143] M M := am_ag.rf
    rw [e9.eq]
    exact hK _ (fun j hj => ⟨rfl, rfl, rfl, rfl⟩)

set_option maxHeartbeats 1000000 in
theorem sq_change {d : Nat} (hd : 8 ≤ d) {h goal : Int} {M : am_M} {K : am_K} (hJ : jf_J M) (ha_h : am_in h) (ha_g : am_in goal) (hK : ∀ g, jf_tr g M → K (some (aI (jx_change M h goal))) (am_mix [12, 13, 14, 263, 264, 265, 266, 346, 17, 19, 100, 101, 102, 140, 141, 142, 143] g M)) : am_Call wb d 80 [aR 7 0, aI h, aI goal] M K := by
  obtain ⟨d, rfl⟩ : ∃ e, d = e + 1 := ⟨d - 1, by omega⟩
  refine ⟨rfl, fun R hR hC => ?_⟩
  replace hR : ∀ c, am_F wb tb_f80 1 (am_Call wb d) K R c → R c := hR
  have hn := hJ.1.1.2.2.2.2.2.2.2.1
  have hl0 := hJ.1.1.2.2.2.2.2.2.2.2
  have htc := hJ.2.2.1.1
  have hlt : 0 ≤ M 228 0 0 ∧ M 228 0 0 < 6 := by omega
  have hmk := hJ.1.1.1
  have hdr := hJ.1.1.2.1
  have hpr := hJ.1.1.2.2.1
  have hfu := hJ.1.1.2.2.2.1
  show R (0, [some (aR 7 0), some (aI h), some (aI goal), none, none, none, none, none, none, none], [], M)
  refine hR _ (hR _ (?_))
  show R (2, [some (aR 7 0), some (aI h), some (aI goal), none, none, none, none, none, none, none], [aI h, aR 7 0], M)
  refine hR _ (sp_handAt (by omega) hn (by omega) (fun k hhk hk5 => ?_) (fun hno => ?_))
  · replace hk5 : (k : Int) < M 227 0 0 := hk5
    have hkw := hJ.wk (k := k) (by omega)
    have hok := hJ.px (k := k) (by omega)
    show R (5, [some (aR 7 0), some (aI h), some (aI goal), none, none, none, none, none, none, none], [aR 1 k], M)
    refine hR _ (hR _ (hR _ (hR _ (hR _ (hR _ (?_))))))
    show R (16, [some (aR 7 0), some (aI h), some (aI goal), some (aR 1 k), none, none, none, none, none, none], [aI 1, aI 0, aI goal], M)
    refine hR _ (sp_within (by omega) (by omega) (fun h16 => ?_) (fun h16 => ?_))
    · show R (19, [some (aR 7 0), some (aI h), some (aI goal), some (aR 1 k), none, none, none, none, none, none], [aI 1], M)
      refine hR _ (am_brt (rg := am_in 1) (P := (1 : Int) ≠ 0) (A := R (25, [some (aR 7 0), some (aI h), some (aI goal), some (aR 1 k), none, none, none, none, none, none], [], M)) (B := R (22, [some (aR 7 0), some (aI h), some (aI goal), some (aR 1 k), none, none, none, none, none, none], [], M)) (by omega) (by omega) ?_)
      show R (25, [some (aR 7 0), some (aI h), some (aI goal), some (aR 1 k), none, none, none, none, none, none], [], M)
      refine hR _ (hR _ (?_))
      show R (27, [some (aR 7 0), some (aI h), some (aI goal), some (aR 1 k), none, none, none, none, none, none], [aR 1 k, aR 7 0], M)
      refine hR _ (sp_Xthink (by omega) hkw hlt hok (fun g79 hth => ?_))
      obtain ⟨p, hp⟩ : ∃ p, p = jf_px M k := ⟨_, rfl⟩
      replace hth : jf_th (am_mix [12, 13, 14, 263, 264, 265, 266, 346, 17, 19] g79 M) (jf_px M k) := hth
      rw [← hp] at hth hok
      have hthA : g79 263 0 0 = jf_A p := hth.2.1
      have hthN : g79 264 0 0 = (jf_P p).2.2 := hth.2.2
      have hA := jf_A_b hok
      have hPb := jf_P_b hok
      show R (30, [some (aR 7 0), some (aI h), some (aI goal), some (aR 1 k), none, none, none, none, none, none], [], am_mix [12, 13, 14, 263, 264, 265, 266, 346, 17, 19] g79 M)
      refine hR _ (hR _ (hR _ (hR _ (hR _ (?_)))))
      show R (41, [some (aR 7 0), some (aI h), some (aI goal), some (aR 1 k), none, none, none, none, none, none], [aI (M 220 0 0), aR 4 0], am_mix [12, 13, 14, 263, 264, 265, 266, 346, 17, 19] g79 M)
      refine hR _ (sp_oftenAt (by omega) hok hth (by omega) ?_)
      have hat41 := jf_at_b hok (M 220 0 0)
      show R (44, [some (aR 7 0), some (aI h), some (aI goal), some (aR 1 k), none, none, none, none, none, none], [aL (jf_at p (M 220 0 0))], am_mix [12, 13, 14, 263, 264, 265, 266, 346, 17, 19] g79 M)
      refine hR _ (hR _ (hR _ (hR _ (?_))))
      show R (53, [some (aR 7 0), some (aI h), some (aI goal), some (aR 1 k), some (aL (jf_at p (M 220 0 0))), none, none, none, none, none], [aI (g79 263 0 0)], am_mix [12, 13, 14, 263, 264, 265, 266, 346, 17, 19] g79 M)
      rw [hthA]
      show R (53, [some (aR 7 0), some (aI h), some (aI goal), some (aR 1 k), some (aL (jf_at p (M 220 0 0))), none, none, none, none, none], [aI (jf_A p)], am_mix [12, 13, 14, 263, 264, 265, 266, 346, 17, 19] g79 M)
      refine hR _ ⟨(by omega), ?_⟩
      show R (54, [some (aR 7 0), some (aI h), some (aI goal), some (aR 1 k), some (aL (jf_at p (M 220 0 0))), none, none, none, none, none], [aL (jf_A p)], am_mix [12, 13, 14, 263, 264, 265, 266, 346, 17, 19] g79 M)
      refine hR _ (?_)
      show R (56, [some (aR 7 0), some (aI h), some (aI goal), some (aR 1 k), some (aL (jf_at p (M 220 0 0))), none, some (aL (jf_A p)), none, none, none], [], am_mix [12, 13, 14, 263, 264, 265, 266, 346, 17, 19] g79 M)
      obtain ⟨p0, hp0⟩ : ∃ p0, p0 = p := ⟨_, rfl⟩
      rw [← hp0]
      have hok0 := hok
      rw [← hp0] at hok0
      replace hp0 := hp0.trans hp
      have hA0 := jf_A_b hok0
      have hat0 := jf_at_b hok0 (M 220 0 0)
      show R (56, [some (aR 7 0), some (aI h), some (aI goal), some (aR 1 k), some (aL (jf_at p0 (M 220 0 0))), none, some (aL (jf_A p0)), none, none, none], [], am_mix [12, 13, 14, 263, 264, 265, 266, 346, 17, 19] g79 M)
      refine hR _ (hR _ (?_))
      show R (60, [some (aR 7 0), some (aI h), some (aI goal), some (aR 1 k), some (aL (jf_at p0 (M 220 0 0))), none, some (aL (jf_A p0)), none, none, none], [aR 0 0], am_mix [12, 13, 14, 263, 264, 265, 266, 346, 17, 19] g79 M)
      refine hR _ (sp_Best_start (by omega) ?_)
      show R (63, [some (aR 7 0), some (aI h), some (aI goal), some (aR 1 k), some (aL (jf_at p0 (M 220 0 0))), none, some (aL (jf_A p0)), none, none, none], [], am_wr (am_wr (am_wr (am_mix [12, 13, 14, 263, 264, 265, 266, 346, 17, 19] g79 M) 100 0 0 (-1)) 101 0 0 0) 102 0 0 1)
      refine hR _ (hR _ (hR _ (?_)))
      show R (68, [some (aR 7 0), some (aI h), some (aI goal), some (aR 1 k), some (aL (jf_at p0 (M 220 0 0))), none, some (aL (jf_A p0)), none, none, none], [aR 1 k, aR 1 5], am_wr (am_wr (am_wr (am_mix [12, 13, 14, 263, 264, 265, 266, 346, 17, 19] g79 M) 100 0 0 (-1)) 101 0 0 0) 102 0 0 1)
      refine hR _ (sp_Hand_becomeLike (by omega) (by omega) ?_)
      show R (71, [some (aR 7 0), some (aI h), some (aI goal), some (aR 1 k), some (aL (jf_at p0 (M 220 0 0))), none, some (aL (jf_A p0)), none, none, none], [], am_wr (am_wr (am_wr (am_wr (am_wr (am_wr (am_wr (am_mix [12, 13, 14, 263, 264, 265, 266, 346, 17, 19] g79 M) 100 0 0 (-1)) 101 0 0 0) 102 0 0 1) 140 5 0 (M 140 k 0)) 141 5 0 (M 141 k 0)) 142 5 0 (M 142 k 0)) 143 5 0 (M 143 k 0))
      refine hR _ (hR _ (?_))
      show R (74, [some (aR 7 0), some (aI h), some (aI goal), some (aR 1 k), some (aL (jf_at p0 (M 220 0 0))), none, some (aL (jf_A p0)), none, some (aI 0), none], [], am_wr (am_wr (am_wr (am_wr (am_wr (am_wr (am_wr (am_mix [12, 13, 14, 263, 264, 265, 266, 346, 17, 19] g79 M) 100 0 0 (-1)) 101 0 0 0) 102 0 0 1) 140 5 0 (M 140 k 0)) 141 5 0 (M 141 k 0)) 142 5 0 (M 142 k 0)) 143 5 0 (M 143 k 0))
      have hkw5 : jf_wk M 5 (M 228 0 0).toNat := hJ.wk (by omega)
      have hbnd : ∀ i : Nat, i ≤ 51 → jf_bp (jf_bc M k goal i) 1000000000 65 500 := jf_cb_b (by omega) (by omega) (by omega) (fun i hi => by
        have hok : jf_ok (jf_pc M k (10 * (i : Int))) := hJ.pc (by omega) (by omega)
        have h1 := jf_wo_b hok (if goal ≠ 0 then 1 else 0)
        have h2 := jf_A_b hok
        dsimp only
        omega)
      have key : ∀ (n i : Nat) (x : Int) (o9 : Option am_V) (g : am_M), x = 10 * (i : Int) → i + n = 51 → (g 100 0 0, g 101 0 0, g 102 0 0) = jf_bc M k goal i → jf_tr g M → (g 140 5 0 = M 140 k 0 ∧ g 141 5 0 = M 141 k 0 ∧ g 142 5 0 = M 142 k 0) → R (74, [some (aR 7 0), some (aI h), some (aI goal), some (aR 1 k), some (aL (jf_at p0 (M 220 0 0))), none, some (aL (jf_A p0)), none, some (aI x), o9], [], am_mix [12, 13, 14, 263, 264, 265, 266, 346, 17, 19, 100, 101, 102, 140, 141, 142, 143] g M) := by
        intro n
        induction n with
        | zero =>
          intro i x o9 g hx hin hst htr h5
          subst hx
          have hi : i = 51 := by omega
          refine hR _ (hR _ (hR _ (am_brt (rg := am_in (10 * ((i : Nat) : Int)) ∧ am_in 500) (P := 500 < (10 * ((i : Nat) : Int))) (A := R (191, [some (aR 7 0), some (aI h), some (aI goal), some (aR 1 k), some (aL (jf_at p0 (M 220 0 0))), none, some (aL (jf_A p0)), none, some (aI (10 * ((i : Nat) : Int))), o9], [], am_mix [12, 13, 14, 263, 264, 265, 266, 346, 17, 19, 100, 101, 102, 140, 141, 142, 143] g M)) (B := R (82, [some (aR 7 0), some (aI h), some (aI goal), some (aR 1 k), some (aL (jf_at p0 (M 220 0 0))), none, some (aL (jf_A p0)), none, some (aI (10 * ((i : Nat) : Int))), o9], [], am_mix [12, 13, 14, 263, 264, 265, 266, 346, 17, 19, 100, 101, 102, 140, 141, 142, 143] g M)) (by omega) (by omega) ?_)))
          show R (191, [some (aR 7 0), some (aI h), some (aI goal), some (aR 1 k), some (aL (jf_at p0 (M 220 0 0))), none, some (aL (jf_A p0)), none, some (aI (10 * ((i : Nat) : Int))), o9], [], am_mix [12, 13, 14, 263, 264, 265, 266, 346, 17, 19, 100, 101, 102, 140, 141, 142, 143] g M)
          refine hR _ (hR _ (hR _ (?_)))
          show R (198, [some (aR 7 0), some (aI h), some (aI goal), some (aR 1 k), some (aL (jf_at p0 (M 220 0 0))), none, some (aL (jf_A p0)), none, some (aI (10 * ((i : Nat) : Int))), o9], [aI (g 100 0 0)], am_mix [12, 13, 14, 263, 264, 265, 266, 346, 17, 19, 100, 101, 102, 140, 141, 142, 143] g M)
          refine hR _ (show K (some (aI (g 100 0 0))) (am_mix [12, 13, 14, 263, 264, 265, 266, 346, 17, 19, 100, 101, 102, 140, 141, 142, 143] g M) from ?_)
          have hres : jx_change M h goal = g 100 0 0 := by
            subst hhk
            unfold jx_change
            rw [if_pos (by omega), if_pos (by omega)]
            rw [hi] at hst
            exact (congrArg (fun z => z.1) hst).symm
          rw [hres] at hK
          exact hK _ htr
        | succ n ih =>
          intro i x o9 g hx hin hst htr h5
          subst hx
          have hb := hbnd i (by omega)
          rw [← hst] at hb
          have hb1 : -1 ≤ g 100 0 0 ∧ g 100 0 0 ≤ 500 := hb.1
          have hb2 : -1000000000 ≤ g 101 0 0 ∧ g 101 0 0 ≤ 1000000000 := hb.2.1
          have hb3 : 1 ≤ g 102 0 0 ∧ g 102 0 0 ≤ 65 := hb.2.2
          have hpe : ∀ _ : Unit, jf_px (am_wr (am_mix [12, 13, 14, 263, 264, 265, 266, 346, 17, 19, 100, 101, 102, 140, 141, 142, 143] g M) 143 5 0 (10 * ((i : Nat) : Int))) 5 = jf_pc M k (10 * ((i : Nat) : Int)) := fun _ => by
            show (g 140 5 0, g 141 5 0, g 142 5 0, (10 * ((i : Nat) : Int)), M 221 0 0, M 222 0 0, M 223 0 0, jf_tk M (M 228 0 0).toNat, M 220 0 0, 0) = _
            rw [h5.1, h5.2.1, h5.2.2]
          refine hR _ (hR _ (hR _ (am_brf (rg := am_in (10 * ((i : Nat) : Int)) ∧ am_in 500) (P := 500 < (10 * ((i : Nat) : Int))) (A := R (191, [some (aR 7 0), some (aI h), some (aI goal), some (aR 1 k), some (aL (jf_at p0 (M 220 0 0))), none, some (aL (jf_A p0)), none, some (aI (10 * ((i : Nat) : Int))), o9], [], am_mix [12, 13, 14, 263, 264, 265, 266, 346, 17, 19, 100, 101, 102, 140, 141, 142, 143] g M)) (B := R (82, [some (aR 7 0), some (aI h), some (aI goal), some (aR 1 k), some (aL (jf_at p0 (M 220 0 0))), none, some (aL (jf_A p0)), none, some (aI (10 * ((i : Nat) : Int))), o9], [], am_mix [12, 13, 14, 263, 264, 265, 266, 346, 17, 19, 100, 101, 102, 140, 141, 142, 143] g M)) (by omega) (by omega) ?_)))
          show R (82, [some (aR 7 0), some (aI h), some (aI goal), some (aR 1 k), some (aL (jf_at p0 (M 220 0 0))), none, some (aL (jf_A p0)), none, some (aI (10 * ((i : Nat) : Int))), o9], [], am_mix [12, 13, 14, 263, 264, 265, 266, 346, 17, 19, 100, 101, 102, 140, 141, 142, 143] g M)
          refine hR _ (hR _ (hR _ (hR _ (hR _ (hR _ (hR _ (?_)))))))
          show R (96, [some (aR 7 0), some (aI h), some (aI goal), some (aR 1 k), some (aL (jf_at p0 (M 220 0 0))), none, some (aL (jf_A p0)), none, some (aI (10 * ((i : Nat) : Int))), o9], [aR 1 5, aR 7 0], am_wr (am_mix [12, 13, 14, 263, 264, 265, 266, 346, 17, 19, 100, 101, 102, 140, 141, 142, 143] g M) 143 5 0 (10 * ((i : Nat) : Int)))
          refine hR _ (sp_Xthink (by omega) hkw5 hlt (show jf_ok (jf_px (am_wr (am_mix [12, 13, 14, 263, 264, 265, 266, 346, 17, 19, 100, 101, 102, 140, 141, 142, 143] g M) 143 5 0 (10 * ((i : Nat) : Int))) 5) from (hpe ()).symm ▸ hJ.pc (by omega) (by omega)) (fun g80 hth => ?_))
          replace hth : jf_th (am_mix [12, 13, 14, 263, 264, 265, 266, 346, 17, 19] g80 (am_wr (am_mix [12, 13, 14, 263, 264, 265, 266, 346, 17, 19, 100, 101, 102, 140, 141, 142, 143] g M) 143 5 0 (10 * ((i : Nat) : Int)))) (jf_px (am_wr (am_mix [12, 13, 14, 263, 264, 265, 266, 346, 17, 19, 100, 101, 102, 140, 141, 142, 143] g M) 143 5 0 (10 * ((i : Nat) : Int))) 5) := hth
          rw [hpe ()] at hth
          have hok : jf_ok (jf_pc M k (10 * ((i : Nat) : Int))) := hJ.pc (by omega) (by omega)
          obtain ⟨p, hp⟩ : ∃ p, p = jf_pc M k (10 * ((i : Nat) : Int)) := ⟨_, rfl⟩
          rw [← hp] at hth hok
          have hthA : g80 263 0 0 = jf_A p := hth.2.1
          have hA := jf_A_b hok
          have hpw := hp.trans (hpe ()).symm
          show R (99, [some (aR 7 0), some (aI h), some (aI goal), some (aR 1 k), some (aL (jf_at p0 (M 220 0 0))), none, some (aL (jf_A p0)), none, some (aI (10 * ((i : Nat) : Int))), o9], [], am_mix [12, 13, 14, 263, 264, 265, 266, 346, 17, 19] g80 (am_wr (am_mix [12, 13, 14, 263, 264, 265, 266, 346, 17, 19, 100, 101, 102, 140, 141, 142, 143] g M) 143 5 0 (10 * ((i : Nat) : Int))))
          refine hR _ (hR _ (hR _ (hR _ (hR _ (?_)))))
          show R (110, [some (aR 7 0), some (aI h), some (aI goal), some (aR 1 k), some (aL (jf_at p0 (M 220 0 0))), none, some (aL (jf_A p0)), none, some (aI (10 * ((i : Nat) : Int))), o9], [aI (M 220 0 0), aR 4 0], am_mix [12, 13, 14, 263, 264, 265, 266, 346, 17, 19] g80 (am_wr (am_mix [12, 13, 14, 263, 264, 265, 266, 346, 17, 19, 100, 101, 102, 140, 141, 142, 143] g M) 143 5 0 (10 * ((i : Nat) : Int))))
          refine hR _ (sp_oftenAt (by omega) hok hth (by omega) ?_)
          have hat110 := jf_at_b hok (M 220 0 0)
          show R (113, [some (aR 7 0), some (aI h), some (aI goal), some (aR 1 k), some (aL (jf_at p0 (M 220 0 0))), none, some (aL (jf_A p0)), none, some (aI (10 * ((i : Nat) : Int))), o9], [aL (jf_at p (M 220 0 0))], am_mix [12, 13, 14, 263, 264, 265, 266, 346, 17, 19] g80 (am_wr (am_mix [12, 13, 14, 263, 264, 265, 266, 346, 17, 19, 100, 101, 102, 140, 141, 142, 143] g M) 143 5 0 (10 * ((i : Nat) : Int))))
          refine hR _ (hR _ (hR _ (hR _ (hR _ (hR _ (?_))))))
          show R (125, [some (aR 7 0), some (aI h), some (aI goal), some (aR 1 k), some (aL (jf_at p0 (M 220 0 0))), none, some (aL (jf_A p0)), none, some (aI (10 * ((i : Nat) : Int))), o9], [aI (g80 263 0 0), aL (jf_at p0 (M 220 0 0)), aL ((jf_at p (M 220 0 0)) * (jf_A p0))], am_mix [12, 13, 14, 263, 264, 265, 266, 346, 17, 19] g80 (am_wr (am_mix [12, 13, 14, 263, 264, 265, 266, 346, 17, 19, 100, 101, 102, 140, 141, 142, 143] g M) 143 5 0 (10 * ((i : Nat) : Int))))
          rw [hthA]
          show R (125, [some (aR 7 0), some (aI h), some (aI goal), some (aR 1 k), some (aL (jf_at p0 (M 220 0 0))), none, some (aL (jf_A p0)), none, some (aI (10 * ((i : Nat) : Int))), o9], [aI (jf_A p), aL (jf_at p0 (M 220 0 0)), aL ((jf_at p (M 220 0 0)) * (jf_A p0))], am_mix [12, 13, 14, 263, 264, 265, 266, 346, 17, 19] g80 (am_wr (am_mix [12, 13, 14, 263, 264, 265, 266, 346, 17, 19, 100, 101, 102, 140, 141, 142, 143] g M) 143 5 0 (10 * ((i : Nat) : Int))))
          refine hR _ ⟨(by omega), ?_⟩
          show R (126, [some (aR 7 0), some (aI h), some (aI goal), some (aR 1 k), some (aL (jf_at p0 (M 220 0 0))), none, some (aL (jf_A p0)), none, some (aI (10 * ((i : Nat) : Int))), o9], [aL (jf_A p), aL (jf_at p0 (M 220 0 0)), aL ((jf_at p (M 220 0 0)) * (jf_A p0))], am_mix [12, 13, 14, 263, 264, 265, 266, 346, 17, 19] g80 (am_wr (am_mix [12, 13, 14, 263, 264, 265, 266, 346, 17, 19, 100, 101, 102, 140, 141, 142, 143] g M) 143 5 0 (10 * ((i : Nat) : Int))))
          refine hR _ (?_)
          show R (127, [some (aR 7 0), some (aI h), some (aI goal), some (aR 1 k), some (aL (jf_at p0 (M 220 0 0))), none, some (aL (jf_A p0)), none, some (aI (10 * ((i : Nat) : Int))), o9], [aL ((jf_at p0 (M 220 0 0)) * (jf_A p)), aL ((jf_at p (M 220 0 0)) * (jf_A p0))], am_mix [12, 13, 14, 263, 264, 265, 266, 346, 17, 19] g80 (am_wr (am_mix [12, 13, 14, 263, 264, 265, 266, 346, 17, 19, 100, 101, 102, 140, 141, 142, 143] g M) 143 5 0 (10 * ((i : Nat) : Int))))
          have hm1 := jf_mb (a := jf_at p (M 220 0 0)) (b := jf_A p0) (A := 65) (B := 65) (by omega) (by omega)
          have hm2 := jf_mb (a := jf_at p0 (M 220 0 0)) (b := jf_A p) (A := 65) (B := 65) (by omega) (by omega)
          refine am_lc (x := ((jf_at p (M 220 0 0)) * (jf_A p0))) (y := ((jf_at p0 (M 220 0 0)) * (jf_A p))) (P := ((jf_at p0 (M 220 0 0)) * (jf_A p)) ≤ ((jf_at p (M 220 0 0)) * (jf_A p0))) (A := R (135, [some (aR 7 0), some (aI h), some (aI goal), some (aR 1 k), some (aL (jf_at p0 (M 220 0 0))), none, some (aL (jf_A p0)), none, some (aI (10 * ((i : Nat) : Int))), o9], [], am_mix [12, 13, 14, 263, 264, 265, 266, 346, 17, 19] g80 (am_wr (am_mix [12, 13, 14, 263, 264, 265, 266, 346, 17, 19, 100, 101, 102, 140, 141, 142, 143] g M) 143 5 0 (10 * ((i : Nat) : Int))))) (B := R (131, [some (aR 7 0), some (aI h), some (aI goal), some (aR 1 k), some (aL (jf_at p0 (M 220 0 0))), none, some (aL (jf_A p0)), none, some (aI (10 * ((i : Nat) : Int))), o9], [], am_mix [12, 13, 14, 263, 264, 265, 266, 346, 17, 19] g80 (am_wr (am_mix [12, 13, 14, 263, 264, 265, 266, 346, 17, 19, 100, 101, 102, 140, 141, 142, 143] g M) 143 5 0 (10 * ((i : Nat) : Int))))) (by omega) (fun hA hB => hR _ ⟨(by omega), (fun hz => hR _ (am_brf (P := 0 ≤ (-1 : Int)) (A := R (135, [some (aR 7 0), some (aI h), some (aI goal), some (aR 1 k), some (aL (jf_at p0 (M 220 0 0))), none, some (aL (jf_A p0)), none, some (aI (10 * ((i : Nat) : Int))), o9], [], am_mix [12, 13, 14, 263, 264, 265, 266, 346, 17, 19] g80 (am_wr (am_mix [12, 13, 14, 263, 264, 265, 266, 346, 17, 19, 100, 101, 102, 140, 141, 142, 143] g M) 143 5 0 (10 * ((i : Nat) : Int))))) (B := R (131, [some (aR 7 0), some (aI h), some (aI goal), some (aR 1 k), some (aL (jf_at p0 (M 220 0 0))), none, some (aL (jf_A p0)), none, some (aI (10 * ((i : Nat) : Int))), o9], [], am_mix [12, 13, 14, 263, 264, 265, 266, 346, 17, 19] g80 (am_wr (am_mix [12, 13, 14, 263, 264, 265, 266, 346, 17, 19, 100, 101, 102, 140, 141, 142, 143] g M) 143 5 0 (10 * ((i : Nat) : Int))))) (by omega) (by omega) (hB (by omega)))), (fun hz => hR _ (am_brt (P := 0 ≤ (0 : Int)) (A := R (135, [some (aR 7 0), some (aI h), some (aI goal), some (aR 1 k), some (aL (jf_at p0 (M 220 0 0))), none, some (aL (jf_A p0)), none, some (aI (10 * ((i : Nat) : Int))), o9], [], am_mix [12, 13, 14, 263, 264, 265, 266, 346, 17, 19] g80 (am_wr (am_mix [12, 13, 14, 263, 264, 265, 266, 346, 17, 19, 100, 101, 102, 140, 141, 142, 143] g M) 143 5 0 (10 * ((i : Nat) : Int))))) (B := R (131, [some (aR 7 0), some (aI h), some (aI goal), some (aR 1 k), some (aL (jf_at p0 (M 220 0 0))), none, some (aL (jf_A p0)), none, some (aI (10 * ((i : Nat) : Int))), o9], [], am_mix [12, 13, 14, 263, 264, 265, 266, 346, 17, 19] g80 (am_wr (am_mix [12, 13, 14, 263, 264, 265, 266, 346, 17, 19, 100, 101, 102, 140, 141, 142, 143] g M) 143 5 0 (10 * ((i : Nat) : Int))))) (by omega) (by omega) (hA (by omega)))), (fun hz => hR _ (am_brt (P := 0 ≤ (1 : Int)) (A := R (135, [some (aR 7 0), some (aI h), some (aI goal), some (aR 1 k), some (aL (jf_at p0 (M 220 0 0))), none, some (aL (jf_A p0)), none, some (aI (10 * ((i : Nat) : Int))), o9], [], am_mix [12, 13, 14, 263, 264, 265, 266, 346, 17, 19] g80 (am_wr (am_mix [12, 13, 14, 263, 264, 265, 266, 346, 17, 19, 100, 101, 102, 140, 141, 142, 143] g M) 143 5 0 (10 * ((i : Nat) : Int))))) (B := R (131, [some (aR 7 0), some (aI h), some (aI goal), some (aR 1 k), some (aL (jf_at p0 (M 220 0 0))), none, some (aL (jf_A p0)), none, some (aI (10 * ((i : Nat) : Int))), o9], [], am_mix [12, 13, 14, 263, 264, 265, 266, 346, 17, 19] g80 (am_wr (am_mix [12, 13, 14, 263, 264, 265, 266, 346, 17, 19, 100, 101, 102, 140, 141, 142, 143] g M) 143 5 0 (10 * ((i : Nat) : Int))))) (by omega) (by omega) (hA (by omega))))⟩) (fun c127 => ?_) (fun c127 => ?_)
          · refine hR _ (hR _ (hR _ (hR _ (hR _ (am_brc (rg := am_in goal ∧ am_in 1) (P := goal ≠ 1) (A := R (151, [some (aR 7 0), some (aI h), some (aI goal), some (aR 1 k), some (aL (jf_at p0 (M 220 0 0))), none, some (aL (jf_A p0)), none, some (aI (10 * ((i : Nat) : Int))), some (aI 0)], [], am_mix [12, 13, 14, 263, 264, 265, 266, 346, 17, 19] g80 (am_wr (am_mix [12, 13, 14, 263, 264, 265, 266, 346, 17, 19, 100, 101, 102, 140, 141, 142, 143] g M) 143 5 0 (10 * ((i : Nat) : Int))))) (B := R (143, [some (aR 7 0), some (aI h), some (aI goal), some (aR 1 k), some (aL (jf_at p0 (M 220 0 0))), none, some (aL (jf_A p0)), none, some (aI (10 * ((i : Nat) : Int))), some (aI 0)], [], am_mix [12, 13, 14, 263, 264, 265, 266, 346, 17, 19] g80 (am_wr (am_mix [12, 13, 14, 263, 264, 265, 266, 346, 17, 19, 100, 101, 102, 140, 141, 142, 143] g M) 143 5 0 (10 * ((i : Nat) : Int))))) (by omega) (fun c140 => ?_) (fun c140 => ?_))))))
            · refine hR _ (hR _ (hR _ (hR _ (hR _ (hR _ (hR _ (?_)))))))
              show R (163, [some (aR 7 0), some (aI h), some (aI goal), some (aR 1 k), some (aL (jf_at p0 (M 220 0 0))), none, some (aL (jf_A p0)), none, some (aI (10 * ((i : Nat) : Int))), some (aI 0)], [aI goal, aR 1 5, aR 7 0, aI (10 * ((i : Nat) : Int)), aR 0 0], am_mix [12, 13, 14, 263, 264, 265, 266, 346, 17, 19] g80 (am_wr (am_mix [12, 13, 14, 263, 264, 265, 266, 346, 17, 19, 100, 101, 102, 140, 141, 142, 143] g M) 143 5 0 (10 * ((i : Nat) : Int))))
              suffices hJ : R (171, [some (aR 7 0), some (aI h), some (aI goal), some (aR 1 k), some (aL (jf_at p0 (M 220 0 0))), none, some (aL (jf_A p0)), none, some (aI (10 * ((i : Nat) : Int))), some (aI 0)], [aI (if goal ≠ 0 then 1 else 0), aR 1 5, aR 7 0, aI (10 * ((i : Nat) : Int)), aR 0 0], am_mix [12, 13, 14, 263, 264, 265, 266, 346, 17, 19] g80 (am_wr (am_mix [12, 13, 14, 263, 264, 265, 266, 346, 17, 19, 100, 101, 102, 140, 141, 142, 143] g M) 143 5 0 (10 * ((i : Nat) : Int)))) by
                refine hR _ (am_brc (rg := am_in goal) (P := goal ≠ 0) (A := R (170, [some (aR 7 0), some (aI h), some (aI goal), some (aR 1 k), some (aL (jf_at p0 (M 220 0 0))), none, some (aL (jf_A p0)), none, some (aI (10 * ((i : Nat) : Int))), some (aI 0)], [aR 1 5, aR 7 0, aI (10 * ((i : Nat) : Int)), aR 0 0], am_mix [12, 13, 14, 263, 264, 265, 266, 346, 17, 19] g80 (am_wr (am_mix [12, 13, 14, 263, 264, 265, 266, 346, 17, 19, 100, 101, 102, 140, 141, 142, 143] g M) 143 5 0 (10 * ((i : Nat) : Int))))) (B := R (166, [some (aR 7 0), some (aI h), some (aI goal), some (aR 1 k), some (aL (jf_at p0 (M 220 0 0))), none, some (aL (jf_A p0)), none, some (aI (10 * ((i : Nat) : Int))), some (aI 0)], [aR 1 5, aR 7 0, aI (10 * ((i : Nat) : Int)), aR 0 0], am_mix [12, 13, 14, 263, 264, 265, 266, 346, 17, 19] g80 (am_wr (am_mix [12, 13, 14, 263, 264, 265, 266, 346, 17, 19, 100, 101, 102, 140, 141, 142, 143] g M) 143 5 0 (10 * ((i : Nat) : Int))))) (by omega) (fun c163 => ?_) (fun c163 => ?_))
                · refine hR _ (?_)
                  show R (171, [some (aR 7 0), some (aI h), some (aI goal), some (aR 1 k), some (aL (jf_at p0 (M 220 0 0))), none, some (aL (jf_A p0)), none, some (aI (10 * ((i : Nat) : Int))), some (aI 0)], [aI 1, aR 1 5, aR 7 0, aI (10 * ((i : Nat) : Int)), aR 0 0], am_mix [12, 13, 14, 263, 264, 265, 266, 346, 17, 19] g80 (am_wr (am_mix [12, 13, 14, 263, 264, 265, 266, 346, 17, 19, 100, 101, 102, 140, 141, 142, 143] g M) 143 5 0 (10 * ((i : Nat) : Int))))
                  rw [if_pos (show goal ≠ 0 by omega)] at hJ
                  exact hJ
                · refine hR _ (hR _ (?_))
                  show R (171, [some (aR 7 0), some (aI h), some (aI goal), some (aR 1 k), some (aL (jf_at p0 (M 220 0 0))), none, some (aL (jf_A p0)), none, some (aI (10 * ((i : Nat) : Int))), some (aI 0)], [aI 0, aR 1 5, aR 7 0, aI (10 * ((i : Nat) : Int)), aR 0 0], am_mix [12, 13, 14, 263, 264, 265, 266, 346, 17, 19] g80 (am_wr (am_mix [12, 13, 14, 263, 264, 265, 266, 346, 17, 19, 100, 101, 102, 140, 141, 142, 143] g M) 143 5 0 (10 * ((i : Nat) : Int))))
                  rw [if_neg (show ¬ (goal ≠ 0) by omega)] at hJ
                  exact hJ
              show R (171, [some (aR 7 0), some (aI h), some (aI goal), some (aR 1 k), some (aL (jf_at p0 (M 220 0 0))), none, some (aL (jf_A p0)), none, some (aI (10 * ((i : Nat) : Int))), some (aI 0)], [aI (if goal ≠ 0 then 1 else 0), aR 1 5, aR 7 0, aI (10 * ((i : Nat) : Int)), aR 0 0], am_mix [12, 13, 14, 263, 264, 265, 266, 346, 17, 19] g80 (am_wr (am_mix [12, 13, 14, 263, 264, 265, 266, 346, 17, 19, 100, 101, 102, 140, 141, 142, 143] g M) 143 5 0 (10 * ((i : Nat) : Int))))
              refine hR _ (sp_worth (s0 := 0) (by omega) hpw hkw5 hlt hok hth (by omega) (fun g81 => ?_))
              have hwo171 := jf_wo_b hok ((if goal ≠ 0 then 1 else 0))
              show R (174, [some (aR 7 0), some (aI h), some (aI goal), some (aR 1 k), some (aL (jf_at p0 (M 220 0 0))), none, some (aL (jf_A p0)), none, some (aI (10 * ((i : Nat) : Int))), some (aI 0)], [aL (jf_wo p (if goal ≠ 0 then 1 else 0)), aI (10 * ((i : Nat) : Int)), aR 0 0], am_mix [346, 17, 19] g81 (am_mix [12, 13, 14, 263, 264, 265, 266, 346, 17, 19] g80 (am_wr (am_mix [12, 13, 14, 263, 264, 265, 266, 346, 17, 19, 100, 101, 102, 140, 141, 142, 143] g M) 143 5 0 (10 * ((i : Nat) : Int)))))
              refine hR _ (hR _ (hR _ (?_)))
              show R (181, [some (aR 7 0), some (aI h), some (aI goal), some (aR 1 k), some (aL (jf_at p0 (M 220 0 0))), none, some (aL (jf_A p0)), none, some (aI (10 * ((i : Nat) : Int))), some (aI 0)], [aI (g80 263 0 0), aL (jf_wo p (if goal ≠ 0 then 1 else 0)), aI (10 * ((i : Nat) : Int)), aR 0 0], am_mix [346, 17, 19] g81 (am_mix [12, 13, 14, 263, 264, 265, 266, 346, 17, 19] g80 (am_wr (am_mix [12, 13, 14, 263, 264, 265, 266, 346, 17, 19, 100, 101, 102, 140, 141, 142, 143] g M) 143 5 0 (10 * ((i : Nat) : Int)))))
              rw [hthA]
              show R (181, [some (aR 7 0), some (aI h), some (aI goal), some (aR 1 k), some (aL (jf_at p0 (M 220 0 0))), none, some (aL (jf_A p0)), none, some (aI (10 * ((i : Nat) : Int))), some (aI 0)], [aI (jf_A p), aL (jf_wo p (if goal ≠ 0 then 1 else 0)), aI (10 * ((i : Nat) : Int)), aR 0 0], am_mix [346, 17, 19] g81 (am_mix [12, 13, 14, 263, 264, 265, 266, 346, 17, 19] g80 (am_wr (am_mix [12, 13, 14, 263, 264, 265, 266, 346, 17, 19, 100, 101, 102, 140, 141, 142, 143] g M) 143 5 0 (10 * ((i : Nat) : Int)))))
              refine hR _ ⟨(by omega), ?_⟩
              show R (182, [some (aR 7 0), some (aI h), some (aI goal), some (aR 1 k), some (aL (jf_at p0 (M 220 0 0))), none, some (aL (jf_A p0)), none, some (aI (10 * ((i : Nat) : Int))), some (aI 0)], [aL (jf_A p), aL (jf_wo p (if goal ≠ 0 then 1 else 0)), aI (10 * ((i : Nat) : Int)), aR 0 0], am_mix [346, 17, 19] g81 (am_mix [12, 13, 14, 263, 264, 265, 266, 346, 17, 19] g80 (am_wr (am_mix [12, 13, 14, 263, 264, 265, 266, 346, 17, 19, 100, 101, 102, 140, 141, 142, 143] g M) 143 5 0 (10 * ((i : Nat) : Int)))))
              refine hR _ (sp_offer (by omega) (show am_in (g 100 0 0) from by omega) (show -1000000000000000000 ≤ (jf_wo p (if goal ≠ 0 then 1 else 0)) * g 102 0 0 ∧ (jf_wo p (if goal ≠ 0 then 1 else 0)) * g 102 0 0 ≤ 1000000000000000000 from by have hx := jf_mb (a := (jf_wo p (if goal ≠ 0 then 1 else 0))) (b := g 102 0 0) (A := 1000000000) (B := 65) (by omega) (by omega); omega) (show -1000000000000000000 ≤ g 101 0 0 * (jf_A p) ∧ g 101 0 0 * (jf_A p) ≤ 1000000000000000000 from by have hx := jf_mb (a := g 101 0 0) (b := (jf_A p)) (A := 1000000000) (B := 65) (by omega) (by omega); omega) (fun g82 hof => ?_))
              replace hof : (g82 100 0 0, g82 101 0 0, g82 102 0 0) = jf_bst (g 100 0 0, g 101 0 0, g 102 0 0) (10 * ((i : Nat) : Int)) (jf_wo p (if goal ≠ 0 then 1 else 0)) (jf_A p) := hof
              show R (185, [some (aR 7 0), some (aI h), some (aI goal), some (aR 1 k), some (aL (jf_at p0 (M 220 0 0))), none, some (aL (jf_A p0)), none, some (aI (10 * ((i : Nat) : Int))), some (aI 0)], [], am_mix [100, 101, 102] g82 (am_mix [346, 17, 19] g81 (am_mix [12, 13, 14, 263, 264, 265, 266, 346, 17, 19] g80 (am_wr (am_mix [12, 13, 14, 263, 264, 265, 266, 346, 17, 19, 100, 101, 102, 140, 141, 142, 143] g M) 143 5 0 (10 * ((i : Nat) : Int))))))
              refine hR _ (hR _ (?_))
              show R (74, [some (aR 7 0), some (aI h), some (aI goal), some (aR 1 k), some (aL (jf_at p0 (M 220 0 0))), none, some (aL (jf_A p0)), none, some (aI ((10 * ((i : Nat) : Int)) + 10)), some (aI 0)], [], am_mix [100, 101, 102] g82 (am_mix [346, 17, 19] g81 (am_mix [12, 13, 14, 263, 264, 265, 266, 346, 17, 19] g80 (am_wr (am_mix [12, 13, 14, 263, 264, 265, 266, 346, 17, 19, 100, 101, 102, 140, 141, 142, 143] g M) 143 5 0 (10 * ((i : Nat) : Int))))))
              have e9 : am_ag [12, 13, 14, 263, 264, 265, 266, 346, 17, 19, 100, 101, 102, 140, 141, 142, 143] M (am_mix [100, 101, 102] g82 (am_mix [346, 17, 19] g81 (am_mix [12, 13, 14, 263, 264, 265, 266, 346, 17, 19] g80 (am_wr (am_mix [12, 13, 14, 263, 264, 265, 266, 346, 17, 19, 100, 101, 102, 140, 141, 142, 143] g M) 143 5 0 (10 * ((i : Nat) : Int)))))) := (((((am_ag.rf).mix rfl).wr rfl).mix rfl).mix rfl).mix rfl
              rw [e9.eq]
              refine ih (i + 1) _ _ _ (by omega) (by omega) ?_ ?_ h5
              · refine hof.trans ?_
                rw [hst, jf_bc_s, ← hp, ← hp0, decide_eq_false (show ¬ (goal = 1 ∧ ¬ jf_at p0 (M 220 0 0) * jf_A p ≤ jf_at p (M 220 0 0) * jf_A p0) by omega)]
                rfl
              · intro j hj
                have hw : ∀ v, (am_wr (am_mix [12, 13, 14, 263, 264, 265, 266, 346, 17, 19, 100, 101, 102, 140, 141, 142, 143] g M) 143 5 0 (10 * ((i : Nat) : Int))) v j 0 = am_mix [12, 13, 14, 263, 264, 265, 266, 346, 17, 19, 100, 101, 102, 140, 141, 142, 143] g M v j 0 := fun v => jf_wr5 hj
                exact ⟨(hw 140).trans (htr j hj).1, (hw 141).trans (htr j hj).2.1, (hw 142).trans (htr j hj).2.2.1, (hw 143).trans (htr j hj).2.2.2⟩
            · refine hR _ (hR _ (am_brt (rg := am_in 0) (P := (0 : Int) = 0) (A := R (151, [some (aR 7 0), some (aI h), some (aI goal), some (aR 1 k), some (aL (jf_at p0 (M 220 0 0))), none, some (aL (jf_A p0)), none, some (aI (10 * ((i : Nat) : Int))), some (aI 0)], [], am_mix [12, 13, 14, 263, 264, 265, 266, 346, 17, 19] g80 (am_wr (am_mix [12, 13, 14, 263, 264, 265, 266, 346, 17, 19, 100, 101, 102, 140, 141, 142, 143] g M) 143 5 0 (10 * ((i : Nat) : Int))))) (B := R (148, [some (aR 7 0), some (aI h), some (aI goal), some (aR 1 k), some (aL (jf_at p0 (M 220 0 0))), none, some (aL (jf_A p0)), none, some (aI (10 * ((i : Nat) : Int))), some (aI 0)], [], am_mix [12, 13, 14, 263, 264, 265, 266, 346, 17, 19] g80 (am_wr (am_mix [12, 13, 14, 263, 264, 265, 266, 346, 17, 19, 100, 101, 102, 140, 141, 142, 143] g M) 143 5 0 (10 * ((i : Nat) : Int))))) (by omega) (by omega) ?_))
              show R (151, [some (aR 7 0), some (aI h), some (aI goal), some (aR 1 k), some (aL (jf_at p0 (M 220 0 0))), none, some (aL (jf_A p0)), none, some (aI (10 * ((i : Nat) : Int))), some (aI 0)], [], am_mix [12, 13, 14, 263, 264, 265, 266, 346, 17, 19] g80 (am_wr (am_mix [12, 13, 14, 263, 264, 265, 266, 346, 17, 19, 100, 101, 102, 140, 141, 142, 143] g M) 143 5 0 (10 * ((i : Nat) : Int))))
              refine hR _ (hR _ (hR _ (hR _ (hR _ (hR _ (hR _ (?_)))))))
              show R (163, [some (aR 7 0), some (aI h), some (aI goal), some (aR 1 k), some (aL (jf_at p0 (M 220 0 0))), none, some (aL (jf_A p0)), none, some (aI (10 * ((i : Nat) : Int))), some (aI 0)], [aI goal, aR 1 5, aR 7 0, aI (10 * ((i : Nat) : Int)), aR 0 0], am_mix [12, 13, 14, 263, 264, 265, 266, 346, 17, 19] g80 (am_wr (am_mix [12, 13, 14, 263, 264, 265, 266, 346, 17, 19, 100, 101, 102, 140, 141, 142, 143] g M) 143 5 0 (10 * ((i : Nat) : Int))))
              suffices hJ : R (171, [some (aR 7 0), some (aI h), some (aI goal), some (aR 1 k), some (aL (jf_at p0 (M 220 0 0))), none, some (aL (jf_A p0)), none, some (aI (10 * ((i : Nat) : Int))), some (aI 0)], [aI (if goal ≠ 0 then 1 else 0), aR 1 5, aR 7 0, aI (10 * ((i : Nat) : Int)), aR 0 0], am_mix [12, 13, 14, 263, 264, 265, 266, 346, 17, 19] g80 (am_wr (am_mix [12, 13, 14, 263, 264, 265, 266, 346, 17, 19, 100, 101, 102, 140, 141, 142, 143] g M) 143 5 0 (10 * ((i : Nat) : Int)))) by
                refine hR _ (am_brc (rg := am_in goal) (P := goal ≠ 0) (A := R (170, [some (aR 7 0), some (aI h), some (aI goal), some (aR 1 k), some (aL (jf_at p0 (M 220 0 0))), none, some (aL (jf_A p0)), none, some (aI (10 * ((i : Nat) : Int))), some (aI 0)], [aR 1 5, aR 7 0, aI (10 * ((i : Nat) : Int)), aR 0 0], am_mix [12, 13, 14, 263, 264, 265, 266, 346, 17, 19] g80 (am_wr (am_mix [12, 13, 14, 263, 264, 265, 266, 346, 17, 19, 100, 101, 102, 140, 141, 142, 143] g M) 143 5 0 (10 * ((i : Nat) : Int))))) (B := R (166, [some (aR 7 0), some (aI h), some (aI goal), some (aR 1 k), some (aL (jf_at p0 (M 220 0 0))), none, some (aL (jf_A p0)), none, some (aI (10 * ((i : Nat) : Int))), some (aI 0)], [aR 1 5, aR 7 0, aI (10 * ((i : Nat) : Int)), aR 0 0], am_mix [12, 13, 14, 263, 264, 265, 266, 346, 17, 19] g80 (am_wr (am_mix [12, 13, 14, 263, 264, 265, 266, 346, 17, 19, 100, 101, 102, 140, 141, 142, 143] g M) 143 5 0 (10 * ((i : Nat) : Int))))) (by omega) (fun c163 => ?_) (fun c163 => ?_))
                · refine hR _ (?_)
                  show R (171, [some (aR 7 0), some (aI h), some (aI goal), some (aR 1 k), some (aL (jf_at p0 (M 220 0 0))), none, some (aL (jf_A p0)), none, some (aI (10 * ((i : Nat) : Int))), some (aI 0)], [aI 1, aR 1 5, aR 7 0, aI (10 * ((i : Nat) : Int)), aR 0 0], am_mix [12, 13, 14, 263, 264, 265, 266, 346, 17, 19] g80 (am_wr (am_mix [12, 13, 14, 263, 264, 265, 266, 346, 17, 19, 100, 101, 102, 140, 141, 142, 143] g M) 143 5 0 (10 * ((i : Nat) : Int))))
                  rw [if_pos (show goal ≠ 0 by omega)] at hJ
                  exact hJ
                · refine hR _ (hR _ (?_))
                  show R (171, [some (aR 7 0), some (aI h), some (aI goal), some (aR 1 k), some (aL (jf_at p0 (M 220 0 0))), none, some (aL (jf_A p0)), none, some (aI (10 * ((i : Nat) : Int))), some (aI 0)], [aI 0, aR 1 5, aR 7 0, aI (10 * ((i : Nat) : Int)), aR 0 0], am_mix [12, 13, 14, 263, 264, 265, 266, 346, 17, 19] g80 (am_wr (am_mix [12, 13, 14, 263, 264, 265, 266, 346, 17, 19, 100, 101, 102, 140, 141, 142, 143] g M) 143 5 0 (10 * ((i : Nat) : Int))))
                  rw [if_neg (show ¬ (goal ≠ 0) by omega)] at hJ
                  exact hJ
              show R (171, [some (aR 7 0), some (aI h), some (aI goal), some (aR 1 k), some (aL (jf_at p0 (M 220 0 0))), none, some (aL (jf_A p0)), none, some (aI (10 * ((i : Nat) : Int))), some (aI 0)], [aI (if goal ≠ 0 then 1 else 0), aR 1 5, aR 7 0, aI (10 * ((i : Nat) : Int)), aR 0 0], am_mix [12, 13, 14, 263, 264, 265, 266, 346, 17, 19] g80 (am_wr (am_mix [12, 13, 14, 263, 264, 265, 266, 346, 17, 19, 100, 101, 102, 140, 141, 142, 143] g M) 143 5 0 (10 * ((i : Nat) : Int))))
              refine hR _ (sp_worth (s0 := 0) (by omega) hpw hkw5 hlt hok hth (by omega) (fun g83 => ?_))
              have hwo171 := jf_wo_b hok ((if goal ≠ 0 then 1 else 0))
              show R (174, [some (aR 7 0), some (aI h), some (aI goal), some (aR 1 k), some (aL (jf_at p0 (M 220 0 0))), none, some (aL (jf_A p0)), none, some (aI (10 * ((i : Nat) : Int))), some (aI 0)], [aL (jf_wo p (if goal ≠ 0 then 1 else 0)), aI (10 * ((i : Nat) : Int)), aR 0 0], am_mix [346, 17, 19] g83 (am_mix [12, 13, 14, 263, 264, 265, 266, 346, 17, 19] g80 (am_wr (am_mix [12, 13, 14, 263, 264, 265, 266, 346, 17, 19, 100, 101, 102, 140, 141, 142, 143] g M) 143 5 0 (10 * ((i : Nat) : Int)))))
              refine hR _ (hR _ (hR _ (?_)))
              show R (181, [some (aR 7 0), some (aI h), some (aI goal), some (aR 1 k), some (aL (jf_at p0 (M 220 0 0))), none, some (aL (jf_A p0)), none, some (aI (10 * ((i : Nat) : Int))), some (aI 0)], [aI (g80 263 0 0), aL (jf_wo p (if goal ≠ 0 then 1 else 0)), aI (10 * ((i : Nat) : Int)), aR 0 0], am_mix [346, 17, 19] g83 (am_mix [12, 13, 14, 263, 264, 265, 266, 346, 17, 19] g80 (am_wr (am_mix [12, 13, 14, 263, 264, 265, 266, 346, 17, 19, 100, 101, 102, 140, 141, 142, 143] g M) 143 5 0 (10 * ((i : Nat) : Int)))))
              rw [hthA]
              show R (181, [some (aR 7 0), some (aI h), some (aI goal), some (aR 1 k), some (aL (jf_at p0 (M 220 0 0))), none, some (aL (jf_A p0)), none, some (aI (10 * ((i : Nat) : Int))), some (aI 0)], [aI (jf_A p), aL (jf_wo p (if goal ≠ 0 then 1 else 0)), aI (10 * ((i : Nat) : Int)), aR 0 0], am_mix [346, 17, 19] g83 (am_mix [12, 13, 14, 263, 264, 265, 266, 346, 17, 19] g80 (am_wr (am_mix [12, 13, 14, 263, 264, 265, 266, 346, 17, 19, 100, 101, 102, 140, 141, 142, 143] g M) 143 5 0 (10 * ((i : Nat) : Int)))))
              refine hR _ ⟨(by omega), ?_⟩
              show R (182, [some (aR 7 0), some (aI h), some (aI goal), some (aR 1 k), some (aL (jf_at p0 (M 220 0 0))), none, some (aL (jf_A p0)), none, some (aI (10 * ((i : Nat) : Int))), some (aI 0)], [aL (jf_A p), aL (jf_wo p (if goal ≠ 0 then 1 else 0)), aI (10 * ((i : Nat) : Int)), aR 0 0], am_mix [346, 17, 19] g83 (am_mix [12, 13, 14, 263, 264, 265, 266, 346, 17, 19] g80 (am_wr (am_mix [12, 13, 14, 263, 264, 265, 266, 346, 17, 19, 100, 101, 102, 140, 141, 142, 143] g M) 143 5 0 (10 * ((i : Nat) : Int)))))
              refine hR _ (sp_offer (by omega) (show am_in (g 100 0 0) from by omega) (show -1000000000000000000 ≤ (jf_wo p (if goal ≠ 0 then 1 else 0)) * g 102 0 0 ∧ (jf_wo p (if goal ≠ 0 then 1 else 0)) * g 102 0 0 ≤ 1000000000000000000 from by have hx := jf_mb (a := (jf_wo p (if goal ≠ 0 then 1 else 0))) (b := g 102 0 0) (A := 1000000000) (B := 65) (by omega) (by omega); omega) (show -1000000000000000000 ≤ g 101 0 0 * (jf_A p) ∧ g 101 0 0 * (jf_A p) ≤ 1000000000000000000 from by have hx := jf_mb (a := g 101 0 0) (b := (jf_A p)) (A := 1000000000) (B := 65) (by omega) (by omega); omega) (fun g84 hof => ?_))
              replace hof : (g84 100 0 0, g84 101 0 0, g84 102 0 0) = jf_bst (g 100 0 0, g 101 0 0, g 102 0 0) (10 * ((i : Nat) : Int)) (jf_wo p (if goal ≠ 0 then 1 else 0)) (jf_A p) := hof
              show R (185, [some (aR 7 0), some (aI h), some (aI goal), some (aR 1 k), some (aL (jf_at p0 (M 220 0 0))), none, some (aL (jf_A p0)), none, some (aI (10 * ((i : Nat) : Int))), some (aI 0)], [], am_mix [100, 101, 102] g84 (am_mix [346, 17, 19] g83 (am_mix [12, 13, 14, 263, 264, 265, 266, 346, 17, 19] g80 (am_wr (am_mix [12, 13, 14, 263, 264, 265, 266, 346, 17, 19, 100, 101, 102, 140, 141, 142, 143] g M) 143 5 0 (10 * ((i : Nat) : Int))))))
              refine hR _ (hR _ (?_))
              show R (74, [some (aR 7 0), some (aI h), some (aI goal), some (aR 1 k), some (aL (jf_at p0 (M 220 0 0))), none, some (aL (jf_A p0)), none, some (aI ((10 * ((i : Nat) : Int)) + 10)), some (aI 0)], [], am_mix [100, 101, 102] g84 (am_mix [346, 17, 19] g83 (am_mix [12, 13, 14, 263, 264, 265, 266, 346, 17, 19] g80 (am_wr (am_mix [12, 13, 14, 263, 264, 265, 266, 346, 17, 19, 100, 101, 102, 140, 141, 142, 143] g M) 143 5 0 (10 * ((i : Nat) : Int))))))
              have e9 : am_ag [12, 13, 14, 263, 264, 265, 266, 346, 17, 19, 100, 101, 102, 140, 141, 142, 143] M (am_mix [100, 101, 102] g84 (am_mix [346, 17, 19] g83 (am_mix [12, 13, 14, 263, 264, 265, 266, 346, 17, 19] g80 (am_wr (am_mix [12, 13, 14, 263, 264, 265, 266, 346, 17, 19, 100, 101, 102, 140, 141, 142, 143] g M) 143 5 0 (10 * ((i : Nat) : Int)))))) := (((((am_ag.rf).mix rfl).wr rfl).mix rfl).mix rfl).mix rfl
              rw [e9.eq]
              refine ih (i + 1) _ _ _ (by omega) (by omega) ?_ ?_ h5
              · refine hof.trans ?_
                rw [hst, jf_bc_s, ← hp, ← hp0, decide_eq_false (show ¬ (goal = 1 ∧ ¬ jf_at p0 (M 220 0 0) * jf_A p ≤ jf_at p (M 220 0 0) * jf_A p0) by omega)]
                rfl
              · intro j hj
                have hw : ∀ v, (am_wr (am_mix [12, 13, 14, 263, 264, 265, 266, 346, 17, 19, 100, 101, 102, 140, 141, 142, 143] g M) 143 5 0 (10 * ((i : Nat) : Int))) v j 0 = am_mix [12, 13, 14, 263, 264, 265, 266, 346, 17, 19, 100, 101, 102, 140, 141, 142, 143] g M v j 0 := fun v => jf_wr5 hj
                exact ⟨(hw 140).trans (htr j hj).1, (hw 141).trans (htr j hj).2.1, (hw 142).trans (htr j hj).2.2.1, (hw 143).trans (htr j hj).2.2.2⟩
          · refine hR _ (hR _ (hR _ (hR _ (hR _ (hR _ (am_brc (rg := am_in goal ∧ am_in 1) (P := goal ≠ 1) (A := R (151, [some (aR 7 0), some (aI h), some (aI goal), some (aR 1 k), some (aL (jf_at p0 (M 220 0 0))), none, some (aL (jf_A p0)), none, some (aI (10 * ((i : Nat) : Int))), some (aI 1)], [], am_mix [12, 13, 14, 263, 264, 265, 266, 346, 17, 19] g80 (am_wr (am_mix [12, 13, 14, 263, 264, 265, 266, 346, 17, 19, 100, 101, 102, 140, 141, 142, 143] g M) 143 5 0 (10 * ((i : Nat) : Int))))) (B := R (143, [some (aR 7 0), some (aI h), some (aI goal), some (aR 1 k), some (aL (jf_at p0 (M 220 0 0))), none, some (aL (jf_A p0)), none, some (aI (10 * ((i : Nat) : Int))), some (aI 1)], [], am_mix [12, 13, 14, 263, 264, 265, 266, 346, 17, 19] g80 (am_wr (am_mix [12, 13, 14, 263, 264, 265, 266, 346, 17, 19, 100, 101, 102, 140, 141, 142, 143] g M) 143 5 0 (10 * ((i : Nat) : Int))))) (by omega) (fun c140 => ?_) (fun c140 => ?_)))))))
            · refine hR _ (hR _ (hR _ (hR _ (hR _ (hR _ (hR _ (?_)))))))
              show R (163, [some (aR 7 0), some (aI h), some (aI goal), some (aR 1 k), some (aL (jf_at p0 (M 220 0 0))), none, some (aL (jf_A p0)), none, some (aI (10 * ((i : Nat) : Int))), some (aI 1)], [aI goal, aR 1 5, aR 7 0, aI (10 * ((i : Nat) : Int)), aR 0 0], am_mix [12, 13, 14, 263, 264, 265, 266, 346, 17, 19] g80 (am_wr (am_mix [12, 13, 14, 263, 264, 265, 266, 346, 17, 19, 100, 101, 102, 140, 141, 142, 143] g M) 143 5 0 (10 * ((i : Nat) : Int))))
              suffices hJ : R (171, [some (aR 7 0), some (aI h), some (aI goal), some (aR 1 k), some (aL (jf_at p0 (M 220 0 0))), none, some (aL (jf_A p0)), none, some (aI (10 * ((i : Nat) : Int))), some (aI 1)], [aI (if goal ≠ 0 then 1 else 0), aR 1 5, aR 7 0, aI (10 * ((i : Nat) : Int)), aR 0 0], am_mix [12, 13, 14, 263, 264, 265, 266, 346, 17, 19] g80 (am_wr (am_mix [12, 13, 14, 263, 264, 265, 266, 346, 17, 19, 100, 101, 102, 140, 141, 142, 143] g M) 143 5 0 (10 * ((i : Nat) : Int)))) by
                refine hR _ (am_brc (rg := am_in goal) (P := goal ≠ 0) (A := R (170, [some (aR 7 0), some (aI h), some (aI goal), some (aR 1 k), some (aL (jf_at p0 (M 220 0 0))), none, some (aL (jf_A p0)), none, some (aI (10 * ((i : Nat) : Int))), some (aI 1)], [aR 1 5, aR 7 0, aI (10 * ((i : Nat) : Int)), aR 0 0], am_mix [12, 13, 14, 263, 264, 265, 266, 346, 17, 19] g80 (am_wr (am_mix [12, 13, 14, 263, 264, 265, 266, 346, 17, 19, 100, 101, 102, 140, 141, 142, 143] g M) 143 5 0 (10 * ((i : Nat) : Int))))) (B := R (166, [some (aR 7 0), some (aI h), some (aI goal), some (aR 1 k), some (aL (jf_at p0 (M 220 0 0))), none, some (aL (jf_A p0)), none, some (aI (10 * ((i : Nat) : Int))), some (aI 1)], [aR 1 5, aR 7 0, aI (10 * ((i : Nat) : Int)), aR 0 0], am_mix [12, 13, 14, 263, 264, 265, 266, 346, 17, 19] g80 (am_wr (am_mix [12, 13, 14, 263, 264, 265, 266, 346, 17, 19, 100, 101, 102, 140, 141, 142, 143] g M) 143 5 0 (10 * ((i : Nat) : Int))))) (by omega) (fun c163 => ?_) (fun c163 => ?_))
                · refine hR _ (?_)
                  show R (171, [some (aR 7 0), some (aI h), some (aI goal), some (aR 1 k), some (aL (jf_at p0 (M 220 0 0))), none, some (aL (jf_A p0)), none, some (aI (10 * ((i : Nat) : Int))), some (aI 1)], [aI 1, aR 1 5, aR 7 0, aI (10 * ((i : Nat) : Int)), aR 0 0], am_mix [12, 13, 14, 263, 264, 265, 266, 346, 17, 19] g80 (am_wr (am_mix [12, 13, 14, 263, 264, 265, 266, 346, 17, 19, 100, 101, 102, 140, 141, 142, 143] g M) 143 5 0 (10 * ((i : Nat) : Int))))
                  rw [if_pos (show goal ≠ 0 by omega)] at hJ
                  exact hJ
                · refine hR _ (hR _ (?_))
                  show R (171, [some (aR 7 0), some (aI h), some (aI goal), some (aR 1 k), some (aL (jf_at p0 (M 220 0 0))), none, some (aL (jf_A p0)), none, some (aI (10 * ((i : Nat) : Int))), some (aI 1)], [aI 0, aR 1 5, aR 7 0, aI (10 * ((i : Nat) : Int)), aR 0 0], am_mix [12, 13, 14, 263, 264, 265, 266, 346, 17, 19] g80 (am_wr (am_mix [12, 13, 14, 263, 264, 265, 266, 346, 17, 19, 100, 101, 102, 140, 141, 142, 143] g M) 143 5 0 (10 * ((i : Nat) : Int))))
                  rw [if_neg (show ¬ (goal ≠ 0) by omega)] at hJ
                  exact hJ
              show R (171, [some (aR 7 0), some (aI h), some (aI goal), some (aR 1 k), some (aL (jf_at p0 (M 220 0 0))), none, some (aL (jf_A p0)), none, some (aI (10 * ((i : Nat) : Int))), some (aI 1)], [aI (if goal ≠ 0 then 1 else 0), aR 1 5, aR 7 0, aI (10 * ((i : Nat) : Int)), aR 0 0], am_mix [12, 13, 14, 263, 264, 265, 266, 346, 17, 19] g80 (am_wr (am_mix [12, 13, 14, 263, 264, 265, 266, 346, 17, 19, 100, 101, 102, 140, 141, 142, 143] g M) 143 5 0 (10 * ((i : Nat) : Int))))
              refine hR _ (sp_worth (s0 := 0) (by omega) hpw hkw5 hlt hok hth (by omega) (fun g85 => ?_))
              have hwo171 := jf_wo_b hok ((if goal ≠ 0 then 1 else 0))
              show R (174, [some (aR 7 0), some (aI h), some (aI goal), some (aR 1 k), some (aL (jf_at p0 (M 220 0 0))), none, some (aL (jf_A p0)), none, some (aI (10 * ((i : Nat) : Int))), some (aI 1)], [aL (jf_wo p (if goal ≠ 0 then 1 else 0)), aI (10 * ((i : Nat) : Int)), aR 0 0], am_mix [346, 17, 19] g85 (am_mix [12, 13, 14, 263, 264, 265, 266, 346, 17, 19] g80 (am_wr (am_mix [12, 13, 14, 263, 264, 265, 266, 346, 17, 19, 100, 101, 102, 140, 141, 142, 143] g M) 143 5 0 (10 * ((i : Nat) : Int)))))
              refine hR _ (hR _ (hR _ (?_)))
              show R (181, [some (aR 7 0), some (aI h), some (aI goal), some (aR 1 k), some (aL (jf_at p0 (M 220 0 0))), none, some (aL (jf_A p0)), none, some (aI (10 * ((i : Nat) : Int))), some (aI 1)], [aI (g80 263 0 0), aL (jf_wo p (if goal ≠ 0 then 1 else 0)), aI (10 * ((i : Nat) : Int)), aR 0 0], am_mix [346, 17, 19] g85 (am_mix [12, 13, 14, 263, 264, 265, 266, 346, 17, 19] g80 (am_wr (am_mix [12, 13, 14, 263, 264, 265, 266, 346, 17, 19, 100, 101, 102, 140, 141, 142, 143] g M) 143 5 0 (10 * ((i : Nat) : Int)))))
              rw [hthA]
              show R (181, [some (aR 7 0), some (aI h), some (aI goal), some (aR 1 k), some (aL (jf_at p0 (M 220 0 0))), none, some (aL (jf_A p0)), none, some (aI (10 * ((i : Nat) : Int))), some (aI 1)], [aI (jf_A p), aL (jf_wo p (if goal ≠ 0 then 1 else 0)), aI (10 * ((i : Nat) : Int)), aR 0 0], am_mix [346, 17, 19] g85 (am_mix [12, 13, 14, 263, 264, 265, 266, 346, 17, 19] g80 (am_wr (am_mix [12, 13, 14, 263, 264, 265, 266, 346, 17, 19, 100, 101, 102, 140, 141, 142, 143] g M) 143 5 0 (10 * ((i : Nat) : Int)))))
              refine hR _ ⟨(by omega), ?_⟩
              show R (182, [some (aR 7 0), some (aI h), some (aI goal), some (aR 1 k), some (aL (jf_at p0 (M 220 0 0))), none, some (aL (jf_A p0)), none, some (aI (10 * ((i : Nat) : Int))), some (aI 1)], [aL (jf_A p), aL (jf_wo p (if goal ≠ 0 then 1 else 0)), aI (10 * ((i : Nat) : Int)), aR 0 0], am_mix [346, 17, 19] g85 (am_mix [12, 13, 14, 263, 264, 265, 266, 346, 17, 19] g80 (am_wr (am_mix [12, 13, 14, 263, 264, 265, 266, 346, 17, 19, 100, 101, 102, 140, 141, 142, 143] g M) 143 5 0 (10 * ((i : Nat) : Int)))))
              refine hR _ (sp_offer (by omega) (show am_in (g 100 0 0) from by omega) (show -1000000000000000000 ≤ (jf_wo p (if goal ≠ 0 then 1 else 0)) * g 102 0 0 ∧ (jf_wo p (if goal ≠ 0 then 1 else 0)) * g 102 0 0 ≤ 1000000000000000000 from by have hx := jf_mb (a := (jf_wo p (if goal ≠ 0 then 1 else 0))) (b := g 102 0 0) (A := 1000000000) (B := 65) (by omega) (by omega); omega) (show -1000000000000000000 ≤ g 101 0 0 * (jf_A p) ∧ g 101 0 0 * (jf_A p) ≤ 1000000000000000000 from by have hx := jf_mb (a := g 101 0 0) (b := (jf_A p)) (A := 1000000000) (B := 65) (by omega) (by omega); omega) (fun g86 hof => ?_))
              replace hof : (g86 100 0 0, g86 101 0 0, g86 102 0 0) = jf_bst (g 100 0 0, g 101 0 0, g 102 0 0) (10 * ((i : Nat) : Int)) (jf_wo p (if goal ≠ 0 then 1 else 0)) (jf_A p) := hof
              show R (185, [some (aR 7 0), some (aI h), some (aI goal), some (aR 1 k), some (aL (jf_at p0 (M 220 0 0))), none, some (aL (jf_A p0)), none, some (aI (10 * ((i : Nat) : Int))), some (aI 1)], [], am_mix [100, 101, 102] g86 (am_mix [346, 17, 19] g85 (am_mix [12, 13, 14, 263, 264, 265, 266, 346, 17, 19] g80 (am_wr (am_mix [12, 13, 14, 263, 264, 265, 266, 346, 17, 19, 100, 101, 102, 140, 141, 142, 143] g M) 143 5 0 (10 * ((i : Nat) : Int))))))
              refine hR _ (hR _ (?_))
              show R (74, [some (aR 7 0), some (aI h), some (aI goal), some (aR 1 k), some (aL (jf_at p0 (M 220 0 0))), none, some (aL (jf_A p0)), none, some (aI ((10 * ((i : Nat) : Int)) + 10)), some (aI 1)], [], am_mix [100, 101, 102] g86 (am_mix [346, 17, 19] g85 (am_mix [12, 13, 14, 263, 264, 265, 266, 346, 17, 19] g80 (am_wr (am_mix [12, 13, 14, 263, 264, 265, 266, 346, 17, 19, 100, 101, 102, 140, 141, 142, 143] g M) 143 5 0 (10 * ((i : Nat) : Int))))))
              have e9 : am_ag [12, 13, 14, 263, 264, 265, 266, 346, 17, 19, 100, 101, 102, 140, 141, 142, 143] M (am_mix [100, 101, 102] g86 (am_mix [346, 17, 19] g85 (am_mix [12, 13, 14, 263, 264, 265, 266, 346, 17, 19] g80 (am_wr (am_mix [12, 13, 14, 263, 264, 265, 266, 346, 17, 19, 100, 101, 102, 140, 141, 142, 143] g M) 143 5 0 (10 * ((i : Nat) : Int)))))) := (((((am_ag.rf).mix rfl).wr rfl).mix rfl).mix rfl).mix rfl
              rw [e9.eq]
              refine ih (i + 1) _ _ _ (by omega) (by omega) ?_ ?_ h5
              · refine hof.trans ?_
                rw [hst, jf_bc_s, ← hp, ← hp0, decide_eq_false (show ¬ (goal = 1 ∧ ¬ jf_at p0 (M 220 0 0) * jf_A p ≤ jf_at p (M 220 0 0) * jf_A p0) by omega)]
                rfl
              · intro j hj
                have hw : ∀ v, (am_wr (am_mix [12, 13, 14, 263, 264, 265, 266, 346, 17, 19, 100, 101, 102, 140, 141, 142, 143] g M) 143 5 0 (10 * ((i : Nat) : Int))) v j 0 = am_mix [12, 13, 14, 263, 264, 265, 266, 346, 17, 19, 100, 101, 102, 140, 141, 142, 143] g M v j 0 := fun v => jf_wr5 hj
                exact ⟨(hw 140).trans (htr j hj).1, (hw 141).trans (htr j hj).2.1, (hw 142).trans (htr j hj).2.2.1, (hw 143).trans (htr j hj).2.2.2⟩
            · refine hR _ (hR _ (am_brf (rg := am_in 1) (P := (1 : Int) = 0) (A := R (151, [some (aR 7 0), some (aI h), some (aI goal), some (aR 1 k), some (aL (jf_at p0 (M 220 0 0))), none, some (aL (jf_A p0)), none, some (aI (10 * ((i : Nat) : Int))), some (aI 1)], [], am_mix [12, 13, 14, 263, 264, 265, 266, 346, 17, 19] g80 (am_wr (am_mix [12, 13, 14, 263, 264, 265, 266, 346, 17, 19, 100, 101, 102, 140, 141, 142, 143] g M) 143 5 0 (10 * ((i : Nat) : Int))))) (B := R (148, [some (aR 7 0), some (aI h), some (aI goal), some (aR 1 k), some (aL (jf_at p0 (M 220 0 0))), none, some (aL (jf_A p0)), none, some (aI (10 * ((i : Nat) : Int))), some (aI 1)], [], am_mix [12, 13, 14, 263, 264, 265, 266, 346, 17, 19] g80 (am_wr (am_mix [12, 13, 14, 263, 264, 265, 266, 346, 17, 19, 100, 101, 102, 140, 141, 142, 143] g M) 143 5 0 (10 * ((i : Nat) : Int))))) (by omega) (by omega) ?_))
              show R (148, [some (aR 7 0), some (aI h), some (aI goal), some (aR 1 k), some (aL (jf_at p0 (M 220 0 0))), none, some (aL (jf_A p0)), none, some (aI (10 * ((i : Nat) : Int))), some (aI 1)], [], am_mix [12, 13, 14, 263, 264, 265, 266, 346, 17, 19] g80 (am_wr (am_mix [12, 13, 14, 263, 264, 265, 266, 346, 17, 19, 100, 101, 102, 140, 141, 142, 143] g M) 143 5 0 (10 * ((i : Nat) : Int))))
              refine hR _ (hR _ (hR _ (?_)))
              show R (74, [some (aR 7 0), some (aI h), some (aI goal), some (aR 1 k), some (aL (jf_at p0 (M 220 0 0))), none, some (aL (jf_A p0)), none, some (aI ((10 * ((i : Nat) : Int)) + 10)), some (aI 1)], [], am_mix [12, 13, 14, 263, 264, 265, 266, 346, 17, 19] g80 (am_wr (am_mix [12, 13, 14, 263, 264, 265, 266, 346, 17, 19, 100, 101, 102, 140, 141, 142, 143] g M) 143 5 0 (10 * ((i : Nat) : Int))))
              have e9 : am_ag [12, 13, 14, 263, 264, 265, 266, 346, 17, 19, 100, 101, 102, 140, 141, 142, 143] M (am_mix [12, 13, 14, 263, 264, 265, 266, 346, 17, 19] g80 (am_wr (am_mix [12, 13, 14, 263, 264, 265, 266, 346, 17, 19, 100, 101, 102, 140, 141, 142, 143] g M) 143 5 0 (10 * ((i : Nat) : Int)))) := (((am_ag.rf).mix rfl).wr rfl).mix rfl
              rw [e9.eq]
              refine ih (i + 1) _ _ _ (by omega) (by omega) ?_ ?_ h5
              · rw [jf_bc_s, ← hp, ← hp0, decide_eq_true (show goal = 1 ∧ ¬ jf_at p0 (M 220 0 0) * jf_A p ≤ jf_at p (M 220 0 0) * jf_A p0 by omega)]
                exact hst
              · intro j hj
                have hw : ∀ v, (am_wr (am_mix [12, 13, 14, 263, 264, 265, 266, 346, 17, 19, 100, 101, 102, 140, 141, 142, 143] g M) 143 5 0 (10 * ((i : Nat) : Int))) v j 0 = am_mix [12, 13, 14, 263, 264, 265, 266, 346, 17, 19, 100, 101, 102, 140, 141, 142, 143] g M v j 0 := fun v => jf_wr5 hj
                exact ⟨(hw 140).trans (htr j hj).1, (hw 141).trans (htr j hj).2.1, (hw 142).trans (htr j hj).2.2.1, (hw 143).trans (htr j hj).2.2.2⟩
      have e9 : am_ag [12, 13, 14, 263, 264, 265, 266, 346, 17, 19, 100, 101, 102, 140, 141, 142, 143] M (am_wr (am_wr (am_wr (am_wr (am_wr (am_wr (am_wr (am_mix [12, 13, 14, 263, 264, 265, 266, 346, 17, 19] g79 M) 100 0 0 (-1)) 101 0 0 0) 102 0 0 1) 140 5 0 (M 140 k 0)) 141 5 0 (M 141 k 0)) 142 5 0 (M 142 k 0)) 143 5 0 (M 143 k 0)) := ((((((((am_ag.rf).mix rfl).wr rfl).wr rfl).wr rfl).wr rfl).wr rfl).wr rfl).wr rfl
      rw [e9.eq]
      refine key 51 0 _ _ _ rfl rfl rfl ?_ ⟨rfl, rfl, rfl⟩
      intro j hj
      have hw : ∀ v, (am_wr (am_wr (am_wr (am_wr (am_wr (am_wr (am_wr (am_mix [12, 13, 14, 263, 264, 265, 266, 346, 17, 19] g79 M) 100 0 0 (-1)) 101 0 0 0) 102 0 0 1) 140 5 0 (M 140 k 0)) 141 5 0 (M 141 k 0)) 142 5 0 (M 142 k 0)) 143 5 0 (M 143 k 0)) v j 0 = (am_wr (am_wr (am_wr (am_mix [12, 13, 14, 263, 264, 265, 266, 346, 17, 19] g79 M) 100 0 0 (-1)) 101 0 0 0) 102 0 0 1) v j 0 := fun v => (jf_wr5 hj).trans ((jf_wr5 hj).trans ((jf_wr5 hj).trans (jf_wr5 hj)))
      exact ⟨hw 140, hw 141, hw 142, hw 143⟩
    · show R (19, [some (aR 7 0), some (aI h), some (aI goal), some (aR 1 k), none, none, none, none, none, none], [aI 0], M)
      refine hR _ (am_brf (rg := am_in 0) (P := (0 : Int) ≠ 0) (A := R (25, [some (aR 7 0), some (aI h), some (aI goal), some (aR 1 k), none, none, none, none, none, none], [], M)) (B := R (22, [some (aR 7 0), some (aI h), some (aI goal), some (aR 1 k), none, none, none, none, none, none], [], M)) (by omega) (by omega) ?_)
      show R (22, [some (aR 7 0), some (aI h), some (aI goal), some (aR 1 k), none, none, none, none, none, none], [], M)
      refine hR _ (?_)
      show R (24, [some (aR 7 0), some (aI h), some (aI goal), some (aR 1 k), none, none, none, none, none, none], [aI (-7)], M)
      refine hR _ (show K (some (aI (-7))) M from ?_)
      have hres : jx_change M h goal = (-7) := by
        unfold jx_change
        repeat' split
        all_goals first | omega | rfl
      rw [hres] at hK
      have e9 : am_ag [12, 13, 14, 263, 264, 265, 266, 346, 17, 19, 100, 101, 102, 140, 141, 142, 143] M M := am_ag.rf
      rw [e9.eq]
      exact hK _ (fun j hj => ⟨rfl, rfl, rfl, rfl⟩)
  · replace hno : ¬ (0 ≤ h ∧ h < M 227 0 0) := hno
    show R (5, [some (aR 7 0), some (aI h), some (aI goal), none, none, none, none, none, none, none], [aN], M)
    refine hR _ (hR _ (hR _ (hR _ (?_))))
    show R (12, [some (aR 7 0), some (aI h), some (aI goal), some (aN), none, none, none, none, none, none], [aI (-5)], M)
    refine hR _ (show K (some (aI (-5))) M from ?_)
    have hres : jx_change M h goal = (-5) := by
      unfold jx_change
      repeat' split
      all_goals first | omega | rfl
    rw [hres] at hK
    have e9 : am_ag [12, 13, 14, 263, 264, 265, 266, 346, 17, 19, 100, 101, 102, 140, 141, 142, 143] M M := am_ag.rf
    rw [e9.eq]
    exact hK _ (fun j hj => ⟨rfl, rfl, rfl, rfl⟩)
