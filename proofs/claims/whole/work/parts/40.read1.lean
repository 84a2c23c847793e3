/-! wb -/
variable {wb : Bool}
/-! One token -/
/-- the tape stands at the token read from p -/
def lx_at (b : Nat → Int) (z : Nat) (m : am_M) (p : Nat) : Prop := m 303 0 0 = lx_t b z p ∧ m 304 0 0 = (lx_q b z p : Int) ∧ m 302 0 0 = (lx_e b z p : Int) ∧ (lx_t b z p = 2 → m 305 0 0 = lx_v b z p)

theorem lx_wt_2 (l : List Int) : ¬ lx_wt l = 2 := by
  unfold lx_wt
  repeat' split
  all_goals omega
theorem lx_sg_2 (x : Int) : ¬ lx_sg x = 2 := by
  unfold lx_sg
  split <;> omega

set_option maxHeartbeats 1000000 in
theorem sp_readToken {d : Nat} (hd : 7 ≤ d) {p z : Nat} {M : am_M} {K : am_K} (hz : M 301 0 0 = (z : Int)) (hz2 : z ≤ 160) (hby : ∀ j, j < z → 0 ≤ M 20 0 j ∧ M 20 0 j ≤ 255) (hp : M 302 0 0 = (p : Int)) (hpz : p ≤ z) (h : ∀ g : am_M, lx_at (M 20 0) z (am_mix [302, 303, 304, 305] g M) p → K none (am_mix [302, 303, 304, 305] g M)) : am_Call wb d 14 [aR 5 0] M K := by
  obtain ⟨d, rfl⟩ : ∃ e, d = e + 1 := ⟨d - 1, by omega⟩
  refine ⟨rfl, fun R hR hC => ?_⟩
  replace hR : ∀ c, am_F wb tb_f14 0 (am_Call wb d) K R c → R c := hR
  show R (0, [some (aR 5 0), none], [], M)
  refine hR _ (hR _ (?_))
  show R (2, [some (aR 5 0), some (aI 0)], [], M)
  obtain ⟨q, hqq⟩ : ∃ q, q = lx_q (M 20 0) z p := ⟨_, rfl⟩
  have hqb := lx_sc_b (c := lx_sp) (b := M 20 0) (z := z) (by decide) 160 p hpz
  have hqz : q ≤ z := by rw [hqq]; exact hqb.2
  have fin : ∀ (g : am_M) (o : Int), g 302 0 0 = (q : Int) → R (51, [some (aR 5 0), some (aI o)], [], am_mix [302, 303, 304, 305] g M) := by
    intro g o hp0
    have hq0 := hp0
    refine hR _ (hR _ (hR _ (?_)))
    show R (56, [some (aR 5 0), some (aI o)], [aI (g 302 0 0), aR 5 0], am_mix [302, 303, 304, 305] g M)
    rw [hp0]
    show R (56, [some (aR 5 0), some (aI o)], [aI ((q : Nat) : Int), aR 5 0], am_mix [302, 303, 304, 305] g M)
    refine hR _ (hR _ (hR _ (hR _ (?_))))
    show R (64, [some (aR 5 0), some (aI o)], [aI (g 302 0 0), aR 5 0], am_wr (am_mix [302, 303, 304, 305] g M) 304 0 0 ((q : Nat) : Int))
    rw [hp0]
    show R (64, [some (aR 5 0), some (aI o)], [aI ((q : Nat) : Int), aR 5 0], am_wr (am_mix [302, 303, 304, 305] g M) 304 0 0 ((q : Nat) : Int))
    refine hR _ (sp_byteAt (z := z) (i := q) (by omega) hz (by omega) hby (by omega) (by omega) ?_)
    have hbr64 := lx_by_b hby q
    show R (67, [some (aR 5 0), some (aI o)], [aI (lx_by (M 20 0) z q)], am_wr (am_mix [302, 303, 304, 305] g M) 304 0 0 ((q : Nat) : Int))
    refine hR _ (hR _ (hR _ (hR _ (am_brc (rg := am_in (lx_by (M 20 0) z q) ∧ am_in (-1)) (P := (lx_by (M 20 0) z q) ≠ (-1)) (A := R (81, [some (aR 5 0), some (aI (lx_by (M 20 0) z q))], [], am_wr (am_mix [302, 303, 304, 305] g M) 304 0 0 ((q : Nat) : Int))) (B := R (73, [some (aR 5 0), some (aI (lx_by (M 20 0) z q))], [], am_wr (am_mix [302, 303, 304, 305] g M) 304 0 0 ((q : Nat) : Int))) (by omega) (fun c70 => ?_) (fun c70 => ?_)))))
    · refine hR _ (?_)
      show R (82, [some (aR 5 0), some (aI (lx_by (M 20 0) z q))], [aI (lx_by (M 20 0) z q)], am_wr (am_mix [302, 303, 304, 305] g M) 304 0 0 ((q : Nat) : Int))
      refine hR _ (sp_isLetter (by omega) (by omega) (fun h82 => ?_) (fun h82 => ?_))
      · show R (85, [some (aR 5 0), some (aI (lx_by (M 20 0) z q))], [aI 1], am_wr (am_mix [302, 303, 304, 305] g M) 304 0 0 ((q : Nat) : Int))
        refine hR _ (am_brf (rg := am_in 1) (P := (1 : Int) = 0) (A := R (95, [some (aR 5 0), some (aI (lx_by (M 20 0) z q))], [], am_wr (am_mix [302, 303, 304, 305] g M) 304 0 0 ((q : Nat) : Int))) (B := R (88, [some (aR 5 0), some (aI (lx_by (M 20 0) z q))], [], am_wr (am_mix [302, 303, 304, 305] g M) 304 0 0 ((q : Nat) : Int))) (by omega) (by omega) ?_)
        show R (88, [some (aR 5 0), some (aI (lx_by (M 20 0) z q))], [], am_wr (am_mix [302, 303, 304, 305] g M) 304 0 0 ((q : Nat) : Int))
        refine hR _ (?_)
        show R (89, [some (aR 5 0), some (aI (lx_by (M 20 0) z q))], [aR 5 0], am_wr (am_mix [302, 303, 304, 305] g M) 304 0 0 ((q : Nat) : Int))
        refine hR _ (sp_readWord (q := q) (z := z) (by omega) hz (by omega) hby (show ((q : Nat) : Int) = (q : Int) from by first | rfl | exact hq0) (show g 302 0 0 = (q : Int) from hp0) hqz (fun g135 hg1 hg2 => ?_))
        replace hg1 : g135 303 0 0 = lx_wt (lx_sl (M 20 0) q (lx_sc lx_le (M 20 0) z 160 q)) := hg1
        replace hg2 : g135 302 0 0 = (lx_sc lx_le (M 20 0) z 160 q : Int) := hg2
        show R (92, [some (aR 5 0), some (aI (lx_by (M 20 0) z q))], [], am_mix [302, 303] g135 (am_wr (am_mix [302, 303, 304, 305] g M) 304 0 0 ((q : Nat) : Int)))
        refine hR _ (?_)
        show R (135, [some (aR 5 0), some (aI (lx_by (M 20 0) z q))], [], am_mix [302, 303] g135 (am_wr (am_mix [302, 303, 304, 305] g M) 304 0 0 ((q : Nat) : Int)))
        refine hR _ (show K none (am_mix [302, 303] g135 (am_wr (am_mix [302, 303, 304, 305] g M) 304 0 0 ((q : Nat) : Int))) from ?_)
        refine am_fin (S := [302, 303, 304, 305]) (F := fun m => lx_at (M 20 0) z m p) ((((am_ag.rf).mix rfl).wr rfl).mix rfl) ⟨?_, ?_, ?_, ?_⟩ h
        · show g135 303 0 0 = _
          unfold lx_t
          rw [← hqq]
          rw [if_neg c70, if_pos (show lx_le (lx_by (M 20 0) z q) = true from decide_eq_true h82)]
          rw [hg1]
          unfold lx_e
          rw [← hqq]
          rw [if_neg c70, if_pos (show lx_le (lx_by (M 20 0) z q) = true from decide_eq_true h82)]
        · show ((q : Nat) : Int) = _
          rw [← hqq]
        · show g135 302 0 0 = _
          unfold lx_e
          rw [← hqq]
          rw [if_neg c70, if_pos (show lx_le (lx_by (M 20 0) z q) = true from decide_eq_true h82)]
          exact hg2
        · intro ht
          unfold lx_t at ht
          rw [← hqq] at ht
          rw [if_neg c70, if_pos (show lx_le (lx_by (M 20 0) z q) = true from decide_eq_true h82)] at ht
          exact absurd ht (lx_wt_2 _)
      · show R (85, [some (aR 5 0), some (aI (lx_by (M 20 0) z q))], [aI 0], am_wr (am_mix [302, 303, 304, 305] g M) 304 0 0 ((q : Nat) : Int))
        refine hR _ (am_brt (rg := am_in 0) (P := (0 : Int) = 0) (A := R (95, [some (aR 5 0), some (aI (lx_by (M 20 0) z q))], [], am_wr (am_mix [302, 303, 304, 305] g M) 304 0 0 ((q : Nat) : Int))) (B := R (88, [some (aR 5 0), some (aI (lx_by (M 20 0) z q))], [], am_wr (am_mix [302, 303, 304, 305] g M) 304 0 0 ((q : Nat) : Int))) (by omega) (by omega) ?_)
        show R (95, [some (aR 5 0), some (aI (lx_by (M 20 0) z q))], [], am_wr (am_mix [302, 303, 304, 305] g M) 304 0 0 ((q : Nat) : Int))
        refine hR _ (?_)
        show R (96, [some (aR 5 0), some (aI (lx_by (M 20 0) z q))], [aI (lx_by (M 20 0) z q)], am_wr (am_mix [302, 303, 304, 305] g M) 304 0 0 ((q : Nat) : Int))
        refine hR _ (sp_isDigit (by omega) (by omega) (fun h96 => ?_) (fun h96 => ?_))
        · show R (99, [some (aR 5 0), some (aI (lx_by (M 20 0) z q))], [aI 1], am_wr (am_mix [302, 303, 304, 305] g M) 304 0 0 ((q : Nat) : Int))
          refine hR _ (am_brf (rg := am_in 1) (P := (1 : Int) = 0) (A := R (109, [some (aR 5 0), some (aI (lx_by (M 20 0) z q))], [], am_wr (am_mix [302, 303, 304, 305] g M) 304 0 0 ((q : Nat) : Int))) (B := R (102, [some (aR 5 0), some (aI (lx_by (M 20 0) z q))], [], am_wr (am_mix [302, 303, 304, 305] g M) 304 0 0 ((q : Nat) : Int))) (by omega) (by omega) ?_)
          show R (102, [some (aR 5 0), some (aI (lx_by (M 20 0) z q))], [], am_wr (am_mix [302, 303, 304, 305] g M) 304 0 0 ((q : Nat) : Int))
          refine hR _ (?_)
          show R (103, [some (aR 5 0), some (aI (lx_by (M 20 0) z q))], [aR 5 0], am_wr (am_mix [302, 303, 304, 305] g M) 304 0 0 ((q : Nat) : Int))
          refine hR _ (sp_readNumber (q := q) (z := z) (by omega) hz (by omega) hby (show ((q : Nat) : Int) = (q : Int) from by first | rfl | exact hq0) (show g 302 0 0 = (q : Int) from hp0) hqz (fun g136 hg1 hg2 hg3 => ?_))
          replace hg1 : g136 303 0 0 = (if lx_sc lx_di (M 20 0) z 160 q - q ≤ 4 then 2 else 1) := hg1
          replace hg2 : g136 302 0 0 = (lx_sc lx_di (M 20 0) z 160 q : Int) := hg2
          replace hg3 : g136 305 0 0 = lx_nv (M 20 0) q (lx_sc lx_di (M 20 0) z 160 q - q) := hg3
          show R (106, [some (aR 5 0), some (aI (lx_by (M 20 0) z q))], [], am_mix [302, 303, 305] g136 (am_wr (am_mix [302, 303, 304, 305] g M) 304 0 0 ((q : Nat) : Int)))
          refine hR _ (?_)
          show R (135, [some (aR 5 0), some (aI (lx_by (M 20 0) z q))], [], am_mix [302, 303, 305] g136 (am_wr (am_mix [302, 303, 304, 305] g M) 304 0 0 ((q : Nat) : Int)))
          refine hR _ (show K none (am_mix [302, 303, 305] g136 (am_wr (am_mix [302, 303, 304, 305] g M) 304 0 0 ((q : Nat) : Int))) from ?_)
          refine am_fin (S := [302, 303, 304, 305]) (F := fun m => lx_at (M 20 0) z m p) ((((am_ag.rf).mix rfl).wr rfl).mix rfl) ⟨?_, ?_, ?_, ?_⟩ h
          · show g136 303 0 0 = _
            unfold lx_t
            rw [← hqq]
            rw [if_neg c70, if_neg (show ¬ lx_le (lx_by (M 20 0) z q) = true by rw [show lx_le (lx_by (M 20 0) z q) = false from decide_eq_false h82]; decide), if_pos (show lx_di (lx_by (M 20 0) z q) = true from decide_eq_true h96)]
            rw [hg1]
            unfold lx_e
            rw [← hqq]
            rw [if_neg c70, if_neg (show ¬ lx_le (lx_by (M 20 0) z q) = true by rw [show lx_le (lx_by (M 20 0) z q) = false from decide_eq_false h82]; decide), if_pos (show lx_di (lx_by (M 20 0) z q) = true from decide_eq_true h96)]
          · show ((q : Nat) : Int) = _
            rw [← hqq]
          · show g136 302 0 0 = _
            unfold lx_e
            rw [← hqq]
            rw [if_neg c70, if_neg (show ¬ lx_le (lx_by (M 20 0) z q) = true by rw [show lx_le (lx_by (M 20 0) z q) = false from decide_eq_false h82]; decide), if_pos (show lx_di (lx_by (M 20 0) z q) = true from decide_eq_true h96)]
            exact hg2
          · intro _
            show g136 305 0 0 = _
            rw [hg3]
            unfold lx_v lx_e
            rw [← hqq]
            rw [if_neg c70, if_neg (show ¬ lx_le (lx_by (M 20 0) z q) = true by rw [show lx_le (lx_by (M 20 0) z q) = false from decide_eq_false h82]; decide), if_pos (show lx_di (lx_by (M 20 0) z q) = true from decide_eq_true h96)]
        · show R (99, [some (aR 5 0), some (aI (lx_by (M 20 0) z q))], [aI 0], am_wr (am_mix [302, 303, 304, 305] g M) 304 0 0 ((q : Nat) : Int))
          refine hR _ (am_brt (rg := am_in 0) (P := (0 : Int) = 0) (A := R (109, [some (aR 5 0), some (aI (lx_by (M 20 0) z q))], [], am_wr (am_mix [302, 303, 304, 305] g M) 304 0 0 ((q : Nat) : Int))) (B := R (102, [some (aR 5 0), some (aI (lx_by (M 20 0) z q))], [], am_wr (am_mix [302, 303, 304, 305] g M) 304 0 0 ((q : Nat) : Int))) (by omega) (by omega) ?_)
          show R (109, [some (aR 5 0), some (aI (lx_by (M 20 0) z q))], [], am_wr (am_mix [302, 303, 304, 305] g M) 304 0 0 ((q : Nat) : Int))
          refine hR _ (hR _ (?_))
          show R (111, [some (aR 5 0), some (aI (lx_by (M 20 0) z q))], [aI (lx_by (M 20 0) z q), aR 5 0], am_wr (am_mix [302, 303, 304, 305] g M) 304 0 0 ((q : Nat) : Int))
          refine hR _ (sp_isSign (by omega) (by omega) (fun h111 => ?_) (fun h111 => ?_))
          · show R (114, [some (aR 5 0), some (aI (lx_by (M 20 0) z q))], [aI 1, aR 5 0], am_wr (am_mix [302, 303, 304, 305] g M) 304 0 0 ((q : Nat) : Int))
            refine hR _ (am_brf (rg := am_in 1) (P := (1 : Int) = 0) (A := R (121, [some (aR 5 0), some (aI (lx_by (M 20 0) z q))], [aR 5 0], am_wr (am_mix [302, 303, 304, 305] g M) 304 0 0 ((q : Nat) : Int))) (B := R (117, [some (aR 5 0), some (aI (lx_by (M 20 0) z q))], [aR 5 0], am_wr (am_mix [302, 303, 304, 305] g M) 304 0 0 ((q : Nat) : Int))) (by omega) (by omega) ?_)
            show R (117, [some (aR 5 0), some (aI (lx_by (M 20 0) z q))], [aR 5 0], am_wr (am_mix [302, 303, 304, 305] g M) 304 0 0 ((q : Nat) : Int))
            refine hR _ (hR _ (hR _ (hR _ (hR _ (hR _ (?_))))))
            show R (130, [some (aR 5 0), some (aI (lx_by (M 20 0) z q))], [aI (g 302 0 0), aR 5 0], am_wr (am_wr (am_mix [302, 303, 304, 305] g M) 304 0 0 ((q : Nat) : Int)) 303 0 0 (lx_by (M 20 0) z q))
            rw [hp0]
            show R (130, [some (aR 5 0), some (aI (lx_by (M 20 0) z q))], [aI ((q : Nat) : Int), aR 5 0], am_wr (am_wr (am_mix [302, 303, 304, 305] g M) 304 0 0 ((q : Nat) : Int)) 303 0 0 (lx_by (M 20 0) z q))
            refine hR _ (hR _ (hR _ (?_)))
            show R (135, [some (aR 5 0), some (aI (lx_by (M 20 0) z q))], [], am_wr (am_wr (am_wr (am_mix [302, 303, 304, 305] g M) 304 0 0 ((q : Nat) : Int)) 303 0 0 (lx_by (M 20 0) z q)) 302 0 0 (((q : Nat) : Int) + 1))
            refine hR _ (show K none (am_wr (am_wr (am_wr (am_mix [302, 303, 304, 305] g M) 304 0 0 ((q : Nat) : Int)) 303 0 0 (lx_by (M 20 0) z q)) 302 0 0 (((q : Nat) : Int) + 1)) from ?_)
            refine am_fin (S := [302, 303, 304, 305]) (F := fun m => lx_at (M 20 0) z m p) (((((am_ag.rf).mix rfl).wr rfl).wr rfl).wr rfl) ⟨?_, ?_, ?_, ?_⟩ h
            · show (lx_by (M 20 0) z q) = _
              unfold lx_t
              rw [← hqq]
              rw [if_neg c70, if_neg (show ¬ lx_le (lx_by (M 20 0) z q) = true by rw [show lx_le (lx_by (M 20 0) z q) = false from decide_eq_false h82]; decide), if_neg (show ¬ lx_di (lx_by (M 20 0) z q) = true by rw [show lx_di (lx_by (M 20 0) z q) = false from decide_eq_false h96]; decide)]
              unfold lx_sg
              rw [if_pos h111]
            · show ((q : Nat) : Int) = _
              rw [← hqq]
            · show (((q : Nat) : Int) + 1) = _
              unfold lx_e
              rw [← hqq]
              rw [if_neg c70, if_neg (show ¬ lx_le (lx_by (M 20 0) z q) = true by rw [show lx_le (lx_by (M 20 0) z q) = false from decide_eq_false h82]; decide), if_neg (show ¬ lx_di (lx_by (M 20 0) z q) = true by rw [show lx_di (lx_by (M 20 0) z q) = false from decide_eq_false h96]; decide)]
              rfl
            · intro ht
              unfold lx_t at ht
              rw [← hqq] at ht
              rw [if_neg c70, if_neg (show ¬ lx_le (lx_by (M 20 0) z q) = true by rw [show lx_le (lx_by (M 20 0) z q) = false from decide_eq_false h82]; decide), if_neg (show ¬ lx_di (lx_by (M 20 0) z q) = true by rw [show lx_di (lx_by (M 20 0) z q) = false from decide_eq_false h96]; decide)] at ht
              exact absurd ht (lx_sg_2 _)
          · show R (114, [some (aR 5 0), some (aI (lx_by (M 20 0) z q))], [aI 0, aR 5 0], am_wr (am_mix [302, 303, 304, 305] g M) 304 0 0 ((q : Nat) : Int))
            refine hR _ (am_brt (rg := am_in 0) (P := (0 : Int) = 0) (A := R (121, [some (aR 5 0), some (aI (lx_by (M 20 0) z q))], [aR 5 0], am_wr (am_mix [302, 303, 304, 305] g M) 304 0 0 ((q : Nat) : Int))) (B := R (117, [some (aR 5 0), some (aI (lx_by (M 20 0) z q))], [aR 5 0], am_wr (am_mix [302, 303, 304, 305] g M) 304 0 0 ((q : Nat) : Int))) (by omega) (by omega) ?_)
            show R (121, [some (aR 5 0), some (aI (lx_by (M 20 0) z q))], [aR 5 0], am_wr (am_mix [302, 303, 304, 305] g M) 304 0 0 ((q : Nat) : Int))
            refine hR _ (hR _ (hR _ (hR _ (hR _ (?_)))))
            show R (130, [some (aR 5 0), some (aI (lx_by (M 20 0) z q))], [aI (g 302 0 0), aR 5 0], am_wr (am_wr (am_mix [302, 303, 304, 305] g M) 304 0 0 ((q : Nat) : Int)) 303 0 0 1)
            rw [hp0]
            show R (130, [some (aR 5 0), some (aI (lx_by (M 20 0) z q))], [aI ((q : Nat) : Int), aR 5 0], am_wr (am_wr (am_mix [302, 303, 304, 305] g M) 304 0 0 ((q : Nat) : Int)) 303 0 0 1)
            refine hR _ (hR _ (hR _ (?_)))
            show R (135, [some (aR 5 0), some (aI (lx_by (M 20 0) z q))], [], am_wr (am_wr (am_wr (am_mix [302, 303, 304, 305] g M) 304 0 0 ((q : Nat) : Int)) 303 0 0 1) 302 0 0 (((q : Nat) : Int) + 1))
            refine hR _ (show K none (am_wr (am_wr (am_wr (am_mix [302, 303, 304, 305] g M) 304 0 0 ((q : Nat) : Int)) 303 0 0 1) 302 0 0 (((q : Nat) : Int) + 1)) from ?_)
            refine am_fin (S := [302, 303, 304, 305]) (F := fun m => lx_at (M 20 0) z m p) (((((am_ag.rf).mix rfl).wr rfl).wr rfl).wr rfl) ⟨?_, ?_, ?_, ?_⟩ h
            · show 1 = _
              unfold lx_t
              rw [← hqq]
              rw [if_neg c70, if_neg (show ¬ lx_le (lx_by (M 20 0) z q) = true by rw [show lx_le (lx_by (M 20 0) z q) = false from decide_eq_false h82]; decide), if_neg (show ¬ lx_di (lx_by (M 20 0) z q) = true by rw [show lx_di (lx_by (M 20 0) z q) = false from decide_eq_false h96]; decide)]
              unfold lx_sg
              rw [if_neg h111]
            · show ((q : Nat) : Int) = _
              rw [← hqq]
            · show (((q : Nat) : Int) + 1) = _
              unfold lx_e
              rw [← hqq]
              rw [if_neg c70, if_neg (show ¬ lx_le (lx_by (M 20 0) z q) = true by rw [show lx_le (lx_by (M 20 0) z q) = false from decide_eq_false h82]; decide), if_neg (show ¬ lx_di (lx_by (M 20 0) z q) = true by rw [show lx_di (lx_by (M 20 0) z q) = false from decide_eq_false h96]; decide)]
              rfl
            · intro ht
              unfold lx_t at ht
              rw [← hqq] at ht
              rw [if_neg c70, if_neg (show ¬ lx_le (lx_by (M 20 0) z q) = true by rw [show lx_le (lx_by (M 20 0) z q) = false from decide_eq_false h82]; decide), if_neg (show ¬ lx_di (lx_by (M 20 0) z q) = true by rw [show lx_di (lx_by (M 20 0) z q) = false from decide_eq_false h96]; decide)] at ht
              exact absurd ht (lx_sg_2 _)
    · refine hR _ (hR _ (hR _ (hR _ (?_))))
      show R (135, [some (aR 5 0), some (aI (lx_by (M 20 0) z q))], [], am_wr (am_wr (am_mix [302, 303, 304, 305] g M) 304 0 0 ((q : Nat) : Int)) 303 0 0 0)
      refine hR _ (show K none (am_wr (am_wr (am_mix [302, 303, 304, 305] g M) 304 0 0 ((q : Nat) : Int)) 303 0 0 0) from ?_)
      refine am_fin (S := [302, 303, 304, 305]) (F := fun m => lx_at (M 20 0) z m p) ((((am_ag.rf).mix rfl).wr rfl).wr rfl) ⟨?_, ?_, ?_, ?_⟩ h
      · show 0 = _
        unfold lx_t
        rw [← hqq]
        rw [if_pos (show lx_by (M 20 0) z q = -1 by omega)]
      · show ((q : Nat) : Int) = _
        rw [← hqq]
      · show g 302 0 0 = _
        unfold lx_e
        rw [← hqq]
        rw [if_pos (show lx_by (M 20 0) z q = -1 by omega)]
        exact hp0
      · intro ht
        unfold lx_t at ht
        rw [← hqq] at ht
        rw [if_pos (show lx_by (M 20 0) z q = -1 by omega)] at ht
        exact absurd ht (by decide)
  have key : ∀ (n i p1 : Nat) (x : Int) (g : am_M), x = (i : Int) → i + n = 160 → g 302 0 0 = (p1 : Int) → p1 ≤ z → lx_sc lx_sp (M 20 0) z n p1 = q → R (2, [some (aR 5 0), some (aI x)], [], am_mix [302, 303, 304, 305] g M) := by
    intro n
    induction n with
    | zero =>
      intro i p1 x g hx hin hp hpz1 hs
      subst hx
      refine hR _ (hR _ (hR _ (am_brt (rg := am_in ((i : Nat) : Int) ∧ am_in 160) (P := 160 ≤ ((i : Nat) : Int)) (A := R (51, [some (aR 5 0), some (aI ((i : Nat) : Int))], [], am_mix [302, 303, 304, 305] g M)) (B := R (9, [some (aR 5 0), some (aI ((i : Nat) : Int))], [], am_mix [302, 303, 304, 305] g M)) (by omega) (by omega) ?_)))
      show R (51, [some (aR 5 0), some (aI ((i : Nat) : Int))], [], am_mix [302, 303, 304, 305] g M)
      have hpe : p1 = q := hs
      rw [hpe] at hp
      exact fin g _ hp
    | succ n ih =>
      intro i p1 x g hx hin hp hpz1 hs
      subst hx
      unfold lx_sc at hs
      refine hR _ (hR _ (hR _ (am_brf (rg := am_in ((i : Nat) : Int) ∧ am_in 160) (P := 160 ≤ ((i : Nat) : Int)) (A := R (51, [some (aR 5 0), some (aI ((i : Nat) : Int))], [], am_mix [302, 303, 304, 305] g M)) (B := R (9, [some (aR 5 0), some (aI ((i : Nat) : Int))], [], am_mix [302, 303, 304, 305] g M)) (by omega) (by omega) ?_)))
      show R (9, [some (aR 5 0), some (aI ((i : Nat) : Int))], [], am_mix [302, 303, 304, 305] g M)
      refine hR _ (hR _ (hR _ (?_)))
      show R (14, [some (aR 5 0), some (aI ((i : Nat) : Int))], [aI (g 302 0 0), aR 5 0], am_mix [302, 303, 304, 305] g M)
      rw [hp]
      show R (14, [some (aR 5 0), some (aI ((i : Nat) : Int))], [aI ((p1 : Nat) : Int), aR 5 0], am_mix [302, 303, 304, 305] g M)
      refine hR _ (sp_byteAt (z := z) (i := p1) (by omega) hz (by omega) hby (by omega) (by omega) ?_)
      have hbr14 := lx_by_b hby p1
      show R (17, [some (aR 5 0), some (aI ((i : Nat) : Int))], [aI (lx_by (M 20 0) z p1)], am_mix [302, 303, 304, 305] g M)
      refine hR _ (hR _ (am_brc (rg := am_in (lx_by (M 20 0) z p1) ∧ am_in 32) (P := (lx_by (M 20 0) z p1) = 32) (A := R (35, [some (aR 5 0), some (aI ((i : Nat) : Int))], [], am_mix [302, 303, 304, 305] g M)) (B := R (22, [some (aR 5 0), some (aI ((i : Nat) : Int))], [], am_mix [302, 303, 304, 305] g M)) (by omega) (fun c19 => ?_) (fun c19 => ?_)))
      · refine hR _ (hR _ (hR _ (?_)))
        show R (40, [some (aR 5 0), some (aI ((i : Nat) : Int))], [aI (g 302 0 0), aR 5 0], am_mix [302, 303, 304, 305] g M)
        rw [hp]
        show R (40, [some (aR 5 0), some (aI ((i : Nat) : Int))], [aI ((p1 : Nat) : Int), aR 5 0], am_mix [302, 303, 304, 305] g M)
        refine hR _ (hR _ (hR _ (hR _ (hR _ (?_)))))
        show R (2, [some (aR 5 0), some (aI (((i : Nat) : Int) + 1))], [], am_wr (am_mix [302, 303, 304, 305] g M) 302 0 0 (((p1 : Nat) : Int) + 1))
        have hc : lx_by (M 20 0) z p1 = 32 ∨ lx_by (M 20 0) z p1 = 10 := by omega
        rw [show lx_sp (lx_by (M 20 0) z p1) = true from decide_eq_true hc] at hs
        have hpz2 : p1 < z := by
          by_cases hh : p1 < z
          · exact hh
          · rw [show lx_by (M 20 0) z p1 = -1 from if_neg hh] at hc
            omega
        have e9 : am_ag [302, 303, 304, 305] M (am_wr (am_mix [302, 303, 304, 305] g M) 302 0 0 (((p1 : Nat) : Int) + 1)) := ((am_ag.rf).mix rfl).wr rfl
        rw [e9.eq]
        exact ih (i + 1) (p1 + 1) _ _ rfl (by omega) rfl (by omega) hs
      · refine hR _ (hR _ (hR _ (?_)))
        show R (27, [some (aR 5 0), some (aI ((i : Nat) : Int))], [aI (g 302 0 0), aR 5 0], am_mix [302, 303, 304, 305] g M)
        rw [hp]
        show R (27, [some (aR 5 0), some (aI ((i : Nat) : Int))], [aI ((p1 : Nat) : Int), aR 5 0], am_mix [302, 303, 304, 305] g M)
        refine hR _ (sp_byteAt (z := z) (i := p1) (by omega) hz (by omega) hby (by omega) (by omega) ?_)
        have hbr27 := lx_by_b hby p1
        show R (30, [some (aR 5 0), some (aI ((i : Nat) : Int))], [aI (lx_by (M 20 0) z p1)], am_mix [302, 303, 304, 305] g M)
        refine hR _ (hR _ (am_brc (rg := am_in (lx_by (M 20 0) z p1) ∧ am_in 10) (P := (lx_by (M 20 0) z p1) ≠ 10) (A := R (51, [some (aR 5 0), some (aI ((i : Nat) : Int))], [], am_mix [302, 303, 304, 305] g M)) (B := R (35, [some (aR 5 0), some (aI ((i : Nat) : Int))], [], am_mix [302, 303, 304, 305] g M)) (by omega) (fun c32 => ?_) (fun c32 => ?_)))
        · rw [show lx_sp (lx_by (M 20 0) z p1) = false from decide_eq_false (by omega)] at hs
          have hpe : p1 = q := hs
          rw [hpe] at hp
          exact fin g _ hp
        · refine hR _ (hR _ (hR _ (?_)))
          show R (40, [some (aR 5 0), some (aI ((i : Nat) : Int))], [aI (g 302 0 0), aR 5 0], am_mix [302, 303, 304, 305] g M)
          rw [hp]
          show R (40, [some (aR 5 0), some (aI ((i : Nat) : Int))], [aI ((p1 : Nat) : Int), aR 5 0], am_mix [302, 303, 304, 305] g M)
          refine hR _ (hR _ (hR _ (hR _ (hR _ (?_)))))
          show R (2, [some (aR 5 0), some (aI (((i : Nat) : Int) + 1))], [], am_wr (am_mix [302, 303, 304, 305] g M) 302 0 0 (((p1 : Nat) : Int) + 1))
          have hc : lx_by (M 20 0) z p1 = 32 ∨ lx_by (M 20 0) z p1 = 10 := by omega
          rw [show lx_sp (lx_by (M 20 0) z p1) = true from decide_eq_true hc] at hs
          have hpz2 : p1 < z := by
            by_cases hh : p1 < z
            · exact hh
            · rw [show lx_by (M 20 0) z p1 = -1 from if_neg hh] at hc
              omega
          have e9 : am_ag [302, 303, 304, 305] M (am_wr (am_mix [302, 303, 304, 305] g M) 302 0 0 (((p1 : Nat) : Int) + 1)) := ((am_ag.rf).mix rfl).wr rfl
          rw [e9.eq]
          exact ih (i + 1) (p1 + 1) _ _ rfl (by omega) rfl (by omega) hs
  have e9 : am_ag [302, 303, 304, 305] M M := am_ag.rf
  rw [e9.eq]
  exact key 160 0 p _ _ rfl rfl hp hpz hqq.symm
