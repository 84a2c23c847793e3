/-! wb -/
/-! THE REFERENCE: one token -/
theorem mo_wd_d : ∀ k : Nat, k < 12 → (k < 3 ∧ lx_wt (mo_wd k) = 3 + (k : Int) ∧ mo_mt (lx_wt (mo_wd k)) = 3) ∨ (3 ≤ k ∧ k < 9 ∧ lx_wt (mo_wd k) = 7 + (k : Int) ∧ mo_mt (lx_wt (mo_wd k)) = 2) ∨ (9 ≤ k ∧ lx_wt (mo_wd k) = 17 - (k : Int) ∧ mo_mt (lx_wt (mo_wd k)) = (k : Int) - 5) := by decide +kernel
theorem mo_mt_big {T : Int} (h : 16 ≤ T) : mo_mt T = T := by
  unfold mo_mt
  rw [if_neg (by omega), if_neg (by omega), if_neg (by omega), if_neg (by omega), if_neg (by omega), if_neg (by omega), if_neg (by omega), if_neg (by omega)]

set_option maxHeartbeats 4000000 in
theorem sm_goesNext {d : Nat} (hd : 2 ≤ d) {b : Nat → Int} {z p : Nat} {M : am_M} {K : am_K} (hz : M 427 0 0 = (z : Int)) (hz2 : z ≤ 160) (hb : ∀ j, j < z → M 27 0 j = b j) (hby : lx_by_ok b z) (hwd : jf_Cw M) (hp : M 440 0 0 = (p : Int)) (hpz : p ≤ z) (h : ∀ g : am_M, mo_at b z (am_mix [440, 441, 442, 443] g M) p → K none (am_mix [440, 441, 442, 443] g M)) : am_Call true d 124 [aR 8 0] M K := by
  obtain ⟨d, rfl⟩ : ∃ e, d = e + 1 := ⟨d - 1, by omega⟩
  refine ⟨rfl, fun R hR hC => ?_⟩
  replace hR : ∀ c, am_F true tb_f124 0 (am_Call true d) K R c → R c := hR
  show R (0, [some (aR 8 0), none, none], [], M)
  obtain ⟨q, hqq⟩ : ∃ q, q = lx_q b z p := ⟨_, rfl⟩
  have hqb := lx_q_b (b := b) hpz
  have hqz : q ≤ z := by rw [hqq]; exact hqb.2
  have tail : ∀ (g : am_M) (o1 o2 : Option am_V), g 440 0 0 = (q : Int) → R (52, [some (aR 8 0), o1, o2], [], am_mix [440, 441, 442, 443] g M) := by
    intro g o1 o2 hp0
    have hbq : q < z → 0 ≤ b q ∧ b q ≤ 255 := fun h => hby q h
    have hbyq : lx_by b z q = if q < z then b q else -1 := rfl
    refine hR _ (hR _ (hR _ (?_)))
    show R (57, [some (aR 8 0), o1, o2], [aI (g 440 0 0), aR 8 0], am_mix [440, 441, 442, 443] g M)
    rw [(show g 440 0 0 = ((q : Nat) : Int) from hp0)]
    show R (57, [some (aR 8 0), o1, o2], [aI ((q : Nat) : Int), aR 8 0], am_mix [440, 441, 442, 443] g M)
    refine hR _ (hR _ (hR _ (hR _ (hR _ (hR _ (hR _ (hR _ (hR _ (?_)))))))))
    show R (74, [some (aR 8 0), o1, o2], [aI (g 440 0 0)], am_wr (am_wr (am_wr (am_mix [440, 441, 442, 443] g M) 441 0 0 ((q : Nat) : Int)) 442 0 0 0) 443 0 0 0)
    rw [(show g 440 0 0 = ((q : Nat) : Int) from hp0)]
    show R (74, [some (aR 8 0), o1, o2], [aI ((q : Nat) : Int)], am_wr (am_wr (am_wr (am_mix [440, 441, 442, 443] g M) 441 0 0 ((q : Nat) : Int)) 442 0 0 0) 443 0 0 0)
    refine hR _ (hR _ (?_))
    show R (78, [some (aR 8 0), o1, o2], [aI (M 427 0 0), aI ((q : Nat) : Int)], am_wr (am_wr (am_wr (am_mix [440, 441, 442, 443] g M) 441 0 0 ((q : Nat) : Int)) 442 0 0 0) 443 0 0 0)
    rw [(show M 427 0 0 = ((z : Nat) : Int) from hz)]
    show R (78, [some (aR 8 0), o1, o2], [aI ((z : Nat) : Int), aI ((q : Nat) : Int)], am_wr (am_wr (am_wr (am_mix [440, 441, 442, 443] g M) 441 0 0 ((q : Nat) : Int)) 442 0 0 0) 443 0 0 0)
    refine hR _ (am_brc (rg := am_in ((q : Nat) : Int) ∧ am_in ((z : Nat) : Int)) (P := ((q : Nat) : Int) ≠ ((z : Nat) : Int)) (A := R (82, [some (aR 8 0), o1, o2], [], am_wr (am_wr (am_wr (am_mix [440, 441, 442, 443] g M) 441 0 0 ((q : Nat) : Int)) 442 0 0 0) 443 0 0 0)) (B := R (81, [some (aR 8 0), o1, o2], [], am_wr (am_wr (am_wr (am_mix [440, 441, 442, 443] g M) 441 0 0 ((q : Nat) : Int)) 442 0 0 0) 443 0 0 0)) (by omega) (fun c78 => ?_) (fun c78 => ?_))
    · refine hR _ (hR _ (hR _ (hR _ (?_))))
      show R (90, [some (aR 8 0), o1, o2], [aI (g 440 0 0), aR 27 0], am_wr (am_wr (am_wr (am_mix [440, 441, 442, 443] g M) 441 0 0 ((q : Nat) : Int)) 442 0 0 0) 443 0 0 0)
      rw [(show g 440 0 0 = ((q : Nat) : Int) from hp0)]
      show R (90, [some (aR 8 0), o1, o2], [aI ((q : Nat) : Int), aR 27 0], am_wr (am_wr (am_wr (am_mix [440, 441, 442, 443] g M) 441 0 0 ((q : Nat) : Int)) 442 0 0 0) 443 0 0 0)
      refine hR _ ⟨(show 0 ≤ (((q : Nat) : Int) : Int) ∧ (((q : Nat) : Int) : Int) < 160 from (by omega)), ?_⟩
      show R (91, [some (aR 8 0), o1, o2], [aI (M 27 0 q)], am_wr (am_wr (am_wr (am_mix [440, 441, 442, 443] g M) 441 0 0 ((q : Nat) : Int)) 442 0 0 0) 443 0 0 0)
      rw [(show M 27 0 q = b q from hb q (by omega))]
      show R (91, [some (aR 8 0), o1, o2], [aI (b q)], am_wr (am_wr (am_wr (am_mix [440, 441, 442, 443] g M) 441 0 0 ((q : Nat) : Int)) 442 0 0 0) 443 0 0 0)
      refine hR _ (hR _ (hR _ (hR _ (?_))))
      show R (97, [some (aR 8 0), some (aI (b q)), o2], [aI 122, aI 97, aI (b q)], am_wr (am_wr (am_wr (am_mix [440, 441, 442, 443] g M) 441 0 0 ((q : Nat) : Int)) 442 0 0 0) 443 0 0 0)
      refine hR _ (sp_in (by omega) (by omega) (fun h97 => ?_) (fun h97 => ?_))
      · show R (100, [some (aR 8 0), some (aI (b q)), o2], [aI 1], am_wr (am_wr (am_wr (am_mix [440, 441, 442, 443] g M) 441 0 0 ((q : Nat) : Int)) 442 0 0 0) 443 0 0 0)
        refine hR _ (am_brf (rg := am_in 1) (P := (1 : Int) = 0) (A := R (217, [some (aR 8 0), some (aI (b q)), o2], [], am_wr (am_wr (am_wr (am_mix [440, 441, 442, 443] g M) 441 0 0 ((q : Nat) : Int)) 442 0 0 0) 443 0 0 0)) (B := R (103, [some (aR 8 0), some (aI (b q)), o2], [], am_wr (am_wr (am_wr (am_mix [440, 441, 442, 443] g M) 441 0 0 ((q : Nat) : Int)) 442 0 0 0) 443 0 0 0)) (by omega) (by omega) ?_)
        show R (103, [some (aR 8 0), some (aI (b q)), o2], [], am_wr (am_wr (am_wr (am_mix [440, 441, 442, 443] g M) 441 0 0 ((q : Nat) : Int)) 442 0 0 0) 443 0 0 0)
        have hbq2 : lx_by b z q = b q := if_pos (by omega)
        have hne : ¬ lx_by b z q = -1 := by rw [hbyq, if_pos (by omega)]; omega
        have hle : lx_le (lx_by b z q) = true := decide_eq_true (by rw [hbq2]; omega)
        obtain ⟨e, hee⟩ : ∃ e, e = lx_sc lx_le b z 160 q := ⟨_, rfl⟩
        have heb := lx_sc_1 (c := lx_le) (by decide) hle
        rw [← hee] at heb
        have hall : ∀ i, q ≤ i → i < e → lx_le (lx_by b z i) = true := fun i h1 h2 => lx_sc_all 160 q i h1 (by rw [← hee]; exact h2)
        have he1 : lx_e b z p = e := by
          unfold lx_e
          rw [← hqq, if_neg hne, if_pos hle, hee]
        have ht1 : lx_t b z p = lx_wt (lx_sl b q e) := by
          unfold lx_t
          rw [← hqq, if_neg hne, if_pos hle, he1]
        have hnb : ∀ i, q ≤ i → i < e → b i ≠ 32 := fun i h1 h2 => by
          have h3 := of_decide_eq_true (hall i h1 h2)
          rw [show lx_by b z i = b i from if_pos (by omega)] at h3
          omega
        have e8 : am_ag [440, 441, 442, 443] M (am_wr (am_wr (am_wr (am_mix [440, 441, 442, 443] g M) 441 0 0 ((q : Nat) : Int)) 442 0 0 0) 443 0 0 0) := ((((am_ag.rf).mix rfl).wr rfl).wr rfl).wr rfl
        have f440 : (am_wr (am_wr (am_wr (am_mix [440, 441, 442, 443] g M) 441 0 0 ((q : Nat) : Int)) 442 0 0 0) 443 0 0 0) 440 0 0 = ((q : Nat) : Int) := hp0
        have f441 : (am_wr (am_wr (am_wr (am_mix [440, 441, 442, 443] g M) 441 0 0 ((q : Nat) : Int)) 442 0 0 0) 443 0 0 0) 441 0 0 = ((q : Nat) : Int) := rfl
        rw [e8.eq] at f440 f441 ⊢
        generalize am_wr (am_wr (am_wr (am_mix [440, 441, 442, 443] g M) 441 0 0 ((q : Nat) : Int)) 442 0 0 0) 443 0 0 0 = g5 at f440 f441 ⊢
        have keyL : ∀ (f p1 : Nat) (g : am_M), q + 1 ≤ p1 ∨ p1 = q → p1 ≤ z → z ≤ p1 + f → lx_sc lx_le b z f p1 = e → g 440 0 0 = (p1 : Int) → g 441 0 0 = (q : Int) → R (103, [some (aR 8 0), some (aI (b q)), o2], [], am_mix [440, 441, 442, 443] g M) := by
          intro f
          induction f with
          | zero =>
            intro p1 g hqp hpz1 hzf hs hp1 hq1
            have hbp : p1 < z → 0 ≤ b p1 ∧ b p1 ≤ 255 := fun h => hby p1 h
            refine hR _ (hR _ (?_))
            show R (107, [some (aR 8 0), some (aI (b q)), o2], [aI (g 440 0 0)], am_mix [440, 441, 442, 443] g M)
            rw [(show g 440 0 0 = ((p1 : Nat) : Int) from hp1)]
            show R (107, [some (aR 8 0), some (aI (b q)), o2], [aI ((p1 : Nat) : Int)], am_mix [440, 441, 442, 443] g M)
            refine hR _ (hR _ (?_))
            show R (111, [some (aR 8 0), some (aI (b q)), o2], [aI (M 427 0 0), aI ((p1 : Nat) : Int)], am_mix [440, 441, 442, 443] g M)
            rw [(show M 427 0 0 = ((z : Nat) : Int) from hz)]
            show R (111, [some (aR 8 0), some (aI (b q)), o2], [aI ((z : Nat) : Int), aI ((p1 : Nat) : Int)], am_mix [440, 441, 442, 443] g M)
            refine hR _ (am_brt (rg := am_in ((p1 : Nat) : Int) ∧ am_in ((z : Nat) : Int)) (P := ((z : Nat) : Int) ≤ ((p1 : Nat) : Int)) (A := R (146, [some (aR 8 0), some (aI (b q)), o2], [], am_mix [440, 441, 442, 443] g M)) (B := R (114, [some (aR 8 0), some (aI (b q)), o2], [], am_mix [440, 441, 442, 443] g M)) (by omega) (by omega) ?_)
            show R (146, [some (aR 8 0), some (aI (b q)), o2], [], am_mix [440, 441, 442, 443] g M)
            have hpe : p1 = e := by first | exact hs | (rw [show lx_le (lx_by b z p1) = false from decide_eq_false (by first | (rw [show lx_by b z p1 = b p1 from if_pos (by omega)]; omega) | (rw [show lx_by b z p1 = -1 from if_neg (by omega)]; decide))] at hs; exact hs)
            rw [hpe] at hp1
            clear hs
            refine hR _ (hR _ (hR _ (?_)))
            show R (151, [some (aR 8 0), some (aI (b q)), o2], [aI (g 441 0 0), aR 8 0], am_mix [440, 441, 442, 443] g M)
            rw [(show g 441 0 0 = ((q : Nat) : Int) from hq1)]
            show R (151, [some (aR 8 0), some (aI (b q)), o2], [aI ((q : Nat) : Int), aR 8 0], am_mix [440, 441, 442, 443] g M)
            refine hR _ (hR _ (?_))
            show R (155, [some (aR 8 0), some (aI (b q)), o2], [aI (g 440 0 0), aI ((q : Nat) : Int), aR 8 0], am_mix [440, 441, 442, 443] g M)
            rw [(show g 440 0 0 = ((e : Nat) : Int) from hp1)]
            show R (155, [some (aR 8 0), some (aI (b q)), o2], [aI ((e : Nat) : Int), aI ((q : Nat) : Int), aR 8 0], am_mix [440, 441, 442, 443] g M)
            refine hR _ (sm_wordFrom (b := b) (z := z) (q := q) (e := e) (by omega) hz hz2 hb hby hwd (by omega) (by omega) hnb (fun k hk hsl => ?_) (fun hno => ?_))
            · have hwt := mo_wd_d k hk
              rw [← hsl, ← ht1] at hwt
              show R (158, [some (aR 8 0), some (aI (b q)), o2], [aI ((k : Nat) : Int)], am_mix [440, 441, 442, 443] g M)
              refine hR _ (hR _ (hR _ (hR _ (hR _ (am_brc (rg := am_in ((k : Nat) : Int) ∧ am_in 3) (P := 3 ≤ ((k : Nat) : Int)) (A := R (169, [some (aR 8 0), some (aI (b q)), some (aI ((k : Nat) : Int))], [aR 8 0], am_mix [440, 441, 442, 443] g M)) (B := R (165, [some (aR 8 0), some (aI (b q)), some (aI ((k : Nat) : Int))], [aR 8 0], am_mix [440, 441, 442, 443] g M)) (by omega) (fun c162 => ?_) (fun c162 => ?_))))))
              · refine hR _ (hR _ (hR _ (am_brc (rg := am_in ((k : Nat) : Int) ∧ am_in 9) (P := 9 ≤ ((k : Nat) : Int)) (A := R (179, [some (aR 8 0), some (aI (b q)), some (aI ((k : Nat) : Int))], [aR 8 0], am_mix [440, 441, 442, 443] g M)) (B := R (175, [some (aR 8 0), some (aI (b q)), some (aI ((k : Nat) : Int))], [aR 8 0], am_mix [440, 441, 442, 443] g M)) (by omega) (fun c172 => ?_) (fun c172 => ?_))))
                · refine hR _ (hR _ (hR _ (am_brc (rg := am_in ((k : Nat) : Int) ∧ am_in 12) (P := ((k : Nat) : Int) ≠ 12) (A := R (189, [some (aR 8 0), some (aI (b q)), some (aI ((k : Nat) : Int))], [aR 8 0], am_mix [440, 441, 442, 443] g M)) (B := R (185, [some (aR 8 0), some (aI (b q)), some (aI ((k : Nat) : Int))], [aR 8 0], am_mix [440, 441, 442, 443] g M)) (by omega) (fun c182 => ?_) (fun c182 => ?_))))
                  · refine hR _ (hR _ (hR _ (hR _ (hR _ (hR _ (hR _ (hR _ (hR _ (hR _ (am_brc (rg := am_in ((k : Nat) : Int) ∧ am_in 3) (P := 3 ≤ ((k : Nat) : Int)) (A := R (208, [some (aR 8 0), some (aI (b q)), some (aI ((k : Nat) : Int))], [aR 8 0], am_wr (am_mix [440, 441, 442, 443] g M) 442 0 0 ((4 + ((k : Nat) : Int)) - 9))) (B := R (204, [some (aR 8 0), some (aI (b q)), some (aI ((k : Nat) : Int))], [aR 8 0], am_wr (am_mix [440, 441, 442, 443] g M) 442 0 0 ((4 + ((k : Nat) : Int)) - 9))) (by omega) (fun c201 => ?_) (fun c201 => ?_)))))))))))
                    · refine hR _ (hR _ (hR _ (hR _ (hR _ (?_)))))
                      show R (403, [some (aR 8 0), some (aI (b q)), some (aI ((k : Nat) : Int))], [], am_wr (am_wr (am_mix [440, 441, 442, 443] g M) 442 0 0 ((4 + ((k : Nat) : Int)) - 9)) 443 0 0 (((k : Nat) : Int) - 3))
                      refine hR _ (show K none (am_wr (am_wr (am_mix [440, 441, 442, 443] g M) 442 0 0 ((4 + ((k : Nat) : Int)) - 9)) 443 0 0 (((k : Nat) : Int) - 3)) from ?_)
                      refine am_fin (S := [440, 441, 442, 443]) (F := fun m => mo_at b z m p) ((((am_ag.rf).mix rfl).wr rfl).wr rfl) ⟨?_, ?_, ?_, ?_, ?_, ?_⟩ h
                      · show (((4 + ((k : Nat) : Int)) - 9) : Int) = _
                        omega
                      · exact hq1.trans (by rw [hqq])
                      · exact hp1.trans (by rw [he1])
                      · intro ht
                        exact absurd (ht1.symm.trans ht) (lx_wt_2 _)
                      · intro ht
                        show ((((k : Nat) : Int) - 3) : Int) = _
                        omega
                      · intro ht
                        show ((((k : Nat) : Int) - 3) : Int) = _
                        omega
                    · refine hR _ (hR _ (hR _ (hR _ (?_))))
                      show R (403, [some (aR 8 0), some (aI (b q)), some (aI ((k : Nat) : Int))], [], am_wr (am_wr (am_mix [440, 441, 442, 443] g M) 442 0 0 ((4 + ((k : Nat) : Int)) - 9)) 443 0 0 ((k : Nat) : Int))
                      refine hR _ (show K none (am_wr (am_wr (am_mix [440, 441, 442, 443] g M) 442 0 0 ((4 + ((k : Nat) : Int)) - 9)) 443 0 0 ((k : Nat) : Int)) from ?_)
                      refine am_fin (S := [440, 441, 442, 443]) (F := fun m => mo_at b z m p) ((((am_ag.rf).mix rfl).wr rfl).wr rfl) ⟨?_, ?_, ?_, ?_, ?_, ?_⟩ h
                      · show (((4 + ((k : Nat) : Int)) - 9) : Int) = _
                        omega
                      · exact hq1.trans (by rw [hqq])
                      · exact hp1.trans (by rw [he1])
                      · intro ht
                        exact absurd (ht1.symm.trans ht) (lx_wt_2 _)
                      · intro ht
                        show (((k : Nat) : Int) : Int) = _
                        omega
                      · intro ht
                        show (((k : Nat) : Int) : Int) = _
                        omega
                  · refine hR _ (hR _ (hR _ (hR _ (hR _ (hR _ (hR _ (am_brc (rg := am_in ((k : Nat) : Int) ∧ am_in 3) (P := 3 ≤ ((k : Nat) : Int)) (A := R (208, [some (aR 8 0), some (aI (b q)), some (aI ((k : Nat) : Int))], [aR 8 0], am_wr (am_mix [440, 441, 442, 443] g M) 442 0 0 (-1))) (B := R (204, [some (aR 8 0), some (aI (b q)), some (aI ((k : Nat) : Int))], [aR 8 0], am_wr (am_mix [440, 441, 442, 443] g M) 442 0 0 (-1))) (by omega) (fun c201 => ?_) (fun c201 => ?_))))))))
                    · refine hR _ (hR _ (hR _ (hR _ (hR _ (?_)))))
                      show R (403, [some (aR 8 0), some (aI (b q)), some (aI ((k : Nat) : Int))], [], am_wr (am_wr (am_mix [440, 441, 442, 443] g M) 442 0 0 (-1)) 443 0 0 (((k : Nat) : Int) - 3))
                      refine hR _ (show K none (am_wr (am_wr (am_mix [440, 441, 442, 443] g M) 442 0 0 (-1)) 443 0 0 (((k : Nat) : Int) - 3)) from ?_)
                      refine am_fin (S := [440, 441, 442, 443]) (F := fun m => mo_at b z m p) ((((am_ag.rf).mix rfl).wr rfl).wr rfl) ⟨?_, ?_, ?_, ?_, ?_, ?_⟩ h
                      · show ((-1) : Int) = _
                        omega
                      · exact hq1.trans (by rw [hqq])
                      · exact hp1.trans (by rw [he1])
                      · intro ht
                        exact absurd (ht1.symm.trans ht) (lx_wt_2 _)
                      · intro ht
                        show ((((k : Nat) : Int) - 3) : Int) = _
                        omega
                      · intro ht
                        show ((((k : Nat) : Int) - 3) : Int) = _
                        omega
                    · refine hR _ (hR _ (hR _ (hR _ (?_))))
                      show R (403, [some (aR 8 0), some (aI (b q)), some (aI ((k : Nat) : Int))], [], am_wr (am_wr (am_mix [440, 441, 442, 443] g M) 442 0 0 (-1)) 443 0 0 ((k : Nat) : Int))
                      refine hR _ (show K none (am_wr (am_wr (am_mix [440, 441, 442, 443] g M) 442 0 0 (-1)) 443 0 0 ((k : Nat) : Int)) from ?_)
                      refine am_fin (S := [440, 441, 442, 443]) (F := fun m => mo_at b z m p) ((((am_ag.rf).mix rfl).wr rfl).wr rfl) ⟨?_, ?_, ?_, ?_, ?_, ?_⟩ h
                      · show ((-1) : Int) = _
                        omega
                      · exact hq1.trans (by rw [hqq])
                      · exact hp1.trans (by rw [he1])
                      · intro ht
                        exact absurd (ht1.symm.trans ht) (lx_wt_2 _)
                      · intro ht
                        show (((k : Nat) : Int) : Int) = _
                        omega
                      · intro ht
                        show (((k : Nat) : Int) : Int) = _
                        omega
                · refine hR _ (hR _ (hR _ (hR _ (hR _ (hR _ (hR _ (am_brc (rg := am_in ((k : Nat) : Int) ∧ am_in 3) (P := 3 ≤ ((k : Nat) : Int)) (A := R (208, [some (aR 8 0), some (aI (b q)), some (aI ((k : Nat) : Int))], [aR 8 0], am_wr (am_mix [440, 441, 442, 443] g M) 442 0 0 2)) (B := R (204, [some (aR 8 0), some (aI (b q)), some (aI ((k : Nat) : Int))], [aR 8 0], am_wr (am_mix [440, 441, 442, 443] g M) 442 0 0 2)) (by omega) (fun c201 => ?_) (fun c201 => ?_))))))))
                  · refine hR _ (hR _ (hR _ (hR _ (hR _ (?_)))))
                    show R (403, [some (aR 8 0), some (aI (b q)), some (aI ((k : Nat) : Int))], [], am_wr (am_wr (am_mix [440, 441, 442, 443] g M) 442 0 0 2) 443 0 0 (((k : Nat) : Int) - 3))
                    refine hR _ (show K none (am_wr (am_wr (am_mix [440, 441, 442, 443] g M) 442 0 0 2) 443 0 0 (((k : Nat) : Int) - 3)) from ?_)
                    refine am_fin (S := [440, 441, 442, 443]) (F := fun m => mo_at b z m p) ((((am_ag.rf).mix rfl).wr rfl).wr rfl) ⟨?_, ?_, ?_, ?_, ?_, ?_⟩ h
                    · show (2 : Int) = _
                      omega
                    · exact hq1.trans (by rw [hqq])
                    · exact hp1.trans (by rw [he1])
                    · intro ht
                      exact absurd (ht1.symm.trans ht) (lx_wt_2 _)
                    · intro ht
                      show ((((k : Nat) : Int) - 3) : Int) = _
                      omega
                    · intro ht
                      show ((((k : Nat) : Int) - 3) : Int) = _
                      omega
                  · refine hR _ (hR _ (hR _ (hR _ (?_))))
                    show R (403, [some (aR 8 0), some (aI (b q)), some (aI ((k : Nat) : Int))], [], am_wr (am_wr (am_mix [440, 441, 442, 443] g M) 442 0 0 2) 443 0 0 ((k : Nat) : Int))
                    refine hR _ (show K none (am_wr (am_wr (am_mix [440, 441, 442, 443] g M) 442 0 0 2) 443 0 0 ((k : Nat) : Int)) from ?_)
                    refine am_fin (S := [440, 441, 442, 443]) (F := fun m => mo_at b z m p) ((((am_ag.rf).mix rfl).wr rfl).wr rfl) ⟨?_, ?_, ?_, ?_, ?_, ?_⟩ h
                    · show (2 : Int) = _
                      omega
                    · exact hq1.trans (by rw [hqq])
                    · exact hp1.trans (by rw [he1])
                    · intro ht
                      exact absurd (ht1.symm.trans ht) (lx_wt_2 _)
                    · intro ht
                      show (((k : Nat) : Int) : Int) = _
                      omega
                    · intro ht
                      show (((k : Nat) : Int) : Int) = _
                      omega
              · refine hR _ (hR _ (hR _ (hR _ (hR _ (hR _ (hR _ (am_brc (rg := am_in ((k : Nat) : Int) ∧ am_in 3) (P := 3 ≤ ((k : Nat) : Int)) (A := R (208, [some (aR 8 0), some (aI (b q)), some (aI ((k : Nat) : Int))], [aR 8 0], am_wr (am_mix [440, 441, 442, 443] g M) 442 0 0 3)) (B := R (204, [some (aR 8 0), some (aI (b q)), some (aI ((k : Nat) : Int))], [aR 8 0], am_wr (am_mix [440, 441, 442, 443] g M) 442 0 0 3)) (by omega) (fun c201 => ?_) (fun c201 => ?_))))))))
                · refine hR _ (hR _ (hR _ (hR _ (hR _ (?_)))))
                  show R (403, [some (aR 8 0), some (aI (b q)), some (aI ((k : Nat) : Int))], [], am_wr (am_wr (am_mix [440, 441, 442, 443] g M) 442 0 0 3) 443 0 0 (((k : Nat) : Int) - 3))
                  refine hR _ (show K none (am_wr (am_wr (am_mix [440, 441, 442, 443] g M) 442 0 0 3) 443 0 0 (((k : Nat) : Int) - 3)) from ?_)
                  refine am_fin (S := [440, 441, 442, 443]) (F := fun m => mo_at b z m p) ((((am_ag.rf).mix rfl).wr rfl).wr rfl) ⟨?_, ?_, ?_, ?_, ?_, ?_⟩ h
                  · show (3 : Int) = _
                    omega
                  · exact hq1.trans (by rw [hqq])
                  · exact hp1.trans (by rw [he1])
                  · intro ht
                    exact absurd (ht1.symm.trans ht) (lx_wt_2 _)
                  · intro ht
                    show ((((k : Nat) : Int) - 3) : Int) = _
                    omega
                  · intro ht
                    show ((((k : Nat) : Int) - 3) : Int) = _
                    omega
                · refine hR _ (hR _ (hR _ (hR _ (?_))))
                  show R (403, [some (aR 8 0), some (aI (b q)), some (aI ((k : Nat) : Int))], [], am_wr (am_wr (am_mix [440, 441, 442, 443] g M) 442 0 0 3) 443 0 0 ((k : Nat) : Int))
                  refine hR _ (show K none (am_wr (am_wr (am_mix [440, 441, 442, 443] g M) 442 0 0 3) 443 0 0 ((k : Nat) : Int)) from ?_)
                  refine am_fin (S := [440, 441, 442, 443]) (F := fun m => mo_at b z m p) ((((am_ag.rf).mix rfl).wr rfl).wr rfl) ⟨?_, ?_, ?_, ?_, ?_, ?_⟩ h
                  · show (3 : Int) = _
                    omega
                  · exact hq1.trans (by rw [hqq])
                  · exact hp1.trans (by rw [he1])
                  · intro ht
                    exact absurd (ht1.symm.trans ht) (lx_wt_2 _)
                  · intro ht
                    show (((k : Nat) : Int) : Int) = _
                    omega
                  · intro ht
                    show (((k : Nat) : Int) : Int) = _
                    omega
            · have hwt := mo_wd_n hno
              rw [← ht1] at hwt
              have hmt : mo_mt (lx_t b z p) = -1 := by rw [hwt]; rfl
              show R (158, [some (aR 8 0), some (aI (b q)), o2], [aI 12], am_mix [440, 441, 442, 443] g M)
              refine hR _ (hR _ (hR _ (hR _ (hR _ (am_brt (rg := am_in 12 ∧ am_in 3) (P := 3 ≤ 12) (A := R (169, [some (aR 8 0), some (aI (b q)), some (aI 12)], [aR 8 0], am_mix [440, 441, 442, 443] g M)) (B := R (165, [some (aR 8 0), some (aI (b q)), some (aI 12)], [aR 8 0], am_mix [440, 441, 442, 443] g M)) (by omega) (by omega) ?_)))))
              show R (169, [some (aR 8 0), some (aI (b q)), some (aI 12)], [aR 8 0], am_mix [440, 441, 442, 443] g M)
              refine hR _ (hR _ (hR _ (am_brt (rg := am_in 12 ∧ am_in 9) (P := 9 ≤ 12) (A := R (179, [some (aR 8 0), some (aI (b q)), some (aI 12)], [aR 8 0], am_mix [440, 441, 442, 443] g M)) (B := R (175, [some (aR 8 0), some (aI (b q)), some (aI 12)], [aR 8 0], am_mix [440, 441, 442, 443] g M)) (by omega) (by omega) ?_)))
              show R (179, [some (aR 8 0), some (aI (b q)), some (aI 12)], [aR 8 0], am_mix [440, 441, 442, 443] g M)
              refine hR _ (hR _ (hR _ (am_brf (rg := am_in 12 ∧ am_in 12) (P := (12 : Int) ≠ 12) (A := R (189, [some (aR 8 0), some (aI (b q)), some (aI 12)], [aR 8 0], am_mix [440, 441, 442, 443] g M)) (B := R (185, [some (aR 8 0), some (aI (b q)), some (aI 12)], [aR 8 0], am_mix [440, 441, 442, 443] g M)) (by omega) (by omega) ?_)))
              show R (185, [some (aR 8 0), some (aI (b q)), some (aI 12)], [aR 8 0], am_mix [440, 441, 442, 443] g M)
              refine hR _ (hR _ (hR _ (hR _ (hR _ (hR _ (hR _ (am_brt (rg := am_in 12 ∧ am_in 3) (P := 3 ≤ 12) (A := R (208, [some (aR 8 0), some (aI (b q)), some (aI 12)], [aR 8 0], am_wr (am_mix [440, 441, 442, 443] g M) 442 0 0 (-1))) (B := R (204, [some (aR 8 0), some (aI (b q)), some (aI 12)], [aR 8 0], am_wr (am_mix [440, 441, 442, 443] g M) 442 0 0 (-1))) (by omega) (by omega) ?_)))))))
              show R (208, [some (aR 8 0), some (aI (b q)), some (aI 12)], [aR 8 0], am_wr (am_mix [440, 441, 442, 443] g M) 442 0 0 (-1))
              refine hR _ (hR _ (hR _ (hR _ (hR _ (?_)))))
              show R (403, [some (aR 8 0), some (aI (b q)), some (aI 12)], [], am_wr (am_wr (am_mix [440, 441, 442, 443] g M) 442 0 0 (-1)) 443 0 0 9)
              refine hR _ (show K none (am_wr (am_wr (am_mix [440, 441, 442, 443] g M) 442 0 0 (-1)) 443 0 0 9) from ?_)
              refine am_fin (S := [440, 441, 442, 443]) (F := fun m => mo_at b z m p) ((((am_ag.rf).mix rfl).wr rfl).wr rfl) ⟨?_, ?_, ?_, ?_, ?_, ?_⟩ h
              · show ((-1) : Int) = _
                omega
              · exact hq1.trans (by rw [hqq])
              · exact hp1.trans (by rw [he1])
              · intro ht
                exact absurd (ht1.symm.trans ht) (lx_wt_2 _)
              · intro ht
                show (9 : Int) = _
                omega
              · intro ht
                show (9 : Int) = _
                omega
          | succ f ih =>
            intro p1 g hqp hpz1 hzf hs hp1 hq1
            have hbp : p1 < z → 0 ≤ b p1 ∧ b p1 ≤ 255 := fun h => hby p1 h
            unfold lx_sc at hs
            refine hR _ (hR _ (?_))
            show R (107, [some (aR 8 0), some (aI (b q)), o2], [aI (g 440 0 0)], am_mix [440, 441, 442, 443] g M)
            rw [(show g 440 0 0 = ((p1 : Nat) : Int) from hp1)]
            show R (107, [some (aR 8 0), some (aI (b q)), o2], [aI ((p1 : Nat) : Int)], am_mix [440, 441, 442, 443] g M)
            refine hR _ (hR _ (?_))
            show R (111, [some (aR 8 0), some (aI (b q)), o2], [aI (M 427 0 0), aI ((p1 : Nat) : Int)], am_mix [440, 441, 442, 443] g M)
            rw [(show M 427 0 0 = ((z : Nat) : Int) from hz)]
            show R (111, [some (aR 8 0), some (aI (b q)), o2], [aI ((z : Nat) : Int), aI ((p1 : Nat) : Int)], am_mix [440, 441, 442, 443] g M)
            refine hR _ (am_brc (rg := am_in ((p1 : Nat) : Int) ∧ am_in ((z : Nat) : Int)) (P := ((z : Nat) : Int) ≤ ((p1 : Nat) : Int)) (A := R (146, [some (aR 8 0), some (aI (b q)), o2], [], am_mix [440, 441, 442, 443] g M)) (B := R (114, [some (aR 8 0), some (aI (b q)), o2], [], am_mix [440, 441, 442, 443] g M)) (by omega) (fun c111 => ?_) (fun c111 => ?_))
            · have hpe : p1 = e := by first | exact hs | (rw [show lx_le (lx_by b z p1) = false from decide_eq_false (by first | (rw [show lx_by b z p1 = b p1 from if_pos (by omega)]; omega) | (rw [show lx_by b z p1 = -1 from if_neg (by omega)]; decide))] at hs; exact hs)
              rw [hpe] at hp1
              clear hs
              refine hR _ (hR _ (hR _ (?_)))
              show R (151, [some (aR 8 0), some (aI (b q)), o2], [aI (g 441 0 0), aR 8 0], am_mix [440, 441, 442, 443] g M)
              rw [(show g 441 0 0 = ((q : Nat) : Int) from hq1)]
              show R (151, [some (aR 8 0), some (aI (b q)), o2], [aI ((q : Nat) : Int), aR 8 0], am_mix [440, 441, 442, 443] g M)
              refine hR _ (hR _ (?_))
              show R (155, [some (aR 8 0), some (aI (b q)), o2], [aI (g 440 0 0), aI ((q : Nat) : Int), aR 8 0], am_mix [440, 441, 442, 443] g M)
              rw [(show g 440 0 0 = ((e : Nat) : Int) from hp1)]
              show R (155, [some (aR 8 0), some (aI (b q)), o2], [aI ((e : Nat) : Int), aI ((q : Nat) : Int), aR 8 0], am_mix [440, 441, 442, 443] g M)
              refine hR _ (sm_wordFrom (b := b) (z := z) (q := q) (e := e) (by omega) hz hz2 hb hby hwd (by omega) (by omega) hnb (fun k hk hsl => ?_) (fun hno => ?_))
              · have hwt := mo_wd_d k hk
                rw [← hsl, ← ht1] at hwt
                show R (158, [some (aR 8 0), some (aI (b q)), o2], [aI ((k : Nat) : Int)], am_mix [440, 441, 442, 443] g M)
                refine hR _ (hR _ (hR _ (hR _ (hR _ (am_brc (rg := am_in ((k : Nat) : Int) ∧ am_in 3) (P := 3 ≤ ((k : Nat) : Int)) (A := R (169, [some (aR 8 0), some (aI (b q)), some (aI ((k : Nat) : Int))], [aR 8 0], am_mix [440, 441, 442, 443] g M)) (B := R (165, [some (aR 8 0), some (aI (b q)), some (aI ((k : Nat) : Int))], [aR 8 0], am_mix [440, 441, 442, 443] g M)) (by omega) (fun c162 => ?_) (fun c162 => ?_))))))
                · refine hR _ (hR _ (hR _ (am_brc (rg := am_in ((k : Nat) : Int) ∧ am_in 9) (P := 9 ≤ ((k : Nat) : Int)) (A := R (179, [some (aR 8 0), some (aI (b q)), some (aI ((k : Nat) : Int))], [aR 8 0], am_mix [440, 441, 442, 443] g M)) (B := R (175, [some (aR 8 0), some (aI (b q)), some (aI ((k : Nat) : Int))], [aR 8 0], am_mix [440, 441, 442, 443] g M)) (by omega) (fun c172 => ?_) (fun c172 => ?_))))
                  · refine hR _ (hR _ (hR _ (am_brc (rg := am_in ((k : Nat) : Int) ∧ am_in 12) (P := ((k : Nat) : Int) ≠ 12) (A := R (189, [some (aR 8 0), some (aI (b q)), some (aI ((k : Nat) : Int))], [aR 8 0], am_mix [440, 441, 442, 443] g M)) (B := R (185, [some (aR 8 0), some (aI (b q)), some (aI ((k : Nat) : Int))], [aR 8 0], am_mix [440, 441, 442, 443] g M)) (by omega) (fun c182 => ?_) (fun c182 => ?_))))
                    · refine hR _ (hR _ (hR _ (hR _ (hR _ (hR _ (hR _ (hR _ (hR _ (hR _ (am_brc (rg := am_in ((k : Nat) : Int) ∧ am_in 3) (P := 3 ≤ ((k : Nat) : Int)) (A := R (208, [some (aR 8 0), some (aI (b q)), some (aI ((k : Nat) : Int))], [aR 8 0], am_wr (am_mix [440, 441, 442, 443] g M) 442 0 0 ((4 + ((k : Nat) : Int)) - 9))) (B := R (204, [some (aR 8 0), some (aI (b q)), some (aI ((k : Nat) : Int))], [aR 8 0], am_wr (am_mix [440, 441, 442, 443] g M) 442 0 0 ((4 + ((k : Nat) : Int)) - 9))) (by omega) (fun c201 => ?_) (fun c201 => ?_)))))))))))
                      · refine hR _ (hR _ (hR _ (hR _ (hR _ (?_)))))
                        show R (403, [some (aR 8 0), some (aI (b q)), some (aI ((k : Nat) : Int))], [], am_wr (am_wr (am_mix [440, 441, 442, 443] g M) 442 0 0 ((4 + ((k : Nat) : Int)) - 9)) 443 0 0 (((k : Nat) : Int) - 3))
                        refine hR _ (show K none (am_wr (am_wr (am_mix [440, 441, 442, 443] g M) 442 0 0 ((4 + ((k : Nat) : Int)) - 9)) 443 0 0 (((k : Nat) : Int) - 3)) from ?_)
                        refine am_fin (S := [440, 441, 442, 443]) (F := fun m => mo_at b z m p) ((((am_ag.rf).mix rfl).wr rfl).wr rfl) ⟨?_, ?_, ?_, ?_, ?_, ?_⟩ h
                        · show (((4 + ((k : Nat) : Int)) - 9) : Int) = _
                          omega
                        · exact hq1.trans (by rw [hqq])
                        · exact hp1.trans (by rw [he1])
                        · intro ht
                          exact absurd (ht1.symm.trans ht) (lx_wt_2 _)
                        · intro ht
                          show ((((k : Nat) : Int) - 3) : Int) = _
                          omega
                        · intro ht
                          show ((((k : Nat) : Int) - 3) : Int) = _
                          omega
                      · refine hR _ (hR _ (hR _ (hR _ (?_))))
                        show R (403, [some (aR 8 0), some (aI (b q)), some (aI ((k : Nat) : Int))], [], am_wr (am_wr (am_mix [440, 441, 442, 443] g M) 442 0 0 ((4 + ((k : Nat) : Int)) - 9)) 443 0 0 ((k : Nat) : Int))
                        refine hR _ (show K none (am_wr (am_wr (am_mix [440, 441, 442, 443] g M) 442 0 0 ((4 + ((k : Nat) : Int)) - 9)) 443 0 0 ((k : Nat) : Int)) from ?_)
                        refine am_fin (S := [440, 441, 442, 443]) (F := fun m => mo_at b z m p) ((((am_ag.rf).mix rfl).wr rfl).wr rfl) ⟨?_, ?_, ?_, ?_, ?_, ?_⟩ h
                        · show (((4 + ((k : Nat) : Int)) - 9) : Int) = _
                          omega
                        · exact hq1.trans (by rw [hqq])
                        · exact hp1.trans (by rw [he1])
                        · intro ht
                          exact absurd (ht1.symm.trans ht) (lx_wt_2 _)
                        · intro ht
                          show (((k : Nat) : Int) : Int) = _
                          omega
                        · intro ht
                          show (((k : Nat) : Int) : Int) = _
                          omega
                    · refine hR _ (hR _ (hR _ (hR _ (hR _ (hR _ (hR _ (am_brc (rg := am_in ((k : Nat) : Int) ∧ am_in 3) (P := 3 ≤ ((k : Nat) : Int)) (A := R (208, [some (aR 8 0), some (aI (b q)), some (aI ((k : Nat) : Int))], [aR 8 0], am_wr (am_mix [440, 441, 442, 443] g M) 442 0 0 (-1))) (B := R (204, [some (aR 8 0), some (aI (b q)), some (aI ((k : Nat) : Int))], [aR 8 0], am_wr (am_mix [440, 441, 442, 443] g M) 442 0 0 (-1))) (by omega) (fun c201 => ?_) (fun c201 => ?_))))))))
                      · refine hR _ (hR _ (hR _ (hR _ (hR _ (?_)))))
                        show R (403, [some (aR 8 0), some (aI (b q)), some (aI ((k : Nat) : Int))], [], am_wr (am_wr (am_mix [440, 441, 442, 443] g M) 442 0 0 (-1)) 443 0 0 (((k : Nat) : Int) - 3))
                        refine hR _ (show K none (am_wr (am_wr (am_mix [440, 441, 442, 443] g M) 442 0 0 (-1)) 443 0 0 (((k : Nat) : Int) - 3)) from ?_)
                        refine am_fin (S := [440, 441, 442, 443]) (F := fun m => mo_at b z m p) ((((am_ag.rf).mix rfl).wr rfl).wr rfl) ⟨?_, ?_, ?_, ?_, ?_, ?_⟩ h
                        · show ((-1) : Int) = _
                          omega
                        · exact hq1.trans (by rw [hqq])
                        · exact hp1.trans (by rw [he1])
                        · intro ht
                          exact absurd (ht1.symm.trans ht) (lx_wt_2 _)
                        · intro ht
                          show ((((k : Nat) : Int) - 3) : Int) = _
                          omega
                        · intro ht
                          show ((((k : Nat) : Int) - 3) : Int) = _
                          omega
                      · refine hR _ (hR _ (hR _ (hR _ (?_))))
                        show R (403, [some (aR 8 0), some (aI (b q)), some (aI ((k : Nat) : Int))], [], am_wr (am_wr (am_mix [440, 441, 442, 443] g M) 442 0 0 (-1)) 443 0 0 ((k : Nat) : Int))
                        refine hR _ (show K none (am_wr (am_wr (am_mix [440, 441, 442, 443] g M) 442 0 0 (-1)) 443 0 0 ((k : Nat) : Int)) from ?_)
                        refine am_fin (S := [440, 441, 442, 443]) (F := fun m => mo_at b z m p) ((((am_ag.rf).mix rfl).wr rfl).wr rfl) ⟨?_, ?_, ?_, ?_, ?_, ?_⟩ h
                        · show ((-1) : Int) = _
                          omega
                        · exact hq1.trans (by rw [hqq])
                        · exact hp1.trans (by rw [he1])
                        · intro ht
                          exact absurd (ht1.symm.trans ht) (lx_wt_2 _)
                        · intro ht
                          show (((k : Nat) : Int) : Int) = _
                          omega
                        · intro ht
                          show (((k : Nat) : Int) : Int) = _
                          omega
                  · refine hR _ (hR _ (hR _ (hR _ (hR _ (hR _ (hR _ (am_brc (rg := am_in ((k : Nat) : Int) ∧ am_in 3) (P := 3 ≤ ((k : Nat) : Int)) (A := R (208, [some (aR 8 0), some (aI (b q)), some (aI ((k : Nat) : Int))], [aR 8 0], am_wr (am_mix [440, 441, 442, 443] g M) 442 0 0 2)) (B := R (204, [some (aR 8 0), some (aI (b q)), some (aI ((k : Nat) : Int))], [aR 8 0], am_wr (am_mix [440, 441, 442, 443] g M) 442 0 0 2)) (by omega) (fun c201 => ?_) (fun c201 => ?_))))))))
                    · refine hR _ (hR _ (hR _ (hR _ (hR _ (?_)))))
                      show R (403, [some (aR 8 0), some (aI (b q)), some (aI ((k : Nat) : Int))], [], am_wr (am_wr (am_mix [440, 441, 442, 443] g M) 442 0 0 2) 443 0 0 (((k : Nat) : Int) - 3))
                      refine hR _ (show K none (am_wr (am_wr (am_mix [440, 441, 442, 443] g M) 442 0 0 2) 443 0 0 (((k : Nat) : Int) - 3)) from ?_)
                      refine am_fin (S := [440, 441, 442, 443]) (F := fun m => mo_at b z m p) ((((am_ag.rf).mix rfl).wr rfl).wr rfl) ⟨?_, ?_, ?_, ?_, ?_, ?_⟩ h
                      · show (2 : Int) = _
                        omega
                      · exact hq1.trans (by rw [hqq])
                      · exact hp1.trans (by rw [he1])
                      · intro ht
                        exact absurd (ht1.symm.trans ht) (lx_wt_2 _)
                      · intro ht
                        show ((((k : Nat) : Int) - 3) : Int) = _
                        omega
                      · intro ht
                        show ((((k : Nat) : Int) - 3) : Int) = _
                        omega
                    · refine hR _ (hR _ (hR _ (hR _ (?_))))
                      show R (403, [some (aR 8 0), some (aI (b q)), some (aI ((k : Nat) : Int))], [], am_wr (am_wr (am_mix [440, 441, 442, 443] g M) 442 0 0 2) 443 0 0 ((k : Nat) : Int))
                      refine hR _ (show K none (am_wr (am_wr (am_mix [440, 441, 442, 443] g M) 442 0 0 2) 443 0 0 ((k : Nat) : Int)) from ?_)
                      refine am_fin (S := [440, 441, 442, 443]) (F := fun m => mo_at b z m p) ((((am_ag.rf).mix rfl).wr rfl).wr rfl) ⟨?_, ?_, ?_, ?_, ?_, ?_⟩ h
                      · show (2 : Int) = _
                        omega
                      · exact hq1.trans (by rw [hqq])
                      · exact hp1.trans (by rw [he1])
                      · intro ht
                        exact absurd (ht1.symm.trans ht) (lx_wt_2 _)
                      · intro ht
                        show (((k : Nat) : Int) : Int) = _
                        omega
                      · intro ht
                        show (((k : Nat) : Int) : Int) = _
                        omega
                · refine hR _ (hR _ (hR _ (hR _ (hR _ (hR _ (hR _ (am_brc (rg := am_in ((k : Nat) : Int) ∧ am_in 3) (P := 3 ≤ ((k : Nat) : Int)) (A := R (208, [some (aR 8 0), some (aI (b q)), some (aI ((k : Nat) : Int))], [aR 8 0], am_wr (am_mix [440, 441, 442, 443] g M) 442 0 0 3)) (B := R (204, [some (aR 8 0), some (aI (b q)), some (aI ((k : Nat) : Int))], [aR 8 0], am_wr (am_mix [440, 441, 442, 443] g M) 442 0 0 3)) (by omega) (fun c201 => ?_) (fun c201 => ?_))))))))
                  · refine hR _ (hR _ (hR _ (hR _ (hR _ (?_)))))
                    show R (403, [some (aR 8 0), some (aI (b q)), some (aI ((k : Nat) : Int))], [], am_wr (am_wr (am_mix [440, 441, 442, 443] g M) 442 0 0 3) 443 0 0 (((k : Nat) : Int) - 3))
                    refine hR _ (show K none (am_wr (am_wr (am_mix [440, 441, 442, 443] g M) 442 0 0 3) 443 0 0 (((k : Nat) : Int) - 3)) from ?_)
                    refine am_fin (S := [440, 441, 442, 443]) (F := fun m => mo_at b z m p) ((((am_ag.rf).mix rfl).wr rfl).wr rfl) ⟨?_, ?_, ?_, ?_, ?_, ?_⟩ h
                    · show (3 : Int) = _
                      omega
                    · exact hq1.trans (by rw [hqq])
                    · exact hp1.trans (by rw [he1])
                    · intro ht
                      exact absurd (ht1.symm.trans ht) (lx_wt_2 _)
                    · intro ht
                      show ((((k : Nat) : Int) - 3) : Int) = _
                      omega
                    · intro ht
                      show ((((k : Nat) : Int) - 3) : Int) = _
                      omega
                  · refine hR _ (hR _ (hR _ (hR _ (?_))))
                    show R (403, [some (aR 8 0), some (aI (b q)), some (aI ((k : Nat) : Int))], [], am_wr (am_wr (am_mix [440, 441, 442, 443] g M) 442 0 0 3) 443 0 0 ((k : Nat) : Int))
                    refine hR _ (show K none (am_wr (am_wr (am_mix [440, 441, 442, 443] g M) 442 0 0 3) 443 0 0 ((k : Nat) : Int)) from ?_)
                    refine am_fin (S := [440, 441, 442, 443]) (F := fun m => mo_at b z m p) ((((am_ag.rf).mix rfl).wr rfl).wr rfl) ⟨?_, ?_, ?_, ?_, ?_, ?_⟩ h
                    · show (3 : Int) = _
                      omega
                    · exact hq1.trans (by rw [hqq])
                    · exact hp1.trans (by rw [he1])
                    · intro ht
                      exact absurd (ht1.symm.trans ht) (lx_wt_2 _)
                    · intro ht
                      show (((k : Nat) : Int) : Int) = _
                      omega
                    · intro ht
                      show (((k : Nat) : Int) : Int) = _
                      omega
              · have hwt := mo_wd_n hno
                rw [← ht1] at hwt
                have hmt : mo_mt (lx_t b z p) = -1 := by rw [hwt]; rfl
                show R (158, [some (aR 8 0), some (aI (b q)), o2], [aI 12], am_mix [440, 441, 442, 443] g M)
                refine hR _ (hR _ (hR _ (hR _ (hR _ (am_brt (rg := am_in 12 ∧ am_in 3) (P := 3 ≤ 12) (A := R (169, [some (aR 8 0), some (aI (b q)), some (aI 12)], [aR 8 0], am_mix [440, 441, 442, 443] g M)) (B := R (165, [some (aR 8 0), some (aI (b q)), some (aI 12)], [aR 8 0], am_mix [440, 441, 442, 443] g M)) (by omega) (by omega) ?_)))))
                show R (169, [some (aR 8 0), some (aI (b q)), some (aI 12)], [aR 8 0], am_mix [440, 441, 442, 443] g M)
                refine hR _ (hR _ (hR _ (am_brt (rg := am_in 12 ∧ am_in 9) (P := 9 ≤ 12) (A := R (179, [some (aR 8 0), some (aI (b q)), some (aI 12)], [aR 8 0], am_mix [440, 441, 442, 443] g M)) (B := R (175, [some (aR 8 0), some (aI (b q)), some (aI 12)], [aR 8 0], am_mix [440, 441, 442, 443] g M)) (by omega) (by omega) ?_)))
                show R (179, [some (aR 8 0), some (aI (b q)), some (aI 12)], [aR 8 0], am_mix [440, 441, 442, 443] g M)
                refine hR _ (hR _ (hR _ (am_brf (rg := am_in 12 ∧ am_in 12) (P := (12 : Int) ≠ 12) (A := R (189, [some (aR 8 0), some (aI (b q)), some (aI 12)], [aR 8 0], am_mix [440, 441, 442, 443] g M)) (B := R (185, [some (aR 8 0), some (aI (b q)), some (aI 12)], [aR 8 0], am_mix [440, 441, 442, 443] g M)) (by omega) (by omega) ?_)))
                show R (185, [some (aR 8 0), some (aI (b q)), some (aI 12)], [aR 8 0], am_mix [440, 441, 442, 443] g M)
                refine hR _ (hR _ (hR _ (hR _ (hR _ (hR _ (hR _ (am_brt (rg := am_in 12 ∧ am_in 3) (P := 3 ≤ 12) (A := R (208, [some (aR 8 0), some (aI (b q)), some (aI 12)], [aR 8 0], am_wr (am_mix [440, 441, 442, 443] g M) 442 0 0 (-1))) (B := R (204, [some (aR 8 0), some (aI (b q)), some (aI 12)], [aR 8 0], am_wr (am_mix [440, 441, 442, 443] g M) 442 0 0 (-1))) (by omega) (by omega) ?_)))))))
                show R (208, [some (aR 8 0), some (aI (b q)), some (aI 12)], [aR 8 0], am_wr (am_mix [440, 441, 442, 443] g M) 442 0 0 (-1))
                refine hR _ (hR _ (hR _ (hR _ (hR _ (?_)))))
                show R (403, [some (aR 8 0), some (aI (b q)), some (aI 12)], [], am_wr (am_wr (am_mix [440, 441, 442, 443] g M) 442 0 0 (-1)) 443 0 0 9)
                refine hR _ (show K none (am_wr (am_wr (am_mix [440, 441, 442, 443] g M) 442 0 0 (-1)) 443 0 0 9) from ?_)
                refine am_fin (S := [440, 441, 442, 443]) (F := fun m => mo_at b z m p) ((((am_ag.rf).mix rfl).wr rfl).wr rfl) ⟨?_, ?_, ?_, ?_, ?_, ?_⟩ h
                · show ((-1) : Int) = _
                  omega
                · exact hq1.trans (by rw [hqq])
                · exact hp1.trans (by rw [he1])
                · intro ht
                  exact absurd (ht1.symm.trans ht) (lx_wt_2 _)
                · intro ht
                  show (9 : Int) = _
                  omega
                · intro ht
                  show (9 : Int) = _
                  omega
            · refine hR _ (hR _ (hR _ (hR _ (?_))))
              show R (122, [some (aR 8 0), some (aI (b q)), o2], [aI (g 440 0 0), aR 27 0], am_mix [440, 441, 442, 443] g M)
              rw [(show g 440 0 0 = ((p1 : Nat) : Int) from hp1)]
              show R (122, [some (aR 8 0), some (aI (b q)), o2], [aI ((p1 : Nat) : Int), aR 27 0], am_mix [440, 441, 442, 443] g M)
              refine hR _ ⟨(show 0 ≤ (((p1 : Nat) : Int) : Int) ∧ (((p1 : Nat) : Int) : Int) < 160 from (by omega)), ?_⟩
              show R (123, [some (aR 8 0), some (aI (b q)), o2], [aI (M 27 0 p1)], am_mix [440, 441, 442, 443] g M)
              rw [(show M 27 0 p1 = b p1 from hb p1 (by omega))]
              show R (123, [some (aR 8 0), some (aI (b q)), o2], [aI (b p1)], am_mix [440, 441, 442, 443] g M)
              refine hR _ (hR _ (?_))
              show R (127, [some (aR 8 0), some (aI (b q)), o2], [aI 122, aI 97, aI (b p1)], am_mix [440, 441, 442, 443] g M)
              refine hR _ (sp_in (by omega) (by omega) (fun h127 => ?_) (fun h127 => ?_))
              · show R (130, [some (aR 8 0), some (aI (b q)), o2], [aI 1], am_mix [440, 441, 442, 443] g M)
                refine hR _ (am_brf (rg := am_in 1) (P := (1 : Int) = 0) (A := R (146, [some (aR 8 0), some (aI (b q)), o2], [], am_mix [440, 441, 442, 443] g M)) (B := R (133, [some (aR 8 0), some (aI (b q)), o2], [], am_mix [440, 441, 442, 443] g M)) (by omega) (by omega) ?_)
                show R (133, [some (aR 8 0), some (aI (b q)), o2], [], am_mix [440, 441, 442, 443] g M)
                refine hR _ (hR _ (hR _ (?_)))
                show R (138, [some (aR 8 0), some (aI (b q)), o2], [aI (g 440 0 0), aR 8 0], am_mix [440, 441, 442, 443] g M)
                rw [(show g 440 0 0 = ((p1 : Nat) : Int) from hp1)]
                show R (138, [some (aR 8 0), some (aI (b q)), o2], [aI ((p1 : Nat) : Int), aR 8 0], am_mix [440, 441, 442, 443] g M)
                refine hR _ (hR _ (hR _ (hR _ (?_))))
                show R (103, [some (aR 8 0), some (aI (b q)), o2], [], am_wr (am_mix [440, 441, 442, 443] g M) 440 0 0 (((p1 : Nat) : Int) + 1))
                have hbp1 : lx_by b z p1 = b p1 := if_pos (by omega)
                rw [show lx_le (lx_by b z p1) = true from decide_eq_true (by rw [hbp1]; omega)] at hs
                have e9 : am_ag [440, 441, 442, 443] M (am_wr (am_mix [440, 441, 442, 443] g M) 440 0 0 (((p1 : Nat) : Int) + 1)) := ((am_ag.rf).mix rfl).wr rfl
                have n1 : (am_wr (am_mix [440, 441, 442, 443] g M) 440 0 0 (((p1 : Nat) : Int) + 1)) 440 0 0 = ((p1 + 1 : Nat) : Int) := rfl
                have n2 : (am_wr (am_mix [440, 441, 442, 443] g M) 440 0 0 (((p1 : Nat) : Int) + 1)) 441 0 0 = ((q : Nat) : Int) := hq1
                rw [e9.eq] at n1 n2 ⊢
                exact ih (p1 + 1) _ (by omega) (by omega) (by omega) hs n1 n2
              · show R (130, [some (aR 8 0), some (aI (b q)), o2], [aI 0], am_mix [440, 441, 442, 443] g M)
                refine hR _ (am_brt (rg := am_in 0) (P := (0 : Int) = 0) (A := R (146, [some (aR 8 0), some (aI (b q)), o2], [], am_mix [440, 441, 442, 443] g M)) (B := R (133, [some (aR 8 0), some (aI (b q)), o2], [], am_mix [440, 441, 442, 443] g M)) (by omega) (by omega) ?_)
                show R (146, [some (aR 8 0), some (aI (b q)), o2], [], am_mix [440, 441, 442, 443] g M)
                have hpe : p1 = e := by first | exact hs | (rw [show lx_le (lx_by b z p1) = false from decide_eq_false (by first | (rw [show lx_by b z p1 = b p1 from if_pos (by omega)]; omega) | (rw [show lx_by b z p1 = -1 from if_neg (by omega)]; decide))] at hs; exact hs)
                rw [hpe] at hp1
                clear hs
                refine hR _ (hR _ (hR _ (?_)))
                show R (151, [some (aR 8 0), some (aI (b q)), o2], [aI (g 441 0 0), aR 8 0], am_mix [440, 441, 442, 443] g M)
                rw [(show g 441 0 0 = ((q : Nat) : Int) from hq1)]
                show R (151, [some (aR 8 0), some (aI (b q)), o2], [aI ((q : Nat) : Int), aR 8 0], am_mix [440, 441, 442, 443] g M)
                refine hR _ (hR _ (?_))
                show R (155, [some (aR 8 0), some (aI (b q)), o2], [aI (g 440 0 0), aI ((q : Nat) : Int), aR 8 0], am_mix [440, 441, 442, 443] g M)
                rw [(show g 440 0 0 = ((e : Nat) : Int) from hp1)]
                show R (155, [some (aR 8 0), some (aI (b q)), o2], [aI ((e : Nat) : Int), aI ((q : Nat) : Int), aR 8 0], am_mix [440, 441, 442, 443] g M)
                refine hR _ (sm_wordFrom (b := b) (z := z) (q := q) (e := e) (by omega) hz hz2 hb hby hwd (by omega) (by omega) hnb (fun k hk hsl => ?_) (fun hno => ?_))
                · have hwt := mo_wd_d k hk
                  rw [← hsl, ← ht1] at hwt
                  show R (158, [some (aR 8 0), some (aI (b q)), o2], [aI ((k : Nat) : Int)], am_mix [440, 441, 442, 443] g M)
                  refine hR _ (hR _ (hR _ (hR _ (hR _ (am_brc (rg := am_in ((k : Nat) : Int) ∧ am_in 3) (P := 3 ≤ ((k : Nat) : Int)) (A := R (169, [some (aR 8 0), some (aI (b q)), some (aI ((k : Nat) : Int))], [aR 8 0], am_mix [440, 441, 442, 443] g M)) (B := R (165, [some (aR 8 0), some (aI (b q)), some (aI ((k : Nat) : Int))], [aR 8 0], am_mix [440, 441, 442, 443] g M)) (by omega) (fun c162 => ?_) (fun c162 => ?_))))))
                  · refine hR _ (hR _ (hR _ (am_brc (rg := am_in ((k : Nat) : Int) ∧ am_in 9) (P := 9 ≤ ((k : Nat) : Int)) (A := R (179, [some (aR 8 0), some (aI (b q)), some (aI ((k : Nat) : Int))], [aR 8 0], am_mix [440, 441, 442, 443] g M)) (B := R (175, [some (aR 8 0), some (aI (b q)), some (aI ((k : Nat) : Int))], [aR 8 0], am_mix [440, 441, 442, 443] g M)) (by omega) (fun c172 => ?_) (fun c172 => ?_))))
                    · refine hR _ (hR _ (hR _ (am_brc (rg := am_in ((k : Nat) : Int) ∧ am_in 12) (P := ((k : Nat) : Int) ≠ 12) (A := R (189, [some (aR 8 0), some (aI (b q)), some (aI ((k : Nat) : Int))], [aR 8 0], am_mix [440, 441, 442, 443] g M)) (B := R (185, [some (aR 8 0), some (aI (b q)), some (aI ((k : Nat) : Int))], [aR 8 0], am_mix [440, 441, 442, 443] g M)) (by omega) (fun c182 => ?_) (fun c182 => ?_))))
                      · refine hR _ (hR _ (hR _ (hR _ (hR _ (hR _ (hR _ (hR _ (hR _ (hR _ (am_brc (rg := am_in ((k : Nat) : Int) ∧ am_in 3) (P := 3 ≤ ((k : Nat) : Int)) (A := R (208, [some (aR 8 0), some (aI (b q)), some (aI ((k : Nat) : Int))], [aR 8 0], am_wr (am_mix [440, 441, 442, 443] g M) 442 0 0 ((4 + ((k : Nat) : Int)) - 9))) (B := R (204, [some (aR 8 0), some (aI (b q)), some (aI ((k : Nat) : Int))], [aR 8 0], am_wr (am_mix [440, 441, 442, 443] g M) 442 0 0 ((4 + ((k : Nat) : Int)) - 9))) (by omega) (fun c201 => ?_) (fun c201 => ?_)))))))))))
                        · refine hR _ (hR _ (hR _ (hR _ (hR _ (?_)))))
                          show R (403, [some (aR 8 0), some (aI (b q)), some (aI ((k : Nat) : Int))], [], am_wr (am_wr (am_mix [440, 441, 442, 443] g M) 442 0 0 ((4 + ((k : Nat) : Int)) - 9)) 443 0 0 (((k : Nat) : Int) - 3))
                          refine hR _ (show K none (am_wr (am_wr (am_mix [440, 441, 442, 443] g M) 442 0 0 ((4 + ((k : Nat) : Int)) - 9)) 443 0 0 (((k : Nat) : Int) - 3)) from ?_)
                          refine am_fin (S := [440, 441, 442, 443]) (F := fun m => mo_at b z m p) ((((am_ag.rf).mix rfl).wr rfl).wr rfl) ⟨?_, ?_, ?_, ?_, ?_, ?_⟩ h
                          · show (((4 + ((k : Nat) : Int)) - 9) : Int) = _
                            omega
                          · exact hq1.trans (by rw [hqq])
                          · exact hp1.trans (by rw [he1])
                          · intro ht
                            exact absurd (ht1.symm.trans ht) (lx_wt_2 _)
                          · intro ht
                            show ((((k : Nat) : Int) - 3) : Int) = _
                            omega
                          · intro ht
                            show ((((k : Nat) : Int) - 3) : Int) = _
                            omega
                        · refine hR _ (hR _ (hR _ (hR _ (?_))))
                          show R (403, [some (aR 8 0), some (aI (b q)), some (aI ((k : Nat) : Int))], [], am_wr (am_wr (am_mix [440, 441, 442, 443] g M) 442 0 0 ((4 + ((k : Nat) : Int)) - 9)) 443 0 0 ((k : Nat) : Int))
                          refine hR _ (show K none (am_wr (am_wr (am_mix [440, 441, 442, 443] g M) 442 0 0 ((4 + ((k : Nat) : Int)) - 9)) 443 0 0 ((k : Nat) : Int)) from ?_)
                          refine am_fin (S := [440, 441, 442, 443]) (F := fun m => mo_at b z m p) ((((am_ag.rf).mix rfl).wr rfl).wr rfl) ⟨?_, ?_, ?_, ?_, ?_, ?_⟩ h
                          · show (((4 + ((k : Nat) : Int)) - 9) : Int) = _
                            omega
                          · exact hq1.trans (by rw [hqq])
                          · exact hp1.trans (by rw [he1])
                          · intro ht
                            exact absurd (ht1.symm.trans ht) (lx_wt_2 _)
                          · intro ht
                            show (((k : Nat) : Int) : Int) = _
                            omega
                          · intro ht
                            show (((k : Nat) : Int) : Int) = _
                            omega
                      · refine hR _ (hR _ (hR _ (hR _ (hR _ (hR _ (hR _ (am_brc (rg := am_in ((k : Nat) : Int) ∧ am_in 3) (P := 3 ≤ ((k : Nat) : Int)) (A := R (208, [some (aR 8 0), some (aI (b q)), some (aI ((k : Nat) : Int))], [aR 8 0], am_wr (am_mix [440, 441, 442, 443] g M) 442 0 0 (-1))) (B := R (204, [some (aR 8 0), some (aI (b q)), some (aI ((k : Nat) : Int))], [aR 8 0], am_wr (am_mix [440, 441, 442, 443] g M) 442 0 0 (-1))) (by omega) (fun c201 => ?_) (fun c201 => ?_))))))))
                        · refine hR _ (hR _ (hR _ (hR _ (hR _ (?_)))))
                          show R (403, [some (aR 8 0), some (aI (b q)), some (aI ((k : Nat) : Int))], [], am_wr (am_wr (am_mix [440, 441, 442, 443] g M) 442 0 0 (-1)) 443 0 0 (((k : Nat) : Int) - 3))
                          refine hR _ (show K none (am_wr (am_wr (am_mix [440, 441, 442, 443] g M) 442 0 0 (-1)) 443 0 0 (((k : Nat) : Int) - 3)) from ?_)
                          refine am_fin (S := [440, 441, 442, 443]) (F := fun m => mo_at b z m p) ((((am_ag.rf).mix rfl).wr rfl).wr rfl) ⟨?_, ?_, ?_, ?_, ?_, ?_⟩ h
                          · show ((-1) : Int) = _
                            omega
                          · exact hq1.trans (by rw [hqq])
                          · exact hp1.trans (by rw [he1])
                          · intro ht
                            exact absurd (ht1.symm.trans ht) (lx_wt_2 _)
                          · intro ht
                            show ((((k : Nat) : Int) - 3) : Int) = _
                            omega
                          · intro ht
                            show ((((k : Nat) : Int) - 3) : Int) = _
                            omega
                        · refine hR _ (hR _ (hR _ (hR _ (?_))))
                          show R (403, [some (aR 8 0), some (aI (b q)), some (aI ((k : Nat) : Int))], [], am_wr (am_wr (am_mix [440, 441, 442, 443] g M) 442 0 0 (-1)) 443 0 0 ((k : Nat) : Int))
                          refine hR _ (show K none (am_wr (am_wr (am_mix [440, 441, 442, 443] g M) 442 0 0 (-1)) 443 0 0 ((k : Nat) : Int)) from ?_)
                          refine am_fin (S := [440, 441, 442, 443]) (F := fun m => mo_at b z m p) ((((am_ag.rf).mix rfl).wr rfl).wr rfl) ⟨?_, ?_, ?_, ?_, ?_, ?_⟩ h
                          · show ((-1) : Int) = _
                            omega
                          · exact hq1.trans (by rw [hqq])
                          · exact hp1.trans (by rw [he1])
                          · intro ht
                            exact absurd (ht1.symm.trans ht) (lx_wt_2 _)
                          · intro ht
                            show (((k : Nat) : Int) : Int) = _
                            omega
                          · intro ht
                            show (((k : Nat) : Int) : Int) = _
                            omega
                    · refine hR _ (hR _ (hR _ (hR _ (hR _ (hR _ (hR _ (am_brc (rg := am_in ((k : Nat) : Int) ∧ am_in 3) (P := 3 ≤ ((k : Nat) : Int)) (A := R (208, [some (aR 8 0), some (aI (b q)), some (aI ((k : Nat) : Int))], [aR 8 0], am_wr (am_mix [440, 441, 442, 443] g M) 442 0 0 2)) (B := R (204, [some (aR 8 0), some (aI (b q)), some (aI ((k : Nat) : Int))], [aR 8 0], am_wr (am_mix [440, 441, 442, 443] g M) 442 0 0 2)) (by omega) (fun c201 => ?_) (fun c201 => ?_))))))))
                      · refine hR _ (hR _ (hR _ (hR _ (hR _ (?_)))))
                        show R (403, [some (aR 8 0), some (aI (b q)), some (aI ((k : Nat) : Int))], [], am_wr (am_wr (am_mix [440, 441, 442, 443] g M) 442 0 0 2) 443 0 0 (((k : Nat) : Int) - 3))
                        refine hR _ (show K none (am_wr (am_wr (am_mix [440, 441, 442, 443] g M) 442 0 0 2) 443 0 0 (((k : Nat) : Int) - 3)) from ?_)
                        refine am_fin (S := [440, 441, 442, 443]) (F := fun m => mo_at b z m p) ((((am_ag.rf).mix rfl).wr rfl).wr rfl) ⟨?_, ?_, ?_, ?_, ?_, ?_⟩ h
                        · show (2 : Int) = _
                          omega
                        · exact hq1.trans (by rw [hqq])
                        · exact hp1.trans (by rw [he1])
                        · intro ht
                          exact absurd (ht1.symm.trans ht) (lx_wt_2 _)
                        · intro ht
                          show ((((k : Nat) : Int) - 3) : Int) = _
                          omega
                        · intro ht
                          show ((((k : Nat) : Int) - 3) : Int) = _
                          omega
                      · refine hR _ (hR _ (hR _ (hR _ (?_))))
                        show R (403, [some (aR 8 0), some (aI (b q)), some (aI ((k : Nat) : Int))], [], am_wr (am_wr (am_mix [440, 441, 442, 443] g M) 442 0 0 2) 443 0 0 ((k : Nat) : Int))
                        refine hR _ (show K none (am_wr (am_wr (am_mix [440, 441, 442, 443] g M) 442 0 0 2) 443 0 0 ((k : Nat) : Int)) from ?_)
                        refine am_fin (S := [440, 441, 442, 443]) (F := fun m => mo_at b z m p) ((((am_ag.rf).mix rfl).wr rfl).wr rfl) ⟨?_, ?_, ?_, ?_, ?_, ?_⟩ h
                        · show (2 : Int) = _
                          omega
                        · exact hq1.trans (by rw [hqq])
                        · exact hp1.trans (by rw [he1])
                        · intro ht
                          exact absurd (ht1.symm.trans ht) (lx_wt_2 _)
                        · intro ht
                          show (((k : Nat) : Int) : Int) = _
                          omega
                        · intro ht
                          show (((k : Nat) : Int) : Int) = _
                          omega
                  · refine hR _ (hR _ (hR _ (hR _ (hR _ (hR _ (hR _ (am_brc (rg := am_in ((k : Nat) : Int) ∧ am_in 3) (P := 3 ≤ ((k : Nat) : Int)) (A := R (208, [some (aR 8 0), some (aI (b q)), some (aI ((k : Nat) : Int))], [aR 8 0], am_wr (am_mix [440, 441, 442, 443] g M) 442 0 0 3)) (B := R (204, [some (aR 8 0), some (aI (b q)), some (aI ((k : Nat) : Int))], [aR 8 0], am_wr (am_mix [440, 441, 442, 443] g M) 442 0 0 3)) (by omega) (fun c201 => ?_) (fun c201 => ?_))))))))
                    · refine hR _ (hR _ (hR _ (hR _ (hR _ (?_)))))
                      show R (403, [some (aR 8 0), some (aI (b q)), some (aI ((k : Nat) : Int))], [], am_wr (am_wr (am_mix [440, 441, 442, 443] g M) 442 0 0 3) 443 0 0 (((k : Nat) : Int) - 3))
                      refine hR _ (show K none (am_wr (am_wr (am_mix [440, 441, 442, 443] g M) 442 0 0 3) 443 0 0 (((k : Nat) : Int) - 3)) from ?_)
                      refine am_fin (S := [440, 441, 442, 443]) (F := fun m => mo_at b z m p) ((((am_ag.rf).mix rfl).wr rfl).wr rfl) ⟨?_, ?_, ?_, ?_, ?_, ?_⟩ h
                      · show (3 : Int) = _
                        omega
                      · exact hq1.trans (by rw [hqq])
                      · exact hp1.trans (by rw [he1])
                      · intro ht
                        exact absurd (ht1.symm.trans ht) (lx_wt_2 _)
                      · intro ht
                        show ((((k : Nat) : Int) - 3) : Int) = _
                        omega
                      · intro ht
                        show ((((k : Nat) : Int) - 3) : Int) = _
                        omega
                    · refine hR _ (hR _ (hR _ (hR _ (?_))))
                      show R (403, [some (aR 8 0), some (aI (b q)), some (aI ((k : Nat) : Int))], [], am_wr (am_wr (am_mix [440, 441, 442, 443] g M) 442 0 0 3) 443 0 0 ((k : Nat) : Int))
                      refine hR _ (show K none (am_wr (am_wr (am_mix [440, 441, 442, 443] g M) 442 0 0 3) 443 0 0 ((k : Nat) : Int)) from ?_)
                      refine am_fin (S := [440, 441, 442, 443]) (F := fun m => mo_at b z m p) ((((am_ag.rf).mix rfl).wr rfl).wr rfl) ⟨?_, ?_, ?_, ?_, ?_, ?_⟩ h
                      · show (3 : Int) = _
                        omega
                      · exact hq1.trans (by rw [hqq])
                      · exact hp1.trans (by rw [he1])
                      · intro ht
                        exact absurd (ht1.symm.trans ht) (lx_wt_2 _)
                      · intro ht
                        show (((k : Nat) : Int) : Int) = _
                        omega
                      · intro ht
                        show (((k : Nat) : Int) : Int) = _
                        omega
                · have hwt := mo_wd_n hno
                  rw [← ht1] at hwt
                  have hmt : mo_mt (lx_t b z p) = -1 := by rw [hwt]; rfl
                  show R (158, [some (aR 8 0), some (aI (b q)), o2], [aI 12], am_mix [440, 441, 442, 443] g M)
                  refine hR _ (hR _ (hR _ (hR _ (hR _ (am_brt (rg := am_in 12 ∧ am_in 3) (P := 3 ≤ 12) (A := R (169, [some (aR 8 0), some (aI (b q)), some (aI 12)], [aR 8 0], am_mix [440, 441, 442, 443] g M)) (B := R (165, [some (aR 8 0), some (aI (b q)), some (aI 12)], [aR 8 0], am_mix [440, 441, 442, 443] g M)) (by omega) (by omega) ?_)))))
                  show R (169, [some (aR 8 0), some (aI (b q)), some (aI 12)], [aR 8 0], am_mix [440, 441, 442, 443] g M)
                  refine hR _ (hR _ (hR _ (am_brt (rg := am_in 12 ∧ am_in 9) (P := 9 ≤ 12) (A := R (179, [some (aR 8 0), some (aI (b q)), some (aI 12)], [aR 8 0], am_mix [440, 441, 442, 443] g M)) (B := R (175, [some (aR 8 0), some (aI (b q)), some (aI 12)], [aR 8 0], am_mix [440, 441, 442, 443] g M)) (by omega) (by omega) ?_)))
                  show R (179, [some (aR 8 0), some (aI (b q)), some (aI 12)], [aR 8 0], am_mix [440, 441, 442, 443] g M)
                  refine hR _ (hR _ (hR _ (am_brf (rg := am_in 12 ∧ am_in 12) (P := (12 : Int) ≠ 12) (A := R (189, [some (aR 8 0), some (aI (b q)), some (aI 12)], [aR 8 0], am_mix [440, 441, 442, 443] g M)) (B := R (185, [some (aR 8 0), some (aI (b q)), some (aI 12)], [aR 8 0], am_mix [440, 441, 442, 443] g M)) (by omega) (by omega) ?_)))
                  show R (185, [some (aR 8 0), some (aI (b q)), some (aI 12)], [aR 8 0], am_mix [440, 441, 442, 443] g M)
                  refine hR _ (hR _ (hR _ (hR _ (hR _ (hR _ (hR _ (am_brt (rg := am_in 12 ∧ am_in 3) (P := 3 ≤ 12) (A := R (208, [some (aR 8 0), some (aI (b q)), some (aI 12)], [aR 8 0], am_wr (am_mix [440, 441, 442, 443] g M) 442 0 0 (-1))) (B := R (204, [some (aR 8 0), some (aI (b q)), some (aI 12)], [aR 8 0], am_wr (am_mix [440, 441, 442, 443] g M) 442 0 0 (-1))) (by omega) (by omega) ?_)))))))
                  show R (208, [some (aR 8 0), some (aI (b q)), some (aI 12)], [aR 8 0], am_wr (am_mix [440, 441, 442, 443] g M) 442 0 0 (-1))
                  refine hR _ (hR _ (hR _ (hR _ (hR _ (?_)))))
                  show R (403, [some (aR 8 0), some (aI (b q)), some (aI 12)], [], am_wr (am_wr (am_mix [440, 441, 442, 443] g M) 442 0 0 (-1)) 443 0 0 9)
                  refine hR _ (show K none (am_wr (am_wr (am_mix [440, 441, 442, 443] g M) 442 0 0 (-1)) 443 0 0 9) from ?_)
                  refine am_fin (S := [440, 441, 442, 443]) (F := fun m => mo_at b z m p) ((((am_ag.rf).mix rfl).wr rfl).wr rfl) ⟨?_, ?_, ?_, ?_, ?_, ?_⟩ h
                  · show ((-1) : Int) = _
                    omega
                  · exact hq1.trans (by rw [hqq])
                  · exact hp1.trans (by rw [he1])
                  · intro ht
                    exact absurd (ht1.symm.trans ht) (lx_wt_2 _)
                  · intro ht
                    show (9 : Int) = _
                    omega
                  · intro ht
                    show (9 : Int) = _
                    omega
        exact keyL 160 q g5 (Or.inr rfl) hqz (by omega) hee.symm f440 f441
      · show R (100, [some (aR 8 0), some (aI (b q)), o2], [aI 0], am_wr (am_wr (am_wr (am_mix [440, 441, 442, 443] g M) 441 0 0 ((q : Nat) : Int)) 442 0 0 0) 443 0 0 0)
        refine hR _ (am_brt (rg := am_in 0) (P := (0 : Int) = 0) (A := R (217, [some (aR 8 0), some (aI (b q)), o2], [], am_wr (am_wr (am_wr (am_mix [440, 441, 442, 443] g M) 441 0 0 ((q : Nat) : Int)) 442 0 0 0) 443 0 0 0)) (B := R (103, [some (aR 8 0), some (aI (b q)), o2], [], am_wr (am_wr (am_wr (am_mix [440, 441, 442, 443] g M) 441 0 0 ((q : Nat) : Int)) 442 0 0 0) 443 0 0 0)) (by omega) (by omega) ?_)
        show R (217, [some (aR 8 0), some (aI (b q)), o2], [], am_wr (am_wr (am_wr (am_mix [440, 441, 442, 443] g M) 441 0 0 ((q : Nat) : Int)) 442 0 0 0) 443 0 0 0)
        refine hR _ (hR _ (hR _ (?_)))
        show R (222, [some (aR 8 0), some (aI (b q)), o2], [aI 57, aI 48, aI (b q)], am_wr (am_wr (am_wr (am_mix [440, 441, 442, 443] g M) 441 0 0 ((q : Nat) : Int)) 442 0 0 0) 443 0 0 0)
        refine hR _ (sp_in (by omega) (by omega) (fun h222 => ?_) (fun h222 => ?_))
        · show R (225, [some (aR 8 0), some (aI (b q)), o2], [aI 1], am_wr (am_wr (am_wr (am_mix [440, 441, 442, 443] g M) 441 0 0 ((q : Nat) : Int)) 442 0 0 0) 443 0 0 0)
          refine hR _ (am_brf (rg := am_in 1) (P := (1 : Int) = 0) (A := R (326, [some (aR 8 0), some (aI (b q)), o2], [], am_wr (am_wr (am_wr (am_mix [440, 441, 442, 443] g M) 441 0 0 ((q : Nat) : Int)) 442 0 0 0) 443 0 0 0)) (B := R (228, [some (aR 8 0), some (aI (b q)), o2], [], am_wr (am_wr (am_wr (am_mix [440, 441, 442, 443] g M) 441 0 0 ((q : Nat) : Int)) 442 0 0 0) 443 0 0 0)) (by omega) (by omega) ?_)
          show R (228, [some (aR 8 0), some (aI (b q)), o2], [], am_wr (am_wr (am_wr (am_mix [440, 441, 442, 443] g M) 441 0 0 ((q : Nat) : Int)) 442 0 0 0) 443 0 0 0)
          refine hR _ (hR _ (?_))
          show R (230, [some (aR 8 0), some (aI (b q)), some (aI 0)], [], am_wr (am_wr (am_wr (am_mix [440, 441, 442, 443] g M) 441 0 0 ((q : Nat) : Int)) 442 0 0 0) 443 0 0 0)
          have hbq2 : lx_by b z q = b q := if_pos (by omega)
          have hne : ¬ lx_by b z q = -1 := by rw [hbyq, if_pos (by omega)]; omega
          have hnle : ¬ lx_le (lx_by b z q) = true := by rw [show lx_le (lx_by b z q) = false from decide_eq_false (by rw [hbq2]; omega)]; decide
          have hdi : lx_di (lx_by b z q) = true := decide_eq_true (by rw [hbq2]; omega)
          obtain ⟨e, hee⟩ : ∃ e, e = lx_sc lx_di b z 160 q := ⟨_, rfl⟩
          have heb := lx_sc_1 (c := lx_di) (by decide) hdi
          rw [← hee] at heb
          have he1 : lx_e b z p = e := by
            unfold lx_e
            rw [← hqq, if_neg hne, if_neg hnle, if_pos hdi, hee]
          have ht1 : lx_t b z p = if e - q ≤ 4 then 2 else 1 := by
            unfold lx_t
            rw [← hqq, if_neg hne, if_neg hnle, if_pos hdi, he1]
          have hv1 : lx_v b z p = lx_nv b q (e - q) := by
            unfold lx_v
            rw [← hqq, he1]
          have e8 : am_ag [440, 441, 442, 443] M (am_wr (am_wr (am_wr (am_mix [440, 441, 442, 443] g M) 441 0 0 ((q : Nat) : Int)) 442 0 0 0) 443 0 0 0) := ((((am_ag.rf).mix rfl).wr rfl).wr rfl).wr rfl
          have f440 : (am_wr (am_wr (am_wr (am_mix [440, 441, 442, 443] g M) 441 0 0 ((q : Nat) : Int)) 442 0 0 0) 443 0 0 0) 440 0 0 = ((q : Nat) : Int) := hp0
          have f441 : (am_wr (am_wr (am_wr (am_mix [440, 441, 442, 443] g M) 441 0 0 ((q : Nat) : Int)) 442 0 0 0) 443 0 0 0) 441 0 0 = ((q : Nat) : Int) := rfl
          have f443 : (am_wr (am_wr (am_wr (am_mix [440, 441, 442, 443] g M) 441 0 0 ((q : Nat) : Int)) 442 0 0 0) 443 0 0 0) 443 0 0 = 0 := rfl
          rw [e8.eq] at f440 f441 f443 ⊢
          generalize am_wr (am_wr (am_wr (am_mix [440, 441, 442, 443] g M) 441 0 0 ((q : Nat) : Int)) 442 0 0 0) 443 0 0 0 = g5 at f440 f441 f443 ⊢
          have keyD : ∀ (f p1 : Nat) (x : Int) (g : am_M), q ≤ p1 → p1 ≤ z → z ≤ p1 + f → lx_sc lx_di b z f p1 = e → x = (p1 : Int) - q → (p1 - q ≤ 4 → g 443 0 0 = lx_nv b q (p1 - q)) → g 440 0 0 = (p1 : Int) → g 441 0 0 = (q : Int) → R (230, [some (aR 8 0), some (aI (b q)), some (aI x)], [], am_mix [440, 441, 442, 443] g M) := by
            intro f
            induction f with
            | zero =>
              intro p1 x g hqp hpz1 hzf hs hx hv hp1 hq1
              have hbp : p1 < z → 0 ≤ b p1 ∧ b p1 ≤ 255 := fun h => hby p1 h
              refine hR _ (hR _ (?_))
              show R (234, [some (aR 8 0), some (aI (b q)), some (aI x)], [aI (g 440 0 0)], am_mix [440, 441, 442, 443] g M)
              rw [(show g 440 0 0 = ((p1 : Nat) : Int) from hp1)]
              show R (234, [some (aR 8 0), some (aI (b q)), some (aI x)], [aI ((p1 : Nat) : Int)], am_mix [440, 441, 442, 443] g M)
              refine hR _ (hR _ (?_))
              show R (238, [some (aR 8 0), some (aI (b q)), some (aI x)], [aI (M 427 0 0), aI ((p1 : Nat) : Int)], am_mix [440, 441, 442, 443] g M)
              rw [(show M 427 0 0 = ((z : Nat) : Int) from hz)]
              show R (238, [some (aR 8 0), some (aI (b q)), some (aI x)], [aI ((z : Nat) : Int), aI ((p1 : Nat) : Int)], am_mix [440, 441, 442, 443] g M)
              refine hR _ (am_brt (rg := am_in ((p1 : Nat) : Int) ∧ am_in ((z : Nat) : Int)) (P := ((z : Nat) : Int) ≤ ((p1 : Nat) : Int)) (A := R (309, [some (aR 8 0), some (aI (b q)), some (aI x)], [], am_mix [440, 441, 442, 443] g M)) (B := R (241, [some (aR 8 0), some (aI (b q)), some (aI x)], [], am_mix [440, 441, 442, 443] g M)) (by omega) (by omega) ?_)
              show R (309, [some (aR 8 0), some (aI (b q)), some (aI x)], [], am_mix [440, 441, 442, 443] g M)
              have hpe : p1 = e := by first | exact hs | (rw [show lx_di (lx_by b z p1) = false from decide_eq_false (by first | (rw [show lx_by b z p1 = b p1 from if_pos (by omega)]; omega) | (rw [show lx_by b z p1 = -1 from if_neg (by omega)]; decide))] at hs; exact hs)
              rw [hpe] at hp1 hv hx
              clear hs
              refine hR _ (hR _ (hR _ (hR _ (am_brc (rg := am_in x ∧ am_in 4) (P := x ≤ 4) (A := R (319, [some (aR 8 0), some (aI (b q)), some (aI x)], [aR 8 0], am_mix [440, 441, 442, 443] g M)) (B := R (315, [some (aR 8 0), some (aI (b q)), some (aI x)], [aR 8 0], am_mix [440, 441, 442, 443] g M)) (by omega) (fun c312 => ?_) (fun c312 => ?_)))))
              · refine hR _ (hR _ (hR _ (?_)))
                show R (403, [some (aR 8 0), some (aI (b q)), some (aI x)], [], am_wr (am_mix [440, 441, 442, 443] g M) 442 0 0 1)
                refine hR _ (show K none (am_wr (am_mix [440, 441, 442, 443] g M) 442 0 0 1) from ?_)
                refine am_fin (S := [440, 441, 442, 443]) (F := fun m => mo_at b z m p) (((am_ag.rf).mix rfl).wr rfl) ⟨?_, ?_, ?_, ?_, ?_, ?_⟩ h
                · show (1 : Int) = _
                  rw [ht1]
                  first | (rw [if_pos (by omega)]; rfl) | (rw [if_neg (by omega)]; rfl)
                · exact hq1.trans (by rw [hqq])
                · exact hp1.trans (by rw [he1])
                · intro ht
                  rw [ht1] at ht
                  rw [hv1]
                  have h5 : e - q ≤ 4 := by
                    by_cases h4 : e - q ≤ 4
                    · exact h4
                    · rw [if_neg h4] at ht
                      omega
                  exact hv h5
                · intro ht
                  rw [ht1] at ht
                  exfalso
                  split at ht <;> omega
                · intro ht
                  rw [ht1] at ht
                  exfalso
                  split at ht <;> omega
              · refine hR _ (hR _ (hR _ (hR _ (?_))))
                show R (403, [some (aR 8 0), some (aI (b q)), some (aI x)], [], am_wr (am_mix [440, 441, 442, 443] g M) 442 0 0 (-1))
                refine hR _ (show K none (am_wr (am_mix [440, 441, 442, 443] g M) 442 0 0 (-1)) from ?_)
                refine am_fin (S := [440, 441, 442, 443]) (F := fun m => mo_at b z m p) (((am_ag.rf).mix rfl).wr rfl) ⟨?_, ?_, ?_, ?_, ?_, ?_⟩ h
                · show ((-1) : Int) = _
                  rw [ht1]
                  first | (rw [if_pos (by omega)]; rfl) | (rw [if_neg (by omega)]; rfl)
                · exact hq1.trans (by rw [hqq])
                · exact hp1.trans (by rw [he1])
                · intro ht
                  rw [ht1] at ht
                  rw [hv1]
                  have h5 : e - q ≤ 4 := by
                    by_cases h4 : e - q ≤ 4
                    · exact h4
                    · rw [if_neg h4] at ht
                      omega
                  exact hv h5
                · intro ht
                  rw [ht1] at ht
                  exfalso
                  split at ht <;> omega
                · intro ht
                  rw [ht1] at ht
                  exfalso
                  split at ht <;> omega
            | succ f ih =>
              intro p1 x g hqp hpz1 hzf hs hx hv hp1 hq1
              have hbp : p1 < z → 0 ≤ b p1 ∧ b p1 ≤ 255 := fun h => hby p1 h
              unfold lx_sc at hs
              refine hR _ (hR _ (?_))
              show R (234, [some (aR 8 0), some (aI (b q)), some (aI x)], [aI (g 440 0 0)], am_mix [440, 441, 442, 443] g M)
              rw [(show g 440 0 0 = ((p1 : Nat) : Int) from hp1)]
              show R (234, [some (aR 8 0), some (aI (b q)), some (aI x)], [aI ((p1 : Nat) : Int)], am_mix [440, 441, 442, 443] g M)
              refine hR _ (hR _ (?_))
              show R (238, [some (aR 8 0), some (aI (b q)), some (aI x)], [aI (M 427 0 0), aI ((p1 : Nat) : Int)], am_mix [440, 441, 442, 443] g M)
              rw [(show M 427 0 0 = ((z : Nat) : Int) from hz)]
              show R (238, [some (aR 8 0), some (aI (b q)), some (aI x)], [aI ((z : Nat) : Int), aI ((p1 : Nat) : Int)], am_mix [440, 441, 442, 443] g M)
              refine hR _ (am_brc (rg := am_in ((p1 : Nat) : Int) ∧ am_in ((z : Nat) : Int)) (P := ((z : Nat) : Int) ≤ ((p1 : Nat) : Int)) (A := R (309, [some (aR 8 0), some (aI (b q)), some (aI x)], [], am_mix [440, 441, 442, 443] g M)) (B := R (241, [some (aR 8 0), some (aI (b q)), some (aI x)], [], am_mix [440, 441, 442, 443] g M)) (by omega) (fun c238 => ?_) (fun c238 => ?_))
              · have hpe : p1 = e := by first | exact hs | (rw [show lx_di (lx_by b z p1) = false from decide_eq_false (by first | (rw [show lx_by b z p1 = b p1 from if_pos (by omega)]; omega) | (rw [show lx_by b z p1 = -1 from if_neg (by omega)]; decide))] at hs; exact hs)
                rw [hpe] at hp1 hv hx
                clear hs
                refine hR _ (hR _ (hR _ (hR _ (am_brc (rg := am_in x ∧ am_in 4) (P := x ≤ 4) (A := R (319, [some (aR 8 0), some (aI (b q)), some (aI x)], [aR 8 0], am_mix [440, 441, 442, 443] g M)) (B := R (315, [some (aR 8 0), some (aI (b q)), some (aI x)], [aR 8 0], am_mix [440, 441, 442, 443] g M)) (by omega) (fun c312 => ?_) (fun c312 => ?_)))))
                · refine hR _ (hR _ (hR _ (?_)))
                  show R (403, [some (aR 8 0), some (aI (b q)), some (aI x)], [], am_wr (am_mix [440, 441, 442, 443] g M) 442 0 0 1)
                  refine hR _ (show K none (am_wr (am_mix [440, 441, 442, 443] g M) 442 0 0 1) from ?_)
                  refine am_fin (S := [440, 441, 442, 443]) (F := fun m => mo_at b z m p) (((am_ag.rf).mix rfl).wr rfl) ⟨?_, ?_, ?_, ?_, ?_, ?_⟩ h
                  · show (1 : Int) = _
                    rw [ht1]
                    first | (rw [if_pos (by omega)]; rfl) | (rw [if_neg (by omega)]; rfl)
                  · exact hq1.trans (by rw [hqq])
                  · exact hp1.trans (by rw [he1])
                  · intro ht
                    rw [ht1] at ht
                    rw [hv1]
                    have h5 : e - q ≤ 4 := by
                      by_cases h4 : e - q ≤ 4
                      · exact h4
                      · rw [if_neg h4] at ht
                        omega
                    exact hv h5
                  · intro ht
                    rw [ht1] at ht
                    exfalso
                    split at ht <;> omega
                  · intro ht
                    rw [ht1] at ht
                    exfalso
                    split at ht <;> omega
                · refine hR _ (hR _ (hR _ (hR _ (?_))))
                  show R (403, [some (aR 8 0), some (aI (b q)), some (aI x)], [], am_wr (am_mix [440, 441, 442, 443] g M) 442 0 0 (-1))
                  refine hR _ (show K none (am_wr (am_mix [440, 441, 442, 443] g M) 442 0 0 (-1)) from ?_)
                  refine am_fin (S := [440, 441, 442, 443]) (F := fun m => mo_at b z m p) (((am_ag.rf).mix rfl).wr rfl) ⟨?_, ?_, ?_, ?_, ?_, ?_⟩ h
                  · show ((-1) : Int) = _
                    rw [ht1]
                    first | (rw [if_pos (by omega)]; rfl) | (rw [if_neg (by omega)]; rfl)
                  · exact hq1.trans (by rw [hqq])
                  · exact hp1.trans (by rw [he1])
                  · intro ht
                    rw [ht1] at ht
                    rw [hv1]
                    have h5 : e - q ≤ 4 := by
                      by_cases h4 : e - q ≤ 4
                      · exact h4
                      · rw [if_neg h4] at ht
                        omega
                    exact hv h5
                  · intro ht
                    rw [ht1] at ht
                    exfalso
                    split at ht <;> omega
                  · intro ht
                    rw [ht1] at ht
                    exfalso
                    split at ht <;> omega
              · refine hR _ (hR _ (hR _ (hR _ (?_))))
                show R (249, [some (aR 8 0), some (aI (b q)), some (aI x)], [aI (g 440 0 0), aR 27 0], am_mix [440, 441, 442, 443] g M)
                rw [(show g 440 0 0 = ((p1 : Nat) : Int) from hp1)]
                show R (249, [some (aR 8 0), some (aI (b q)), some (aI x)], [aI ((p1 : Nat) : Int), aR 27 0], am_mix [440, 441, 442, 443] g M)
                refine hR _ ⟨(show 0 ≤ (((p1 : Nat) : Int) : Int) ∧ (((p1 : Nat) : Int) : Int) < 160 from (by omega)), ?_⟩
                show R (250, [some (aR 8 0), some (aI (b q)), some (aI x)], [aI (M 27 0 p1)], am_mix [440, 441, 442, 443] g M)
                rw [(show M 27 0 p1 = b p1 from hb p1 (by omega))]
                show R (250, [some (aR 8 0), some (aI (b q)), some (aI x)], [aI (b p1)], am_mix [440, 441, 442, 443] g M)
                refine hR _ (hR _ (?_))
                show R (254, [some (aR 8 0), some (aI (b q)), some (aI x)], [aI 57, aI 48, aI (b p1)], am_mix [440, 441, 442, 443] g M)
                refine hR _ (sp_in (by omega) (by omega) (fun h254 => ?_) (fun h254 => ?_))
                · show R (257, [some (aR 8 0), some (aI (b q)), some (aI x)], [aI 1], am_mix [440, 441, 442, 443] g M)
                  refine hR _ (am_brf (rg := am_in 1) (P := (1 : Int) = 0) (A := R (309, [some (aR 8 0), some (aI (b q)), some (aI x)], [], am_mix [440, 441, 442, 443] g M)) (B := R (260, [some (aR 8 0), some (aI (b q)), some (aI x)], [], am_mix [440, 441, 442, 443] g M)) (by omega) (by omega) ?_)
                  show R (260, [some (aR 8 0), some (aI (b q)), some (aI x)], [], am_mix [440, 441, 442, 443] g M)
                  refine hR _ (hR _ (hR _ (hR _ (am_brc (rg := am_in x ∧ am_in 4) (P := 4 ≤ x) (A := R (289, [some (aR 8 0), some (aI (b q)), some (aI x)], [aR 8 0], am_mix [440, 441, 442, 443] g M)) (B := R (266, [some (aR 8 0), some (aI (b q)), some (aI x)], [aR 8 0], am_mix [440, 441, 442, 443] g M)) (by omega) (fun c263 => ?_) (fun c263 => ?_)))))
                  · refine hR _ (hR _ (hR _ (hR _ (hR _ (hR _ (?_))))))
                    show R (301, [some (aR 8 0), some (aI (b q)), some (aI (x + 1))], [aI (g 440 0 0), aR 8 0], am_wr (am_mix [440, 441, 442, 443] g M) 443 0 0 0)
                    rw [(show g 440 0 0 = ((p1 : Nat) : Int) from hp1)]
                    show R (301, [some (aR 8 0), some (aI (b q)), some (aI (x + 1))], [aI ((p1 : Nat) : Int), aR 8 0], am_wr (am_mix [440, 441, 442, 443] g M) 443 0 0 0)
                    refine hR _ (hR _ (hR _ (hR _ (?_))))
                    show R (230, [some (aR 8 0), some (aI (b q)), some (aI (x + 1))], [], am_wr (am_wr (am_mix [440, 441, 442, 443] g M) 443 0 0 0) 440 0 0 (((p1 : Nat) : Int) + 1))
                    have hbp1 : lx_by b z p1 = b p1 := if_pos (by omega)
                    rw [show lx_di (lx_by b z p1) = true from decide_eq_true (by rw [hbp1]; omega)] at hs
                    have e9 : am_ag [440, 441, 442, 443] M (am_wr (am_wr (am_mix [440, 441, 442, 443] g M) 443 0 0 0) 440 0 0 (((p1 : Nat) : Int) + 1)) := (((am_ag.rf).mix rfl).wr rfl).wr rfl
                    have n1 : (am_wr (am_wr (am_mix [440, 441, 442, 443] g M) 443 0 0 0) 440 0 0 (((p1 : Nat) : Int) + 1)) 440 0 0 = ((p1 + 1 : Nat) : Int) := rfl
                    have n2 : (am_wr (am_wr (am_mix [440, 441, 442, 443] g M) 443 0 0 0) 440 0 0 (((p1 : Nat) : Int) + 1)) 441 0 0 = ((q : Nat) : Int) := hq1
                    have n3 : p1 + 1 - q ≤ 4 → (am_wr (am_wr (am_mix [440, 441, 442, 443] g M) 443 0 0 0) 440 0 0 (((p1 : Nat) : Int) + 1)) 443 0 0 = lx_nv b q (p1 + 1 - q) := by
                      intro h4
                      show 0 = _
                      first | (exfalso; omega) | skip
                      all_goals (rw [hv (by omega), show p1 + 1 - q = (p1 - q) + 1 by omega, lx_nv, show q + (p1 - q) = p1 by omega, Int.mul_comm])
                    rw [e9.eq] at n1 n2 n3 ⊢
                    exact ih (p1 + 1) _ _ (by omega) (by omega) (by omega) hs (by omega) n3 n1 n2
                  · refine hR _ (hR _ (hR _ (hR _ (hR _ (hR _ (hR _ (hR _ (?_))))))))
                    show R (281, [some (aR 8 0), some (aI (b q)), some (aI x)], [aI (g 440 0 0), aR 27 0, aI (10 * g 443 0 0), aR 8 0], am_mix [440, 441, 442, 443] g M)
                    rw [(show g 440 0 0 = ((p1 : Nat) : Int) from hp1)]
                    show R (281, [some (aR 8 0), some (aI (b q)), some (aI x)], [aI ((p1 : Nat) : Int), aR 27 0, aI (10 * g 443 0 0), aR 8 0], am_mix [440, 441, 442, 443] g M)
                    refine hR _ ⟨(show 0 ≤ (((p1 : Nat) : Int) : Int) ∧ (((p1 : Nat) : Int) : Int) < 160 from (by omega)), ?_⟩
                    show R (282, [some (aR 8 0), some (aI (b q)), some (aI x)], [aI (M 27 0 p1), aI (10 * g 443 0 0), aR 8 0], am_mix [440, 441, 442, 443] g M)
                    rw [(show M 27 0 p1 = b p1 from hb p1 (by omega))]
                    show R (282, [some (aR 8 0), some (aI (b q)), some (aI x)], [aI (b p1), aI (10 * g 443 0 0), aR 8 0], am_mix [440, 441, 442, 443] g M)
                    refine hR _ (hR _ (hR _ (hR _ (hR _ (hR _ (hR _ (hR _ (hR _ (?_)))))))))
                    show R (301, [some (aR 8 0), some (aI (b q)), some (aI (x + 1))], [aI (g 440 0 0), aR 8 0], am_wr (am_mix [440, 441, 442, 443] g M) 443 0 0 (((10 * g 443 0 0) + (b p1)) - 48))
                    rw [(show g 440 0 0 = ((p1 : Nat) : Int) from hp1)]
                    show R (301, [some (aR 8 0), some (aI (b q)), some (aI (x + 1))], [aI ((p1 : Nat) : Int), aR 8 0], am_wr (am_mix [440, 441, 442, 443] g M) 443 0 0 (((10 * g 443 0 0) + (b p1)) - 48))
                    refine hR _ (hR _ (hR _ (hR _ (?_))))
                    show R (230, [some (aR 8 0), some (aI (b q)), some (aI (x + 1))], [], am_wr (am_wr (am_mix [440, 441, 442, 443] g M) 443 0 0 (((10 * g 443 0 0) + (b p1)) - 48)) 440 0 0 (((p1 : Nat) : Int) + 1))
                    have hbp1 : lx_by b z p1 = b p1 := if_pos (by omega)
                    rw [show lx_di (lx_by b z p1) = true from decide_eq_true (by rw [hbp1]; omega)] at hs
                    have e9 : am_ag [440, 441, 442, 443] M (am_wr (am_wr (am_mix [440, 441, 442, 443] g M) 443 0 0 (((10 * g 443 0 0) + (b p1)) - 48)) 440 0 0 (((p1 : Nat) : Int) + 1)) := (((am_ag.rf).mix rfl).wr rfl).wr rfl
                    have n1 : (am_wr (am_wr (am_mix [440, 441, 442, 443] g M) 443 0 0 (((10 * g 443 0 0) + (b p1)) - 48)) 440 0 0 (((p1 : Nat) : Int) + 1)) 440 0 0 = ((p1 + 1 : Nat) : Int) := rfl
                    have n2 : (am_wr (am_wr (am_mix [440, 441, 442, 443] g M) 443 0 0 (((10 * g 443 0 0) + (b p1)) - 48)) 440 0 0 (((p1 : Nat) : Int) + 1)) 441 0 0 = ((q : Nat) : Int) := hq1
                    have n3 : p1 + 1 - q ≤ 4 → (am_wr (am_wr (am_mix [440, 441, 442, 443] g M) 443 0 0 (((10 * g 443 0 0) + (b p1)) - 48)) 440 0 0 (((p1 : Nat) : Int) + 1)) 443 0 0 = lx_nv b q (p1 + 1 - q) := by
                      intro h4
                      show (((10 * g 443 0 0) + (b p1)) - 48) = _
                      first | (exfalso; omega) | skip
                      all_goals (rw [hv (by omega), show p1 + 1 - q = (p1 - q) + 1 by omega, lx_nv, show q + (p1 - q) = p1 by omega, Int.mul_comm])
                    rw [e9.eq] at n1 n2 n3 ⊢
                    exact ih (p1 + 1) _ _ (by omega) (by omega) (by omega) hs (by omega) n3 n1 n2
                · show R (257, [some (aR 8 0), some (aI (b q)), some (aI x)], [aI 0], am_mix [440, 441, 442, 443] g M)
                  refine hR _ (am_brt (rg := am_in 0) (P := (0 : Int) = 0) (A := R (309, [some (aR 8 0), some (aI (b q)), some (aI x)], [], am_mix [440, 441, 442, 443] g M)) (B := R (260, [some (aR 8 0), some (aI (b q)), some (aI x)], [], am_mix [440, 441, 442, 443] g M)) (by omega) (by omega) ?_)
                  show R (309, [some (aR 8 0), some (aI (b q)), some (aI x)], [], am_mix [440, 441, 442, 443] g M)
                  have hpe : p1 = e := by first | exact hs | (rw [show lx_di (lx_by b z p1) = false from decide_eq_false (by first | (rw [show lx_by b z p1 = b p1 from if_pos (by omega)]; omega) | (rw [show lx_by b z p1 = -1 from if_neg (by omega)]; decide))] at hs; exact hs)
                  rw [hpe] at hp1 hv hx
                  clear hs
                  refine hR _ (hR _ (hR _ (hR _ (am_brc (rg := am_in x ∧ am_in 4) (P := x ≤ 4) (A := R (319, [some (aR 8 0), some (aI (b q)), some (aI x)], [aR 8 0], am_mix [440, 441, 442, 443] g M)) (B := R (315, [some (aR 8 0), some (aI (b q)), some (aI x)], [aR 8 0], am_mix [440, 441, 442, 443] g M)) (by omega) (fun c312 => ?_) (fun c312 => ?_)))))
                  · refine hR _ (hR _ (hR _ (?_)))
                    show R (403, [some (aR 8 0), some (aI (b q)), some (aI x)], [], am_wr (am_mix [440, 441, 442, 443] g M) 442 0 0 1)
                    refine hR _ (show K none (am_wr (am_mix [440, 441, 442, 443] g M) 442 0 0 1) from ?_)
                    refine am_fin (S := [440, 441, 442, 443]) (F := fun m => mo_at b z m p) (((am_ag.rf).mix rfl).wr rfl) ⟨?_, ?_, ?_, ?_, ?_, ?_⟩ h
                    · show (1 : Int) = _
                      rw [ht1]
                      first | (rw [if_pos (by omega)]; rfl) | (rw [if_neg (by omega)]; rfl)
                    · exact hq1.trans (by rw [hqq])
                    · exact hp1.trans (by rw [he1])
                    · intro ht
                      rw [ht1] at ht
                      rw [hv1]
                      have h5 : e - q ≤ 4 := by
                        by_cases h4 : e - q ≤ 4
                        · exact h4
                        · rw [if_neg h4] at ht
                          omega
                      exact hv h5
                    · intro ht
                      rw [ht1] at ht
                      exfalso
                      split at ht <;> omega
                    · intro ht
                      rw [ht1] at ht
                      exfalso
                      split at ht <;> omega
                  · refine hR _ (hR _ (hR _ (hR _ (?_))))
                    show R (403, [some (aR 8 0), some (aI (b q)), some (aI x)], [], am_wr (am_mix [440, 441, 442, 443] g M) 442 0 0 (-1))
                    refine hR _ (show K none (am_wr (am_mix [440, 441, 442, 443] g M) 442 0 0 (-1)) from ?_)
                    refine am_fin (S := [440, 441, 442, 443]) (F := fun m => mo_at b z m p) (((am_ag.rf).mix rfl).wr rfl) ⟨?_, ?_, ?_, ?_, ?_, ?_⟩ h
                    · show ((-1) : Int) = _
                      rw [ht1]
                      first | (rw [if_pos (by omega)]; rfl) | (rw [if_neg (by omega)]; rfl)
                    · exact hq1.trans (by rw [hqq])
                    · exact hp1.trans (by rw [he1])
                    · intro ht
                      rw [ht1] at ht
                      rw [hv1]
                      have h5 : e - q ≤ 4 := by
                        by_cases h4 : e - q ≤ 4
                        · exact h4
                        · rw [if_neg h4] at ht
                          omega
                      exact hv h5
                    · intro ht
                      rw [ht1] at ht
                      exfalso
                      split at ht <;> omega
                    · intro ht
                      rw [ht1] at ht
                      exfalso
                      split at ht <;> omega
          exact keyD 160 q _ g5 (Nat.le_refl _) hqz (by omega) hee.symm (by omega) (fun _ => by rw [Nat.sub_self]; exact f443) f440 f441
        · show R (225, [some (aR 8 0), some (aI (b q)), o2], [aI 0], am_wr (am_wr (am_wr (am_mix [440, 441, 442, 443] g M) 441 0 0 ((q : Nat) : Int)) 442 0 0 0) 443 0 0 0)
          refine hR _ (am_brt (rg := am_in 0) (P := (0 : Int) = 0) (A := R (326, [some (aR 8 0), some (aI (b q)), o2], [], am_wr (am_wr (am_wr (am_mix [440, 441, 442, 443] g M) 441 0 0 ((q : Nat) : Int)) 442 0 0 0) 443 0 0 0)) (B := R (228, [some (aR 8 0), some (aI (b q)), o2], [], am_wr (am_wr (am_wr (am_mix [440, 441, 442, 443] g M) 441 0 0 ((q : Nat) : Int)) 442 0 0 0) 443 0 0 0)) (by omega) (by omega) ?_)
          show R (326, [some (aR 8 0), some (aI (b q)), o2], [], am_wr (am_wr (am_wr (am_mix [440, 441, 442, 443] g M) 441 0 0 ((q : Nat) : Int)) 442 0 0 0) 443 0 0 0)
          refine hR _ (hR _ (hR _ (am_brc (rg := am_in (b q) ∧ am_in 40) (P := (b q) = 40) (A := R (374, [some (aR 8 0), some (aI (b q)), o2], [], am_wr (am_wr (am_wr (am_mix [440, 441, 442, 443] g M) 441 0 0 ((q : Nat) : Int)) 442 0 0 0) 443 0 0 0)) (B := R (332, [some (aR 8 0), some (aI (b q)), o2], [], am_wr (am_wr (am_wr (am_mix [440, 441, 442, 443] g M) 441 0 0 ((q : Nat) : Int)) 442 0 0 0) 443 0 0 0)) (by omega) (fun c329 => ?_) (fun c329 => ?_))))
          · refine hR _ (hR _ (hR _ (hR _ (hR _ (hR _ (am_brf (rg := am_in 1) (P := (1 : Int) = 0) (A := R (389, [some (aR 8 0), some (aI (b q)), some (aI 1)], [aR 8 0], am_wr (am_wr (am_wr (am_mix [440, 441, 442, 443] g M) 441 0 0 ((q : Nat) : Int)) 442 0 0 0) 443 0 0 0)) (B := R (385, [some (aR 8 0), some (aI (b q)), some (aI 1)], [aR 8 0], am_wr (am_wr (am_wr (am_mix [440, 441, 442, 443] g M) 441 0 0 ((q : Nat) : Int)) 442 0 0 0) 443 0 0 0)) (by omega) (by omega) ?_))))))
            show R (385, [some (aR 8 0), some (aI (b q)), some (aI 1)], [aR 8 0], am_wr (am_wr (am_wr (am_mix [440, 441, 442, 443] g M) 441 0 0 ((q : Nat) : Int)) 442 0 0 0) 443 0 0 0)
            refine hR _ (hR _ (hR _ (hR _ (hR _ (hR _ (?_))))))
            show R (398, [some (aR 8 0), some (aI (b q)), some (aI 1)], [aI (g 440 0 0), aR 8 0], am_wr (am_wr (am_wr (am_wr (am_mix [440, 441, 442, 443] g M) 441 0 0 ((q : Nat) : Int)) 442 0 0 0) 443 0 0 0) 442 0 0 (b q))
            rw [(show g 440 0 0 = ((q : Nat) : Int) from hp0)]
            show R (398, [some (aR 8 0), some (aI (b q)), some (aI 1)], [aI ((q : Nat) : Int), aR 8 0], am_wr (am_wr (am_wr (am_wr (am_mix [440, 441, 442, 443] g M) 441 0 0 ((q : Nat) : Int)) 442 0 0 0) 443 0 0 0) 442 0 0 (b q))
            refine hR _ (hR _ (hR _ (?_)))
            show R (403, [some (aR 8 0), some (aI (b q)), some (aI 1)], [], am_wr (am_wr (am_wr (am_wr (am_wr (am_mix [440, 441, 442, 443] g M) 441 0 0 ((q : Nat) : Int)) 442 0 0 0) 443 0 0 0) 442 0 0 (b q)) 440 0 0 (((q : Nat) : Int) + 1))
            refine hR _ (show K none (am_wr (am_wr (am_wr (am_wr (am_wr (am_mix [440, 441, 442, 443] g M) 441 0 0 ((q : Nat) : Int)) 442 0 0 0) 443 0 0 0) 442 0 0 (b q)) 440 0 0 (((q : Nat) : Int) + 1)) from ?_)
            have hbq2 : lx_by b z q = b q := if_pos (by omega)
            have hne : ¬ lx_by b z q = -1 := by rw [hbyq, if_pos (by omega)]; omega
            have hnle : ¬ lx_le (lx_by b z q) = true := by rw [show lx_le (lx_by b z q) = false from decide_eq_false (by rw [hbq2]; omega)]; decide
            have hndi : ¬ lx_di (lx_by b z q) = true := by rw [show lx_di (lx_by b z q) = false from decide_eq_false (by rw [hbq2]; omega)]; decide
            have ht1 : lx_t b z p = lx_sg (b q) := by
              unfold lx_t
              rw [← hqq, if_neg hne, if_neg hnle, if_neg hndi, hbq2]
            have hsg : lx_sg (b q) = b q := if_pos (by omega)
            rw [hsg] at ht1
            refine am_fin (S := [440, 441, 442, 443]) (F := fun m => mo_at b z m p) (((((((am_ag.rf).mix rfl).wr rfl).wr rfl).wr rfl).wr rfl).wr rfl) ⟨?_, ?_, ?_, ?_, ?_, ?_⟩ h
            · show ((b q) : Int) = _
              rw [ht1]
              first | rfl | exact (mo_mt_big (by omega)).symm
            · show ((q : Nat) : Int) = _
              rw [hqq]
            · show ((q : Nat) : Int) + 1 = _
              unfold lx_e
              rw [← hqq, if_neg hne, if_neg hnle, if_neg hndi]
              rfl
            · intro ht
              rw [ht1] at ht
              exfalso
              omega
            · intro ht
              rw [ht1] at ht
              exfalso
              omega
            · intro ht
              rw [ht1] at ht
              exfalso
              omega
          · refine hR _ (hR _ (hR _ (am_brc (rg := am_in (b q) ∧ am_in 41) (P := (b q) = 41) (A := R (374, [some (aR 8 0), some (aI (b q)), o2], [], am_wr (am_wr (am_wr (am_mix [440, 441, 442, 443] g M) 441 0 0 ((q : Nat) : Int)) 442 0 0 0) 443 0 0 0)) (B := R (338, [some (aR 8 0), some (aI (b q)), o2], [], am_wr (am_wr (am_wr (am_mix [440, 441, 442, 443] g M) 441 0 0 ((q : Nat) : Int)) 442 0 0 0) 443 0 0 0)) (by omega) (fun c335 => ?_) (fun c335 => ?_))))
            · refine hR _ (hR _ (hR _ (hR _ (hR _ (hR _ (am_brf (rg := am_in 1) (P := (1 : Int) = 0) (A := R (389, [some (aR 8 0), some (aI (b q)), some (aI 1)], [aR 8 0], am_wr (am_wr (am_wr (am_mix [440, 441, 442, 443] g M) 441 0 0 ((q : Nat) : Int)) 442 0 0 0) 443 0 0 0)) (B := R (385, [some (aR 8 0), some (aI (b q)), some (aI 1)], [aR 8 0], am_wr (am_wr (am_wr (am_mix [440, 441, 442, 443] g M) 441 0 0 ((q : Nat) : Int)) 442 0 0 0) 443 0 0 0)) (by omega) (by omega) ?_))))))
              show R (385, [some (aR 8 0), some (aI (b q)), some (aI 1)], [aR 8 0], am_wr (am_wr (am_wr (am_mix [440, 441, 442, 443] g M) 441 0 0 ((q : Nat) : Int)) 442 0 0 0) 443 0 0 0)
              refine hR _ (hR _ (hR _ (hR _ (hR _ (hR _ (?_))))))
              show R (398, [some (aR 8 0), some (aI (b q)), some (aI 1)], [aI (g 440 0 0), aR 8 0], am_wr (am_wr (am_wr (am_wr (am_mix [440, 441, 442, 443] g M) 441 0 0 ((q : Nat) : Int)) 442 0 0 0) 443 0 0 0) 442 0 0 (b q))
              rw [(show g 440 0 0 = ((q : Nat) : Int) from hp0)]
              show R (398, [some (aR 8 0), some (aI (b q)), some (aI 1)], [aI ((q : Nat) : Int), aR 8 0], am_wr (am_wr (am_wr (am_wr (am_mix [440, 441, 442, 443] g M) 441 0 0 ((q : Nat) : Int)) 442 0 0 0) 443 0 0 0) 442 0 0 (b q))
              refine hR _ (hR _ (hR _ (?_)))
              show R (403, [some (aR 8 0), some (aI (b q)), some (aI 1)], [], am_wr (am_wr (am_wr (am_wr (am_wr (am_mix [440, 441, 442, 443] g M) 441 0 0 ((q : Nat) : Int)) 442 0 0 0) 443 0 0 0) 442 0 0 (b q)) 440 0 0 (((q : Nat) : Int) + 1))
              refine hR _ (show K none (am_wr (am_wr (am_wr (am_wr (am_wr (am_mix [440, 441, 442, 443] g M) 441 0 0 ((q : Nat) : Int)) 442 0 0 0) 443 0 0 0) 442 0 0 (b q)) 440 0 0 (((q : Nat) : Int) + 1)) from ?_)
              have hbq2 : lx_by b z q = b q := if_pos (by omega)
              have hne : ¬ lx_by b z q = -1 := by rw [hbyq, if_pos (by omega)]; omega
              have hnle : ¬ lx_le (lx_by b z q) = true := by rw [show lx_le (lx_by b z q) = false from decide_eq_false (by rw [hbq2]; omega)]; decide
              have hndi : ¬ lx_di (lx_by b z q) = true := by rw [show lx_di (lx_by b z q) = false from decide_eq_false (by rw [hbq2]; omega)]; decide
              have ht1 : lx_t b z p = lx_sg (b q) := by
                unfold lx_t
                rw [← hqq, if_neg hne, if_neg hnle, if_neg hndi, hbq2]
              have hsg : lx_sg (b q) = b q := if_pos (by omega)
              rw [hsg] at ht1
              refine am_fin (S := [440, 441, 442, 443]) (F := fun m => mo_at b z m p) (((((((am_ag.rf).mix rfl).wr rfl).wr rfl).wr rfl).wr rfl).wr rfl) ⟨?_, ?_, ?_, ?_, ?_, ?_⟩ h
              · show ((b q) : Int) = _
                rw [ht1]
                first | rfl | exact (mo_mt_big (by omega)).symm
              · show ((q : Nat) : Int) = _
                rw [hqq]
              · show ((q : Nat) : Int) + 1 = _
                unfold lx_e
                rw [← hqq, if_neg hne, if_neg hnle, if_neg hndi]
                rfl
              · intro ht
                rw [ht1] at ht
                exfalso
                omega
              · intro ht
                rw [ht1] at ht
                exfalso
                omega
              · intro ht
                rw [ht1] at ht
                exfalso
                omega
            · refine hR _ (hR _ (hR _ (am_brc (rg := am_in (b q) ∧ am_in 59) (P := (b q) = 59) (A := R (374, [some (aR 8 0), some (aI (b q)), o2], [], am_wr (am_wr (am_wr (am_mix [440, 441, 442, 443] g M) 441 0 0 ((q : Nat) : Int)) 442 0 0 0) 443 0 0 0)) (B := R (344, [some (aR 8 0), some (aI (b q)), o2], [], am_wr (am_wr (am_wr (am_mix [440, 441, 442, 443] g M) 441 0 0 ((q : Nat) : Int)) 442 0 0 0) 443 0 0 0)) (by omega) (fun c341 => ?_) (fun c341 => ?_))))
              · refine hR _ (hR _ (hR _ (hR _ (hR _ (hR _ (am_brf (rg := am_in 1) (P := (1 : Int) = 0) (A := R (389, [some (aR 8 0), some (aI (b q)), some (aI 1)], [aR 8 0], am_wr (am_wr (am_wr (am_mix [440, 441, 442, 443] g M) 441 0 0 ((q : Nat) : Int)) 442 0 0 0) 443 0 0 0)) (B := R (385, [some (aR 8 0), some (aI (b q)), some (aI 1)], [aR 8 0], am_wr (am_wr (am_wr (am_mix [440, 441, 442, 443] g M) 441 0 0 ((q : Nat) : Int)) 442 0 0 0) 443 0 0 0)) (by omega) (by omega) ?_))))))
                show R (385, [some (aR 8 0), some (aI (b q)), some (aI 1)], [aR 8 0], am_wr (am_wr (am_wr (am_mix [440, 441, 442, 443] g M) 441 0 0 ((q : Nat) : Int)) 442 0 0 0) 443 0 0 0)
                refine hR _ (hR _ (hR _ (hR _ (hR _ (hR _ (?_))))))
                show R (398, [some (aR 8 0), some (aI (b q)), some (aI 1)], [aI (g 440 0 0), aR 8 0], am_wr (am_wr (am_wr (am_wr (am_mix [440, 441, 442, 443] g M) 441 0 0 ((q : Nat) : Int)) 442 0 0 0) 443 0 0 0) 442 0 0 (b q))
                rw [(show g 440 0 0 = ((q : Nat) : Int) from hp0)]
                show R (398, [some (aR 8 0), some (aI (b q)), some (aI 1)], [aI ((q : Nat) : Int), aR 8 0], am_wr (am_wr (am_wr (am_wr (am_mix [440, 441, 442, 443] g M) 441 0 0 ((q : Nat) : Int)) 442 0 0 0) 443 0 0 0) 442 0 0 (b q))
                refine hR _ (hR _ (hR _ (?_)))
                show R (403, [some (aR 8 0), some (aI (b q)), some (aI 1)], [], am_wr (am_wr (am_wr (am_wr (am_wr (am_mix [440, 441, 442, 443] g M) 441 0 0 ((q : Nat) : Int)) 442 0 0 0) 443 0 0 0) 442 0 0 (b q)) 440 0 0 (((q : Nat) : Int) + 1))
                refine hR _ (show K none (am_wr (am_wr (am_wr (am_wr (am_wr (am_mix [440, 441, 442, 443] g M) 441 0 0 ((q : Nat) : Int)) 442 0 0 0) 443 0 0 0) 442 0 0 (b q)) 440 0 0 (((q : Nat) : Int) + 1)) from ?_)
                have hbq2 : lx_by b z q = b q := if_pos (by omega)
                have hne : ¬ lx_by b z q = -1 := by rw [hbyq, if_pos (by omega)]; omega
                have hnle : ¬ lx_le (lx_by b z q) = true := by rw [show lx_le (lx_by b z q) = false from decide_eq_false (by rw [hbq2]; omega)]; decide
                have hndi : ¬ lx_di (lx_by b z q) = true := by rw [show lx_di (lx_by b z q) = false from decide_eq_false (by rw [hbq2]; omega)]; decide
                have ht1 : lx_t b z p = lx_sg (b q) := by
                  unfold lx_t
                  rw [← hqq, if_neg hne, if_neg hnle, if_neg hndi, hbq2]
                have hsg : lx_sg (b q) = b q := if_pos (by omega)
                rw [hsg] at ht1
                refine am_fin (S := [440, 441, 442, 443]) (F := fun m => mo_at b z m p) (((((((am_ag.rf).mix rfl).wr rfl).wr rfl).wr rfl).wr rfl).wr rfl) ⟨?_, ?_, ?_, ?_, ?_, ?_⟩ h
                · show ((b q) : Int) = _
                  rw [ht1]
                  first | rfl | exact (mo_mt_big (by omega)).symm
                · show ((q : Nat) : Int) = _
                  rw [hqq]
                · show ((q : Nat) : Int) + 1 = _
                  unfold lx_e
                  rw [← hqq, if_neg hne, if_neg hnle, if_neg hndi]
                  rfl
                · intro ht
                  rw [ht1] at ht
                  exfalso
                  omega
                · intro ht
                  rw [ht1] at ht
                  exfalso
                  omega
                · intro ht
                  rw [ht1] at ht
                  exfalso
                  omega
              · refine hR _ (hR _ (hR _ (am_brc (rg := am_in (b q) ∧ am_in 43) (P := (b q) = 43) (A := R (374, [some (aR 8 0), some (aI (b q)), o2], [], am_wr (am_wr (am_wr (am_mix [440, 441, 442, 443] g M) 441 0 0 ((q : Nat) : Int)) 442 0 0 0) 443 0 0 0)) (B := R (350, [some (aR 8 0), some (aI (b q)), o2], [], am_wr (am_wr (am_wr (am_mix [440, 441, 442, 443] g M) 441 0 0 ((q : Nat) : Int)) 442 0 0 0) 443 0 0 0)) (by omega) (fun c347 => ?_) (fun c347 => ?_))))
                · refine hR _ (hR _ (hR _ (hR _ (hR _ (hR _ (am_brf (rg := am_in 1) (P := (1 : Int) = 0) (A := R (389, [some (aR 8 0), some (aI (b q)), some (aI 1)], [aR 8 0], am_wr (am_wr (am_wr (am_mix [440, 441, 442, 443] g M) 441 0 0 ((q : Nat) : Int)) 442 0 0 0) 443 0 0 0)) (B := R (385, [some (aR 8 0), some (aI (b q)), some (aI 1)], [aR 8 0], am_wr (am_wr (am_wr (am_mix [440, 441, 442, 443] g M) 441 0 0 ((q : Nat) : Int)) 442 0 0 0) 443 0 0 0)) (by omega) (by omega) ?_))))))
                  show R (385, [some (aR 8 0), some (aI (b q)), some (aI 1)], [aR 8 0], am_wr (am_wr (am_wr (am_mix [440, 441, 442, 443] g M) 441 0 0 ((q : Nat) : Int)) 442 0 0 0) 443 0 0 0)
                  refine hR _ (hR _ (hR _ (hR _ (hR _ (hR _ (?_))))))
                  show R (398, [some (aR 8 0), some (aI (b q)), some (aI 1)], [aI (g 440 0 0), aR 8 0], am_wr (am_wr (am_wr (am_wr (am_mix [440, 441, 442, 443] g M) 441 0 0 ((q : Nat) : Int)) 442 0 0 0) 443 0 0 0) 442 0 0 (b q))
                  rw [(show g 440 0 0 = ((q : Nat) : Int) from hp0)]
                  show R (398, [some (aR 8 0), some (aI (b q)), some (aI 1)], [aI ((q : Nat) : Int), aR 8 0], am_wr (am_wr (am_wr (am_wr (am_mix [440, 441, 442, 443] g M) 441 0 0 ((q : Nat) : Int)) 442 0 0 0) 443 0 0 0) 442 0 0 (b q))
                  refine hR _ (hR _ (hR _ (?_)))
                  show R (403, [some (aR 8 0), some (aI (b q)), some (aI 1)], [], am_wr (am_wr (am_wr (am_wr (am_wr (am_mix [440, 441, 442, 443] g M) 441 0 0 ((q : Nat) : Int)) 442 0 0 0) 443 0 0 0) 442 0 0 (b q)) 440 0 0 (((q : Nat) : Int) + 1))
                  refine hR _ (show K none (am_wr (am_wr (am_wr (am_wr (am_wr (am_mix [440, 441, 442, 443] g M) 441 0 0 ((q : Nat) : Int)) 442 0 0 0) 443 0 0 0) 442 0 0 (b q)) 440 0 0 (((q : Nat) : Int) + 1)) from ?_)
                  have hbq2 : lx_by b z q = b q := if_pos (by omega)
                  have hne : ¬ lx_by b z q = -1 := by rw [hbyq, if_pos (by omega)]; omega
                  have hnle : ¬ lx_le (lx_by b z q) = true := by rw [show lx_le (lx_by b z q) = false from decide_eq_false (by rw [hbq2]; omega)]; decide
                  have hndi : ¬ lx_di (lx_by b z q) = true := by rw [show lx_di (lx_by b z q) = false from decide_eq_false (by rw [hbq2]; omega)]; decide
                  have ht1 : lx_t b z p = lx_sg (b q) := by
                    unfold lx_t
                    rw [← hqq, if_neg hne, if_neg hnle, if_neg hndi, hbq2]
                  have hsg : lx_sg (b q) = b q := if_pos (by omega)
                  rw [hsg] at ht1
                  refine am_fin (S := [440, 441, 442, 443]) (F := fun m => mo_at b z m p) (((((((am_ag.rf).mix rfl).wr rfl).wr rfl).wr rfl).wr rfl).wr rfl) ⟨?_, ?_, ?_, ?_, ?_, ?_⟩ h
                  · show ((b q) : Int) = _
                    rw [ht1]
                    first | rfl | exact (mo_mt_big (by omega)).symm
                  · show ((q : Nat) : Int) = _
                    rw [hqq]
                  · show ((q : Nat) : Int) + 1 = _
                    unfold lx_e
                    rw [← hqq, if_neg hne, if_neg hnle, if_neg hndi]
                    rfl
                  · intro ht
                    rw [ht1] at ht
                    exfalso
                    omega
                  · intro ht
                    rw [ht1] at ht
                    exfalso
                    omega
                  · intro ht
                    rw [ht1] at ht
                    exfalso
                    omega
                · refine hR _ (hR _ (hR _ (am_brc (rg := am_in (b q) ∧ am_in 45) (P := (b q) = 45) (A := R (374, [some (aR 8 0), some (aI (b q)), o2], [], am_wr (am_wr (am_wr (am_mix [440, 441, 442, 443] g M) 441 0 0 ((q : Nat) : Int)) 442 0 0 0) 443 0 0 0)) (B := R (356, [some (aR 8 0), some (aI (b q)), o2], [], am_wr (am_wr (am_wr (am_mix [440, 441, 442, 443] g M) 441 0 0 ((q : Nat) : Int)) 442 0 0 0) 443 0 0 0)) (by omega) (fun c353 => ?_) (fun c353 => ?_))))
                  · refine hR _ (hR _ (hR _ (hR _ (hR _ (hR _ (am_brf (rg := am_in 1) (P := (1 : Int) = 0) (A := R (389, [some (aR 8 0), some (aI (b q)), some (aI 1)], [aR 8 0], am_wr (am_wr (am_wr (am_mix [440, 441, 442, 443] g M) 441 0 0 ((q : Nat) : Int)) 442 0 0 0) 443 0 0 0)) (B := R (385, [some (aR 8 0), some (aI (b q)), some (aI 1)], [aR 8 0], am_wr (am_wr (am_wr (am_mix [440, 441, 442, 443] g M) 441 0 0 ((q : Nat) : Int)) 442 0 0 0) 443 0 0 0)) (by omega) (by omega) ?_))))))
                    show R (385, [some (aR 8 0), some (aI (b q)), some (aI 1)], [aR 8 0], am_wr (am_wr (am_wr (am_mix [440, 441, 442, 443] g M) 441 0 0 ((q : Nat) : Int)) 442 0 0 0) 443 0 0 0)
                    refine hR _ (hR _ (hR _ (hR _ (hR _ (hR _ (?_))))))
                    show R (398, [some (aR 8 0), some (aI (b q)), some (aI 1)], [aI (g 440 0 0), aR 8 0], am_wr (am_wr (am_wr (am_wr (am_mix [440, 441, 442, 443] g M) 441 0 0 ((q : Nat) : Int)) 442 0 0 0) 443 0 0 0) 442 0 0 (b q))
                    rw [(show g 440 0 0 = ((q : Nat) : Int) from hp0)]
                    show R (398, [some (aR 8 0), some (aI (b q)), some (aI 1)], [aI ((q : Nat) : Int), aR 8 0], am_wr (am_wr (am_wr (am_wr (am_mix [440, 441, 442, 443] g M) 441 0 0 ((q : Nat) : Int)) 442 0 0 0) 443 0 0 0) 442 0 0 (b q))
                    refine hR _ (hR _ (hR _ (?_)))
                    show R (403, [some (aR 8 0), some (aI (b q)), some (aI 1)], [], am_wr (am_wr (am_wr (am_wr (am_wr (am_mix [440, 441, 442, 443] g M) 441 0 0 ((q : Nat) : Int)) 442 0 0 0) 443 0 0 0) 442 0 0 (b q)) 440 0 0 (((q : Nat) : Int) + 1))
                    refine hR _ (show K none (am_wr (am_wr (am_wr (am_wr (am_wr (am_mix [440, 441, 442, 443] g M) 441 0 0 ((q : Nat) : Int)) 442 0 0 0) 443 0 0 0) 442 0 0 (b q)) 440 0 0 (((q : Nat) : Int) + 1)) from ?_)
                    have hbq2 : lx_by b z q = b q := if_pos (by omega)
                    have hne : ¬ lx_by b z q = -1 := by rw [hbyq, if_pos (by omega)]; omega
                    have hnle : ¬ lx_le (lx_by b z q) = true := by rw [show lx_le (lx_by b z q) = false from decide_eq_false (by rw [hbq2]; omega)]; decide
                    have hndi : ¬ lx_di (lx_by b z q) = true := by rw [show lx_di (lx_by b z q) = false from decide_eq_false (by rw [hbq2]; omega)]; decide
                    have ht1 : lx_t b z p = lx_sg (b q) := by
                      unfold lx_t
                      rw [← hqq, if_neg hne, if_neg hnle, if_neg hndi, hbq2]
                    have hsg : lx_sg (b q) = b q := if_pos (by omega)
                    rw [hsg] at ht1
                    refine am_fin (S := [440, 441, 442, 443]) (F := fun m => mo_at b z m p) (((((((am_ag.rf).mix rfl).wr rfl).wr rfl).wr rfl).wr rfl).wr rfl) ⟨?_, ?_, ?_, ?_, ?_, ?_⟩ h
                    · show ((b q) : Int) = _
                      rw [ht1]
                      first | rfl | exact (mo_mt_big (by omega)).symm
                    · show ((q : Nat) : Int) = _
                      rw [hqq]
                    · show ((q : Nat) : Int) + 1 = _
                      unfold lx_e
                      rw [← hqq, if_neg hne, if_neg hnle, if_neg hndi]
                      rfl
                    · intro ht
                      rw [ht1] at ht
                      exfalso
                      omega
                    · intro ht
                      rw [ht1] at ht
                      exfalso
                      omega
                    · intro ht
                      rw [ht1] at ht
                      exfalso
                      omega
                  · refine hR _ (hR _ (hR _ (am_brc (rg := am_in (b q) ∧ am_in 42) (P := (b q) = 42) (A := R (374, [some (aR 8 0), some (aI (b q)), o2], [], am_wr (am_wr (am_wr (am_mix [440, 441, 442, 443] g M) 441 0 0 ((q : Nat) : Int)) 442 0 0 0) 443 0 0 0)) (B := R (362, [some (aR 8 0), some (aI (b q)), o2], [], am_wr (am_wr (am_wr (am_mix [440, 441, 442, 443] g M) 441 0 0 ((q : Nat) : Int)) 442 0 0 0) 443 0 0 0)) (by omega) (fun c359 => ?_) (fun c359 => ?_))))
                    · refine hR _ (hR _ (hR _ (hR _ (hR _ (hR _ (am_brf (rg := am_in 1) (P := (1 : Int) = 0) (A := R (389, [some (aR 8 0), some (aI (b q)), some (aI 1)], [aR 8 0], am_wr (am_wr (am_wr (am_mix [440, 441, 442, 443] g M) 441 0 0 ((q : Nat) : Int)) 442 0 0 0) 443 0 0 0)) (B := R (385, [some (aR 8 0), some (aI (b q)), some (aI 1)], [aR 8 0], am_wr (am_wr (am_wr (am_mix [440, 441, 442, 443] g M) 441 0 0 ((q : Nat) : Int)) 442 0 0 0) 443 0 0 0)) (by omega) (by omega) ?_))))))
                      show R (385, [some (aR 8 0), some (aI (b q)), some (aI 1)], [aR 8 0], am_wr (am_wr (am_wr (am_mix [440, 441, 442, 443] g M) 441 0 0 ((q : Nat) : Int)) 442 0 0 0) 443 0 0 0)
                      refine hR _ (hR _ (hR _ (hR _ (hR _ (hR _ (?_))))))
                      show R (398, [some (aR 8 0), some (aI (b q)), some (aI 1)], [aI (g 440 0 0), aR 8 0], am_wr (am_wr (am_wr (am_wr (am_mix [440, 441, 442, 443] g M) 441 0 0 ((q : Nat) : Int)) 442 0 0 0) 443 0 0 0) 442 0 0 (b q))
                      rw [(show g 440 0 0 = ((q : Nat) : Int) from hp0)]
                      show R (398, [some (aR 8 0), some (aI (b q)), some (aI 1)], [aI ((q : Nat) : Int), aR 8 0], am_wr (am_wr (am_wr (am_wr (am_mix [440, 441, 442, 443] g M) 441 0 0 ((q : Nat) : Int)) 442 0 0 0) 443 0 0 0) 442 0 0 (b q))
                      refine hR _ (hR _ (hR _ (?_)))
                      show R (403, [some (aR 8 0), some (aI (b q)), some (aI 1)], [], am_wr (am_wr (am_wr (am_wr (am_wr (am_mix [440, 441, 442, 443] g M) 441 0 0 ((q : Nat) : Int)) 442 0 0 0) 443 0 0 0) 442 0 0 (b q)) 440 0 0 (((q : Nat) : Int) + 1))
                      refine hR _ (show K none (am_wr (am_wr (am_wr (am_wr (am_wr (am_mix [440, 441, 442, 443] g M) 441 0 0 ((q : Nat) : Int)) 442 0 0 0) 443 0 0 0) 442 0 0 (b q)) 440 0 0 (((q : Nat) : Int) + 1)) from ?_)
                      have hbq2 : lx_by b z q = b q := if_pos (by omega)
                      have hne : ¬ lx_by b z q = -1 := by rw [hbyq, if_pos (by omega)]; omega
                      have hnle : ¬ lx_le (lx_by b z q) = true := by rw [show lx_le (lx_by b z q) = false from decide_eq_false (by rw [hbq2]; omega)]; decide
                      have hndi : ¬ lx_di (lx_by b z q) = true := by rw [show lx_di (lx_by b z q) = false from decide_eq_false (by rw [hbq2]; omega)]; decide
                      have ht1 : lx_t b z p = lx_sg (b q) := by
                        unfold lx_t
                        rw [← hqq, if_neg hne, if_neg hnle, if_neg hndi, hbq2]
                      have hsg : lx_sg (b q) = b q := if_pos (by omega)
                      rw [hsg] at ht1
                      refine am_fin (S := [440, 441, 442, 443]) (F := fun m => mo_at b z m p) (((((((am_ag.rf).mix rfl).wr rfl).wr rfl).wr rfl).wr rfl).wr rfl) ⟨?_, ?_, ?_, ?_, ?_, ?_⟩ h
                      · show ((b q) : Int) = _
                        rw [ht1]
                        first | rfl | exact (mo_mt_big (by omega)).symm
                      · show ((q : Nat) : Int) = _
                        rw [hqq]
                      · show ((q : Nat) : Int) + 1 = _
                        unfold lx_e
                        rw [← hqq, if_neg hne, if_neg hnle, if_neg hndi]
                        rfl
                      · intro ht
                        rw [ht1] at ht
                        exfalso
                        omega
                      · intro ht
                        rw [ht1] at ht
                        exfalso
                        omega
                      · intro ht
                        rw [ht1] at ht
                        exfalso
                        omega
                    · refine hR _ (hR _ (hR _ (am_brc (rg := am_in (b q) ∧ am_in 60) (P := (b q) = 60) (A := R (374, [some (aR 8 0), some (aI (b q)), o2], [], am_wr (am_wr (am_wr (am_mix [440, 441, 442, 443] g M) 441 0 0 ((q : Nat) : Int)) 442 0 0 0) 443 0 0 0)) (B := R (368, [some (aR 8 0), some (aI (b q)), o2], [], am_wr (am_wr (am_wr (am_mix [440, 441, 442, 443] g M) 441 0 0 ((q : Nat) : Int)) 442 0 0 0) 443 0 0 0)) (by omega) (fun c365 => ?_) (fun c365 => ?_))))
                      · refine hR _ (hR _ (hR _ (hR _ (hR _ (hR _ (am_brf (rg := am_in 1) (P := (1 : Int) = 0) (A := R (389, [some (aR 8 0), some (aI (b q)), some (aI 1)], [aR 8 0], am_wr (am_wr (am_wr (am_mix [440, 441, 442, 443] g M) 441 0 0 ((q : Nat) : Int)) 442 0 0 0) 443 0 0 0)) (B := R (385, [some (aR 8 0), some (aI (b q)), some (aI 1)], [aR 8 0], am_wr (am_wr (am_wr (am_mix [440, 441, 442, 443] g M) 441 0 0 ((q : Nat) : Int)) 442 0 0 0) 443 0 0 0)) (by omega) (by omega) ?_))))))
                        show R (385, [some (aR 8 0), some (aI (b q)), some (aI 1)], [aR 8 0], am_wr (am_wr (am_wr (am_mix [440, 441, 442, 443] g M) 441 0 0 ((q : Nat) : Int)) 442 0 0 0) 443 0 0 0)
                        refine hR _ (hR _ (hR _ (hR _ (hR _ (hR _ (?_))))))
                        show R (398, [some (aR 8 0), some (aI (b q)), some (aI 1)], [aI (g 440 0 0), aR 8 0], am_wr (am_wr (am_wr (am_wr (am_mix [440, 441, 442, 443] g M) 441 0 0 ((q : Nat) : Int)) 442 0 0 0) 443 0 0 0) 442 0 0 (b q))
                        rw [(show g 440 0 0 = ((q : Nat) : Int) from hp0)]
                        show R (398, [some (aR 8 0), some (aI (b q)), some (aI 1)], [aI ((q : Nat) : Int), aR 8 0], am_wr (am_wr (am_wr (am_wr (am_mix [440, 441, 442, 443] g M) 441 0 0 ((q : Nat) : Int)) 442 0 0 0) 443 0 0 0) 442 0 0 (b q))
                        refine hR _ (hR _ (hR _ (?_)))
                        show R (403, [some (aR 8 0), some (aI (b q)), some (aI 1)], [], am_wr (am_wr (am_wr (am_wr (am_wr (am_mix [440, 441, 442, 443] g M) 441 0 0 ((q : Nat) : Int)) 442 0 0 0) 443 0 0 0) 442 0 0 (b q)) 440 0 0 (((q : Nat) : Int) + 1))
                        refine hR _ (show K none (am_wr (am_wr (am_wr (am_wr (am_wr (am_mix [440, 441, 442, 443] g M) 441 0 0 ((q : Nat) : Int)) 442 0 0 0) 443 0 0 0) 442 0 0 (b q)) 440 0 0 (((q : Nat) : Int) + 1)) from ?_)
                        have hbq2 : lx_by b z q = b q := if_pos (by omega)
                        have hne : ¬ lx_by b z q = -1 := by rw [hbyq, if_pos (by omega)]; omega
                        have hnle : ¬ lx_le (lx_by b z q) = true := by rw [show lx_le (lx_by b z q) = false from decide_eq_false (by rw [hbq2]; omega)]; decide
                        have hndi : ¬ lx_di (lx_by b z q) = true := by rw [show lx_di (lx_by b z q) = false from decide_eq_false (by rw [hbq2]; omega)]; decide
                        have ht1 : lx_t b z p = lx_sg (b q) := by
                          unfold lx_t
                          rw [← hqq, if_neg hne, if_neg hnle, if_neg hndi, hbq2]
                        have hsg : lx_sg (b q) = b q := if_pos (by omega)
                        rw [hsg] at ht1
                        refine am_fin (S := [440, 441, 442, 443]) (F := fun m => mo_at b z m p) (((((((am_ag.rf).mix rfl).wr rfl).wr rfl).wr rfl).wr rfl).wr rfl) ⟨?_, ?_, ?_, ?_, ?_, ?_⟩ h
                        · show ((b q) : Int) = _
                          rw [ht1]
                          first | rfl | exact (mo_mt_big (by omega)).symm
                        · show ((q : Nat) : Int) = _
                          rw [hqq]
                        · show ((q : Nat) : Int) + 1 = _
                          unfold lx_e
                          rw [← hqq, if_neg hne, if_neg hnle, if_neg hndi]
                          rfl
                        · intro ht
                          rw [ht1] at ht
                          exfalso
                          omega
                        · intro ht
                          rw [ht1] at ht
                          exfalso
                          omega
                        · intro ht
                          rw [ht1] at ht
                          exfalso
                          omega
                      · refine hR _ (hR _ (hR _ (am_brc (rg := am_in (b q) ∧ am_in 61) (P := (b q) ≠ 61) (A := R (378, [some (aR 8 0), some (aI (b q)), o2], [], am_wr (am_wr (am_wr (am_mix [440, 441, 442, 443] g M) 441 0 0 ((q : Nat) : Int)) 442 0 0 0) 443 0 0 0)) (B := R (374, [some (aR 8 0), some (aI (b q)), o2], [], am_wr (am_wr (am_wr (am_mix [440, 441, 442, 443] g M) 441 0 0 ((q : Nat) : Int)) 442 0 0 0) 443 0 0 0)) (by omega) (fun c371 => ?_) (fun c371 => ?_))))
                        · refine hR _ (hR _ (hR _ (hR _ (hR _ (am_brt (rg := am_in 0) (P := (0 : Int) = 0) (A := R (389, [some (aR 8 0), some (aI (b q)), some (aI 0)], [aR 8 0], am_wr (am_wr (am_wr (am_mix [440, 441, 442, 443] g M) 441 0 0 ((q : Nat) : Int)) 442 0 0 0) 443 0 0 0)) (B := R (385, [some (aR 8 0), some (aI (b q)), some (aI 0)], [aR 8 0], am_wr (am_wr (am_wr (am_mix [440, 441, 442, 443] g M) 441 0 0 ((q : Nat) : Int)) 442 0 0 0) 443 0 0 0)) (by omega) (by omega) ?_)))))
                          show R (389, [some (aR 8 0), some (aI (b q)), some (aI 0)], [aR 8 0], am_wr (am_wr (am_wr (am_mix [440, 441, 442, 443] g M) 441 0 0 ((q : Nat) : Int)) 442 0 0 0) 443 0 0 0)
                          refine hR _ (hR _ (hR _ (hR _ (hR _ (?_)))))
                          show R (398, [some (aR 8 0), some (aI (b q)), some (aI 0)], [aI (g 440 0 0), aR 8 0], am_wr (am_wr (am_wr (am_wr (am_mix [440, 441, 442, 443] g M) 441 0 0 ((q : Nat) : Int)) 442 0 0 0) 443 0 0 0) 442 0 0 (-1))
                          rw [(show g 440 0 0 = ((q : Nat) : Int) from hp0)]
                          show R (398, [some (aR 8 0), some (aI (b q)), some (aI 0)], [aI ((q : Nat) : Int), aR 8 0], am_wr (am_wr (am_wr (am_wr (am_mix [440, 441, 442, 443] g M) 441 0 0 ((q : Nat) : Int)) 442 0 0 0) 443 0 0 0) 442 0 0 (-1))
                          refine hR _ (hR _ (hR _ (?_)))
                          show R (403, [some (aR 8 0), some (aI (b q)), some (aI 0)], [], am_wr (am_wr (am_wr (am_wr (am_wr (am_mix [440, 441, 442, 443] g M) 441 0 0 ((q : Nat) : Int)) 442 0 0 0) 443 0 0 0) 442 0 0 (-1)) 440 0 0 (((q : Nat) : Int) + 1))
                          refine hR _ (show K none (am_wr (am_wr (am_wr (am_wr (am_wr (am_mix [440, 441, 442, 443] g M) 441 0 0 ((q : Nat) : Int)) 442 0 0 0) 443 0 0 0) 442 0 0 (-1)) 440 0 0 (((q : Nat) : Int) + 1)) from ?_)
                          have hbq2 : lx_by b z q = b q := if_pos (by omega)
                          have hne : ¬ lx_by b z q = -1 := by rw [hbyq, if_pos (by omega)]; omega
                          have hnle : ¬ lx_le (lx_by b z q) = true := by rw [show lx_le (lx_by b z q) = false from decide_eq_false (by rw [hbq2]; omega)]; decide
                          have hndi : ¬ lx_di (lx_by b z q) = true := by rw [show lx_di (lx_by b z q) = false from decide_eq_false (by rw [hbq2]; omega)]; decide
                          have ht1 : lx_t b z p = lx_sg (b q) := by
                            unfold lx_t
                            rw [← hqq, if_neg hne, if_neg hnle, if_neg hndi, hbq2]
                          have hsg : lx_sg (b q) = 1 := if_neg (by omega)
                          rw [hsg] at ht1
                          refine am_fin (S := [440, 441, 442, 443]) (F := fun m => mo_at b z m p) (((((((am_ag.rf).mix rfl).wr rfl).wr rfl).wr rfl).wr rfl).wr rfl) ⟨?_, ?_, ?_, ?_, ?_, ?_⟩ h
                          · show ((-1) : Int) = _
                            rw [ht1]
                            first | rfl | exact (mo_mt_big (by omega)).symm
                          · show ((q : Nat) : Int) = _
                            rw [hqq]
                          · show ((q : Nat) : Int) + 1 = _
                            unfold lx_e
                            rw [← hqq, if_neg hne, if_neg hnle, if_neg hndi]
                            rfl
                          · intro ht
                            rw [ht1] at ht
                            exfalso
                            omega
                          · intro ht
                            rw [ht1] at ht
                            exfalso
                            omega
                          · intro ht
                            rw [ht1] at ht
                            exfalso
                            omega
                        · refine hR _ (hR _ (hR _ (hR _ (hR _ (hR _ (am_brf (rg := am_in 1) (P := (1 : Int) = 0) (A := R (389, [some (aR 8 0), some (aI (b q)), some (aI 1)], [aR 8 0], am_wr (am_wr (am_wr (am_mix [440, 441, 442, 443] g M) 441 0 0 ((q : Nat) : Int)) 442 0 0 0) 443 0 0 0)) (B := R (385, [some (aR 8 0), some (aI (b q)), some (aI 1)], [aR 8 0], am_wr (am_wr (am_wr (am_mix [440, 441, 442, 443] g M) 441 0 0 ((q : Nat) : Int)) 442 0 0 0) 443 0 0 0)) (by omega) (by omega) ?_))))))
                          show R (385, [some (aR 8 0), some (aI (b q)), some (aI 1)], [aR 8 0], am_wr (am_wr (am_wr (am_mix [440, 441, 442, 443] g M) 441 0 0 ((q : Nat) : Int)) 442 0 0 0) 443 0 0 0)
                          refine hR _ (hR _ (hR _ (hR _ (hR _ (hR _ (?_))))))
                          show R (398, [some (aR 8 0), some (aI (b q)), some (aI 1)], [aI (g 440 0 0), aR 8 0], am_wr (am_wr (am_wr (am_wr (am_mix [440, 441, 442, 443] g M) 441 0 0 ((q : Nat) : Int)) 442 0 0 0) 443 0 0 0) 442 0 0 (b q))
                          rw [(show g 440 0 0 = ((q : Nat) : Int) from hp0)]
                          show R (398, [some (aR 8 0), some (aI (b q)), some (aI 1)], [aI ((q : Nat) : Int), aR 8 0], am_wr (am_wr (am_wr (am_wr (am_mix [440, 441, 442, 443] g M) 441 0 0 ((q : Nat) : Int)) 442 0 0 0) 443 0 0 0) 442 0 0 (b q))
                          refine hR _ (hR _ (hR _ (?_)))
                          show R (403, [some (aR 8 0), some (aI (b q)), some (aI 1)], [], am_wr (am_wr (am_wr (am_wr (am_wr (am_mix [440, 441, 442, 443] g M) 441 0 0 ((q : Nat) : Int)) 442 0 0 0) 443 0 0 0) 442 0 0 (b q)) 440 0 0 (((q : Nat) : Int) + 1))
                          refine hR _ (show K none (am_wr (am_wr (am_wr (am_wr (am_wr (am_mix [440, 441, 442, 443] g M) 441 0 0 ((q : Nat) : Int)) 442 0 0 0) 443 0 0 0) 442 0 0 (b q)) 440 0 0 (((q : Nat) : Int) + 1)) from ?_)
                          have hbq2 : lx_by b z q = b q := if_pos (by omega)
                          have hne : ¬ lx_by b z q = -1 := by rw [hbyq, if_pos (by omega)]; omega
                          have hnle : ¬ lx_le (lx_by b z q) = true := by rw [show lx_le (lx_by b z q) = false from decide_eq_false (by rw [hbq2]; omega)]; decide
                          have hndi : ¬ lx_di (lx_by b z q) = true := by rw [show lx_di (lx_by b z q) = false from decide_eq_false (by rw [hbq2]; omega)]; decide
                          have ht1 : lx_t b z p = lx_sg (b q) := by
                            unfold lx_t
                            rw [← hqq, if_neg hne, if_neg hnle, if_neg hndi, hbq2]
                          have hsg : lx_sg (b q) = b q := if_pos (by omega)
                          rw [hsg] at ht1
                          refine am_fin (S := [440, 441, 442, 443]) (F := fun m => mo_at b z m p) (((((((am_ag.rf).mix rfl).wr rfl).wr rfl).wr rfl).wr rfl).wr rfl) ⟨?_, ?_, ?_, ?_, ?_, ?_⟩ h
                          · show ((b q) : Int) = _
                            rw [ht1]
                            first | rfl | exact (mo_mt_big (by omega)).symm
                          · show ((q : Nat) : Int) = _
                            rw [hqq]
                          · show ((q : Nat) : Int) + 1 = _
                            unfold lx_e
                            rw [← hqq, if_neg hne, if_neg hnle, if_neg hndi]
                            rfl
                          · intro ht
                            rw [ht1] at ht
                            exfalso
                            omega
                          · intro ht
                            rw [ht1] at ht
                            exfalso
                            omega
                          · intro ht
                            rw [ht1] at ht
                            exfalso
                            omega
    · refine hR _ (show K none (am_wr (am_wr (am_wr (am_mix [440, 441, 442, 443] g M) 441 0 0 ((q : Nat) : Int)) 442 0 0 0) 443 0 0 0) from ?_)
      have hE : lx_by b z q = -1 := if_neg (by omega)
      refine am_fin (S := [440, 441, 442, 443]) (F := fun m => mo_at b z m p) (((((am_ag.rf).mix rfl).wr rfl).wr rfl).wr rfl) ⟨?_, ?_, ?_, ?_, ?_, ?_⟩ h
      · show (0 : Int) = _
        unfold lx_t
        rw [← hqq, if_pos hE]
        rfl
      · show ((q : Nat) : Int) = _
        rw [hqq]
      · show g 440 0 0 = _
        unfold lx_e
        rw [← hqq, if_pos hE]
        exact hp0
      · intro ht
        unfold lx_t at ht
        rw [← hqq, if_pos hE] at ht
        omega
      · intro ht
        unfold lx_t at ht
        rw [← hqq, if_pos hE] at ht
        omega
      · intro ht
        unfold lx_t at ht
        rw [← hqq, if_pos hE] at ht
        omega
  have keyS : ∀ (f p1 : Nat) (g : am_M), p1 ≤ z → z ≤ p1 + f → lx_sc lx_sp b z f p1 = q → g 440 0 0 = (p1 : Int) → R (0, [some (aR 8 0), none, none], [], am_mix [440, 441, 442, 443] g M) := by
    intro f
    induction f with
    | zero =>
      intro p1 g hpz1 hzf hs hp1
      have hbp : p1 < z → 0 ≤ b p1 ∧ b p1 ≤ 255 := fun h => hby p1 h
      refine hR _ (hR _ (?_))
      show R (4, [some (aR 8 0), none, none], [aI (g 440 0 0)], am_mix [440, 441, 442, 443] g M)
      rw [(show g 440 0 0 = ((p1 : Nat) : Int) from hp1)]
      show R (4, [some (aR 8 0), none, none], [aI ((p1 : Nat) : Int)], am_mix [440, 441, 442, 443] g M)
      refine hR _ (hR _ (?_))
      show R (8, [some (aR 8 0), none, none], [aI (M 427 0 0), aI ((p1 : Nat) : Int)], am_mix [440, 441, 442, 443] g M)
      rw [(show M 427 0 0 = ((z : Nat) : Int) from hz)]
      show R (8, [some (aR 8 0), none, none], [aI ((z : Nat) : Int), aI ((p1 : Nat) : Int)], am_mix [440, 441, 442, 443] g M)
      refine hR _ (am_brt (rg := am_in ((p1 : Nat) : Int) ∧ am_in ((z : Nat) : Int)) (P := ((z : Nat) : Int) ≤ ((p1 : Nat) : Int)) (A := R (52, [some (aR 8 0), none, none], [], am_mix [440, 441, 442, 443] g M)) (B := R (11, [some (aR 8 0), none, none], [], am_mix [440, 441, 442, 443] g M)) (by omega) (by omega) ?_)
      show R (52, [some (aR 8 0), none, none], [], am_mix [440, 441, 442, 443] g M)
      have hpe : p1 = q := by first | exact hs | (rw [show lx_sp (lx_by b z p1) = false from decide_eq_false (by first | (rw [show lx_by b z p1 = b p1 from if_pos (by omega)]; omega) | (rw [show lx_by b z p1 = -1 from if_neg (by omega)]; omega))] at hs; exact hs)
      rw [hpe] at hp1
      exact tail g _ _ hp1
    | succ f ih =>
      intro p1 g hpz1 hzf hs hp1
      have hbp : p1 < z → 0 ≤ b p1 ∧ b p1 ≤ 255 := fun h => hby p1 h
      unfold lx_sc at hs
      refine hR _ (hR _ (?_))
      show R (4, [some (aR 8 0), none, none], [aI (g 440 0 0)], am_mix [440, 441, 442, 443] g M)
      rw [(show g 440 0 0 = ((p1 : Nat) : Int) from hp1)]
      show R (4, [some (aR 8 0), none, none], [aI ((p1 : Nat) : Int)], am_mix [440, 441, 442, 443] g M)
      refine hR _ (hR _ (?_))
      show R (8, [some (aR 8 0), none, none], [aI (M 427 0 0), aI ((p1 : Nat) : Int)], am_mix [440, 441, 442, 443] g M)
      rw [(show M 427 0 0 = ((z : Nat) : Int) from hz)]
      show R (8, [some (aR 8 0), none, none], [aI ((z : Nat) : Int), aI ((p1 : Nat) : Int)], am_mix [440, 441, 442, 443] g M)
      refine hR _ (am_brc (rg := am_in ((p1 : Nat) : Int) ∧ am_in ((z : Nat) : Int)) (P := ((z : Nat) : Int) ≤ ((p1 : Nat) : Int)) (A := R (52, [some (aR 8 0), none, none], [], am_mix [440, 441, 442, 443] g M)) (B := R (11, [some (aR 8 0), none, none], [], am_mix [440, 441, 442, 443] g M)) (by omega) (fun c8 => ?_) (fun c8 => ?_))
      · have hpe : p1 = q := by first | exact hs | (rw [show lx_sp (lx_by b z p1) = false from decide_eq_false (by first | (rw [show lx_by b z p1 = b p1 from if_pos (by omega)]; omega) | (rw [show lx_by b z p1 = -1 from if_neg (by omega)]; omega))] at hs; exact hs)
        rw [hpe] at hp1
        exact tail g _ _ hp1
      · refine hR _ (hR _ (hR _ (hR _ (?_))))
        show R (19, [some (aR 8 0), none, none], [aI (g 440 0 0), aR 27 0], am_mix [440, 441, 442, 443] g M)
        rw [(show g 440 0 0 = ((p1 : Nat) : Int) from hp1)]
        show R (19, [some (aR 8 0), none, none], [aI ((p1 : Nat) : Int), aR 27 0], am_mix [440, 441, 442, 443] g M)
        refine hR _ ⟨(show 0 ≤ (((p1 : Nat) : Int) : Int) ∧ (((p1 : Nat) : Int) : Int) < 160 from (by omega)), ?_⟩
        show R (20, [some (aR 8 0), none, none], [aI (M 27 0 p1)], am_mix [440, 441, 442, 443] g M)
        rw [(show M 27 0 p1 = b p1 from hb p1 (by omega))]
        show R (20, [some (aR 8 0), none, none], [aI (b p1)], am_mix [440, 441, 442, 443] g M)
        refine hR _ (hR _ (am_brc (rg := am_in (b p1) ∧ am_in 32) (P := (b p1) = 32) (A := R (39, [some (aR 8 0), none, none], [], am_mix [440, 441, 442, 443] g M)) (B := R (25, [some (aR 8 0), none, none], [], am_mix [440, 441, 442, 443] g M)) (by omega) (fun c22 => ?_) (fun c22 => ?_)))
        · refine hR _ (hR _ (hR _ (?_)))
          show R (44, [some (aR 8 0), none, none], [aI (g 440 0 0), aR 8 0], am_mix [440, 441, 442, 443] g M)
          rw [(show g 440 0 0 = ((p1 : Nat) : Int) from hp1)]
          show R (44, [some (aR 8 0), none, none], [aI ((p1 : Nat) : Int), aR 8 0], am_mix [440, 441, 442, 443] g M)
          refine hR _ (hR _ (hR _ (hR _ (?_))))
          show R (0, [some (aR 8 0), none, none], [], am_wr (am_mix [440, 441, 442, 443] g M) 440 0 0 (((p1 : Nat) : Int) + 1))
          have hbp1 : lx_by b z p1 = b p1 := if_pos (by omega)
          rw [show lx_sp (lx_by b z p1) = true from decide_eq_true (by rw [hbp1]; omega)] at hs
          have e9 : am_ag [440, 441, 442, 443] M (am_wr (am_mix [440, 441, 442, 443] g M) 440 0 0 (((p1 : Nat) : Int) + 1)) := ((am_ag.rf).mix rfl).wr rfl
          have n1 : (am_wr (am_mix [440, 441, 442, 443] g M) 440 0 0 (((p1 : Nat) : Int) + 1)) 440 0 0 = ((p1 + 1 : Nat) : Int) := rfl
          rw [e9.eq] at n1 ⊢
          exact ih (p1 + 1) _ (by omega) (by omega) hs n1
        · refine hR _ (hR _ (hR _ (hR _ (?_))))
          show R (33, [some (aR 8 0), none, none], [aI (g 440 0 0), aR 27 0], am_mix [440, 441, 442, 443] g M)
          rw [(show g 440 0 0 = ((p1 : Nat) : Int) from hp1)]
          show R (33, [some (aR 8 0), none, none], [aI ((p1 : Nat) : Int), aR 27 0], am_mix [440, 441, 442, 443] g M)
          refine hR _ ⟨(show 0 ≤ (((p1 : Nat) : Int) : Int) ∧ (((p1 : Nat) : Int) : Int) < 160 from (by omega)), ?_⟩
          show R (34, [some (aR 8 0), none, none], [aI (M 27 0 p1)], am_mix [440, 441, 442, 443] g M)
          rw [(show M 27 0 p1 = b p1 from hb p1 (by omega))]
          show R (34, [some (aR 8 0), none, none], [aI (b p1)], am_mix [440, 441, 442, 443] g M)
          refine hR _ (hR _ (am_brc (rg := am_in (b p1) ∧ am_in 10) (P := (b p1) ≠ 10) (A := R (52, [some (aR 8 0), none, none], [], am_mix [440, 441, 442, 443] g M)) (B := R (39, [some (aR 8 0), none, none], [], am_mix [440, 441, 442, 443] g M)) (by omega) (fun c36 => ?_) (fun c36 => ?_)))
          · have hpe : p1 = q := by first | exact hs | (rw [show lx_sp (lx_by b z p1) = false from decide_eq_false (by first | (rw [show lx_by b z p1 = b p1 from if_pos (by omega)]; omega) | (rw [show lx_by b z p1 = -1 from if_neg (by omega)]; omega))] at hs; exact hs)
            rw [hpe] at hp1
            exact tail g _ _ hp1
          · refine hR _ (hR _ (hR _ (?_)))
            show R (44, [some (aR 8 0), none, none], [aI (g 440 0 0), aR 8 0], am_mix [440, 441, 442, 443] g M)
            rw [(show g 440 0 0 = ((p1 : Nat) : Int) from hp1)]
            show R (44, [some (aR 8 0), none, none], [aI ((p1 : Nat) : Int), aR 8 0], am_mix [440, 441, 442, 443] g M)
            refine hR _ (hR _ (hR _ (hR _ (?_))))
            show R (0, [some (aR 8 0), none, none], [], am_wr (am_mix [440, 441, 442, 443] g M) 440 0 0 (((p1 : Nat) : Int) + 1))
            have hbp1 : lx_by b z p1 = b p1 := if_pos (by omega)
            rw [show lx_sp (lx_by b z p1) = true from decide_eq_true (by rw [hbp1]; omega)] at hs
            have e9 : am_ag [440, 441, 442, 443] M (am_wr (am_mix [440, 441, 442, 443] g M) 440 0 0 (((p1 : Nat) : Int) + 1)) := ((am_ag.rf).mix rfl).wr rfl
            have n1 : (am_wr (am_mix [440, 441, 442, 443] g M) 440 0 0 (((p1 : Nat) : Int) + 1)) 440 0 0 = ((p1 + 1 : Nat) : Int) := rfl
            rw [e9.eq] at n1 ⊢
            exact ih (p1 + 1) _ (by omega) (by omega) hs n1
  have e9 : am_ag [440, 441, 442, 443] M M := am_ag.rf
  rw [e9.eq]
  exact keyS 160 p M hpz (by omega) hqq.symm hp
