/-! wb -/
/-! THE REFERENCE: told, book, taken, serve, image, back, sheet, cell -/

set_option maxHeartbeats 1000000 in
theorem sm_told {d : Nat} (hd : 4 ≤ d) {h w : Int} {M : am_M} {K : am_K} (hJ : jf_J M) (hW : jf_C M) (ha_h : am_in h) (ha_w : am_in w) (hK : ∀ g, K (some (aI (jx_told M h w))) (am_mix mo_SM g M)) : am_Call true d 148 [aR 8 0, aI h, aI w] M K := by
  obtain ⟨d, rfl⟩ : ∃ e, d = e + 1 := ⟨d - 1, by omega⟩
  refine ⟨rfl, fun R hR hC => ?_⟩
  replace hR : ∀ c, am_F true tb_f148 1 (am_Call true d) K R c → R c := hR
  have hn := hJ.1.1.2.2.2.2.2.2.2.1
  have hl0 := hJ.1.1.2.2.2.2.2.2.2.2
  have htc := hJ.2.2.1.1
  have hlt : 0 ≤ M 228 0 0 ∧ M 228 0 0 < 6 := by omega
  have hmk := hJ.1.1.1
  have hdr := hJ.1.1.2.1
  have hpr := hJ.1.1.2.2.1
  have hfu := hJ.1.1.2.2.2.1
  have hn' : 0 ≤ M 421 0 0 ∧ M 421 0 0 ≤ 5 := by rw [hW.1.2.1.1]; exact hn
  have h421 : M 421 0 0 = M 227 0 0 := hW.1.2.1.1
  show R (0, [some (aR 8 0), some (aI h), some (aI w)], [], M)
  rcases jf_hd (M := M) (h := h) hn with ⟨k, rfl, hk5, hk⟩ | hno
  · obtain ⟨r, hrr⟩ : ∃ r, r = (M 228 0 0).toNat := ⟨_, rfl⟩
    have hr : M 431 0 0 = (r : Int) := by rw [hW.1.2.1.2.2.1]; omega
    have hr6 : r < 6 := by omega
    have hwt : mo_wt M r := (hW.2.1.2.2 r (by omega)).1
    obtain ⟨p, hpp⟩ : ∃ p, p = jf_px M k := ⟨_, rfl⟩
    have hp : mo_p M k r p := by rw [hpp, hrr]; exact jf_C.p hJ hW hk (by omega)
    have hok : jf_ok p := by rw [hpp]; exact hJ.px hk
    have hpm : p.mk = M 22 0 0 := by rw [hpp]; exact hW.1.1.1.symm
    have hps : p.st = 0 := by rw [hpp]
    have hpb := jf_P_b hok
    have hA := jf_A_b hok
    show R (0, [some (aR 8 0), some (aI ((k : Nat) : Int)), some (aI w)], [], M)
    refine hR _ (hR _ (?_))
    show R (2, [some (aR 8 0), some (aI ((k : Nat) : Int)), some (aI w)], [aI ((k : Nat) : Int), aR 8 0], M)
    refine hR _ (sm_isHand (by omega) (show 0 ≤ M 421 0 0 ∧ M 421 0 0 ≤ 5 from hn') (by omega) (fun _ => ?_) (fun hz => absurd (show 0 ≤ ((k : Nat) : Int) ∧ ((k : Nat) : Int) < M 421 0 0 by omega) hz))
    show R (5, [some (aR 8 0), some (aI ((k : Nat) : Int)), some (aI w)], [aI 1], M)
    refine hR _ (am_brt (rg := am_in 1) (P := (1 : Int) ≠ 0) (A := R (11, [some (aR 8 0), some (aI ((k : Nat) : Int)), some (aI w)], [], M)) (B := R (8, [some (aR 8 0), some (aI ((k : Nat) : Int)), some (aI w)], [], M)) (by omega) (by omega) ?_)
    show R (11, [some (aR 8 0), some (aI ((k : Nat) : Int)), some (aI w)], [], M)
    refine hR _ (hR _ (am_brc (rg := am_in w) (P := w ≠ 0) (A := R (24, [some (aR 8 0), some (aI ((k : Nat) : Int)), some (aI w)], [], M)) (B := R (15, [some (aR 8 0), some (aI ((k : Nat) : Int)), some (aI w)], [], M)) (by omega) (fun c12 => ?_) (fun c12 => ?_)))
    · refine hR _ (hR _ (hR _ (am_brc (rg := am_in w ∧ am_in 1) (P := w ≠ 1) (A := R (38, [some (aR 8 0), some (aI ((k : Nat) : Int)), some (aI w)], [], M)) (B := R (29, [some (aR 8 0), some (aI ((k : Nat) : Int)), some (aI w)], [], M)) (by omega) (fun c26 => ?_) (fun c26 => ?_))))
      · refine hR _ (hR _ (hR _ (?_)))
        show R (41, [some (aR 8 0), some (aI ((k : Nat) : Int)), some (aI w)], [aI 3, aI 2, aI w], M)
        refine hR _ (sp_in (by omega) (by omega) (fun h41 => ?_) (fun h41 => ?_))
        · show R (44, [some (aR 8 0), some (aI ((k : Nat) : Int)), some (aI w)], [aI 1], M)
          refine hR _ (am_brf (rg := am_in 1) (P := (1 : Int) = 0) (A := R (62, [some (aR 8 0), some (aI ((k : Nat) : Int)), some (aI w)], [], M)) (B := R (47, [some (aR 8 0), some (aI ((k : Nat) : Int)), some (aI w)], [], M)) (by omega) (by omega) ?_)
          show R (47, [some (aR 8 0), some (aI ((k : Nat) : Int)), some (aI w)], [], M)
          rcases (show w = 2 ∨ w = 3 by omega) with rfl | rfl
          · show R (47, [some (aR 8 0), some (aI ((k : Nat) : Int)), some (aI 2)], [], M)
            refine hR _ (hR _ (hR _ (hR _ (hR _ (hR _ (hR _ (hR _ (hR _ (?_)))))))))
            show R (58, [some (aR 8 0), some (aI ((k : Nat) : Int)), some (aI 2)], [aI (((2 * ((k : Nat) : Int)) + 2) - 2), aR 25 0], M)
            refine hR _ ⟨(show 0 ≤ ((((2 * ((k : Nat) : Int)) + 2) - 2) : Int) ∧ ((((2 * ((k : Nat) : Int)) + 2) - 2) : Int) < 10 from (by omega)), ?_⟩
            show R (59, [some (aR 8 0), some (aI ((k : Nat) : Int)), some (aI 2)], [aI (M 25 0 (((((2 * ((k : Nat) : Int)) + 2) - 2)).toNat))], M)
            refine hR _ (?_)
            show R (64, [some (aR 8 0), some (aI ((k : Nat) : Int)), some (aI 2)], [aI (M 25 0 (((((2 * ((k : Nat) : Int)) + 2) - 2)).toNat))], M)
            refine hR _ (show K (some (aI (M 25 0 (((((2 * ((k : Nat) : Int)) + 2) - 2)).toNat)))) M from ?_)
            rw [show (((((2 * ((k : Nat) : Int)) + 2) - 2)).toNat) = 2 * k by omega]
            have hres : jx_told M ((k : Nat) : Int) 2 = M 25 0 (2 * k) := by
              unfold jx_told
              rw [if_pos (by omega)]
              exact (hW.1.2.2 k hk).2.2.1.symm
            rw [hres] at hK
            have e9 : am_ag mo_SM M M := am_ag.rf
            rw [e9.eq]
            exact hK _
          · show R (47, [some (aR 8 0), some (aI ((k : Nat) : Int)), some (aI 3)], [], M)
            refine hR _ (hR _ (hR _ (hR _ (hR _ (hR _ (hR _ (hR _ (hR _ (?_)))))))))
            show R (58, [some (aR 8 0), some (aI ((k : Nat) : Int)), some (aI 3)], [aI (((2 * ((k : Nat) : Int)) + 3) - 2), aR 25 0], M)
            refine hR _ ⟨(show 0 ≤ ((((2 * ((k : Nat) : Int)) + 3) - 2) : Int) ∧ ((((2 * ((k : Nat) : Int)) + 3) - 2) : Int) < 10 from (by omega)), ?_⟩
            show R (59, [some (aR 8 0), some (aI ((k : Nat) : Int)), some (aI 3)], [aI (M 25 0 (((((2 * ((k : Nat) : Int)) + 3) - 2)).toNat))], M)
            refine hR _ (?_)
            show R (64, [some (aR 8 0), some (aI ((k : Nat) : Int)), some (aI 3)], [aI (M 25 0 (((((2 * ((k : Nat) : Int)) + 3) - 2)).toNat))], M)
            refine hR _ (show K (some (aI (M 25 0 (((((2 * ((k : Nat) : Int)) + 3) - 2)).toNat)))) M from ?_)
            rw [show (((((2 * ((k : Nat) : Int)) + 3) - 2)).toNat) = 2 * k + 1 by omega]
            have hres : jx_told M ((k : Nat) : Int) 3 = M 25 0 (2 * k + 1) := by
              unfold jx_told
              rw [if_pos (by omega)]
              exact (hW.1.2.2 k hk).2.2.2.symm
            rw [hres] at hK
            have e9 : am_ag mo_SM M M := am_ag.rf
            rw [e9.eq]
            exact hK _
        · show R (44, [some (aR 8 0), some (aI ((k : Nat) : Int)), some (aI w)], [aI 0], M)
          refine hR _ (am_brt (rg := am_in 0) (P := (0 : Int) = 0) (A := R (62, [some (aR 8 0), some (aI ((k : Nat) : Int)), some (aI w)], [], M)) (B := R (47, [some (aR 8 0), some (aI ((k : Nat) : Int)), some (aI w)], [], M)) (by omega) (by omega) ?_)
          show R (62, [some (aR 8 0), some (aI ((k : Nat) : Int)), some (aI w)], [], M)
          refine hR _ (?_)
          show R (64, [some (aR 8 0), some (aI ((k : Nat) : Int)), some (aI w)], [aI (-7)], M)
          refine hR _ (show K (some (aI (-7))) M from ?_)
          have hres : jx_told M ((k : Nat) : Int) w = (-7) := by
            unfold jx_told
            repeat' split
            all_goals first | omega | rfl | exact jf_il_no (by omega)
          rw [hres] at hK
          have e9 : am_ag mo_SM M M := am_ag.rf
          rw [e9.eq]
          exact hK _
      · refine hR _ (hR _ (hR _ (?_)))
        show R (34, [some (aR 8 0), some (aI ((k : Nat) : Int)), some (aI w)], [aI ((k : Nat) : Int), aR 24 0], M)
        refine hR _ ⟨(show 0 ≤ (((k : Nat) : Int) : Int) ∧ (((k : Nat) : Int) : Int) < 5 from (by omega)), ?_⟩
        show R (35, [some (aR 8 0), some (aI ((k : Nat) : Int)), some (aI w)], [aI (M 24 0 k)], M)
        rw [(show M 24 0 k = M 141 k 0 from (hW.1.2.2 k (by omega)).2.1)]
        show R (35, [some (aR 8 0), some (aI ((k : Nat) : Int)), some (aI w)], [aI (M 141 k 0)], M)
        refine hR _ (?_)
        show R (64, [some (aR 8 0), some (aI ((k : Nat) : Int)), some (aI w)], [aI (M 141 k 0)], M)
        refine hR _ (show K (some (aI (M 141 k 0))) M from ?_)
        have hres : jx_told M ((k : Nat) : Int) w = (M 141 k 0) := by
          unfold jx_told
          repeat' split
          all_goals first | omega | rfl | exact jf_il_no (by omega)
        rw [hres] at hK
        have e9 : am_ag mo_SM M M := am_ag.rf
        rw [e9.eq]
        exact hK _
    · refine hR _ (hR _ (hR _ (?_)))
      show R (20, [some (aR 8 0), some (aI ((k : Nat) : Int)), some (aI w)], [aI ((k : Nat) : Int), aR 23 0], M)
      refine hR _ ⟨(show 0 ≤ (((k : Nat) : Int) : Int) ∧ (((k : Nat) : Int) : Int) < 5 from (by omega)), ?_⟩
      show R (21, [some (aR 8 0), some (aI ((k : Nat) : Int)), some (aI w)], [aI (M 23 0 k)], M)
      rw [(show M 23 0 k = M 140 k 0 from (hW.1.2.2 k (by omega)).1)]
      show R (21, [some (aR 8 0), some (aI ((k : Nat) : Int)), some (aI w)], [aI (M 140 k 0)], M)
      refine hR _ (?_)
      show R (64, [some (aR 8 0), some (aI ((k : Nat) : Int)), some (aI w)], [aI (M 140 k 0)], M)
      refine hR _ (show K (some (aI (M 140 k 0))) M from ?_)
      have hres : jx_told M ((k : Nat) : Int) w = (M 140 k 0) := by
        unfold jx_told
        repeat' split
        all_goals first | omega | rfl | exact jf_il_no (by omega)
      rw [hres] at hK
      have e9 : am_ag mo_SM M M := am_ag.rf
      rw [e9.eq]
      exact hK _
  · show R (0, [some (aR 8 0), some (aI h), some (aI w)], [], M)
    refine hR _ (hR _ (?_))
    show R (2, [some (aR 8 0), some (aI h), some (aI w)], [aI h, aR 8 0], M)
    refine hR _ (sm_isHand (by omega) (show 0 ≤ M 421 0 0 ∧ M 421 0 0 ≤ 5 from hn') (by omega) (fun hz => absurd (show 0 ≤ h ∧ h < M 227 0 0 from ⟨hz.1, by rw [← h421]; exact hz.2⟩) hno) (fun _ => ?_))
    show R (5, [some (aR 8 0), some (aI h), some (aI w)], [aI 0], M)
    refine hR _ (am_brf (rg := am_in 0) (P := (0 : Int) ≠ 0) (A := R (11, [some (aR 8 0), some (aI h), some (aI w)], [], M)) (B := R (8, [some (aR 8 0), some (aI h), some (aI w)], [], M)) (by omega) (by omega) ?_)
    show R (8, [some (aR 8 0), some (aI h), some (aI w)], [], M)
    refine hR _ (?_)
    show R (10, [some (aR 8 0), some (aI h), some (aI w)], [aI (-5)], M)
    refine hR _ (show K (some (aI (-5))) M from ?_)
    have hres : jx_told M h w = (-5) := by
      unfold jx_told
      repeat' split
      all_goals first | omega | rfl | exact jf_il_no (by omega)
    rw [hres] at hK
    have e9 : am_ag mo_SM M M := am_ag.rf
    rw [e9.eq]
    exact hK _

theorem sm_book {d : Nat} (hd : 2 ≤ d) {w : Int} {M : am_M} {K : am_K} (hJ : jf_J M) (hW : jf_C M) (ha_w : am_in w) (hK : K (some (aI (jx_book M w))) M) : am_Call true d 196 [aR 8 0, aI w] M K := by
  obtain ⟨d, rfl⟩ : ∃ e, d = e + 1 := ⟨d - 1, by omega⟩
  refine ⟨rfl, fun R hR hC => ?_⟩
  replace hR : ∀ c, am_F true tb_f196 1 (am_Call true d) K R c → R c := hR
  show R (0, [some (aR 8 0), some (aI w)], [], M)
  refine hR _ (hR _ (hR _ (?_)))
  show R (3, [some (aR 8 0), some (aI w)], [aI 2, aI 0, aI w], M)
  refine hR _ (sp_in (by omega) (by omega) (fun h3 => ?_) (fun h3 => ?_))
  · show R (6, [some (aR 8 0), some (aI w)], [aI 1], M)
    refine hR _ (am_brf (rg := am_in 1) (P := (1 : Int) = 0) (A := R (18, [some (aR 8 0), some (aI w)], [], M)) (B := R (9, [some (aR 8 0), some (aI w)], [], M)) (by omega) (by omega) ?_)
    show R (9, [some (aR 8 0), some (aI w)], [], M)
    refine hR _ (hR _ (hR _ (?_)))
    show R (14, [some (aR 8 0), some (aI w)], [aI w, aR 26 0], M)
    refine hR _ ⟨(show 0 ≤ (w : Int) ∧ (w : Int) < 3 from (by omega)), ?_⟩
    show R (15, [some (aR 8 0), some (aI w)], [aI (M 26 0 ((w).toNat))], M)
    refine hR _ (?_)
    show R (20, [some (aR 8 0), some (aI w)], [aI (M 26 0 ((w).toNat))], M)
    refine hR _ (show K (some (aI (M 26 0 ((w).toNat)))) M from ?_)
    rcases (show w = 0 ∨ w = 1 ∨ w = 2 by omega) with rfl | rfl | rfl
    · exact am_kr hK (show M 224 0 0 = M 26 0 0 from hW.2.1.1.1.symm)
    · exact am_kr hK (show M 225 0 0 = M 26 0 1 from hW.2.1.1.2.1.symm)
    · exact am_kr hK (show M 226 0 0 = M 26 0 2 from hW.2.1.1.2.2.symm)
  · show R (6, [some (aR 8 0), some (aI w)], [aI 0], M)
    refine hR _ (am_brt (rg := am_in 0) (P := (0 : Int) = 0) (A := R (18, [some (aR 8 0), some (aI w)], [], M)) (B := R (9, [some (aR 8 0), some (aI w)], [], M)) (by omega) (by omega) ?_)
    show R (18, [some (aR 8 0), some (aI w)], [], M)
    refine hR _ (?_)
    show R (20, [some (aR 8 0), some (aI w)], [aI (-2)], M)
    refine hR _ (show K (some (aI (-2))) M from ?_)
    have hres : jx_book M w = (-2) := by
      unfold jx_book
      repeat' split
      all_goals omega
    rw [hres] at hK
    exact hK

theorem sm_isUnder {d : Nat} (hd : 1 ≤ d) {x y : Int} {M : am_M} {K : am_K} (hr : am_in x ∧ am_in y) (ht : (y = 0 ∨ x = y ∨ (y = 1 ∧ x = 3) ∨ (y = 2 ∧ x = 4)) → K (some (aI 1)) M) (hf : ¬ ((y = 0 ∨ x = y ∨ (y = 1 ∧ x = 3) ∨ (y = 2 ∧ x = 4))) → K (some (aI 0)) M) : am_Call true d 204 [aI x, aI y] M K := by
  obtain ⟨d, rfl⟩ : ∃ e, d = e + 1 := ⟨d - 1, by omega⟩
  refine ⟨rfl, fun R hR hC => ?_⟩
  replace hR : ∀ c, am_F true tb_f204 2 (am_Call true d) K R c → R c := hR
  show R (0, [some (aI x), some (aI y)], [], M)
  refine hR _ (hR _ (am_brc (rg := am_in y) (P := y = 0) (A := R (29, [some (aI x), some (aI y)], [], M)) (B := R (4, [some (aI x), some (aI y)], [], M)) (by omega) (fun c1 => ?_) (fun c1 => ?_)))
  · refine hR _ (hR _ (?_))
    show R (34, [some (aI x), some (aI y)], [aI 1], M)
    refine hR _ (show ((1 : Int) = 0 ∨ (1 : Int) = 1) ∧ K (some (aI 1)) M from ?_)
    exact ⟨by omega, ht (by omega)⟩
  · refine hR _ (hR _ (hR _ (am_brc (rg := am_in x ∧ am_in y) (P := x = y) (A := R (29, [some (aI x), some (aI y)], [], M)) (B := R (9, [some (aI x), some (aI y)], [], M)) (by omega) (fun c6 => ?_) (fun c6 => ?_))))
    · refine hR _ (hR _ (?_))
      show R (34, [some (aI x), some (aI y)], [aI 1], M)
      refine hR _ (show ((1 : Int) = 0 ∨ (1 : Int) = 1) ∧ K (some (aI 1)) M from ?_)
      exact ⟨by omega, ht (by omega)⟩
    · refine hR _ (hR _ (hR _ (am_brc (rg := am_in y ∧ am_in 1) (P := y ≠ 1) (A := R (19, [some (aI x), some (aI y)], [], M)) (B := R (14, [some (aI x), some (aI y)], [], M)) (by omega) (fun c11 => ?_) (fun c11 => ?_))))
      · refine hR _ (hR _ (hR _ (am_brc (rg := am_in y ∧ am_in 2) (P := y ≠ 2) (A := R (33, [some (aI x), some (aI y)], [], M)) (B := R (24, [some (aI x), some (aI y)], [], M)) (by omega) (fun c21 => ?_) (fun c21 => ?_))))
        · refine hR _ (?_)
          show R (34, [some (aI x), some (aI y)], [aI 0], M)
          refine hR _ (show ((0 : Int) = 0 ∨ (0 : Int) = 1) ∧ K (some (aI 0)) M from ?_)
          exact ⟨by omega, hf (by omega)⟩
        · refine hR _ (hR _ (hR _ (am_brc (rg := am_in x ∧ am_in 4) (P := x ≠ 4) (A := R (33, [some (aI x), some (aI y)], [], M)) (B := R (29, [some (aI x), some (aI y)], [], M)) (by omega) (fun c26 => ?_) (fun c26 => ?_))))
          · refine hR _ (?_)
            show R (34, [some (aI x), some (aI y)], [aI 0], M)
            refine hR _ (show ((0 : Int) = 0 ∨ (0 : Int) = 1) ∧ K (some (aI 0)) M from ?_)
            exact ⟨by omega, hf (by omega)⟩
          · refine hR _ (hR _ (?_))
            show R (34, [some (aI x), some (aI y)], [aI 1], M)
            refine hR _ (show ((1 : Int) = 0 ∨ (1 : Int) = 1) ∧ K (some (aI 1)) M from ?_)
            exact ⟨by omega, ht (by omega)⟩
      · refine hR _ (hR _ (hR _ (am_brc (rg := am_in x ∧ am_in 3) (P := x = 3) (A := R (29, [some (aI x), some (aI y)], [], M)) (B := R (19, [some (aI x), some (aI y)], [], M)) (by omega) (fun c16 => ?_) (fun c16 => ?_))))
        · refine hR _ (hR _ (?_))
          show R (34, [some (aI x), some (aI y)], [aI 1], M)
          refine hR _ (show ((1 : Int) = 0 ∨ (1 : Int) = 1) ∧ K (some (aI 1)) M from ?_)
          exact ⟨by omega, ht (by omega)⟩
        · refine hR _ (hR _ (hR _ (am_brc (rg := am_in y ∧ am_in 2) (P := y ≠ 2) (A := R (33, [some (aI x), some (aI y)], [], M)) (B := R (24, [some (aI x), some (aI y)], [], M)) (by omega) (fun c21 => ?_) (fun c21 => ?_))))
          · refine hR _ (?_)
            show R (34, [some (aI x), some (aI y)], [aI 0], M)
            refine hR _ (show ((0 : Int) = 0 ∨ (0 : Int) = 1) ∧ K (some (aI 0)) M from ?_)
            exact ⟨by omega, hf (by omega)⟩
          · refine hR _ (hR _ (hR _ (am_brc (rg := am_in x ∧ am_in 4) (P := x ≠ 4) (A := R (33, [some (aI x), some (aI y)], [], M)) (B := R (29, [some (aI x), some (aI y)], [], M)) (by omega) (fun c26 => ?_) (fun c26 => ?_))))
            · refine hR _ (?_)
              show R (34, [some (aI x), some (aI y)], [aI 0], M)
              refine hR _ (show ((0 : Int) = 0 ∨ (0 : Int) = 1) ∧ K (some (aI 0)) M from ?_)
              exact ⟨by omega, hf (by omega)⟩
            · refine hR _ (hR _ (?_))
              show R (34, [some (aI x), some (aI y)], [aI 1], M)
              refine hR _ (show ((1 : Int) = 0 ∨ (1 : Int) = 1) ∧ K (some (aI 1)) M from ?_)
              exact ⟨by omega, ht (by omega)⟩

theorem sm_taken {d : Nat} (hd : 2 ≤ d) {i w : Int} {M : am_M} {K : am_K} (hJ : jf_J M) (hW : jf_C M) (ha_i : am_in i) (ha_w : am_in w) (hK : K (some (aL (jx_taken M i w))) M) : am_Call true d 203 [aR 8 0, aI i, aI w] M K := by
  obtain ⟨d, rfl⟩ : ∃ e, d = e + 1 := ⟨d - 1, by omega⟩
  refine ⟨rfl, fun R hR hC => ?_⟩
  replace hR : ∀ c, am_F true tb_f203 5 (am_Call true d) K R c → R c := hR
  have hn := hJ.1.1.2.2.2.2.2.2.2.1
  have hl0 := hJ.1.1.2.2.2.2.2.2.2.2
  have htc := hJ.2.2.1.1
  have hlt : 0 ≤ M 228 0 0 ∧ M 228 0 0 < 6 := by omega
  have hmk := hJ.1.1.1
  have hdr := hJ.1.1.2.1
  have hpr := hJ.1.1.2.2.1
  have hfu := hJ.1.1.2.2.2.1
  have hn' : 0 ≤ M 421 0 0 ∧ M 421 0 0 ≤ 5 := by rw [hW.1.2.1.1]; exact hn
  have h421 : M 421 0 0 = M 227 0 0 := hW.1.2.1.1
  show R (0, [some (aR 8 0), some (aI i), some (aI w)], [], M)
  refine hR _ (hR _ (hR _ (?_)))
  show R (4, [some (aR 8 0), some (aI i), some (aI w)], [aI 6, aI 0, aI w], M)
  refine hR _ (sp_in (by omega) (by omega) (fun h4 => ?_) (fun h4 => ?_))
  · show R (7, [some (aR 8 0), some (aI i), some (aI w)], [aI 1], M)
    refine hR _ (am_brt (rg := am_in 1) (P := (1 : Int) ≠ 0) (A := R (14, [some (aR 8 0), some (aI i), some (aI w)], [], M)) (B := R (10, [some (aR 8 0), some (aI i), some (aI w)], [], M)) (by omega) (by omega) ?_)
    show R (14, [some (aR 8 0), some (aI i), some (aI w)], [], M)
    refine hR _ (hR _ (hR _ (?_)))
    show R (18, [some (aR 8 0), some (aI i), some (aI w)], [aI 6, aI 0, aI i], M)
    refine hR _ (sp_in (by omega) (by omega) (fun h18 => ?_) (fun h18 => ?_))
    · show R (21, [some (aR 8 0), some (aI i), some (aI w)], [aI 1], M)
      refine hR _ (am_brt (rg := am_in 1) (P := (1 : Int) ≠ 0) (A := R (28, [some (aR 8 0), some (aI i), some (aI w)], [], M)) (B := R (24, [some (aR 8 0), some (aI i), some (aI w)], [], M)) (by omega) (by omega) ?_)
      show R (28, [some (aR 8 0), some (aI i), some (aI w)], [], M)
      refine hR _ (hR _ (hR _ (am_brc (rg := am_in i ∧ am_in 5) (P := i < 5) (A := R (62, [some (aR 8 0), some (aI i), some (aI w)], [], M)) (B := R (33, [some (aR 8 0), some (aI i), some (aI w)], [], M)) (by omega) (fun c30 => ?_) (fun c30 => ?_))))
      · refine hR _ (hR _ (hR _ (?_)))
        show R (67, [some (aR 8 0), some (aI i), some (aI w)], [aI (M 421 0 0), aI i], M)
        rw [(show M 421 0 0 = M 227 0 0 from hW.1.2.1.1)]
        show R (67, [some (aR 8 0), some (aI i), some (aI w)], [aI (M 227 0 0), aI i], M)
        refine hR _ (am_brc (rg := am_in i ∧ am_in (M 227 0 0)) (P := i < (M 227 0 0)) (A := R (76, [some (aR 8 0), some (aI i), some (aI w)], [], M)) (B := R (70, [some (aR 8 0), some (aI i), some (aI w)], [], M)) (by omega) (fun c67 => ?_) (fun c67 => ?_))
        · refine hR _ (hR _ (hR _ (am_brc (rg := am_in w ∧ am_in 6) (P := 6 ≤ w) (A := R (100, [some (aR 8 0), some (aI i), some (aI w)], [], M)) (B := R (82, [some (aR 8 0), some (aI i), some (aI w)], [], M)) (by omega) (fun c79 => ?_) (fun c79 => ?_))))
          · refine hR _ (?_)
            show R (103, [some (aR 8 0), some (aI i), some (aI w)], [aL (-13)], M)
            refine hR _ (show K (some (aL (-13))) M from ?_)
            have hres : jx_taken M i w = (-13) := by
              unfold jx_taken
              repeat' split
              all_goals first | omega | rfl | (exfalso; omega)
            rw [hres] at hK
            exact hK
          · refine hR _ (hR _ (hR _ (?_)))
            show R (87, [some (aR 8 0), some (aI i), some (aI w)], [aI i, aR 23 0], M)
            refine hR _ ⟨(show 0 ≤ (i : Int) ∧ (i : Int) < 5 from (by omega)), ?_⟩
            show R (88, [some (aR 8 0), some (aI i), some (aI w)], [aI (M 23 0 ((i).toNat))], M)
            rw [(show M 23 0 ((i).toNat) = M 140 i.toNat 0 from (hW.1.2.2 i.toNat (by omega)).1)]
            show R (88, [some (aR 8 0), some (aI i), some (aI w)], [aI (M 140 i.toNat 0)], M)
            refine hR _ (?_)
            show R (89, [some (aR 8 0), some (aI i), some (aI w)], [aI w, aI (M 140 i.toNat 0)], M)
            have hkd := (hJ.2.1 i.toNat (by omega)).1
            refine hR _ (sm_isUnder (by omega) (by omega) (fun h89 => ?_) (fun h89 => ?_))
            · replace h89 : (w = 0 ∨ (M 140 i.toNat 0) = w ∨ (w = 1 ∧ (M 140 i.toNat 0) = 3) ∨ (w = 2 ∧ (M 140 i.toNat 0) = 4)) := h89
              show R (92, [some (aR 8 0), some (aI i), some (aI w)], [aI 1], M)
              refine hR _ (am_brf (rg := am_in 1) (P := (1 : Int) = 0) (A := R (100, [some (aR 8 0), some (aI i), some (aI w)], [], M)) (B := R (95, [some (aR 8 0), some (aI i), some (aI w)], [], M)) (by omega) (by omega) ?_)
              show R (95, [some (aR 8 0), some (aI i), some (aI w)], [], M)
              refine hR _ (?_)
              show R (96, [some (aR 8 0), some (aI i), some (aI w)], [aI i], M)
              refine hR _ ⟨(by omega), ?_⟩
              show R (97, [some (aR 8 0), some (aI i), some (aI w)], [aL i], M)
              refine hR _ (?_)
              show R (103, [some (aR 8 0), some (aI i), some (aI w)], [aL i], M)
              refine hR _ (show K (some (aL i)) M from ?_)
              have hres : jx_taken M i w = i := by
                unfold jx_taken
                repeat' split
                all_goals first | omega | rfl | (exfalso; omega)
              rw [hres] at hK
              exact hK
            · replace h89 : ¬ (w = 0 ∨ (M 140 i.toNat 0) = w ∨ (w = 1 ∧ (M 140 i.toNat 0) = 3) ∨ (w = 2 ∧ (M 140 i.toNat 0) = 4)) := h89
              show R (92, [some (aR 8 0), some (aI i), some (aI w)], [aI 0], M)
              refine hR _ (am_brt (rg := am_in 0) (P := (0 : Int) = 0) (A := R (100, [some (aR 8 0), some (aI i), some (aI w)], [], M)) (B := R (95, [some (aR 8 0), some (aI i), some (aI w)], [], M)) (by omega) (by omega) ?_)
              show R (100, [some (aR 8 0), some (aI i), some (aI w)], [], M)
              refine hR _ (?_)
              show R (103, [some (aR 8 0), some (aI i), some (aI w)], [aL (-13)], M)
              refine hR _ (show K (some (aL (-13))) M from ?_)
              have hres : jx_taken M i w = (-13) := by
                unfold jx_taken
                repeat' split
                all_goals first | omega | rfl | (exfalso; omega)
              rw [hres] at hK
              exact hK
        · refine hR _ (hR _ (?_))
          show R (103, [some (aR 8 0), some (aI i), some (aI w)], [aL (-11)], M)
          refine hR _ (show K (some (aL (-11))) M from ?_)
          have hres : jx_taken M i w = (-11) := by
            unfold jx_taken
            repeat' split
            all_goals first | omega | rfl | (exfalso; omega)
          rw [hres] at hK
          exact hK
      · refine hR _ (hR _ (hR _ (am_brc (rg := am_in w ∧ am_in 6) (P := w ≠ 6) (A := R (58, [some (aR 8 0), some (aI i), some (aI w)], [], M)) (B := R (39, [some (aR 8 0), some (aI i), some (aI w)], [], M)) (by omega) (fun c36 => ?_) (fun c36 => ?_))))
        · refine hR _ (?_)
          show R (61, [some (aR 8 0), some (aI i), some (aI w)], [aL (-13)], M)
          refine hR _ (show K (some (aL (-13))) M from ?_)
          have hres : jx_taken M i w = (-13) := by
            unfold jx_taken
            repeat' split
            all_goals first | omega | rfl | (exfalso; omega)
          rw [hres] at hK
          exact hK
        · refine hR _ (hR _ (hR _ (hR _ (hR _ (am_brc (rg := am_in i ∧ am_in 5) (P := i ≠ 5) (A := R (52, [some (aR 8 0), some (aI i), some (aI w)], [aR 22 0], M)) (B := R (48, [some (aR 8 0), some (aI i), some (aI w)], [aR 22 0], M)) (by omega) (fun c45 => ?_) (fun c45 => ?_))))))
          · refine hR _ (?_)
            show R (53, [some (aR 8 0), some (aI i), some (aI w)], [aI 2, aR 22 0], M)
            refine hR _ ⟨(show 0 ≤ (2 : Int) ∧ (2 : Int) < 4 from (by omega)), ?_⟩
            show R (54, [some (aR 8 0), some (aI i), some (aI w)], [aI (M 22 0 2)], M)
            rw [(show M 22 0 2 = M 222 0 0 from hW.1.1.2.2.1)]
            show R (54, [some (aR 8 0), some (aI i), some (aI w)], [aI (M 222 0 0)], M)
            refine hR _ ⟨(by omega), ?_⟩
            show R (55, [some (aR 8 0), some (aI i), some (aI w)], [aL (M 222 0 0)], M)
            refine hR _ (?_)
            show R (61, [some (aR 8 0), some (aI i), some (aI w)], [aL (M 222 0 0)], M)
            refine hR _ (show K (some (aL (M 222 0 0))) M from ?_)
            have hres : jx_taken M i w = (M 222 0 0) := by
              unfold jx_taken
              repeat' split
              all_goals first | omega | rfl | (exfalso; omega)
            rw [hres] at hK
            exact hK
          · refine hR _ (hR _ (?_))
            show R (53, [some (aR 8 0), some (aI i), some (aI w)], [aI 0, aR 22 0], M)
            refine hR _ ⟨(show 0 ≤ (0 : Int) ∧ (0 : Int) < 4 from (by omega)), ?_⟩
            show R (54, [some (aR 8 0), some (aI i), some (aI w)], [aI (M 22 0 0)], M)
            rw [(show M 22 0 0 = M 220 0 0 from hW.1.1.1)]
            show R (54, [some (aR 8 0), some (aI i), some (aI w)], [aI (M 220 0 0)], M)
            refine hR _ ⟨(by omega), ?_⟩
            show R (55, [some (aR 8 0), some (aI i), some (aI w)], [aL (M 220 0 0)], M)
            refine hR _ (?_)
            show R (61, [some (aR 8 0), some (aI i), some (aI w)], [aL (M 220 0 0)], M)
            refine hR _ (show K (some (aL (M 220 0 0))) M from ?_)
            have hres : jx_taken M i w = (M 220 0 0) := by
              unfold jx_taken
              repeat' split
              all_goals first | omega | rfl | (exfalso; omega)
            rw [hres] at hK
            exact hK
    · show R (21, [some (aR 8 0), some (aI i), some (aI w)], [aI 0], M)
      refine hR _ (am_brf (rg := am_in 0) (P := (0 : Int) ≠ 0) (A := R (28, [some (aR 8 0), some (aI i), some (aI w)], [], M)) (B := R (24, [some (aR 8 0), some (aI i), some (aI w)], [], M)) (by omega) (by omega) ?_)
      show R (24, [some (aR 8 0), some (aI i), some (aI w)], [], M)
      refine hR _ (?_)
      show R (27, [some (aR 8 0), some (aI i), some (aI w)], [aL (-12)], M)
      refine hR _ (show K (some (aL (-12))) M from ?_)
      have hres : jx_taken M i w = (-12) := by
        unfold jx_taken
        repeat' split
        all_goals first | omega | rfl | (exfalso; omega)
      rw [hres] at hK
      exact hK
  · show R (7, [some (aR 8 0), some (aI i), some (aI w)], [aI 0], M)
    refine hR _ (am_brf (rg := am_in 0) (P := (0 : Int) ≠ 0) (A := R (14, [some (aR 8 0), some (aI i), some (aI w)], [], M)) (B := R (10, [some (aR 8 0), some (aI i), some (aI w)], [], M)) (by omega) (by omega) ?_)
    show R (10, [some (aR 8 0), some (aI i), some (aI w)], [], M)
    refine hR _ (?_)
    show R (13, [some (aR 8 0), some (aI i), some (aI w)], [aL (-2)], M)
    refine hR _ (show K (some (aL (-2))) M from ?_)
    have hres : jx_taken M i w = (-2) := by
      unfold jx_taken
      repeat' split
      all_goals first | omega | rfl | (exfalso; omega)
    rw [hres] at hK
    exact hK

set_option maxHeartbeats 1000000 in
theorem sm_serve {d : Nat} (hd : 9 ≤ d) {sd h : Int} {g0 : am_M} {M : am_M} {K : am_K} (hJ : jf_J M) (hW : jf_C M) (ha_s : am_in sd) (ha_h : am_in h) (hK1 : ∀ k : Nat, h = k → k < M 227 0 0 → 0 ≤ sd ∧ sd ≤ 99999 → M 224 0 0 < 999 → ∀ g : am_M, (g 26 0 0 = M 224 0 0 + 1 ∧ g 26 0 1 = M 225 0 0 + (if jf_E (jf_px M k) (jf_lb (jf_px M k) sd) = M 220 0 0 then 1 else 0) ∧ g 26 0 2 = M 226 0 0 + jf_co (jf_px M k) (M 220 0 0) (jf_E (jf_px M k) (jf_lb (jf_px M k) sd))) → K (some (aI (jf_E (jf_px M k) (jf_lb (jf_px M k) sd)))) (am_mix (26 :: mo_SM) g (am_mix [12, 13, 14, 263, 264, 265, 266, 346, 17, 19, 100, 101, 102, 224, 225, 226] g0 M))) (hK0 : ¬ ((0 ≤ h ∧ h < M 227 0 0) ∧ (0 ≤ sd ∧ sd ≤ 99999) ∧ M 224 0 0 < 999) → K (some (aI (jx_serve0 M sd h))) (am_mix [12, 13, 14, 263, 264, 265, 266, 346, 17, 19, 100, 101, 102, 224, 225, 226] g0 M)) : am_Call true d 195 [aR 8 0, aI sd, aI h] (am_mix [12, 13, 14, 263, 264, 265, 266, 346, 17, 19, 100, 101, 102, 224, 225, 226] g0 M) K := by
  obtain ⟨d, rfl⟩ : ∃ e, d = e + 1 := ⟨d - 1, by omega⟩
  refine ⟨rfl, fun R hR hC => ?_⟩
  replace hR : ∀ c, am_F true tb_f195 1 (am_Call true d) K R c → R c := hR
  have hn := hJ.1.1.2.2.2.2.2.2.2.1
  have hl0 := hJ.1.1.2.2.2.2.2.2.2.2
  have htc := hJ.2.2.1.1
  have hlt : 0 ≤ M 228 0 0 ∧ M 228 0 0 < 6 := by omega
  have hmk := hJ.1.1.1
  have hdr := hJ.1.1.2.1
  have hpr := hJ.1.1.2.2.1
  have hfu := hJ.1.1.2.2.2.1
  have hn' : 0 ≤ M 421 0 0 ∧ M 421 0 0 ≤ 5 := by rw [hW.1.2.1.1]; exact hn
  have h421 : M 421 0 0 = M 227 0 0 := hW.1.2.1.1
  have hsl := hJ.1.1.2.2.2.2.1
  have h26 : M 26 0 0 = M 224 0 0 := hW.2.1.1.1
  show R (0, [some (aR 8 0), some (aI sd), some (aI h), none], [], (am_mix [12, 13, 14, 263, 264, 265, 266, 346, 17, 19, 100, 101, 102, 224, 225, 226] g0 M))
  rcases jf_hd (M := M) (h := h) hn with ⟨k, rfl, hk5, hk⟩ | hno
  · obtain ⟨r, hrr⟩ : ∃ r, r = (M 228 0 0).toNat := ⟨_, rfl⟩
    have hr : M 431 0 0 = (r : Int) := by rw [hW.1.2.1.2.2.1]; omega
    have hr6 : r < 6 := by omega
    have hwt : mo_wt M r := (hW.2.1.2.2 r (by omega)).1
    obtain ⟨p, hpp⟩ : ∃ p, p = jf_px M k := ⟨_, rfl⟩
    have hp : mo_p M k r p := by rw [hpp, hrr]; exact jf_C.p hJ hW hk (by omega)
    have hok : jf_ok p := by rw [hpp]; exact hJ.px hk
    have hpm : p.mk = M 22 0 0 := by rw [hpp]; exact hW.1.1.1.symm
    have hps : p.st = 0 := by rw [hpp]
    have hpb := jf_P_b hok
    have hA := jf_A_b hok
    show R (0, [some (aR 8 0), some (aI sd), some (aI ((k : Nat) : Int)), none], [], am_mix [12, 13, 14, 263, 264, 265, 266, 346, 17, 19, 100, 101, 102, 224, 225, 226] g0 M)
    refine hR _ (hR _ (?_))
    show R (2, [some (aR 8 0), some (aI sd), some (aI ((k : Nat) : Int)), none], [aI ((k : Nat) : Int), aR 8 0], am_mix [12, 13, 14, 263, 264, 265, 266, 346, 17, 19, 100, 101, 102, 224, 225, 226] g0 M)
    refine hR _ (sm_isHand (by omega) (show 0 ≤ M 421 0 0 ∧ M 421 0 0 ≤ 5 from hn') (by omega) (fun _ => ?_) (fun hz => absurd (show 0 ≤ ((k : Nat) : Int) ∧ ((k : Nat) : Int) < M 421 0 0 by omega) hz))
    show R (5, [some (aR 8 0), some (aI sd), some (aI ((k : Nat) : Int)), none], [aI 1], am_mix [12, 13, 14, 263, 264, 265, 266, 346, 17, 19, 100, 101, 102, 224, 225, 226] g0 M)
    refine hR _ (am_brt (rg := am_in 1) (P := (1 : Int) ≠ 0) (A := R (11, [some (aR 8 0), some (aI sd), some (aI ((k : Nat) : Int)), none], [], am_mix [12, 13, 14, 263, 264, 265, 266, 346, 17, 19, 100, 101, 102, 224, 225, 226] g0 M)) (B := R (8, [some (aR 8 0), some (aI sd), some (aI ((k : Nat) : Int)), none], [], am_mix [12, 13, 14, 263, 264, 265, 266, 346, 17, 19, 100, 101, 102, 224, 225, 226] g0 M)) (by omega) (by omega) ?_)
    show R (11, [some (aR 8 0), some (aI sd), some (aI ((k : Nat) : Int)), none], [], am_mix [12, 13, 14, 263, 264, 265, 266, 346, 17, 19, 100, 101, 102, 224, 225, 226] g0 M)
    refine hR _ (hR _ (hR _ (?_)))
    show R (16, [some (aR 8 0), some (aI sd), some (aI ((k : Nat) : Int)), none], [aI 99999, aI 0, aI sd], am_mix [12, 13, 14, 263, 264, 265, 266, 346, 17, 19, 100, 101, 102, 224, 225, 226] g0 M)
    refine hR _ (sp_in (by omega) (by omega) (fun h16 => ?_) (fun h16 => ?_))
    · show R (19, [some (aR 8 0), some (aI sd), some (aI ((k : Nat) : Int)), none], [aI 1], am_mix [12, 13, 14, 263, 264, 265, 266, 346, 17, 19, 100, 101, 102, 224, 225, 226] g0 M)
      refine hR _ (am_brt (rg := am_in 1) (P := (1 : Int) ≠ 0) (A := R (25, [some (aR 8 0), some (aI sd), some (aI ((k : Nat) : Int)), none], [], am_mix [12, 13, 14, 263, 264, 265, 266, 346, 17, 19, 100, 101, 102, 224, 225, 226] g0 M)) (B := R (22, [some (aR 8 0), some (aI sd), some (aI ((k : Nat) : Int)), none], [], am_mix [12, 13, 14, 263, 264, 265, 266, 346, 17, 19, 100, 101, 102, 224, 225, 226] g0 M)) (by omega) (by omega) ?_)
      show R (25, [some (aR 8 0), some (aI sd), some (aI ((k : Nat) : Int)), none], [], am_mix [12, 13, 14, 263, 264, 265, 266, 346, 17, 19, 100, 101, 102, 224, 225, 226] g0 M)
      refine hR _ (hR _ (hR _ (?_)))
      show R (30, [some (aR 8 0), some (aI sd), some (aI ((k : Nat) : Int)), none], [aI 0, aR 26 0], am_mix [12, 13, 14, 263, 264, 265, 266, 346, 17, 19, 100, 101, 102, 224, 225, 226] g0 M)
      refine hR _ ⟨(show 0 ≤ (0 : Int) ∧ (0 : Int) < 3 from (by omega)), ?_⟩
      show R (31, [some (aR 8 0), some (aI sd), some (aI ((k : Nat) : Int)), none], [aI (M 26 0 0)], am_mix [12, 13, 14, 263, 264, 265, 266, 346, 17, 19, 100, 101, 102, 224, 225, 226] g0 M)
      refine hR _ (hR _ (am_brc (rg := am_in (M 26 0 0) ∧ am_in 999) (P := M 26 0 0 ≠ 999) (A := R (40, [some (aR 8 0), some (aI sd), some (aI ((k : Nat) : Int)), none], [], am_mix [12, 13, 14, 263, 264, 265, 266, 346, 17, 19, 100, 101, 102, 224, 225, 226] g0 M)) (B := R (37, [some (aR 8 0), some (aI sd), some (aI ((k : Nat) : Int)), none], [], am_mix [12, 13, 14, 263, 264, 265, 266, 346, 17, 19, 100, 101, 102, 224, 225, 226] g0 M)) (by omega) (fun c34 => ?_) (fun c34 => ?_)))
      · refine hR _ (hR _ (?_))
        show R (42, [some (aR 8 0), some (aI sd), some (aI ((k : Nat) : Int)), none], [aI ((k : Nat) : Int), aR 8 0], am_mix [12, 13, 14, 263, 264, 265, 266, 346, 17, 19, 100, 101, 102, 224, 225, 226] g0 M)
        refine hR _ (sm_goes (p := p) (r := r) (by omega) hk hr hr6 hwt hp hok hpm hps (fun g189 hth => ?_))
        have hthr := hth.1
        have hthA := hth.2.1
        have hthN := hth.2.2
        have hbO := fun a (ha : a < 5) => jf_O_b hok ha
        have hbE := fun a (ha : a < 5) => jf_E_b hok ha
        show R (45, [some (aR 8 0), some (aI sd), some (aI ((k : Nat) : Int)), none], [], am_mix mo_SM g189 (am_mix [12, 13, 14, 263, 264, 265, 266, 346, 17, 19, 100, 101, 102, 224, 225, 226] g0 M))
        refine hR _ (hR _ (hR _ (hR _ (?_))))
        show R (51, [some (aR 8 0), some (aI sd), some (aI ((k : Nat) : Int)), none], [aI sd, aR 8 0, aR 39 0], am_mix mo_SM g189 (am_mix [12, 13, 14, 263, 264, 265, 266, 346, 17, 19, 100, 101, 102, 224, 225, 226] g0 M))
        refine hR _ (sm_lateBy (by omega) hok hth (by omega) ?_)
        have hlb51 := jf_lb_b p (sd)
        show R (54, [some (aR 8 0), some (aI sd), some (aI ((k : Nat) : Int)), none], [aI ((jf_lb p sd : Nat) : Int), aR 39 0], am_mix mo_SM g189 (am_mix [12, 13, 14, 263, 264, 265, 266, 346, 17, 19, 100, 101, 102, 224, 225, 226] g0 M))
        have hEl := jf_E_b hok (jf_lb_b p sd)
        refine hR _ ⟨(show 0 ≤ (((jf_lb p sd : Nat) : Int) : Int) ∧ (((jf_lb p sd : Nat) : Int) : Int) < 5 from (by omega)), ?_⟩
        show R (55, [some (aR 8 0), some (aI sd), some (aI ((k : Nat) : Int)), none], [aI (g189 39 0 ((((jf_lb p sd : Nat) : Int)).toNat))], am_mix mo_SM g189 (am_mix [12, 13, 14, 263, 264, 265, 266, 346, 17, 19, 100, 101, 102, 224, 225, 226] g0 M))
        rw [(show g189 39 0 ((((jf_lb p sd : Nat) : Int)).toNat) = jf_E p (jf_lb p sd) from (hthr (jf_lb p sd) (by omega)).1)]
        show R (55, [some (aR 8 0), some (aI sd), some (aI ((k : Nat) : Int)), none], [aI (jf_E p (jf_lb p sd))], am_mix mo_SM g189 (am_mix [12, 13, 14, 263, 264, 265, 266, 346, 17, 19, 100, 101, 102, 224, 225, 226] g0 M))
        refine hR _ (hR _ (hR _ (hR _ (hR _ (?_)))))
        show R (62, [some (aR 8 0), some (aI sd), some (aI ((k : Nat) : Int)), some (aI (jf_E p (jf_lb p sd)))], [aI 0, aR 26 0, aI 0, aR 26 0], am_mix mo_SM g189 (am_mix [12, 13, 14, 263, 264, 265, 266, 346, 17, 19, 100, 101, 102, 224, 225, 226] g0 M))
        refine hR _ ⟨(show 0 ≤ (0 : Int) ∧ (0 : Int) < 3 from (by omega)), ?_⟩
        show R (63, [some (aR 8 0), some (aI sd), some (aI ((k : Nat) : Int)), some (aI (jf_E p (jf_lb p sd)))], [aI (M 26 0 0), aI 0, aR 26 0], am_mix mo_SM g189 (am_mix [12, 13, 14, 263, 264, 265, 266, 346, 17, 19, 100, 101, 102, 224, 225, 226] g0 M))
        refine hR _ (hR _ (?_))
        show R (65, [some (aR 8 0), some (aI sd), some (aI ((k : Nat) : Int)), some (aI (jf_E p (jf_lb p sd)))], [aI (M 26 0 0 + 1), aI 0, aR 26 0], am_mix mo_SM g189 (am_mix [12, 13, 14, 263, 264, 265, 266, 346, 17, 19, 100, 101, 102, 224, 225, 226] g0 M))
        refine hR _ ⟨(show 0 ≤ (0 : Int) ∧ (0 : Int) < 3 from (by omega)), ?_⟩
        show R (66, [some (aR 8 0), some (aI sd), some (aI ((k : Nat) : Int)), some (aI (jf_E p (jf_lb p sd)))], [], am_wr (am_mix mo_SM g189 (am_mix [12, 13, 14, 263, 264, 265, 266, 346, 17, 19, 100, 101, 102, 224, 225, 226] g0 M)) 26 0 0 (M 26 0 0 + 1))
        refine hR _ (hR _ (hR _ (hR _ (?_))))
        show R (72, [some (aR 8 0), some (aI sd), some (aI ((k : Nat) : Int)), some (aI (jf_E p (jf_lb p sd)))], [aI 1, aR 26 0, aI 1, aR 26 0], am_wr (am_mix mo_SM g189 (am_mix [12, 13, 14, 263, 264, 265, 266, 346, 17, 19, 100, 101, 102, 224, 225, 226] g0 M)) 26 0 0 (M 26 0 0 + 1))
        refine hR _ ⟨(show 0 ≤ (1 : Int) ∧ (1 : Int) < 3 from (by omega)), ?_⟩
        show R (73, [some (aR 8 0), some (aI sd), some (aI ((k : Nat) : Int)), some (aI (jf_E p (jf_lb p sd)))], [aI (M 26 0 1), aI 1, aR 26 0], am_wr (am_mix mo_SM g189 (am_mix [12, 13, 14, 263, 264, 265, 266, 346, 17, 19, 100, 101, 102, 224, 225, 226] g0 M)) 26 0 0 (M 26 0 0 + 1))
        refine hR _ (hR _ (hR _ (hR _ (?_))))
        show R (79, [some (aR 8 0), some (aI sd), some (aI ((k : Nat) : Int)), some (aI (jf_E p (jf_lb p sd)))], [aI 0, aR 22 0, aI (jf_E p (jf_lb p sd)), aI (M 26 0 1), aI 1, aR 26 0], am_wr (am_mix mo_SM g189 (am_mix [12, 13, 14, 263, 264, 265, 266, 346, 17, 19, 100, 101, 102, 224, 225, 226] g0 M)) 26 0 0 (M 26 0 0 + 1))
        refine hR _ ⟨(show 0 ≤ (0 : Int) ∧ (0 : Int) < 4 from (by omega)), ?_⟩
        show R (80, [some (aR 8 0), some (aI sd), some (aI ((k : Nat) : Int)), some (aI (jf_E p (jf_lb p sd)))], [aI (M 22 0 0), aI (jf_E p (jf_lb p sd)), aI (M 26 0 1), aI 1, aR 26 0], am_wr (am_mix mo_SM g189 (am_mix [12, 13, 14, 263, 264, 265, 266, 346, 17, 19, 100, 101, 102, 224, 225, 226] g0 M)) 26 0 0 (M 26 0 0 + 1))
        rw [(show M 22 0 0 = M 220 0 0 from hW.1.1.1)]
        show R (80, [some (aR 8 0), some (aI sd), some (aI ((k : Nat) : Int)), some (aI (jf_E p (jf_lb p sd)))], [aI (M 220 0 0), aI (jf_E p (jf_lb p sd)), aI (M 26 0 1), aI 1, aR 26 0], am_wr (am_mix mo_SM g189 (am_mix [12, 13, 14, 263, 264, 265, 266, 346, 17, 19, 100, 101, 102, 224, 225, 226] g0 M)) 26 0 0 (M 26 0 0 + 1))
        refine hR _ (am_brc (rg := am_in (jf_E p (jf_lb p sd)) ∧ am_in (M 220 0 0)) (P := (jf_E p (jf_lb p sd)) ≠ (M 220 0 0)) (A := R (87, [some (aR 8 0), some (aI sd), some (aI ((k : Nat) : Int)), some (aI (jf_E p (jf_lb p sd)))], [aI (M 26 0 1), aI 1, aR 26 0], am_wr (am_mix mo_SM g189 (am_mix [12, 13, 14, 263, 264, 265, 266, 346, 17, 19, 100, 101, 102, 224, 225, 226] g0 M)) 26 0 0 (M 26 0 0 + 1))) (B := R (83, [some (aR 8 0), some (aI sd), some (aI ((k : Nat) : Int)), some (aI (jf_E p (jf_lb p sd)))], [aI (M 26 0 1), aI 1, aR 26 0], am_wr (am_mix mo_SM g189 (am_mix [12, 13, 14, 263, 264, 265, 266, 346, 17, 19, 100, 101, 102, 224, 225, 226] g0 M)) 26 0 0 (M 26 0 0 + 1))) (by omega) (fun c80 => ?_) (fun c80 => ?_))
        · refine hR _ (hR _ (?_))
          show R (89, [some (aR 8 0), some (aI sd), some (aI ((k : Nat) : Int)), some (aI (jf_E p (jf_lb p sd)))], [aI (M 26 0 1 + 0), aI 1, aR 26 0], am_wr (am_mix mo_SM g189 (am_mix [12, 13, 14, 263, 264, 265, 266, 346, 17, 19, 100, 101, 102, 224, 225, 226] g0 M)) 26 0 0 (M 26 0 0 + 1))
          refine hR _ ⟨(show 0 ≤ (1 : Int) ∧ (1 : Int) < 3 from (by omega)), ?_⟩
          show R (90, [some (aR 8 0), some (aI sd), some (aI ((k : Nat) : Int)), some (aI (jf_E p (jf_lb p sd)))], [], am_wr (am_wr (am_mix mo_SM g189 (am_mix [12, 13, 14, 263, 264, 265, 266, 346, 17, 19, 100, 101, 102, 224, 225, 226] g0 M)) 26 0 0 (M 26 0 0 + 1)) 26 0 1 (M 26 0 1 + 0))
          refine hR _ (hR _ (hR _ (hR _ (?_))))
          show R (96, [some (aR 8 0), some (aI sd), some (aI ((k : Nat) : Int)), some (aI (jf_E p (jf_lb p sd)))], [aI 2, aR 26 0, aI 2, aR 26 0], am_wr (am_wr (am_mix mo_SM g189 (am_mix [12, 13, 14, 263, 264, 265, 266, 346, 17, 19, 100, 101, 102, 224, 225, 226] g0 M)) 26 0 0 (M 26 0 0 + 1)) 26 0 1 (M 26 0 1 + 0))
          refine hR _ ⟨(show 0 ≤ (2 : Int) ∧ (2 : Int) < 3 from (by omega)), ?_⟩
          show R (97, [some (aR 8 0), some (aI sd), some (aI ((k : Nat) : Int)), some (aI (jf_E p (jf_lb p sd)))], [aI (M 26 0 2), aI 2, aR 26 0], am_wr (am_wr (am_mix mo_SM g189 (am_mix [12, 13, 14, 263, 264, 265, 266, 346, 17, 19, 100, 101, 102, 224, 225, 226] g0 M)) 26 0 0 (M 26 0 0 + 1)) 26 0 1 (M 26 0 1 + 0))
          refine hR _ (hR _ (hR _ (hR _ (hR _ (hR _ (?_))))))
          show R (105, [some (aR 8 0), some (aI sd), some (aI ((k : Nat) : Int)), some (aI (jf_E p (jf_lb p sd)))], [aI 0, aR 22 0, aI (jf_E p (jf_lb p sd)), aI ((k : Nat) : Int), aR 8 0, aI (M 26 0 2), aI 2, aR 26 0], am_wr (am_wr (am_mix mo_SM g189 (am_mix [12, 13, 14, 263, 264, 265, 266, 346, 17, 19, 100, 101, 102, 224, 225, 226] g0 M)) 26 0 0 (M 26 0 0 + 1)) 26 0 1 (M 26 0 1 + 0))
          refine hR _ ⟨(show 0 ≤ (0 : Int) ∧ (0 : Int) < 4 from (by omega)), ?_⟩
          show R (106, [some (aR 8 0), some (aI sd), some (aI ((k : Nat) : Int)), some (aI (jf_E p (jf_lb p sd)))], [aI (M 22 0 0), aI (jf_E p (jf_lb p sd)), aI ((k : Nat) : Int), aR 8 0, aI (M 26 0 2), aI 2, aR 26 0], am_wr (am_wr (am_mix mo_SM g189 (am_mix [12, 13, 14, 263, 264, 265, 266, 346, 17, 19, 100, 101, 102, 224, 225, 226] g0 M)) 26 0 0 (M 26 0 0 + 1)) 26 0 1 (M 26 0 1 + 0))
          rw [(show M 22 0 0 = M 220 0 0 from hW.1.1.1)]
          show R (106, [some (aR 8 0), some (aI sd), some (aI ((k : Nat) : Int)), some (aI (jf_E p (jf_lb p sd)))], [aI (M 220 0 0), aI (jf_E p (jf_lb p sd)), aI ((k : Nat) : Int), aR 8 0, aI (M 26 0 2), aI 2, aR 26 0], am_wr (am_wr (am_mix mo_SM g189 (am_mix [12, 13, 14, 263, 264, 265, 266, 346, 17, 19, 100, 101, 102, 224, 225, 226] g0 M)) 26 0 0 (M 26 0 0 + 1)) 26 0 1 (M 26 0 1 + 0))
          refine hR _ (sm_costOf (p := p) (r := r) (by omega) hk hr hr6 hwt hp hok (by omega) (by omega) (fun g190 => ?_))
          have hco := jf_co_b p (M 220 0 0) (jf_E p (jf_lb p sd))
          show R (109, [some (aR 8 0), some (aI sd), some (aI ((k : Nat) : Int)), some (aI (jf_E p (jf_lb p sd)))], [aI (jf_co p (M 220 0 0) (jf_E p (jf_lb p sd))), aI (M 26 0 2), aI 2, aR 26 0], am_mix [37, 38] g190 (am_wr (am_wr (am_mix mo_SM g189 (am_mix [12, 13, 14, 263, 264, 265, 266, 346, 17, 19, 100, 101, 102, 224, 225, 226] g0 M)) 26 0 0 (M 26 0 0 + 1)) 26 0 1 (M 26 0 1 + 0)))
          refine hR _ (?_)
          show R (110, [some (aR 8 0), some (aI sd), some (aI ((k : Nat) : Int)), some (aI (jf_E p (jf_lb p sd)))], [aI (M 26 0 2 + (jf_co p (M 220 0 0) (jf_E p (jf_lb p sd)))), aI 2, aR 26 0], am_mix [37, 38] g190 (am_wr (am_wr (am_mix mo_SM g189 (am_mix [12, 13, 14, 263, 264, 265, 266, 346, 17, 19, 100, 101, 102, 224, 225, 226] g0 M)) 26 0 0 (M 26 0 0 + 1)) 26 0 1 (M 26 0 1 + 0)))
          refine hR _ ⟨(show 0 ≤ (2 : Int) ∧ (2 : Int) < 3 from (by omega)), ?_⟩
          show R (111, [some (aR 8 0), some (aI sd), some (aI ((k : Nat) : Int)), some (aI (jf_E p (jf_lb p sd)))], [], am_wr (am_mix [37, 38] g190 (am_wr (am_wr (am_mix mo_SM g189 (am_mix [12, 13, 14, 263, 264, 265, 266, 346, 17, 19, 100, 101, 102, 224, 225, 226] g0 M)) 26 0 0 (M 26 0 0 + 1)) 26 0 1 (M 26 0 1 + 0))) 26 0 2 (M 26 0 2 + (jf_co p (M 220 0 0) (jf_E p (jf_lb p sd)))))
          refine hR _ (?_)
          show R (112, [some (aR 8 0), some (aI sd), some (aI ((k : Nat) : Int)), some (aI (jf_E p (jf_lb p sd)))], [aI (jf_E p (jf_lb p sd))], am_wr (am_mix [37, 38] g190 (am_wr (am_wr (am_mix mo_SM g189 (am_mix [12, 13, 14, 263, 264, 265, 266, 346, 17, 19, 100, 101, 102, 224, 225, 226] g0 M)) 26 0 0 (M 26 0 0 + 1)) 26 0 1 (M 26 0 1 + 0))) 26 0 2 (M 26 0 2 + (jf_co p (M 220 0 0) (jf_E p (jf_lb p sd)))))
          refine hR _ (show K (some (aI (jf_E p (jf_lb p sd)))) (am_wr (am_mix [37, 38] g190 (am_wr (am_wr (am_mix mo_SM g189 (am_mix [12, 13, 14, 263, 264, 265, 266, 346, 17, 19, 100, 101, 102, 224, 225, 226] g0 M)) 26 0 0 (M 26 0 0 + 1)) 26 0 1 (M 26 0 1 + 0))) 26 0 2 (M 26 0 2 + (jf_co p (M 220 0 0) (jf_E p (jf_lb p sd))))) from ?_)
          refine am_fin (S := 26 :: mo_SM) (M := (am_mix [12, 13, 14, 263, 264, 265, 266, 346, 17, 19, 100, 101, 102, 224, 225, 226] g0 M)) (F := fun m => m 26 0 0 = M 224 0 0 + 1 ∧ m 26 0 1 = M 225 0 0 + (if jf_E p (jf_lb p sd) = M 220 0 0 then 1 else 0) ∧ m 26 0 2 = M 226 0 0 + jf_co p (M 220 0 0) (jf_E p (jf_lb p sd))) ((((((am_ag.rf).mix rfl).wr rfl).wr rfl).mix rfl).wr rfl) ⟨?_, ?_, ?_⟩ ?_
          · refine Eq.trans (show _ = M 26 0 0 + 1 from rfl) ?_
            rw [hW.2.1.1.1]
          · refine Eq.trans (show _ = (M 26 0 1 + 0) from rfl) ?_
            rw [hW.2.1.1.2.1]
            split <;> omega
          · refine Eq.trans (show _ = (M 26 0 2 + (jf_co p (M 220 0 0) (jf_E p (jf_lb p sd)))) from rfl) ?_
            rw [hW.2.1.1.2.2]
          · intro g hg
            rw [hpp] at hg ⊢
            exact hK1 k rfl hk5 (by omega) (by omega) g hg
        · refine hR _ (hR _ (hR _ (?_)))
          show R (89, [some (aR 8 0), some (aI sd), some (aI ((k : Nat) : Int)), some (aI (jf_E p (jf_lb p sd)))], [aI (M 26 0 1 + 1), aI 1, aR 26 0], am_wr (am_mix mo_SM g189 (am_mix [12, 13, 14, 263, 264, 265, 266, 346, 17, 19, 100, 101, 102, 224, 225, 226] g0 M)) 26 0 0 (M 26 0 0 + 1))
          refine hR _ ⟨(show 0 ≤ (1 : Int) ∧ (1 : Int) < 3 from (by omega)), ?_⟩
          show R (90, [some (aR 8 0), some (aI sd), some (aI ((k : Nat) : Int)), some (aI (jf_E p (jf_lb p sd)))], [], am_wr (am_wr (am_mix mo_SM g189 (am_mix [12, 13, 14, 263, 264, 265, 266, 346, 17, 19, 100, 101, 102, 224, 225, 226] g0 M)) 26 0 0 (M 26 0 0 + 1)) 26 0 1 (M 26 0 1 + 1))
          refine hR _ (hR _ (hR _ (hR _ (?_))))
          show R (96, [some (aR 8 0), some (aI sd), some (aI ((k : Nat) : Int)), some (aI (jf_E p (jf_lb p sd)))], [aI 2, aR 26 0, aI 2, aR 26 0], am_wr (am_wr (am_mix mo_SM g189 (am_mix [12, 13, 14, 263, 264, 265, 266, 346, 17, 19, 100, 101, 102, 224, 225, 226] g0 M)) 26 0 0 (M 26 0 0 + 1)) 26 0 1 (M 26 0 1 + 1))
          refine hR _ ⟨(show 0 ≤ (2 : Int) ∧ (2 : Int) < 3 from (by omega)), ?_⟩
          show R (97, [some (aR 8 0), some (aI sd), some (aI ((k : Nat) : Int)), some (aI (jf_E p (jf_lb p sd)))], [aI (M 26 0 2), aI 2, aR 26 0], am_wr (am_wr (am_mix mo_SM g189 (am_mix [12, 13, 14, 263, 264, 265, 266, 346, 17, 19, 100, 101, 102, 224, 225, 226] g0 M)) 26 0 0 (M 26 0 0 + 1)) 26 0 1 (M 26 0 1 + 1))
          refine hR _ (hR _ (hR _ (hR _ (hR _ (hR _ (?_))))))
          show R (105, [some (aR 8 0), some (aI sd), some (aI ((k : Nat) : Int)), some (aI (jf_E p (jf_lb p sd)))], [aI 0, aR 22 0, aI (jf_E p (jf_lb p sd)), aI ((k : Nat) : Int), aR 8 0, aI (M 26 0 2), aI 2, aR 26 0], am_wr (am_wr (am_mix mo_SM g189 (am_mix [12, 13, 14, 263, 264, 265, 266, 346, 17, 19, 100, 101, 102, 224, 225, 226] g0 M)) 26 0 0 (M 26 0 0 + 1)) 26 0 1 (M 26 0 1 + 1))
          refine hR _ ⟨(show 0 ≤ (0 : Int) ∧ (0 : Int) < 4 from (by omega)), ?_⟩
          show R (106, [some (aR 8 0), some (aI sd), some (aI ((k : Nat) : Int)), some (aI (jf_E p (jf_lb p sd)))], [aI (M 22 0 0), aI (jf_E p (jf_lb p sd)), aI ((k : Nat) : Int), aR 8 0, aI (M 26 0 2), aI 2, aR 26 0], am_wr (am_wr (am_mix mo_SM g189 (am_mix [12, 13, 14, 263, 264, 265, 266, 346, 17, 19, 100, 101, 102, 224, 225, 226] g0 M)) 26 0 0 (M 26 0 0 + 1)) 26 0 1 (M 26 0 1 + 1))
          rw [(show M 22 0 0 = M 220 0 0 from hW.1.1.1)]
          show R (106, [some (aR 8 0), some (aI sd), some (aI ((k : Nat) : Int)), some (aI (jf_E p (jf_lb p sd)))], [aI (M 220 0 0), aI (jf_E p (jf_lb p sd)), aI ((k : Nat) : Int), aR 8 0, aI (M 26 0 2), aI 2, aR 26 0], am_wr (am_wr (am_mix mo_SM g189 (am_mix [12, 13, 14, 263, 264, 265, 266, 346, 17, 19, 100, 101, 102, 224, 225, 226] g0 M)) 26 0 0 (M 26 0 0 + 1)) 26 0 1 (M 26 0 1 + 1))
          refine hR _ (sm_costOf (p := p) (r := r) (by omega) hk hr hr6 hwt hp hok (by omega) (by omega) (fun g191 => ?_))
          have hco := jf_co_b p (M 220 0 0) (jf_E p (jf_lb p sd))
          show R (109, [some (aR 8 0), some (aI sd), some (aI ((k : Nat) : Int)), some (aI (jf_E p (jf_lb p sd)))], [aI (jf_co p (M 220 0 0) (jf_E p (jf_lb p sd))), aI (M 26 0 2), aI 2, aR 26 0], am_mix [37, 38] g191 (am_wr (am_wr (am_mix mo_SM g189 (am_mix [12, 13, 14, 263, 264, 265, 266, 346, 17, 19, 100, 101, 102, 224, 225, 226] g0 M)) 26 0 0 (M 26 0 0 + 1)) 26 0 1 (M 26 0 1 + 1)))
          refine hR _ (?_)
          show R (110, [some (aR 8 0), some (aI sd), some (aI ((k : Nat) : Int)), some (aI (jf_E p (jf_lb p sd)))], [aI (M 26 0 2 + (jf_co p (M 220 0 0) (jf_E p (jf_lb p sd)))), aI 2, aR 26 0], am_mix [37, 38] g191 (am_wr (am_wr (am_mix mo_SM g189 (am_mix [12, 13, 14, 263, 264, 265, 266, 346, 17, 19, 100, 101, 102, 224, 225, 226] g0 M)) 26 0 0 (M 26 0 0 + 1)) 26 0 1 (M 26 0 1 + 1)))
          refine hR _ ⟨(show 0 ≤ (2 : Int) ∧ (2 : Int) < 3 from (by omega)), ?_⟩
          show R (111, [some (aR 8 0), some (aI sd), some (aI ((k : Nat) : Int)), some (aI (jf_E p (jf_lb p sd)))], [], am_wr (am_mix [37, 38] g191 (am_wr (am_wr (am_mix mo_SM g189 (am_mix [12, 13, 14, 263, 264, 265, 266, 346, 17, 19, 100, 101, 102, 224, 225, 226] g0 M)) 26 0 0 (M 26 0 0 + 1)) 26 0 1 (M 26 0 1 + 1))) 26 0 2 (M 26 0 2 + (jf_co p (M 220 0 0) (jf_E p (jf_lb p sd)))))
          refine hR _ (?_)
          show R (112, [some (aR 8 0), some (aI sd), some (aI ((k : Nat) : Int)), some (aI (jf_E p (jf_lb p sd)))], [aI (jf_E p (jf_lb p sd))], am_wr (am_mix [37, 38] g191 (am_wr (am_wr (am_mix mo_SM g189 (am_mix [12, 13, 14, 263, 264, 265, 266, 346, 17, 19, 100, 101, 102, 224, 225, 226] g0 M)) 26 0 0 (M 26 0 0 + 1)) 26 0 1 (M 26 0 1 + 1))) 26 0 2 (M 26 0 2 + (jf_co p (M 220 0 0) (jf_E p (jf_lb p sd)))))
          refine hR _ (show K (some (aI (jf_E p (jf_lb p sd)))) (am_wr (am_mix [37, 38] g191 (am_wr (am_wr (am_mix mo_SM g189 (am_mix [12, 13, 14, 263, 264, 265, 266, 346, 17, 19, 100, 101, 102, 224, 225, 226] g0 M)) 26 0 0 (M 26 0 0 + 1)) 26 0 1 (M 26 0 1 + 1))) 26 0 2 (M 26 0 2 + (jf_co p (M 220 0 0) (jf_E p (jf_lb p sd))))) from ?_)
          refine am_fin (S := 26 :: mo_SM) (M := (am_mix [12, 13, 14, 263, 264, 265, 266, 346, 17, 19, 100, 101, 102, 224, 225, 226] g0 M)) (F := fun m => m 26 0 0 = M 224 0 0 + 1 ∧ m 26 0 1 = M 225 0 0 + (if jf_E p (jf_lb p sd) = M 220 0 0 then 1 else 0) ∧ m 26 0 2 = M 226 0 0 + jf_co p (M 220 0 0) (jf_E p (jf_lb p sd))) ((((((am_ag.rf).mix rfl).wr rfl).wr rfl).mix rfl).wr rfl) ⟨?_, ?_, ?_⟩ ?_
          · refine Eq.trans (show _ = M 26 0 0 + 1 from rfl) ?_
            rw [hW.2.1.1.1]
          · refine Eq.trans (show _ = (M 26 0 1 + 1) from rfl) ?_
            rw [hW.2.1.1.2.1]
            split <;> omega
          · refine Eq.trans (show _ = (M 26 0 2 + (jf_co p (M 220 0 0) (jf_E p (jf_lb p sd)))) from rfl) ?_
            rw [hW.2.1.1.2.2]
          · intro g hg
            rw [hpp] at hg ⊢
            exact hK1 k rfl hk5 (by omega) (by omega) g hg
      · refine hR _ (?_)
        show R (39, [some (aR 8 0), some (aI sd), some (aI ((k : Nat) : Int)), none], [aI (-4)], am_mix [12, 13, 14, 263, 264, 265, 266, 346, 17, 19, 100, 101, 102, 224, 225, 226] g0 M)
        refine hR _ (show K (some (aI (-4))) (am_mix [12, 13, 14, 263, 264, 265, 266, 346, 17, 19, 100, 101, 102, 224, 225, 226] g0 M) from ?_)
        refine am_kr (hK0 (by omega)) ?_
        unfold jx_serve0
        repeat' split
        all_goals omega
    · show R (19, [some (aR 8 0), some (aI sd), some (aI ((k : Nat) : Int)), none], [aI 0], am_mix [12, 13, 14, 263, 264, 265, 266, 346, 17, 19, 100, 101, 102, 224, 225, 226] g0 M)
      refine hR _ (am_brf (rg := am_in 0) (P := (0 : Int) ≠ 0) (A := R (25, [some (aR 8 0), some (aI sd), some (aI ((k : Nat) : Int)), none], [], am_mix [12, 13, 14, 263, 264, 265, 266, 346, 17, 19, 100, 101, 102, 224, 225, 226] g0 M)) (B := R (22, [some (aR 8 0), some (aI sd), some (aI ((k : Nat) : Int)), none], [], am_mix [12, 13, 14, 263, 264, 265, 266, 346, 17, 19, 100, 101, 102, 224, 225, 226] g0 M)) (by omega) (by omega) ?_)
      show R (22, [some (aR 8 0), some (aI sd), some (aI ((k : Nat) : Int)), none], [], am_mix [12, 13, 14, 263, 264, 265, 266, 346, 17, 19, 100, 101, 102, 224, 225, 226] g0 M)
      refine hR _ (?_)
      show R (24, [some (aR 8 0), some (aI sd), some (aI ((k : Nat) : Int)), none], [aI (-7)], am_mix [12, 13, 14, 263, 264, 265, 266, 346, 17, 19, 100, 101, 102, 224, 225, 226] g0 M)
      refine hR _ (show K (some (aI (-7))) (am_mix [12, 13, 14, 263, 264, 265, 266, 346, 17, 19, 100, 101, 102, 224, 225, 226] g0 M) from ?_)
      refine am_kr (hK0 (by omega)) ?_
      unfold jx_serve0
      repeat' split
      all_goals omega
  · show R (0, [some (aR 8 0), some (aI sd), some (aI h), none], [], am_mix [12, 13, 14, 263, 264, 265, 266, 346, 17, 19, 100, 101, 102, 224, 225, 226] g0 M)
    refine hR _ (hR _ (?_))
    show R (2, [some (aR 8 0), some (aI sd), some (aI h), none], [aI h, aR 8 0], am_mix [12, 13, 14, 263, 264, 265, 266, 346, 17, 19, 100, 101, 102, 224, 225, 226] g0 M)
    refine hR _ (sm_isHand (by omega) (show 0 ≤ M 421 0 0 ∧ M 421 0 0 ≤ 5 from hn') (by omega) (fun hz => absurd (show 0 ≤ h ∧ h < M 227 0 0 from ⟨hz.1, by rw [← h421]; exact hz.2⟩) hno) (fun _ => ?_))
    show R (5, [some (aR 8 0), some (aI sd), some (aI h), none], [aI 0], am_mix [12, 13, 14, 263, 264, 265, 266, 346, 17, 19, 100, 101, 102, 224, 225, 226] g0 M)
    refine hR _ (am_brf (rg := am_in 0) (P := (0 : Int) ≠ 0) (A := R (11, [some (aR 8 0), some (aI sd), some (aI h), none], [], am_mix [12, 13, 14, 263, 264, 265, 266, 346, 17, 19, 100, 101, 102, 224, 225, 226] g0 M)) (B := R (8, [some (aR 8 0), some (aI sd), some (aI h), none], [], am_mix [12, 13, 14, 263, 264, 265, 266, 346, 17, 19, 100, 101, 102, 224, 225, 226] g0 M)) (by omega) (by omega) ?_)
    show R (8, [some (aR 8 0), some (aI sd), some (aI h), none], [], am_mix [12, 13, 14, 263, 264, 265, 266, 346, 17, 19, 100, 101, 102, 224, 225, 226] g0 M)
    refine hR _ (?_)
    show R (10, [some (aR 8 0), some (aI sd), some (aI h), none], [aI (-5)], am_mix [12, 13, 14, 263, 264, 265, 266, 346, 17, 19, 100, 101, 102, 224, 225, 226] g0 M)
    refine hR _ (show K (some (aI (-5))) (am_mix [12, 13, 14, 263, 264, 265, 266, 346, 17, 19, 100, 101, 102, 224, 225, 226] g0 M) from ?_)
    refine am_kr (hK0 (by omega)) ?_
    unfold jx_serve0
    repeat' split
    all_goals omega

theorem sm_image {d : Nat} (hd : 2 ≤ d)  {M : am_M} {K : am_K} (hK : ∀ g : am_M, (g 432 0 0 = 1 ∧ (g 433 0 0 = M 421 0 0 ∧ g 434 0 0 = M 431 0 0) ∧ (∀ j : Nat, j < 4 → g 30 0 j = M 22 0 j) ∧ (∀ j : Nat, j < 10 → g 30 0 (4 + j) = M 25 0 j) ∧ (∀ j : Nat, j < 3 → g 30 0 (14 + j) = M 26 0 j)) → K (some (aI (M 421 0 0))) (am_mix [30, 432, 433, 434] g M)) : am_Call true d 197 [aR 8 0] M K := by
  obtain ⟨d, rfl⟩ : ∃ e, d = e + 1 := ⟨d - 1, by omega⟩
  refine ⟨rfl, fun R hR hC => ?_⟩
  replace hR : ∀ c, am_F true tb_f197 1 (am_Call true d) K R c → R c := hR
  show R (0, [some (aR 8 0), none], [], M)
  refine hR _ (hR _ (?_))
  show R (2, [some (aR 8 0), none], [aI 1, aR 8 0], M)
  refine hR _ ⟨(by omega), ?_⟩
  show R (5, [some (aR 8 0), none], [], am_wr M 432 0 0 1)
  refine hR _ (hR _ (hR _ (hR _ (hR _ (hR _ (hR _ (hR _ (hR _ (hR _ (hR _ (hR _ (hR _ (am_brf (rg := am_in 0 ∧ am_in 4) (P := 4 ≤ 0) (A := R (46, [some (aR 8 0), some (aI 0)], [], am_wr (am_wr (am_wr M 432 0 0 1) 433 0 0 (M 421 0 0)) 434 0 0 (M 431 0 0))) (B := R (28, [some (aR 8 0), some (aI 0)], [], am_wr (am_wr (am_wr M 432 0 0 1) 433 0 0 (M 421 0 0)) 434 0 0 (M 431 0 0))) (by omega) (by omega) ?_)))))))))))))
  show R (28, [some (aR 8 0), some (aI 0)], [], am_wr (am_wr (am_wr M 432 0 0 1) 433 0 0 (M 421 0 0)) 434 0 0 (M 431 0 0))
  refine hR _ (hR _ (hR _ (hR _ (hR _ (hR _ (?_))))))
  show R (38, [some (aR 8 0), some (aI 0)], [aI 0, aR 22 0, aI 0, aR 30 0], am_wr (am_wr (am_wr M 432 0 0 1) 433 0 0 (M 421 0 0)) 434 0 0 (M 431 0 0))
  refine hR _ ⟨(show 0 ≤ (0 : Int) ∧ (0 : Int) < 4 from (by omega)), ?_⟩
  show R (39, [some (aR 8 0), some (aI 0)], [aI (M 22 0 0), aI 0, aR 30 0], am_wr (am_wr (am_wr M 432 0 0 1) 433 0 0 (M 421 0 0)) 434 0 0 (M 431 0 0))
  refine hR _ ⟨(show 0 ≤ (0 : Int) ∧ (0 : Int) < 17 from (by omega)), ?_⟩
  show R (40, [some (aR 8 0), some (aI 0)], [], am_wr (am_wr (am_wr (am_wr M 432 0 0 1) 433 0 0 (M 421 0 0)) 434 0 0 (M 431 0 0)) 30 0 0 (M 22 0 0))
  refine hR _ (hR _ (hR _ (hR _ (hR _ (am_brf (rg := am_in 1 ∧ am_in 4) (P := 4 ≤ 1) (A := R (46, [some (aR 8 0), some (aI 1)], [], am_wr (am_wr (am_wr (am_wr M 432 0 0 1) 433 0 0 (M 421 0 0)) 434 0 0 (M 431 0 0)) 30 0 0 (M 22 0 0))) (B := R (28, [some (aR 8 0), some (aI 1)], [], am_wr (am_wr (am_wr (am_wr M 432 0 0 1) 433 0 0 (M 421 0 0)) 434 0 0 (M 431 0 0)) 30 0 0 (M 22 0 0))) (by omega) (by omega) ?_)))))
  show R (28, [some (aR 8 0), some (aI 1)], [], am_wr (am_wr (am_wr (am_wr M 432 0 0 1) 433 0 0 (M 421 0 0)) 434 0 0 (M 431 0 0)) 30 0 0 (M 22 0 0))
  refine hR _ (hR _ (hR _ (hR _ (hR _ (hR _ (?_))))))
  show R (38, [some (aR 8 0), some (aI 1)], [aI 1, aR 22 0, aI 1, aR 30 0], am_wr (am_wr (am_wr (am_wr M 432 0 0 1) 433 0 0 (M 421 0 0)) 434 0 0 (M 431 0 0)) 30 0 0 (M 22 0 0))
  refine hR _ ⟨(show 0 ≤ (1 : Int) ∧ (1 : Int) < 4 from (by omega)), ?_⟩
  show R (39, [some (aR 8 0), some (aI 1)], [aI (M 22 0 1), aI 1, aR 30 0], am_wr (am_wr (am_wr (am_wr M 432 0 0 1) 433 0 0 (M 421 0 0)) 434 0 0 (M 431 0 0)) 30 0 0 (M 22 0 0))
  refine hR _ ⟨(show 0 ≤ (1 : Int) ∧ (1 : Int) < 17 from (by omega)), ?_⟩
  show R (40, [some (aR 8 0), some (aI 1)], [], am_wr (am_wr (am_wr (am_wr (am_wr M 432 0 0 1) 433 0 0 (M 421 0 0)) 434 0 0 (M 431 0 0)) 30 0 0 (M 22 0 0)) 30 0 1 (M 22 0 1))
  refine hR _ (hR _ (hR _ (hR _ (hR _ (am_brf (rg := am_in 2 ∧ am_in 4) (P := 4 ≤ 2) (A := R (46, [some (aR 8 0), some (aI 2)], [], am_wr (am_wr (am_wr (am_wr (am_wr M 432 0 0 1) 433 0 0 (M 421 0 0)) 434 0 0 (M 431 0 0)) 30 0 0 (M 22 0 0)) 30 0 1 (M 22 0 1))) (B := R (28, [some (aR 8 0), some (aI 2)], [], am_wr (am_wr (am_wr (am_wr (am_wr M 432 0 0 1) 433 0 0 (M 421 0 0)) 434 0 0 (M 431 0 0)) 30 0 0 (M 22 0 0)) 30 0 1 (M 22 0 1))) (by omega) (by omega) ?_)))))
  show R (28, [some (aR 8 0), some (aI 2)], [], am_wr (am_wr (am_wr (am_wr (am_wr M 432 0 0 1) 433 0 0 (M 421 0 0)) 434 0 0 (M 431 0 0)) 30 0 0 (M 22 0 0)) 30 0 1 (M 22 0 1))
  refine hR _ (hR _ (hR _ (hR _ (hR _ (hR _ (?_))))))
  show R (38, [some (aR 8 0), some (aI 2)], [aI 2, aR 22 0, aI 2, aR 30 0], am_wr (am_wr (am_wr (am_wr (am_wr M 432 0 0 1) 433 0 0 (M 421 0 0)) 434 0 0 (M 431 0 0)) 30 0 0 (M 22 0 0)) 30 0 1 (M 22 0 1))
  refine hR _ ⟨(show 0 ≤ (2 : Int) ∧ (2 : Int) < 4 from (by omega)), ?_⟩
  show R (39, [some (aR 8 0), some (aI 2)], [aI (M 22 0 2), aI 2, aR 30 0], am_wr (am_wr (am_wr (am_wr (am_wr M 432 0 0 1) 433 0 0 (M 421 0 0)) 434 0 0 (M 431 0 0)) 30 0 0 (M 22 0 0)) 30 0 1 (M 22 0 1))
  refine hR _ ⟨(show 0 ≤ (2 : Int) ∧ (2 : Int) < 17 from (by omega)), ?_⟩
  show R (40, [some (aR 8 0), some (aI 2)], [], am_wr (am_wr (am_wr (am_wr (am_wr (am_wr M 432 0 0 1) 433 0 0 (M 421 0 0)) 434 0 0 (M 431 0 0)) 30 0 0 (M 22 0 0)) 30 0 1 (M 22 0 1)) 30 0 2 (M 22 0 2))
  refine hR _ (hR _ (hR _ (hR _ (hR _ (am_brf (rg := am_in 3 ∧ am_in 4) (P := 4 ≤ 3) (A := R (46, [some (aR 8 0), some (aI 3)], [], am_wr (am_wr (am_wr (am_wr (am_wr (am_wr M 432 0 0 1) 433 0 0 (M 421 0 0)) 434 0 0 (M 431 0 0)) 30 0 0 (M 22 0 0)) 30 0 1 (M 22 0 1)) 30 0 2 (M 22 0 2))) (B := R (28, [some (aR 8 0), some (aI 3)], [], am_wr (am_wr (am_wr (am_wr (am_wr (am_wr M 432 0 0 1) 433 0 0 (M 421 0 0)) 434 0 0 (M 431 0 0)) 30 0 0 (M 22 0 0)) 30 0 1 (M 22 0 1)) 30 0 2 (M 22 0 2))) (by omega) (by omega) ?_)))))
  show R (28, [some (aR 8 0), some (aI 3)], [], am_wr (am_wr (am_wr (am_wr (am_wr (am_wr M 432 0 0 1) 433 0 0 (M 421 0 0)) 434 0 0 (M 431 0 0)) 30 0 0 (M 22 0 0)) 30 0 1 (M 22 0 1)) 30 0 2 (M 22 0 2))
  refine hR _ (hR _ (hR _ (hR _ (hR _ (hR _ (?_))))))
  show R (38, [some (aR 8 0), some (aI 3)], [aI 3, aR 22 0, aI 3, aR 30 0], am_wr (am_wr (am_wr (am_wr (am_wr (am_wr M 432 0 0 1) 433 0 0 (M 421 0 0)) 434 0 0 (M 431 0 0)) 30 0 0 (M 22 0 0)) 30 0 1 (M 22 0 1)) 30 0 2 (M 22 0 2))
  refine hR _ ⟨(show 0 ≤ (3 : Int) ∧ (3 : Int) < 4 from (by omega)), ?_⟩
  show R (39, [some (aR 8 0), some (aI 3)], [aI (M 22 0 3), aI 3, aR 30 0], am_wr (am_wr (am_wr (am_wr (am_wr (am_wr M 432 0 0 1) 433 0 0 (M 421 0 0)) 434 0 0 (M 431 0 0)) 30 0 0 (M 22 0 0)) 30 0 1 (M 22 0 1)) 30 0 2 (M 22 0 2))
  refine hR _ ⟨(show 0 ≤ (3 : Int) ∧ (3 : Int) < 17 from (by omega)), ?_⟩
  show R (40, [some (aR 8 0), some (aI 3)], [], am_wr (am_wr (am_wr (am_wr (am_wr (am_wr (am_wr M 432 0 0 1) 433 0 0 (M 421 0 0)) 434 0 0 (M 431 0 0)) 30 0 0 (M 22 0 0)) 30 0 1 (M 22 0 1)) 30 0 2 (M 22 0 2)) 30 0 3 (M 22 0 3))
  refine hR _ (hR _ (hR _ (hR _ (hR _ (am_brt (rg := am_in 4 ∧ am_in 4) (P := (4 : Int) ≤ 4) (A := R (46, [some (aR 8 0), some (aI 4)], [], am_wr (am_wr (am_wr (am_wr (am_wr (am_wr (am_wr M 432 0 0 1) 433 0 0 (M 421 0 0)) 434 0 0 (M 431 0 0)) 30 0 0 (M 22 0 0)) 30 0 1 (M 22 0 1)) 30 0 2 (M 22 0 2)) 30 0 3 (M 22 0 3))) (B := R (28, [some (aR 8 0), some (aI 4)], [], am_wr (am_wr (am_wr (am_wr (am_wr (am_wr (am_wr M 432 0 0 1) 433 0 0 (M 421 0 0)) 434 0 0 (M 431 0 0)) 30 0 0 (M 22 0 0)) 30 0 1 (M 22 0 1)) 30 0 2 (M 22 0 2)) 30 0 3 (M 22 0 3))) (by omega) (by omega) ?_)))))
  show R (46, [some (aR 8 0), some (aI 4)], [], am_wr (am_wr (am_wr (am_wr (am_wr (am_wr (am_wr M 432 0 0 1) 433 0 0 (M 421 0 0)) 434 0 0 (M 431 0 0)) 30 0 0 (M 22 0 0)) 30 0 1 (M 22 0 1)) 30 0 2 (M 22 0 2)) 30 0 3 (M 22 0 3))
  refine hR _ (hR _ (hR _ (hR _ (hR _ (am_brf (rg := am_in 0 ∧ am_in 10) (P := 10 ≤ 0) (A := R (74, [some (aR 8 0), some (aI 0)], [], am_wr (am_wr (am_wr (am_wr (am_wr (am_wr (am_wr M 432 0 0 1) 433 0 0 (M 421 0 0)) 434 0 0 (M 431 0 0)) 30 0 0 (M 22 0 0)) 30 0 1 (M 22 0 1)) 30 0 2 (M 22 0 2)) 30 0 3 (M 22 0 3))) (B := R (54, [some (aR 8 0), some (aI 0)], [], am_wr (am_wr (am_wr (am_wr (am_wr (am_wr (am_wr M 432 0 0 1) 433 0 0 (M 421 0 0)) 434 0 0 (M 431 0 0)) 30 0 0 (M 22 0 0)) 30 0 1 (M 22 0 1)) 30 0 2 (M 22 0 2)) 30 0 3 (M 22 0 3))) (by omega) (by omega) ?_)))))
  show R (54, [some (aR 8 0), some (aI 0)], [], am_wr (am_wr (am_wr (am_wr (am_wr (am_wr (am_wr M 432 0 0 1) 433 0 0 (M 421 0 0)) 434 0 0 (M 431 0 0)) 30 0 0 (M 22 0 0)) 30 0 1 (M 22 0 1)) 30 0 2 (M 22 0 2)) 30 0 3 (M 22 0 3))
  refine hR _ (hR _ (hR _ (hR _ (hR _ (hR _ (hR _ (hR _ (?_))))))))
  show R (66, [some (aR 8 0), some (aI 0)], [aI 0, aR 25 0, aI 4, aR 30 0], am_wr (am_wr (am_wr (am_wr (am_wr (am_wr (am_wr M 432 0 0 1) 433 0 0 (M 421 0 0)) 434 0 0 (M 431 0 0)) 30 0 0 (M 22 0 0)) 30 0 1 (M 22 0 1)) 30 0 2 (M 22 0 2)) 30 0 3 (M 22 0 3))
  refine hR _ ⟨(show 0 ≤ (0 : Int) ∧ (0 : Int) < 10 from (by omega)), ?_⟩
  show R (67, [some (aR 8 0), some (aI 0)], [aI (M 25 0 0), aI 4, aR 30 0], am_wr (am_wr (am_wr (am_wr (am_wr (am_wr (am_wr M 432 0 0 1) 433 0 0 (M 421 0 0)) 434 0 0 (M 431 0 0)) 30 0 0 (M 22 0 0)) 30 0 1 (M 22 0 1)) 30 0 2 (M 22 0 2)) 30 0 3 (M 22 0 3))
  refine hR _ ⟨(show 0 ≤ (4 : Int) ∧ (4 : Int) < 17 from (by omega)), ?_⟩
  show R (68, [some (aR 8 0), some (aI 0)], [], am_wr (am_wr (am_wr (am_wr (am_wr (am_wr (am_wr (am_wr M 432 0 0 1) 433 0 0 (M 421 0 0)) 434 0 0 (M 431 0 0)) 30 0 0 (M 22 0 0)) 30 0 1 (M 22 0 1)) 30 0 2 (M 22 0 2)) 30 0 3 (M 22 0 3)) 30 0 4 (M 25 0 0))
  refine hR _ (hR _ (hR _ (hR _ (hR _ (am_brf (rg := am_in 1 ∧ am_in 10) (P := 10 ≤ 1) (A := R (74, [some (aR 8 0), some (aI 1)], [], am_wr (am_wr (am_wr (am_wr (am_wr (am_wr (am_wr (am_wr M 432 0 0 1) 433 0 0 (M 421 0 0)) 434 0 0 (M 431 0 0)) 30 0 0 (M 22 0 0)) 30 0 1 (M 22 0 1)) 30 0 2 (M 22 0 2)) 30 0 3 (M 22 0 3)) 30 0 4 (M 25 0 0))) (B := R (54, [some (aR 8 0), some (aI 1)], [], am_wr (am_wr (am_wr (am_wr (am_wr (am_wr (am_wr (am_wr M 432 0 0 1) 433 0 0 (M 421 0 0)) 434 0 0 (M 431 0 0)) 30 0 0 (M 22 0 0)) 30 0 1 (M 22 0 1)) 30 0 2 (M 22 0 2)) 30 0 3 (M 22 0 3)) 30 0 4 (M 25 0 0))) (by omega) (by omega) ?_)))))
  show R (54, [some (aR 8 0), some (aI 1)], [], am_wr (am_wr (am_wr (am_wr (am_wr (am_wr (am_wr (am_wr M 432 0 0 1) 433 0 0 (M 421 0 0)) 434 0 0 (M 431 0 0)) 30 0 0 (M 22 0 0)) 30 0 1 (M 22 0 1)) 30 0 2 (M 22 0 2)) 30 0 3 (M 22 0 3)) 30 0 4 (M 25 0 0))
  refine hR _ (hR _ (hR _ (hR _ (hR _ (hR _ (hR _ (hR _ (?_))))))))
  show R (66, [some (aR 8 0), some (aI 1)], [aI 1, aR 25 0, aI 5, aR 30 0], am_wr (am_wr (am_wr (am_wr (am_wr (am_wr (am_wr (am_wr M 432 0 0 1) 433 0 0 (M 421 0 0)) 434 0 0 (M 431 0 0)) 30 0 0 (M 22 0 0)) 30 0 1 (M 22 0 1)) 30 0 2 (M 22 0 2)) 30 0 3 (M 22 0 3)) 30 0 4 (M 25 0 0))
  refine hR _ ⟨(show 0 ≤ (1 : Int) ∧ (1 : Int) < 10 from (by omega)), ?_⟩
  show R (67, [some (aR 8 0), some (aI 1)], [aI (M 25 0 1), aI 5, aR 30 0], am_wr (am_wr (am_wr (am_wr (am_wr (am_wr (am_wr (am_wr M 432 0 0 1) 433 0 0 (M 421 0 0)) 434 0 0 (M 431 0 0)) 30 0 0 (M 22 0 0)) 30 0 1 (M 22 0 1)) 30 0 2 (M 22 0 2)) 30 0 3 (M 22 0 3)) 30 0 4 (M 25 0 0))
  refine hR _ ⟨(show 0 ≤ (5 : Int) ∧ (5 : Int) < 17 from (by omega)), ?_⟩
  show R (68, [some (aR 8 0), some (aI 1)], [], am_wr (am_wr (am_wr (am_wr (am_wr (am_wr (am_wr (am_wr (am_wr M 432 0 0 1) 433 0 0 (M 421 0 0)) 434 0 0 (M 431 0 0)) 30 0 0 (M 22 0 0)) 30 0 1 (M 22 0 1)) 30 0 2 (M 22 0 2)) 30 0 3 (M 22 0 3)) 30 0 4 (M 25 0 0)) 30 0 5 (M 25 0 1))
  refine hR _ (hR _ (hR _ (hR _ (hR _ (am_brf (rg := am_in 2 ∧ am_in 10) (P := 10 ≤ 2) (A := R (74, [some (aR 8 0), some (aI 2)], [], am_wr (am_wr (am_wr (am_wr (am_wr (am_wr (am_wr (am_wr (am_wr M 432 0 0 1) 433 0 0 (M 421 0 0)) 434 0 0 (M 431 0 0)) 30 0 0 (M 22 0 0)) 30 0 1 (M 22 0 1)) 30 0 2 (M 22 0 2)) 30 0 3 (M 22 0 3)) 30 0 4 (M 25 0 0)) 30 0 5 (M 25 0 1))) (B := R (54, [some (aR 8 0), some (aI 2)], [], am_wr (am_wr (am_wr (am_wr (am_wr (am_wr (am_wr (am_wr (am_wr M 432 0 0 1) 433 0 0 (M 421 0 0)) 434 0 0 (M 431 0 0)) 30 0 0 (M 22 0 0)) 30 0 1 (M 22 0 1)) 30 0 2 (M 22 0 2)) 30 0 3 (M 22 0 3)) 30 0 4 (M 25 0 0)) 30 0 5 (M 25 0 1))) (by omega) (by omega) ?_)))))
  show R (54, [some (aR 8 0), some (aI 2)], [], am_wr (am_wr (am_wr (am_wr (am_wr (am_wr (am_wr (am_wr (am_wr M 432 0 0 1) 433 0 0 (M 421 0 0)) 434 0 0 (M 431 0 0)) 30 0 0 (M 22 0 0)) 30 0 1 (M 22 0 1)) 30 0 2 (M 22 0 2)) 30 0 3 (M 22 0 3)) 30 0 4 (M 25 0 0)) 30 0 5 (M 25 0 1))
  refine hR _ (hR _ (hR _ (hR _ (hR _ (hR _ (hR _ (hR _ (?_))))))))
  show R (66, [some (aR 8 0), some (aI 2)], [aI 2, aR 25 0, aI 6, aR 30 0], am_wr (am_wr (am_wr (am_wr (am_wr (am_wr (am_wr (am_wr (am_wr M 432 0 0 1) 433 0 0 (M 421 0 0)) 434 0 0 (M 431 0 0)) 30 0 0 (M 22 0 0)) 30 0 1 (M 22 0 1)) 30 0 2 (M 22 0 2)) 30 0 3 (M 22 0 3)) 30 0 4 (M 25 0 0)) 30 0 5 (M 25 0 1))
  refine hR _ ⟨(show 0 ≤ (2 : Int) ∧ (2 : Int) < 10 from (by omega)), ?_⟩
  show R (67, [some (aR 8 0), some (aI 2)], [aI (M 25 0 2), aI 6, aR 30 0], am_wr (am_wr (am_wr (am_wr (am_wr (am_wr (am_wr (am_wr (am_wr M 432 0 0 1) 433 0 0 (M 421 0 0)) 434 0 0 (M 431 0 0)) 30 0 0 (M 22 0 0)) 30 0 1 (M 22 0 1)) 30 0 2 (M 22 0 2)) 30 0 3 (M 22 0 3)) 30 0 4 (M 25 0 0)) 30 0 5 (M 25 0 1))
  refine hR _ ⟨(show 0 ≤ (6 : Int) ∧ (6 : Int) < 17 from (by omega)), ?_⟩
  show R (68, [some (aR 8 0), some (aI 2)], [], am_wr (am_wr (am_wr (am_wr (am_wr (am_wr (am_wr (am_wr (am_wr (am_wr M 432 0 0 1) 433 0 0 (M 421 0 0)) 434 0 0 (M 431 0 0)) 30 0 0 (M 22 0 0)) 30 0 1 (M 22 0 1)) 30 0 2 (M 22 0 2)) 30 0 3 (M 22 0 3)) 30 0 4 (M 25 0 0)) 30 0 5 (M 25 0 1)) 30 0 6 (M 25 0 2))
  refine hR _ (hR _ (hR _ (hR _ (hR _ (am_brf (rg := am_in 3 ∧ am_in 10) (P := 10 ≤ 3) (A := R (74, [some (aR 8 0), some (aI 3)], [], am_wr (am_wr (am_wr (am_wr (am_wr (am_wr (am_wr (am_wr (am_wr (am_wr M 432 0 0 1) 433 0 0 (M 421 0 0)) 434 0 0 (M 431 0 0)) 30 0 0 (M 22 0 0)) 30 0 1 (M 22 0 1)) 30 0 2 (M 22 0 2)) 30 0 3 (M 22 0 3)) 30 0 4 (M 25 0 0)) 30 0 5 (M 25 0 1)) 30 0 6 (M 25 0 2))) (B := R (54, [some (aR 8 0), some (aI 3)], [], am_wr (am_wr (am_wr (am_wr (am_wr (am_wr (am_wr (am_wr (am_wr (am_wr M 432 0 0 1) 433 0 0 (M 421 0 0)) 434 0 0 (M 431 0 0)) 30 0 0 (M 22 0 0)) 30 0 1 (M 22 0 1)) 30 0 2 (M 22 0 2)) 30 0 3 (M 22 0 3)) 30 0 4 (M 25 0 0)) 30 0 5 (M 25 0 1)) 30 0 6 (M 25 0 2))) (by omega) (by omega) ?_)))))
  show R (54, [some (aR 8 0), some (aI 3)], [], am_wr (am_wr (am_wr (am_wr (am_wr (am_wr (am_wr (am_wr (am_wr (am_wr M 432 0 0 1) 433 0 0 (M 421 0 0)) 434 0 0 (M 431 0 0)) 30 0 0 (M 22 0 0)) 30 0 1 (M 22 0 1)) 30 0 2 (M 22 0 2)) 30 0 3 (M 22 0 3)) 30 0 4 (M 25 0 0)) 30 0 5 (M 25 0 1)) 30 0 6 (M 25 0 2))
  refine hR _ (hR _ (hR _ (hR _ (hR _ (hR _ (hR _ (hR _ (?_))))))))
  show R (66, [some (aR 8 0), some (aI 3)], [aI 3, aR 25 0, aI 7, aR 30 0], am_wr (am_wr (am_wr (am_wr (am_wr (am_wr (am_wr (am_wr (am_wr (am_wr M 432 0 0 1) 433 0 0 (M 421 0 0)) 434 0 0 (M 431 0 0)) 30 0 0 (M 22 0 0)) 30 0 1 (M 22 0 1)) 30 0 2 (M 22 0 2)) 30 0 3 (M 22 0 3)) 30 0 4 (M 25 0 0)) 30 0 5 (M 25 0 1)) 30 0 6 (M 25 0 2))
  refine hR _ ⟨(show 0 ≤ (3 : Int) ∧ (3 : Int) < 10 from (by omega)), ?_⟩
  show R (67, [some (aR 8 0), some (aI 3)], [aI (M 25 0 3), aI 7, aR 30 0], am_wr (am_wr (am_wr (am_wr (am_wr (am_wr (am_wr (am_wr (am_wr (am_wr M 432 0 0 1) 433 0 0 (M 421 0 0)) 434 0 0 (M 431 0 0)) 30 0 0 (M 22 0 0)) 30 0 1 (M 22 0 1)) 30 0 2 (M 22 0 2)) 30 0 3 (M 22 0 3)) 30 0 4 (M 25 0 0)) 30 0 5 (M 25 0 1)) 30 0 6 (M 25 0 2))
  refine hR _ ⟨(show 0 ≤ (7 : Int) ∧ (7 : Int) < 17 from (by omega)), ?_⟩
  show R (68, [some (aR 8 0), some (aI 3)], [], am_wr (am_wr (am_wr (am_wr (am_wr (am_wr (am_wr (am_wr (am_wr (am_wr (am_wr M 432 0 0 1) 433 0 0 (M 421 0 0)) 434 0 0 (M 431 0 0)) 30 0 0 (M 22 0 0)) 30 0 1 (M 22 0 1)) 30 0 2 (M 22 0 2)) 30 0 3 (M 22 0 3)) 30 0 4 (M 25 0 0)) 30 0 5 (M 25 0 1)) 30 0 6 (M 25 0 2)) 30 0 7 (M 25 0 3))
  refine hR _ (hR _ (hR _ (hR _ (hR _ (am_brf (rg := am_in 4 ∧ am_in 10) (P := 10 ≤ 4) (A := R (74, [some (aR 8 0), some (aI 4)], [], am_wr (am_wr (am_wr (am_wr (am_wr (am_wr (am_wr (am_wr (am_wr (am_wr (am_wr M 432 0 0 1) 433 0 0 (M 421 0 0)) 434 0 0 (M 431 0 0)) 30 0 0 (M 22 0 0)) 30 0 1 (M 22 0 1)) 30 0 2 (M 22 0 2)) 30 0 3 (M 22 0 3)) 30 0 4 (M 25 0 0)) 30 0 5 (M 25 0 1)) 30 0 6 (M 25 0 2)) 30 0 7 (M 25 0 3))) (B := R (54, [some (aR 8 0), some (aI 4)], [], am_wr (am_wr (am_wr (am_wr (am_wr (am_wr (am_wr (am_wr (am_wr (am_wr (am_wr M 432 0 0 1) 433 0 0 (M 421 0 0)) 434 0 0 (M 431 0 0)) 30 0 0 (M 22 0 0)) 30 0 1 (M 22 0 1)) 30 0 2 (M 22 0 2)) 30 0 3 (M 22 0 3)) 30 0 4 (M 25 0 0)) 30 0 5 (M 25 0 1)) 30 0 6 (M 25 0 2)) 30 0 7 (M 25 0 3))) (by omega) (by omega) ?_)))))
  show R (54, [some (aR 8 0), some (aI 4)], [], am_wr (am_wr (am_wr (am_wr (am_wr (am_wr (am_wr (am_wr (am_wr (am_wr (am_wr M 432 0 0 1) 433 0 0 (M 421 0 0)) 434 0 0 (M 431 0 0)) 30 0 0 (M 22 0 0)) 30 0 1 (M 22 0 1)) 30 0 2 (M 22 0 2)) 30 0 3 (M 22 0 3)) 30 0 4 (M 25 0 0)) 30 0 5 (M 25 0 1)) 30 0 6 (M 25 0 2)) 30 0 7 (M 25 0 3))
  refine hR _ (hR _ (hR _ (hR _ (hR _ (hR _ (hR _ (hR _ (?_))))))))
  show R (66, [some (aR 8 0), some (aI 4)], [aI 4, aR 25 0, aI 8, aR 30 0], am_wr (am_wr (am_wr (am_wr (am_wr (am_wr (am_wr (am_wr (am_wr (am_wr (am_wr M 432 0 0 1) 433 0 0 (M 421 0 0)) 434 0 0 (M 431 0 0)) 30 0 0 (M 22 0 0)) 30 0 1 (M 22 0 1)) 30 0 2 (M 22 0 2)) 30 0 3 (M 22 0 3)) 30 0 4 (M 25 0 0)) 30 0 5 (M 25 0 1)) 30 0 6 (M 25 0 2)) 30 0 7 (M 25 0 3))
  refine hR _ ⟨(show 0 ≤ (4 : Int) ∧ (4 : Int) < 10 from (by omega)), ?_⟩
  show R (67, [some (aR 8 0), some (aI 4)], [aI (M 25 0 4), aI 8, aR 30 0], am_wr (am_wr (am_wr (am_wr (am_wr (am_wr (am_wr (am_wr (am_wr (am_wr (am_wr M 432 0 0 1) 433 0 0 (M 421 0 0)) 434 0 0 (M 431 0 0)) 30 0 0 (M 22 0 0)) 30 0 1 (M 22 0 1)) 30 0 2 (M 22 0 2)) 30 0 3 (M 22 0 3)) 30 0 4 (M 25 0 0)) 30 0 5 (M 25 0 1)) 30 0 6 (M 25 0 2)) 30 0 7 (M 25 0 3))
  refine hR _ ⟨(show 0 ≤ (8 : Int) ∧ (8 : Int) < 17 from (by omega)), ?_⟩
  show R (68, [some (aR 8 0), some (aI 4)], [], am_wr (am_wr (am_wr (am_wr (am_wr (am_wr (am_wr (am_wr (am_wr (am_wr (am_wr (am_wr M 432 0 0 1) 433 0 0 (M 421 0 0)) 434 0 0 (M 431 0 0)) 30 0 0 (M 22 0 0)) 30 0 1 (M 22 0 1)) 30 0 2 (M 22 0 2)) 30 0 3 (M 22 0 3)) 30 0 4 (M 25 0 0)) 30 0 5 (M 25 0 1)) 30 0 6 (M 25 0 2)) 30 0 7 (M 25 0 3)) 30 0 8 (M 25 0 4))
  refine hR _ (hR _ (hR _ (hR _ (hR _ (am_brf (rg := am_in 5 ∧ am_in 10) (P := 10 ≤ 5) (A := R (74, [some (aR 8 0), some (aI 5)], [], am_wr (am_wr (am_wr (am_wr (am_wr (am_wr (am_wr (am_wr (am_wr (am_wr (am_wr (am_wr M 432 0 0 1) 433 0 0 (M 421 0 0)) 434 0 0 (M 431 0 0)) 30 0 0 (M 22 0 0)) 30 0 1 (M 22 0 1)) 30 0 2 (M 22 0 2)) 30 0 3 (M 22 0 3)) 30 0 4 (M 25 0 0)) 30 0 5 (M 25 0 1)) 30 0 6 (M 25 0 2)) 30 0 7 (M 25 0 3)) 30 0 8 (M 25 0 4))) (B := R (54, [some (aR 8 0), some (aI 5)], [], am_wr (am_wr (am_wr (am_wr (am_wr (am_wr (am_wr (am_wr (am_wr (am_wr (am_wr (am_wr M 432 0 0 1) 433 0 0 (M 421 0 0)) 434 0 0 (M 431 0 0)) 30 0 0 (M 22 0 0)) 30 0 1 (M 22 0 1)) 30 0 2 (M 22 0 2)) 30 0 3 (M 22 0 3)) 30 0 4 (M 25 0 0)) 30 0 5 (M 25 0 1)) 30 0 6 (M 25 0 2)) 30 0 7 (M 25 0 3)) 30 0 8 (M 25 0 4))) (by omega) (by omega) ?_)))))
  show R (54, [some (aR 8 0), some (aI 5)], [], am_wr (am_wr (am_wr (am_wr (am_wr (am_wr (am_wr (am_wr (am_wr (am_wr (am_wr (am_wr M 432 0 0 1) 433 0 0 (M 421 0 0)) 434 0 0 (M 431 0 0)) 30 0 0 (M 22 0 0)) 30 0 1 (M 22 0 1)) 30 0 2 (M 22 0 2)) 30 0 3 (M 22 0 3)) 30 0 4 (M 25 0 0)) 30 0 5 (M 25 0 1)) 30 0 6 (M 25 0 2)) 30 0 7 (M 25 0 3)) 30 0 8 (M 25 0 4))
  refine hR _ (hR _ (hR _ (hR _ (hR _ (hR _ (hR _ (hR _ (?_))))))))
  show R (66, [some (aR 8 0), some (aI 5)], [aI 5, aR 25 0, aI 9, aR 30 0], am_wr (am_wr (am_wr (am_wr (am_wr (am_wr (am_wr (am_wr (am_wr (am_wr (am_wr (am_wr M 432 0 0 1) 433 0 0 (M 421 0 0)) 434 0 0 (M 431 0 0)) 30 0 0 (M 22 0 0)) 30 0 1 (M 22 0 1)) 30 0 2 (M 22 0 2)) 30 0 3 (M 22 0 3)) 30 0 4 (M 25 0 0)) 30 0 5 (M 25 0 1)) 30 0 6 (M 25 0 2)) 30 0 7 (M 25 0 3)) 30 0 8 (M 25 0 4))
  refine hR _ ⟨(show 0 ≤ (5 : Int) ∧ (5 : Int) < 10 from (by omega)), ?_⟩
  show R (67, [some (aR 8 0), some (aI 5)], [aI (M 25 0 5), aI 9, aR 30 0], am_wr (am_wr (am_wr (am_wr (am_wr (am_wr (am_wr (am_wr (am_wr (am_wr (am_wr (am_wr M 432 0 0 1) 433 0 0 (M 421 0 0)) 434 0 0 (M 431 0 0)) 30 0 0 (M 22 0 0)) 30 0 1 (M 22 0 1)) 30 0 2 (M 22 0 2)) 30 0 3 (M 22 0 3)) 30 0 4 (M 25 0 0)) 30 0 5 (M 25 0 1)) 30 0 6 (M 25 0 2)) 30 0 7 (M 25 0 3)) 30 0 8 (M 25 0 4))
  refine hR _ ⟨(show 0 ≤ (9 : Int) ∧ (9 : Int) < 17 from (by omega)), ?_⟩
  show R (68, [some (aR 8 0), some (aI 5)], [], am_wr (am_wr (am_wr (am_wr (am_wr (am_wr (am_wr (am_wr (am_wr (am_wr (am_wr (am_wr (am_wr M 432 0 0 1) 433 0 0 (M 421 0 0)) 434 0 0 (M 431 0 0)) 30 0 0 (M 22 0 0)) 30 0 1 (M 22 0 1)) 30 0 2 (M 22 0 2)) 30 0 3 (M 22 0 3)) 30 0 4 (M 25 0 0)) 30 0 5 (M 25 0 1)) 30 0 6 (M 25 0 2)) 30 0 7 (M 25 0 3)) 30 0 8 (M 25 0 4)) 30 0 9 (M 25 0 5))
  refine hR _ (hR _ (hR _ (hR _ (hR _ (am_brf (rg := am_in 6 ∧ am_in 10) (P := 10 ≤ 6) (A := R (74, [some (aR 8 0), some (aI 6)], [], am_wr (am_wr (am_wr (am_wr (am_wr (am_wr (am_wr (am_wr (am_wr (am_wr (am_wr (am_wr (am_wr M 432 0 0 1) 433 0 0 (M 421 0 0)) 434 0 0 (M 431 0 0)) 30 0 0 (M 22 0 0)) 30 0 1 (M 22 0 1)) 30 0 2 (M 22 0 2)) 30 0 3 (M 22 0 3)) 30 0 4 (M 25 0 0)) 30 0 5 (M 25 0 1)) 30 0 6 (M 25 0 2)) 30 0 7 (M 25 0 3)) 30 0 8 (M 25 0 4)) 30 0 9 (M 25 0 5))) (B := R (54, [some (aR 8 0), some (aI 6)], [], am_wr (am_wr (am_wr (am_wr (am_wr (am_wr (am_wr (am_wr (am_wr (am_wr (am_wr (am_wr (am_wr M 432 0 0 1) 433 0 0 (M 421 0 0)) 434 0 0 (M 431 0 0)) 30 0 0 (M 22 0 0)) 30 0 1 (M 22 0 1)) 30 0 2 (M 22 0 2)) 30 0 3 (M 22 0 3)) 30 0 4 (M 25 0 0)) 30 0 5 (M 25 0 1)) 30 0 6 (M 25 0 2)) 30 0 7 (M 25 0 3)) 30 0 8 (M 25 0 4)) 30 0 9 (M 25 0 5))) (by omega) (by omega) ?_)))))
  show R (54, [some (aR 8 0), some (aI 6)], [], am_wr (am_wr (am_wr (am_wr (am_wr (am_wr (am_wr (am_wr (am_wr (am_wr (am_wr (am_wr (am_wr M 432 0 0 1) 433 0 0 (M 421 0 0)) 434 0 0 (M 431 0 0)) 30 0 0 (M 22 0 0)) 30 0 1 (M 22 0 1)) 30 0 2 (M 22 0 2)) 30 0 3 (M 22 0 3)) 30 0 4 (M 25 0 0)) 30 0 5 (M 25 0 1)) 30 0 6 (M 25 0 2)) 30 0 7 (M 25 0 3)) 30 0 8 (M 25 0 4)) 30 0 9 (M 25 0 5))
  refine hR _ (hR _ (hR _ (hR _ (hR _ (hR _ (hR _ (hR _ (?_))))))))
  show R (66, [some (aR 8 0), some (aI 6)], [aI 6, aR 25 0, aI 10, aR 30 0], am_wr (am_wr (am_wr (am_wr (am_wr (am_wr (am_wr (am_wr (am_wr (am_wr (am_wr (am_wr (am_wr M 432 0 0 1) 433 0 0 (M 421 0 0)) 434 0 0 (M 431 0 0)) 30 0 0 (M 22 0 0)) 30 0 1 (M 22 0 1)) 30 0 2 (M 22 0 2)) 30 0 3 (M 22 0 3)) 30 0 4 (M 25 0 0)) 30 0 5 (M 25 0 1)) 30 0 6 (M 25 0 2)) 30 0 7 (M 25 0 3)) 30 0 8 (M 25 0 4)) 30 0 9 (M 25 0 5))
  refine hR _ ⟨(show 0 ≤ (6 : Int) ∧ (6 : Int) < 10 from (by omega)), ?_⟩
  show R (67, [some (aR 8 0), some (aI 6)], [aI (M 25 0 6), aI 10, aR 30 0], am_wr (am_wr (am_wr (am_wr (am_wr (am_wr (am_wr (am_wr (am_wr (am_wr (am_wr (am_wr (am_wr M 432 0 0 1) 433 0 0 (M 421 0 0)) 434 0 0 (M 431 0 0)) 30 0 0 (M 22 0 0)) 30 0 1 (M 22 0 1)) 30 0 2 (M 22 0 2)) 30 0 3 (M 22 0 3)) 30 0 4 (M 25 0 0)) 30 0 5 (M 25 0 1)) 30 0 6 (M 25 0 2)) 30 0 7 (M 25 0 3)) 30 0 8 (M 25 0 4)) 30 0 9 (M 25 0 5))
  refine hR _ ⟨(show 0 ≤ (10 : Int) ∧ (10 : Int) < 17 from (by omega)), ?_⟩
  show R (68, [some (aR 8 0), some (aI 6)], [], am_wr (am_wr (am_wr (am_wr (am_wr (am_wr (am_wr (am_wr (am_wr (am_wr (am_wr (am_wr (am_wr (am_wr M 432 0 0 1) 433 0 0 (M 421 0 0)) 434 0 0 (M 431 0 0)) 30 0 0 (M 22 0 0)) 30 0 1 (M 22 0 1)) 30 0 2 (M 22 0 2)) 30 0 3 (M 22 0 3)) 30 0 4 (M 25 0 0)) 30 0 5 (M 25 0 1)) 30 0 6 (M 25 0 2)) 30 0 7 (M 25 0 3)) 30 0 8 (M 25 0 4)) 30 0 9 (M 25 0 5)) 30 0 10 (M 25 0 6))
  refine hR _ (hR _ (hR _ (hR _ (hR _ (am_brf (rg := am_in 7 ∧ am_in 10) (P := 10 ≤ 7) (A := R (74, [some (aR 8 0), some (aI 7)], [], am_wr (am_wr (am_wr (am_wr (am_wr (am_wr (am_wr (am_wr (am_wr (am_wr (am_wr (am_wr (am_wr (am_wr M 432 0 0 1) 433 0 0 (M 421 0 0)) 434 0 0 (M 431 0 0)) 30 0 0 (M 22 0 0)) 30 0 1 (M 22 0 1)) 30 0 2 (M 22 0 2)) 30 0 3 (M 22 0 3)) 30 0 4 (M 25 0 0)) 30 0 5 (M 25 0 1)) 30 0 6 (M 25 0 2)) 30 0 7 (M 25 0 3)) 30 0 8 (M 25 0 4)) 30 0 9 (M 25 0 5)) 30 0 10 (M 25 0 6))) (B := R (54, [some (aR 8 0), some (aI 7)], [], am_wr (am_wr (am_wr (am_wr (am_wr (am_wr (am_wr (am_wr (am_wr (am_wr (am_wr (am_wr (am_wr (am_wr M 432 0 0 1) 433 0 0 (M 421 0 0)) 434 0 0 (M 431 0 0)) 30 0 0 (M 22 0 0)) 30 0 1 (M 22 0 1)) 30 0 2 (M 22 0 2)) 30 0 3 (M 22 0 3)) 30 0 4 (M 25 0 0)) 30 0 5 (M 25 0 1)) 30 0 6 (M 25 0 2)) 30 0 7 (M 25 0 3)) 30 0 8 (M 25 0 4)) 30 0 9 (M 25 0 5)) 30 0 10 (M 25 0 6))) (by omega) (by omega) ?_)))))
  show R (54, [some (aR 8 0), some (aI 7)], [], am_wr (am_wr (am_wr (am_wr (am_wr (am_wr (am_wr (am_wr (am_wr (am_wr (am_wr (am_wr (am_wr (am_wr M 432 0 0 1) 433 0 0 (M 421 0 0)) 434 0 0 (M 431 0 0)) 30 0 0 (M 22 0 0)) 30 0 1 (M 22 0 1)) 30 0 2 (M 22 0 2)) 30 0 3 (M 22 0 3)) 30 0 4 (M 25 0 0)) 30 0 5 (M 25 0 1)) 30 0 6 (M 25 0 2)) 30 0 7 (M 25 0 3)) 30 0 8 (M 25 0 4)) 30 0 9 (M 25 0 5)) 30 0 10 (M 25 0 6))
  refine hR _ (hR _ (hR _ (hR _ (hR _ (hR _ (hR _ (hR _ (?_))))))))
  show R (66, [some (aR 8 0), some (aI 7)], [aI 7, aR 25 0, aI 11, aR 30 0], am_wr (am_wr (am_wr (am_wr (am_wr (am_wr (am_wr (am_wr (am_wr (am_wr (am_wr (am_wr (am_wr (am_wr M 432 0 0 1) 433 0 0 (M 421 0 0)) 434 0 0 (M 431 0 0)) 30 0 0 (M 22 0 0)) 30 0 1 (M 22 0 1)) 30 0 2 (M 22 0 2)) 30 0 3 (M 22 0 3)) 30 0 4 (M 25 0 0)) 30 0 5 (M 25 0 1)) 30 0 6 (M 25 0 2)) 30 0 7 (M 25 0 3)) 30 0 8 (M 25 0 4)) 30 0 9 (M 25 0 5)) 30 0 10 (M 25 0 6))
  refine hR _ ⟨(show 0 ≤ (7 : Int) ∧ (7 : Int) < 10 from (by omega)), ?_⟩
  show R (67, [some (aR 8 0), some (aI 7)], [aI (M 25 0 7), aI 11, aR 30 0], am_wr (am_wr (am_wr (am_wr (am_wr (am_wr (am_wr (am_wr (am_wr (am_wr (am_wr (am_wr (am_wr (am_wr M 432 0 0 1) 433 0 0 (M 421 0 0)) 434 0 0 (M 431 0 0)) 30 0 0 (M 22 0 0)) 30 0 1 (M 22 0 1)) 30 0 2 (M 22 0 2)) 30 0 3 (M 22 0 3)) 30 0 4 (M 25 0 0)) 30 0 5 (M 25 0 1)) 30 0 6 (M 25 0 2)) 30 0 7 (M 25 0 3)) 30 0 8 (M 25 0 4)) 30 0 9 (M 25 0 5)) 30 0 10 (M 25 0 6))
  refine hR _ ⟨(show 0 ≤ (11 : Int) ∧ (11 : Int) < 17 from (by omega)), ?_⟩
  show R (68, [some (aR 8 0), some (aI 7)], [], am_wr (am_wr (am_wr (am_wr (am_wr (am_wr (am_wr (am_wr (am_wr (am_wr (am_wr (am_wr (am_wr (am_wr (am_wr M 432 0 0 1) 433 0 0 (M 421 0 0)) 434 0 0 (M 431 0 0)) 30 0 0 (M 22 0 0)) 30 0 1 (M 22 0 1)) 30 0 2 (M 22 0 2)) 30 0 3 (M 22 0 3)) 30 0 4 (M 25 0 0)) 30 0 5 (M 25 0 1)) 30 0 6 (M 25 0 2)) 30 0 7 (M 25 0 3)) 30 0 8 (M 25 0 4)) 30 0 9 (M 25 0 5)) 30 0 10 (M 25 0 6)) 30 0 11 (M 25 0 7))
  refine hR _ (hR _ (hR _ (hR _ (hR _ (am_brf (rg := am_in 8 ∧ am_in 10) (P := 10 ≤ 8) (A := R (74, [some (aR 8 0), some (aI 8)], [], am_wr (am_wr (am_wr (am_wr (am_wr (am_wr (am_wr (am_wr (am_wr (am_wr (am_wr (am_wr (am_wr (am_wr (am_wr M 432 0 0 1) 433 0 0 (M 421 0 0)) 434 0 0 (M 431 0 0)) 30 0 0 (M 22 0 0)) 30 0 1 (M 22 0 1)) 30 0 2 (M 22 0 2)) 30 0 3 (M 22 0 3)) 30 0 4 (M 25 0 0)) 30 0 5 (M 25 0 1)) 30 0 6 (M 25 0 2)) 30 0 7 (M 25 0 3)) 30 0 8 (M 25 0 4)) 30 0 9 (M 25 0 5)) 30 0 10 (M 25 0 6)) 30 0 11 (M 25 0 7))) (B := R (54, [some (aR 8 0), some (aI 8)], [], am_wr (am_wr (am_wr (am_wr (am_wr (am_wr (am_wr (am_wr (am_wr (am_wr (am_wr (am_wr (am_wr (am_wr (am_wr M 432 0 0 1) 433 0 0 (M 421 0 0)) 434 0 0 (M 431 0 0)) 30 0 0 (M 22 0 0)) 30 0 1 (M 22 0 1)) 30 0 2 (M 22 0 2)) 30 0 3 (M 22 0 3)) 30 0 4 (M 25 0 0)) 30 0 5 (M 25 0 1)) 30 0 6 (M 25 0 2)) 30 0 7 (M 25 0 3)) 30 0 8 (M 25 0 4)) 30 0 9 (M 25 0 5)) 30 0 10 (M 25 0 6)) 30 0 11 (M 25 0 7))) (by omega) (by omega) ?_)))))
  show R (54, [some (aR 8 0), some (aI 8)], [], am_wr (am_wr (am_wr (am_wr (am_wr (am_wr (am_wr (am_wr (am_wr (am_wr (am_wr (am_wr (am_wr (am_wr (am_wr M 432 0 0 1) 433 0 0 (M 421 0 0)) 434 0 0 (M 431 0 0)) 30 0 0 (M 22 0 0)) 30 0 1 (M 22 0 1)) 30 0 2 (M 22 0 2)) 30 0 3 (M 22 0 3)) 30 0 4 (M 25 0 0)) 30 0 5 (M 25 0 1)) 30 0 6 (M 25 0 2)) 30 0 7 (M 25 0 3)) 30 0 8 (M 25 0 4)) 30 0 9 (M 25 0 5)) 30 0 10 (M 25 0 6)) 30 0 11 (M 25 0 7))
  refine hR _ (hR _ (hR _ (hR _ (hR _ (hR _ (hR _ (hR _ (?_))))))))
  show R (66, [some (aR 8 0), some (aI 8)], [aI 8, aR 25 0, aI 12, aR 30 0], am_wr (am_wr (am_wr (am_wr (am_wr (am_wr (am_wr (am_wr (am_wr (am_wr (am_wr (am_wr (am_wr (am_wr (am_wr M 432 0 0 1) 433 0 0 (M 421 0 0)) 434 0 0 (M 431 0 0)) 30 0 0 (M 22 0 0)) 30 0 1 (M 22 0 1)) 30 0 2 (M 22 0 2)) 30 0 3 (M 22 0 3)) 30 0 4 (M 25 0 0)) 30 0 5 (M 25 0 1)) 30 0 6 (M 25 0 2)) 30 0 7 (M 25 0 3)) 30 0 8 (M 25 0 4)) 30 0 9 (M 25 0 5)) 30 0 10 (M 25 0 6)) 30 0 11 (M 25 0 7))
  refine hR _ ⟨(show 0 ≤ (8 : Int) ∧ (8 : Int) < 10 from (by omega)), ?_⟩
  show R (67, [some (aR 8 0), some (aI 8)], [aI (M 25 0 8), aI 12, aR 30 0], am_wr (am_wr (am_wr (am_wr (am_wr (am_wr (am_wr (am_wr (am_wr (am_wr (am_wr (am_wr (am_wr (am_wr (am_wr M 432 0 0 1) 433 0 0 (M 421 0 0)) 434 0 0 (M 431 0 0)) 30 0 0 (M 22 0 0)) 30 0 1 (M 22 0 1)) 30 0 2 (M 22 0 2)) 30 0 3 (M 22 0 3)) 30 0 4 (M 25 0 0)) 30 0 5 (M 25 0 1)) 30 0 6 (M 25 0 2)) 30 0 7 (M 25 0 3)) 30 0 8 (M 25 0 4)) 30 0 9 (M 25 0 5)) 30 0 10 (M 25 0 6)) 30 0 11 (M 25 0 7))
  refine hR _ ⟨(show 0 ≤ (12 : Int) ∧ (12 : Int) < 17 from (by omega)), ?_⟩
  show R (68, [some (aR 8 0), some (aI 8)], [], am_wr (am_wr (am_wr (am_wr (am_wr (am_wr (am_wr (am_wr (am_wr (am_wr (am_wr (am_wr (am_wr (am_wr (am_wr (am_wr M 432 0 0 1) 433 0 0 (M 421 0 0)) 434 0 0 (M 431 0 0)) 30 0 0 (M 22 0 0)) 30 0 1 (M 22 0 1)) 30 0 2 (M 22 0 2)) 30 0 3 (M 22 0 3)) 30 0 4 (M 25 0 0)) 30 0 5 (M 25 0 1)) 30 0 6 (M 25 0 2)) 30 0 7 (M 25 0 3)) 30 0 8 (M 25 0 4)) 30 0 9 (M 25 0 5)) 30 0 10 (M 25 0 6)) 30 0 11 (M 25 0 7)) 30 0 12 (M 25 0 8))
  refine hR _ (hR _ (hR _ (hR _ (hR _ (am_brf (rg := am_in 9 ∧ am_in 10) (P := 10 ≤ 9) (A := R (74, [some (aR 8 0), some (aI 9)], [], am_wr (am_wr (am_wr (am_wr (am_wr (am_wr (am_wr (am_wr (am_wr (am_wr (am_wr (am_wr (am_wr (am_wr (am_wr (am_wr M 432 0 0 1) 433 0 0 (M 421 0 0)) 434 0 0 (M 431 0 0)) 30 0 0 (M 22 0 0)) 30 0 1 (M 22 0 1)) 30 0 2 (M 22 0 2)) 30 0 3 (M 22 0 3)) 30 0 4 (M 25 0 0)) 30 0 5 (M 25 0 1)) 30 0 6 (M 25 0 2)) 30 0 7 (M 25 0 3)) 30 0 8 (M 25 0 4)) 30 0 9 (M 25 0 5)) 30 0 10 (M 25 0 6)) 30 0 11 (M 25 0 7)) 30 0 12 (M 25 0 8))) (B := R (54, [some (aR 8 0), some (aI 9)], [], am_wr (am_wr (am_wr (am_wr (am_wr (am_wr (am_wr (am_wr (am_wr (am_wr (am_wr (am_wr (am_wr (am_wr (am_wr (am_wr M 432 0 0 1) 433 0 0 (M 421 0 0)) 434 0 0 (M 431 0 0)) 30 0 0 (M 22 0 0)) 30 0 1 (M 22 0 1)) 30 0 2 (M 22 0 2)) 30 0 3 (M 22 0 3)) 30 0 4 (M 25 0 0)) 30 0 5 (M 25 0 1)) 30 0 6 (M 25 0 2)) 30 0 7 (M 25 0 3)) 30 0 8 (M 25 0 4)) 30 0 9 (M 25 0 5)) 30 0 10 (M 25 0 6)) 30 0 11 (M 25 0 7)) 30 0 12 (M 25 0 8))) (by omega) (by omega) ?_)))))
  show R (54, [some (aR 8 0), some (aI 9)], [], am_wr (am_wr (am_wr (am_wr (am_wr (am_wr (am_wr (am_wr (am_wr (am_wr (am_wr (am_wr (am_wr (am_wr (am_wr (am_wr M 432 0 0 1) 433 0 0 (M 421 0 0)) 434 0 0 (M 431 0 0)) 30 0 0 (M 22 0 0)) 30 0 1 (M 22 0 1)) 30 0 2 (M 22 0 2)) 30 0 3 (M 22 0 3)) 30 0 4 (M 25 0 0)) 30 0 5 (M 25 0 1)) 30 0 6 (M 25 0 2)) 30 0 7 (M 25 0 3)) 30 0 8 (M 25 0 4)) 30 0 9 (M 25 0 5)) 30 0 10 (M 25 0 6)) 30 0 11 (M 25 0 7)) 30 0 12 (M 25 0 8))
  refine hR _ (hR _ (hR _ (hR _ (hR _ (hR _ (hR _ (hR _ (?_))))))))
  show R (66, [some (aR 8 0), some (aI 9)], [aI 9, aR 25 0, aI 13, aR 30 0], am_wr (am_wr (am_wr (am_wr (am_wr (am_wr (am_wr (am_wr (am_wr (am_wr (am_wr (am_wr (am_wr (am_wr (am_wr (am_wr M 432 0 0 1) 433 0 0 (M 421 0 0)) 434 0 0 (M 431 0 0)) 30 0 0 (M 22 0 0)) 30 0 1 (M 22 0 1)) 30 0 2 (M 22 0 2)) 30 0 3 (M 22 0 3)) 30 0 4 (M 25 0 0)) 30 0 5 (M 25 0 1)) 30 0 6 (M 25 0 2)) 30 0 7 (M 25 0 3)) 30 0 8 (M 25 0 4)) 30 0 9 (M 25 0 5)) 30 0 10 (M 25 0 6)) 30 0 11 (M 25 0 7)) 30 0 12 (M 25 0 8))
  refine hR _ ⟨(show 0 ≤ (9 : Int) ∧ (9 : Int) < 10 from (by omega)), ?_⟩
  show R (67, [some (aR 8 0), some (aI 9)], [aI (M 25 0 9), aI 13, aR 30 0], am_wr (am_wr (am_wr (am_wr (am_wr (am_wr (am_wr (am_wr (am_wr (am_wr (am_wr (am_wr (am_wr (am_wr (am_wr (am_wr M 432 0 0 1) 433 0 0 (M 421 0 0)) 434 0 0 (M 431 0 0)) 30 0 0 (M 22 0 0)) 30 0 1 (M 22 0 1)) 30 0 2 (M 22 0 2)) 30 0 3 (M 22 0 3)) 30 0 4 (M 25 0 0)) 30 0 5 (M 25 0 1)) 30 0 6 (M 25 0 2)) 30 0 7 (M 25 0 3)) 30 0 8 (M 25 0 4)) 30 0 9 (M 25 0 5)) 30 0 10 (M 25 0 6)) 30 0 11 (M 25 0 7)) 30 0 12 (M 25 0 8))
  refine hR _ ⟨(show 0 ≤ (13 : Int) ∧ (13 : Int) < 17 from (by omega)), ?_⟩
  show R (68, [some (aR 8 0), some (aI 9)], [], am_wr (am_wr (am_wr (am_wr (am_wr (am_wr (am_wr (am_wr (am_wr (am_wr (am_wr (am_wr (am_wr (am_wr (am_wr (am_wr (am_wr M 432 0 0 1) 433 0 0 (M 421 0 0)) 434 0 0 (M 431 0 0)) 30 0 0 (M 22 0 0)) 30 0 1 (M 22 0 1)) 30 0 2 (M 22 0 2)) 30 0 3 (M 22 0 3)) 30 0 4 (M 25 0 0)) 30 0 5 (M 25 0 1)) 30 0 6 (M 25 0 2)) 30 0 7 (M 25 0 3)) 30 0 8 (M 25 0 4)) 30 0 9 (M 25 0 5)) 30 0 10 (M 25 0 6)) 30 0 11 (M 25 0 7)) 30 0 12 (M 25 0 8)) 30 0 13 (M 25 0 9))
  refine hR _ (hR _ (hR _ (hR _ (hR _ (am_brt (rg := am_in 10 ∧ am_in 10) (P := (10 : Int) ≤ 10) (A := R (74, [some (aR 8 0), some (aI 10)], [], am_wr (am_wr (am_wr (am_wr (am_wr (am_wr (am_wr (am_wr (am_wr (am_wr (am_wr (am_wr (am_wr (am_wr (am_wr (am_wr (am_wr M 432 0 0 1) 433 0 0 (M 421 0 0)) 434 0 0 (M 431 0 0)) 30 0 0 (M 22 0 0)) 30 0 1 (M 22 0 1)) 30 0 2 (M 22 0 2)) 30 0 3 (M 22 0 3)) 30 0 4 (M 25 0 0)) 30 0 5 (M 25 0 1)) 30 0 6 (M 25 0 2)) 30 0 7 (M 25 0 3)) 30 0 8 (M 25 0 4)) 30 0 9 (M 25 0 5)) 30 0 10 (M 25 0 6)) 30 0 11 (M 25 0 7)) 30 0 12 (M 25 0 8)) 30 0 13 (M 25 0 9))) (B := R (54, [some (aR 8 0), some (aI 10)], [], am_wr (am_wr (am_wr (am_wr (am_wr (am_wr (am_wr (am_wr (am_wr (am_wr (am_wr (am_wr (am_wr (am_wr (am_wr (am_wr (am_wr M 432 0 0 1) 433 0 0 (M 421 0 0)) 434 0 0 (M 431 0 0)) 30 0 0 (M 22 0 0)) 30 0 1 (M 22 0 1)) 30 0 2 (M 22 0 2)) 30 0 3 (M 22 0 3)) 30 0 4 (M 25 0 0)) 30 0 5 (M 25 0 1)) 30 0 6 (M 25 0 2)) 30 0 7 (M 25 0 3)) 30 0 8 (M 25 0 4)) 30 0 9 (M 25 0 5)) 30 0 10 (M 25 0 6)) 30 0 11 (M 25 0 7)) 30 0 12 (M 25 0 8)) 30 0 13 (M 25 0 9))) (by omega) (by omega) ?_)))))
  show R (74, [some (aR 8 0), some (aI 10)], [], am_wr (am_wr (am_wr (am_wr (am_wr (am_wr (am_wr (am_wr (am_wr (am_wr (am_wr (am_wr (am_wr (am_wr (am_wr (am_wr (am_wr M 432 0 0 1) 433 0 0 (M 421 0 0)) 434 0 0 (M 431 0 0)) 30 0 0 (M 22 0 0)) 30 0 1 (M 22 0 1)) 30 0 2 (M 22 0 2)) 30 0 3 (M 22 0 3)) 30 0 4 (M 25 0 0)) 30 0 5 (M 25 0 1)) 30 0 6 (M 25 0 2)) 30 0 7 (M 25 0 3)) 30 0 8 (M 25 0 4)) 30 0 9 (M 25 0 5)) 30 0 10 (M 25 0 6)) 30 0 11 (M 25 0 7)) 30 0 12 (M 25 0 8)) 30 0 13 (M 25 0 9))
  refine hR _ (hR _ (hR _ (hR _ (hR _ (am_brf (rg := am_in 0 ∧ am_in 3) (P := 3 ≤ 0) (A := R (102, [some (aR 8 0), some (aI 0)], [], am_wr (am_wr (am_wr (am_wr (am_wr (am_wr (am_wr (am_wr (am_wr (am_wr (am_wr (am_wr (am_wr (am_wr (am_wr (am_wr (am_wr M 432 0 0 1) 433 0 0 (M 421 0 0)) 434 0 0 (M 431 0 0)) 30 0 0 (M 22 0 0)) 30 0 1 (M 22 0 1)) 30 0 2 (M 22 0 2)) 30 0 3 (M 22 0 3)) 30 0 4 (M 25 0 0)) 30 0 5 (M 25 0 1)) 30 0 6 (M 25 0 2)) 30 0 7 (M 25 0 3)) 30 0 8 (M 25 0 4)) 30 0 9 (M 25 0 5)) 30 0 10 (M 25 0 6)) 30 0 11 (M 25 0 7)) 30 0 12 (M 25 0 8)) 30 0 13 (M 25 0 9))) (B := R (81, [some (aR 8 0), some (aI 0)], [], am_wr (am_wr (am_wr (am_wr (am_wr (am_wr (am_wr (am_wr (am_wr (am_wr (am_wr (am_wr (am_wr (am_wr (am_wr (am_wr (am_wr M 432 0 0 1) 433 0 0 (M 421 0 0)) 434 0 0 (M 431 0 0)) 30 0 0 (M 22 0 0)) 30 0 1 (M 22 0 1)) 30 0 2 (M 22 0 2)) 30 0 3 (M 22 0 3)) 30 0 4 (M 25 0 0)) 30 0 5 (M 25 0 1)) 30 0 6 (M 25 0 2)) 30 0 7 (M 25 0 3)) 30 0 8 (M 25 0 4)) 30 0 9 (M 25 0 5)) 30 0 10 (M 25 0 6)) 30 0 11 (M 25 0 7)) 30 0 12 (M 25 0 8)) 30 0 13 (M 25 0 9))) (by omega) (by omega) ?_)))))
  show R (81, [some (aR 8 0), some (aI 0)], [], am_wr (am_wr (am_wr (am_wr (am_wr (am_wr (am_wr (am_wr (am_wr (am_wr (am_wr (am_wr (am_wr (am_wr (am_wr (am_wr (am_wr M 432 0 0 1) 433 0 0 (M 421 0 0)) 434 0 0 (M 431 0 0)) 30 0 0 (M 22 0 0)) 30 0 1 (M 22 0 1)) 30 0 2 (M 22 0 2)) 30 0 3 (M 22 0 3)) 30 0 4 (M 25 0 0)) 30 0 5 (M 25 0 1)) 30 0 6 (M 25 0 2)) 30 0 7 (M 25 0 3)) 30 0 8 (M 25 0 4)) 30 0 9 (M 25 0 5)) 30 0 10 (M 25 0 6)) 30 0 11 (M 25 0 7)) 30 0 12 (M 25 0 8)) 30 0 13 (M 25 0 9))
  refine hR _ (hR _ (hR _ (hR _ (hR _ (hR _ (hR _ (hR _ (?_))))))))
  show R (94, [some (aR 8 0), some (aI 0)], [aI 0, aR 26 0, aI 14, aR 30 0], am_wr (am_wr (am_wr (am_wr (am_wr (am_wr (am_wr (am_wr (am_wr (am_wr (am_wr (am_wr (am_wr (am_wr (am_wr (am_wr (am_wr M 432 0 0 1) 433 0 0 (M 421 0 0)) 434 0 0 (M 431 0 0)) 30 0 0 (M 22 0 0)) 30 0 1 (M 22 0 1)) 30 0 2 (M 22 0 2)) 30 0 3 (M 22 0 3)) 30 0 4 (M 25 0 0)) 30 0 5 (M 25 0 1)) 30 0 6 (M 25 0 2)) 30 0 7 (M 25 0 3)) 30 0 8 (M 25 0 4)) 30 0 9 (M 25 0 5)) 30 0 10 (M 25 0 6)) 30 0 11 (M 25 0 7)) 30 0 12 (M 25 0 8)) 30 0 13 (M 25 0 9))
  refine hR _ ⟨(show 0 ≤ (0 : Int) ∧ (0 : Int) < 3 from (by omega)), ?_⟩
  show R (95, [some (aR 8 0), some (aI 0)], [aI (M 26 0 0), aI 14, aR 30 0], am_wr (am_wr (am_wr (am_wr (am_wr (am_wr (am_wr (am_wr (am_wr (am_wr (am_wr (am_wr (am_wr (am_wr (am_wr (am_wr (am_wr M 432 0 0 1) 433 0 0 (M 421 0 0)) 434 0 0 (M 431 0 0)) 30 0 0 (M 22 0 0)) 30 0 1 (M 22 0 1)) 30 0 2 (M 22 0 2)) 30 0 3 (M 22 0 3)) 30 0 4 (M 25 0 0)) 30 0 5 (M 25 0 1)) 30 0 6 (M 25 0 2)) 30 0 7 (M 25 0 3)) 30 0 8 (M 25 0 4)) 30 0 9 (M 25 0 5)) 30 0 10 (M 25 0 6)) 30 0 11 (M 25 0 7)) 30 0 12 (M 25 0 8)) 30 0 13 (M 25 0 9))
  refine hR _ ⟨(show 0 ≤ (14 : Int) ∧ (14 : Int) < 17 from (by omega)), ?_⟩
  show R (96, [some (aR 8 0), some (aI 0)], [], am_wr (am_wr (am_wr (am_wr (am_wr (am_wr (am_wr (am_wr (am_wr (am_wr (am_wr (am_wr (am_wr (am_wr (am_wr (am_wr (am_wr (am_wr M 432 0 0 1) 433 0 0 (M 421 0 0)) 434 0 0 (M 431 0 0)) 30 0 0 (M 22 0 0)) 30 0 1 (M 22 0 1)) 30 0 2 (M 22 0 2)) 30 0 3 (M 22 0 3)) 30 0 4 (M 25 0 0)) 30 0 5 (M 25 0 1)) 30 0 6 (M 25 0 2)) 30 0 7 (M 25 0 3)) 30 0 8 (M 25 0 4)) 30 0 9 (M 25 0 5)) 30 0 10 (M 25 0 6)) 30 0 11 (M 25 0 7)) 30 0 12 (M 25 0 8)) 30 0 13 (M 25 0 9)) 30 0 14 (M 26 0 0))
  refine hR _ (hR _ (hR _ (hR _ (hR _ (am_brf (rg := am_in 1 ∧ am_in 3) (P := 3 ≤ 1) (A := R (102, [some (aR 8 0), some (aI 1)], [], am_wr (am_wr (am_wr (am_wr (am_wr (am_wr (am_wr (am_wr (am_wr (am_wr (am_wr (am_wr (am_wr (am_wr (am_wr (am_wr (am_wr (am_wr M 432 0 0 1) 433 0 0 (M 421 0 0)) 434 0 0 (M 431 0 0)) 30 0 0 (M 22 0 0)) 30 0 1 (M 22 0 1)) 30 0 2 (M 22 0 2)) 30 0 3 (M 22 0 3)) 30 0 4 (M 25 0 0)) 30 0 5 (M 25 0 1)) 30 0 6 (M 25 0 2)) 30 0 7 (M 25 0 3)) 30 0 8 (M 25 0 4)) 30 0 9 (M 25 0 5)) 30 0 10 (M 25 0 6)) 30 0 11 (M 25 0 7)) 30 0 12 (M 25 0 8)) 30 0 13 (M 25 0 9)) 30 0 14 (M 26 0 0))) (B := R (81, [some (aR 8 0), some (aI 1)], [], am_wr (am_wr (am_wr (am_wr (am_wr (am_wr (am_wr (am_wr (am_wr (am_wr (am_wr (am_wr (am_wr (am_wr (am_wr (am_wr (am_wr (am_wr M 432 0 0 1) 433 0 0 (M 421 0 0)) 434 0 0 (M 431 0 0)) 30 0 0 (M 22 0 0)) 30 0 1 (M 22 0 1)) 30 0 2 (M 22 0 2)) 30 0 3 (M 22 0 3)) 30 0 4 (M 25 0 0)) 30 0 5 (M 25 0 1)) 30 0 6 (M 25 0 2)) 30 0 7 (M 25 0 3)) 30 0 8 (M 25 0 4)) 30 0 9 (M 25 0 5)) 30 0 10 (M 25 0 6)) 30 0 11 (M 25 0 7)) 30 0 12 (M 25 0 8)) 30 0 13 (M 25 0 9)) 30 0 14 (M 26 0 0))) (by omega) (by omega) ?_)))))
  show R (81, [some (aR 8 0), some (aI 1)], [], am_wr (am_wr (am_wr (am_wr (am_wr (am_wr (am_wr (am_wr (am_wr (am_wr (am_wr (am_wr (am_wr (am_wr (am_wr (am_wr (am_wr (am_wr M 432 0 0 1) 433 0 0 (M 421 0 0)) 434 0 0 (M 431 0 0)) 30 0 0 (M 22 0 0)) 30 0 1 (M 22 0 1)) 30 0 2 (M 22 0 2)) 30 0 3 (M 22 0 3)) 30 0 4 (M 25 0 0)) 30 0 5 (M 25 0 1)) 30 0 6 (M 25 0 2)) 30 0 7 (M 25 0 3)) 30 0 8 (M 25 0 4)) 30 0 9 (M 25 0 5)) 30 0 10 (M 25 0 6)) 30 0 11 (M 25 0 7)) 30 0 12 (M 25 0 8)) 30 0 13 (M 25 0 9)) 30 0 14 (M 26 0 0))
  refine hR _ (hR _ (hR _ (hR _ (hR _ (hR _ (hR _ (hR _ (?_))))))))
  show R (94, [some (aR 8 0), some (aI 1)], [aI 1, aR 26 0, aI 15, aR 30 0], am_wr (am_wr (am_wr (am_wr (am_wr (am_wr (am_wr (am_wr (am_wr (am_wr (am_wr (am_wr (am_wr (am_wr (am_wr (am_wr (am_wr (am_wr M 432 0 0 1) 433 0 0 (M 421 0 0)) 434 0 0 (M 431 0 0)) 30 0 0 (M 22 0 0)) 30 0 1 (M 22 0 1)) 30 0 2 (M 22 0 2)) 30 0 3 (M 22 0 3)) 30 0 4 (M 25 0 0)) 30 0 5 (M 25 0 1)) 30 0 6 (M 25 0 2)) 30 0 7 (M 25 0 3)) 30 0 8 (M 25 0 4)) 30 0 9 (M 25 0 5)) 30 0 10 (M 25 0 6)) 30 0 11 (M 25 0 7)) 30 0 12 (M 25 0 8)) 30 0 13 (M 25 0 9)) 30 0 14 (M 26 0 0))
  refine hR _ ⟨(show 0 ≤ (1 : Int) ∧ (1 : Int) < 3 from (by omega)), ?_⟩
  show R (95, [some (aR 8 0), some (aI 1)], [aI (M 26 0 1), aI 15, aR 30 0], am_wr (am_wr (am_wr (am_wr (am_wr (am_wr (am_wr (am_wr (am_wr (am_wr (am_wr (am_wr (am_wr (am_wr (am_wr (am_wr (am_wr (am_wr M 432 0 0 1) 433 0 0 (M 421 0 0)) 434 0 0 (M 431 0 0)) 30 0 0 (M 22 0 0)) 30 0 1 (M 22 0 1)) 30 0 2 (M 22 0 2)) 30 0 3 (M 22 0 3)) 30 0 4 (M 25 0 0)) 30 0 5 (M 25 0 1)) 30 0 6 (M 25 0 2)) 30 0 7 (M 25 0 3)) 30 0 8 (M 25 0 4)) 30 0 9 (M 25 0 5)) 30 0 10 (M 25 0 6)) 30 0 11 (M 25 0 7)) 30 0 12 (M 25 0 8)) 30 0 13 (M 25 0 9)) 30 0 14 (M 26 0 0))
  refine hR _ ⟨(show 0 ≤ (15 : Int) ∧ (15 : Int) < 17 from (by omega)), ?_⟩
  show R (96, [some (aR 8 0), some (aI 1)], [], am_wr (am_wr (am_wr (am_wr (am_wr (am_wr (am_wr (am_wr (am_wr (am_wr (am_wr (am_wr (am_wr (am_wr (am_wr (am_wr (am_wr (am_wr (am_wr M 432 0 0 1) 433 0 0 (M 421 0 0)) 434 0 0 (M 431 0 0)) 30 0 0 (M 22 0 0)) 30 0 1 (M 22 0 1)) 30 0 2 (M 22 0 2)) 30 0 3 (M 22 0 3)) 30 0 4 (M 25 0 0)) 30 0 5 (M 25 0 1)) 30 0 6 (M 25 0 2)) 30 0 7 (M 25 0 3)) 30 0 8 (M 25 0 4)) 30 0 9 (M 25 0 5)) 30 0 10 (M 25 0 6)) 30 0 11 (M 25 0 7)) 30 0 12 (M 25 0 8)) 30 0 13 (M 25 0 9)) 30 0 14 (M 26 0 0)) 30 0 15 (M 26 0 1))
  refine hR _ (hR _ (hR _ (hR _ (hR _ (am_brf (rg := am_in 2 ∧ am_in 3) (P := 3 ≤ 2) (A := R (102, [some (aR 8 0), some (aI 2)], [], am_wr (am_wr (am_wr (am_wr (am_wr (am_wr (am_wr (am_wr (am_wr (am_wr (am_wr (am_wr (am_wr (am_wr (am_wr (am_wr (am_wr (am_wr (am_wr M 432 0 0 1) 433 0 0 (M 421 0 0)) 434 0 0 (M 431 0 0)) 30 0 0 (M 22 0 0)) 30 0 1 (M 22 0 1)) 30 0 2 (M 22 0 2)) 30 0 3 (M 22 0 3)) 30 0 4 (M 25 0 0)) 30 0 5 (M 25 0 1)) 30 0 6 (M 25 0 2)) 30 0 7 (M 25 0 3)) 30 0 8 (M 25 0 4)) 30 0 9 (M 25 0 5)) 30 0 10 (M 25 0 6)) 30 0 11 (M 25 0 7)) 30 0 12 (M 25 0 8)) 30 0 13 (M 25 0 9)) 30 0 14 (M 26 0 0)) 30 0 15 (M 26 0 1))) (B := R (81, [some (aR 8 0), some (aI 2)], [], am_wr (am_wr (am_wr (am_wr (am_wr (am_wr (am_wr (am_wr (am_wr (am_wr (am_wr (am_wr (am_wr (am_wr (am_wr (am_wr (am_wr (am_wr (am_wr M 432 0 0 1) 433 0 0 (M 421 0 0)) 434 0 0 (M 431 0 0)) 30 0 0 (M 22 0 0)) 30 0 1 (M 22 0 1)) 30 0 2 (M 22 0 2)) 30 0 3 (M 22 0 3)) 30 0 4 (M 25 0 0)) 30 0 5 (M 25 0 1)) 30 0 6 (M 25 0 2)) 30 0 7 (M 25 0 3)) 30 0 8 (M 25 0 4)) 30 0 9 (M 25 0 5)) 30 0 10 (M 25 0 6)) 30 0 11 (M 25 0 7)) 30 0 12 (M 25 0 8)) 30 0 13 (M 25 0 9)) 30 0 14 (M 26 0 0)) 30 0 15 (M 26 0 1))) (by omega) (by omega) ?_)))))
  show R (81, [some (aR 8 0), some (aI 2)], [], am_wr (am_wr (am_wr (am_wr (am_wr (am_wr (am_wr (am_wr (am_wr (am_wr (am_wr (am_wr (am_wr (am_wr (am_wr (am_wr (am_wr (am_wr (am_wr M 432 0 0 1) 433 0 0 (M 421 0 0)) 434 0 0 (M 431 0 0)) 30 0 0 (M 22 0 0)) 30 0 1 (M 22 0 1)) 30 0 2 (M 22 0 2)) 30 0 3 (M 22 0 3)) 30 0 4 (M 25 0 0)) 30 0 5 (M 25 0 1)) 30 0 6 (M 25 0 2)) 30 0 7 (M 25 0 3)) 30 0 8 (M 25 0 4)) 30 0 9 (M 25 0 5)) 30 0 10 (M 25 0 6)) 30 0 11 (M 25 0 7)) 30 0 12 (M 25 0 8)) 30 0 13 (M 25 0 9)) 30 0 14 (M 26 0 0)) 30 0 15 (M 26 0 1))
  refine hR _ (hR _ (hR _ (hR _ (hR _ (hR _ (hR _ (hR _ (?_))))))))
  show R (94, [some (aR 8 0), some (aI 2)], [aI 2, aR 26 0, aI 16, aR 30 0], am_wr (am_wr (am_wr (am_wr (am_wr (am_wr (am_wr (am_wr (am_wr (am_wr (am_wr (am_wr (am_wr (am_wr (am_wr (am_wr (am_wr (am_wr (am_wr M 432 0 0 1) 433 0 0 (M 421 0 0)) 434 0 0 (M 431 0 0)) 30 0 0 (M 22 0 0)) 30 0 1 (M 22 0 1)) 30 0 2 (M 22 0 2)) 30 0 3 (M 22 0 3)) 30 0 4 (M 25 0 0)) 30 0 5 (M 25 0 1)) 30 0 6 (M 25 0 2)) 30 0 7 (M 25 0 3)) 30 0 8 (M 25 0 4)) 30 0 9 (M 25 0 5)) 30 0 10 (M 25 0 6)) 30 0 11 (M 25 0 7)) 30 0 12 (M 25 0 8)) 30 0 13 (M 25 0 9)) 30 0 14 (M 26 0 0)) 30 0 15 (M 26 0 1))
  refine hR _ ⟨(show 0 ≤ (2 : Int) ∧ (2 : Int) < 3 from (by omega)), ?_⟩
  show R (95, [some (aR 8 0), some (aI 2)], [aI (M 26 0 2), aI 16, aR 30 0], am_wr (am_wr (am_wr (am_wr (am_wr (am_wr (am_wr (am_wr (am_wr (am_wr (am_wr (am_wr (am_wr (am_wr (am_wr (am_wr (am_wr (am_wr (am_wr M 432 0 0 1) 433 0 0 (M 421 0 0)) 434 0 0 (M 431 0 0)) 30 0 0 (M 22 0 0)) 30 0 1 (M 22 0 1)) 30 0 2 (M 22 0 2)) 30 0 3 (M 22 0 3)) 30 0 4 (M 25 0 0)) 30 0 5 (M 25 0 1)) 30 0 6 (M 25 0 2)) 30 0 7 (M 25 0 3)) 30 0 8 (M 25 0 4)) 30 0 9 (M 25 0 5)) 30 0 10 (M 25 0 6)) 30 0 11 (M 25 0 7)) 30 0 12 (M 25 0 8)) 30 0 13 (M 25 0 9)) 30 0 14 (M 26 0 0)) 30 0 15 (M 26 0 1))
  refine hR _ ⟨(show 0 ≤ (16 : Int) ∧ (16 : Int) < 17 from (by omega)), ?_⟩
  show R (96, [some (aR 8 0), some (aI 2)], [], am_wr (am_wr (am_wr (am_wr (am_wr (am_wr (am_wr (am_wr (am_wr (am_wr (am_wr (am_wr (am_wr (am_wr (am_wr (am_wr (am_wr (am_wr (am_wr (am_wr M 432 0 0 1) 433 0 0 (M 421 0 0)) 434 0 0 (M 431 0 0)) 30 0 0 (M 22 0 0)) 30 0 1 (M 22 0 1)) 30 0 2 (M 22 0 2)) 30 0 3 (M 22 0 3)) 30 0 4 (M 25 0 0)) 30 0 5 (M 25 0 1)) 30 0 6 (M 25 0 2)) 30 0 7 (M 25 0 3)) 30 0 8 (M 25 0 4)) 30 0 9 (M 25 0 5)) 30 0 10 (M 25 0 6)) 30 0 11 (M 25 0 7)) 30 0 12 (M 25 0 8)) 30 0 13 (M 25 0 9)) 30 0 14 (M 26 0 0)) 30 0 15 (M 26 0 1)) 30 0 16 (M 26 0 2))
  refine hR _ (hR _ (hR _ (hR _ (hR _ (am_brt (rg := am_in 3 ∧ am_in 3) (P := (3 : Int) ≤ 3) (A := R (102, [some (aR 8 0), some (aI 3)], [], am_wr (am_wr (am_wr (am_wr (am_wr (am_wr (am_wr (am_wr (am_wr (am_wr (am_wr (am_wr (am_wr (am_wr (am_wr (am_wr (am_wr (am_wr (am_wr (am_wr M 432 0 0 1) 433 0 0 (M 421 0 0)) 434 0 0 (M 431 0 0)) 30 0 0 (M 22 0 0)) 30 0 1 (M 22 0 1)) 30 0 2 (M 22 0 2)) 30 0 3 (M 22 0 3)) 30 0 4 (M 25 0 0)) 30 0 5 (M 25 0 1)) 30 0 6 (M 25 0 2)) 30 0 7 (M 25 0 3)) 30 0 8 (M 25 0 4)) 30 0 9 (M 25 0 5)) 30 0 10 (M 25 0 6)) 30 0 11 (M 25 0 7)) 30 0 12 (M 25 0 8)) 30 0 13 (M 25 0 9)) 30 0 14 (M 26 0 0)) 30 0 15 (M 26 0 1)) 30 0 16 (M 26 0 2))) (B := R (81, [some (aR 8 0), some (aI 3)], [], am_wr (am_wr (am_wr (am_wr (am_wr (am_wr (am_wr (am_wr (am_wr (am_wr (am_wr (am_wr (am_wr (am_wr (am_wr (am_wr (am_wr (am_wr (am_wr (am_wr M 432 0 0 1) 433 0 0 (M 421 0 0)) 434 0 0 (M 431 0 0)) 30 0 0 (M 22 0 0)) 30 0 1 (M 22 0 1)) 30 0 2 (M 22 0 2)) 30 0 3 (M 22 0 3)) 30 0 4 (M 25 0 0)) 30 0 5 (M 25 0 1)) 30 0 6 (M 25 0 2)) 30 0 7 (M 25 0 3)) 30 0 8 (M 25 0 4)) 30 0 9 (M 25 0 5)) 30 0 10 (M 25 0 6)) 30 0 11 (M 25 0 7)) 30 0 12 (M 25 0 8)) 30 0 13 (M 25 0 9)) 30 0 14 (M 26 0 0)) 30 0 15 (M 26 0 1)) 30 0 16 (M 26 0 2))) (by omega) (by omega) ?_)))))
  show R (102, [some (aR 8 0), some (aI 3)], [], am_wr (am_wr (am_wr (am_wr (am_wr (am_wr (am_wr (am_wr (am_wr (am_wr (am_wr (am_wr (am_wr (am_wr (am_wr (am_wr (am_wr (am_wr (am_wr (am_wr M 432 0 0 1) 433 0 0 (M 421 0 0)) 434 0 0 (M 431 0 0)) 30 0 0 (M 22 0 0)) 30 0 1 (M 22 0 1)) 30 0 2 (M 22 0 2)) 30 0 3 (M 22 0 3)) 30 0 4 (M 25 0 0)) 30 0 5 (M 25 0 1)) 30 0 6 (M 25 0 2)) 30 0 7 (M 25 0 3)) 30 0 8 (M 25 0 4)) 30 0 9 (M 25 0 5)) 30 0 10 (M 25 0 6)) 30 0 11 (M 25 0 7)) 30 0 12 (M 25 0 8)) 30 0 13 (M 25 0 9)) 30 0 14 (M 26 0 0)) 30 0 15 (M 26 0 1)) 30 0 16 (M 26 0 2))
  refine hR _ (hR _ (?_))
  show R (106, [some (aR 8 0), some (aI 3)], [aI (M 421 0 0)], am_wr (am_wr (am_wr (am_wr (am_wr (am_wr (am_wr (am_wr (am_wr (am_wr (am_wr (am_wr (am_wr (am_wr (am_wr (am_wr (am_wr (am_wr (am_wr (am_wr M 432 0 0 1) 433 0 0 (M 421 0 0)) 434 0 0 (M 431 0 0)) 30 0 0 (M 22 0 0)) 30 0 1 (M 22 0 1)) 30 0 2 (M 22 0 2)) 30 0 3 (M 22 0 3)) 30 0 4 (M 25 0 0)) 30 0 5 (M 25 0 1)) 30 0 6 (M 25 0 2)) 30 0 7 (M 25 0 3)) 30 0 8 (M 25 0 4)) 30 0 9 (M 25 0 5)) 30 0 10 (M 25 0 6)) 30 0 11 (M 25 0 7)) 30 0 12 (M 25 0 8)) 30 0 13 (M 25 0 9)) 30 0 14 (M 26 0 0)) 30 0 15 (M 26 0 1)) 30 0 16 (M 26 0 2))
  refine hR _ (show K (some (aI (M 421 0 0))) (am_wr (am_wr (am_wr (am_wr (am_wr (am_wr (am_wr (am_wr (am_wr (am_wr (am_wr (am_wr (am_wr (am_wr (am_wr (am_wr (am_wr (am_wr (am_wr (am_wr M 432 0 0 1) 433 0 0 (M 421 0 0)) 434 0 0 (M 431 0 0)) 30 0 0 (M 22 0 0)) 30 0 1 (M 22 0 1)) 30 0 2 (M 22 0 2)) 30 0 3 (M 22 0 3)) 30 0 4 (M 25 0 0)) 30 0 5 (M 25 0 1)) 30 0 6 (M 25 0 2)) 30 0 7 (M 25 0 3)) 30 0 8 (M 25 0 4)) 30 0 9 (M 25 0 5)) 30 0 10 (M 25 0 6)) 30 0 11 (M 25 0 7)) 30 0 12 (M 25 0 8)) 30 0 13 (M 25 0 9)) 30 0 14 (M 26 0 0)) 30 0 15 (M 26 0 1)) 30 0 16 (M 26 0 2)) from ?_)
  refine am_fin (S := [30, 432, 433, 434]) (F := fun m => m 432 0 0 = 1 ∧ (m 433 0 0 = M 421 0 0 ∧ m 434 0 0 = M 431 0 0) ∧ (∀ j : Nat, j < 4 → m 30 0 j = M 22 0 j) ∧ (∀ j : Nat, j < 10 → m 30 0 (4 + j) = M 25 0 j) ∧ (∀ j : Nat, j < 3 → m 30 0 (14 + j) = M 26 0 j)) (((((((((((((((((((((am_ag.rf).wr rfl).wr rfl).wr rfl).wr rfl).wr rfl).wr rfl).wr rfl).wr rfl).wr rfl).wr rfl).wr rfl).wr rfl).wr rfl).wr rfl).wr rfl).wr rfl).wr rfl).wr rfl).wr rfl).wr rfl) ⟨rfl, ⟨rfl, rfl⟩, fun j hj => ?_, fun j hj => ?_, fun j hj => ?_⟩ (fun g hg => hK g hg)
  · skip
    match j, hj with
    | 0, _ => rfl
    | 1, _ => rfl
    | 2, _ => rfl
    | 3, _ => rfl
  · skip
    match j, hj with
    | 0, _ => rfl
    | 1, _ => rfl
    | 2, _ => rfl
    | 3, _ => rfl
    | 4, _ => rfl
    | 5, _ => rfl
    | 6, _ => rfl
    | 7, _ => rfl
    | 8, _ => rfl
    | 9, _ => rfl
  · skip
    match j, hj with
    | 0, _ => rfl
    | 1, _ => rfl
    | 2, _ => rfl

theorem sm_back {d : Nat} (hd : 2 ≤ d)  {M : am_M} {K : am_K} (hi : am_in (M 432 0 0)) (hK1 : M 432 0 0 ≠ 0 → ∀ g : am_M, ((g 421 0 0 = M 433 0 0 ∧ g 431 0 0 = M 434 0 0) ∧ (∀ j : Nat, j < 4 → g 22 0 j = M 30 0 j) ∧ (∀ j : Nat, j < 10 → g 25 0 j = M 30 0 (4 + j)) ∧ (∀ j : Nat, j < 3 → g 26 0 j = M 30 0 (14 + j))) → K (some (aI (M 433 0 0))) (am_mix [421, 431, 22, 25, 26] g M)) (hK0 : M 432 0 0 = 0 → K (some (aI (-3))) M) : am_Call true d 198 [aR 8 0] M K := by
  obtain ⟨d, rfl⟩ : ∃ e, d = e + 1 := ⟨d - 1, by omega⟩
  refine ⟨rfl, fun R hR hC => ?_⟩
  replace hR : ∀ c, am_F true tb_f198 1 (am_Call true d) K R c → R c := hR
  show R (0, [some (aR 8 0), none], [], M)
  refine hR _ (hR _ (hR _ (am_brc (rg := am_in (M 432 0 0)) (P := M 432 0 0 ≠ 0) (A := R (10, [some (aR 8 0), none], [], M)) (B := R (7, [some (aR 8 0), none], [], M)) (by omega) (fun c4 => ?_) (fun c4 => ?_))))
  · refine hR _ (hR _ (hR _ (hR _ (hR _ (hR _ (hR _ (hR _ (hR _ (hR _ (hR _ (hR _ (hR _ (am_brf (rg := am_in 0 ∧ am_in 4) (P := 4 ≤ 0) (A := R (51, [some (aR 8 0), some (aI 0)], [], am_wr (am_wr M 421 0 0 (M 433 0 0)) 431 0 0 (M 434 0 0))) (B := R (33, [some (aR 8 0), some (aI 0)], [], am_wr (am_wr M 421 0 0 (M 433 0 0)) 431 0 0 (M 434 0 0))) (by omega) (by omega) ?_)))))))))))))
    show R (33, [some (aR 8 0), some (aI 0)], [], am_wr (am_wr M 421 0 0 (M 433 0 0)) 431 0 0 (M 434 0 0))
    refine hR _ (hR _ (hR _ (hR _ (hR _ (hR _ (?_))))))
    show R (43, [some (aR 8 0), some (aI 0)], [aI 0, aR 30 0, aI 0, aR 22 0], am_wr (am_wr M 421 0 0 (M 433 0 0)) 431 0 0 (M 434 0 0))
    refine hR _ ⟨(show 0 ≤ (0 : Int) ∧ (0 : Int) < 17 from (by omega)), ?_⟩
    show R (44, [some (aR 8 0), some (aI 0)], [aI (M 30 0 0), aI 0, aR 22 0], am_wr (am_wr M 421 0 0 (M 433 0 0)) 431 0 0 (M 434 0 0))
    refine hR _ ⟨(show 0 ≤ (0 : Int) ∧ (0 : Int) < 4 from (by omega)), ?_⟩
    show R (45, [some (aR 8 0), some (aI 0)], [], am_wr (am_wr (am_wr M 421 0 0 (M 433 0 0)) 431 0 0 (M 434 0 0)) 22 0 0 (M 30 0 0))
    refine hR _ (hR _ (hR _ (hR _ (hR _ (am_brf (rg := am_in 1 ∧ am_in 4) (P := 4 ≤ 1) (A := R (51, [some (aR 8 0), some (aI 1)], [], am_wr (am_wr (am_wr M 421 0 0 (M 433 0 0)) 431 0 0 (M 434 0 0)) 22 0 0 (M 30 0 0))) (B := R (33, [some (aR 8 0), some (aI 1)], [], am_wr (am_wr (am_wr M 421 0 0 (M 433 0 0)) 431 0 0 (M 434 0 0)) 22 0 0 (M 30 0 0))) (by omega) (by omega) ?_)))))
    show R (33, [some (aR 8 0), some (aI 1)], [], am_wr (am_wr (am_wr M 421 0 0 (M 433 0 0)) 431 0 0 (M 434 0 0)) 22 0 0 (M 30 0 0))
    refine hR _ (hR _ (hR _ (hR _ (hR _ (hR _ (?_))))))
    show R (43, [some (aR 8 0), some (aI 1)], [aI 1, aR 30 0, aI 1, aR 22 0], am_wr (am_wr (am_wr M 421 0 0 (M 433 0 0)) 431 0 0 (M 434 0 0)) 22 0 0 (M 30 0 0))
    refine hR _ ⟨(show 0 ≤ (1 : Int) ∧ (1 : Int) < 17 from (by omega)), ?_⟩
    show R (44, [some (aR 8 0), some (aI 1)], [aI (M 30 0 1), aI 1, aR 22 0], am_wr (am_wr (am_wr M 421 0 0 (M 433 0 0)) 431 0 0 (M 434 0 0)) 22 0 0 (M 30 0 0))
    refine hR _ ⟨(show 0 ≤ (1 : Int) ∧ (1 : Int) < 4 from (by omega)), ?_⟩
    show R (45, [some (aR 8 0), some (aI 1)], [], am_wr (am_wr (am_wr (am_wr M 421 0 0 (M 433 0 0)) 431 0 0 (M 434 0 0)) 22 0 0 (M 30 0 0)) 22 0 1 (M 30 0 1))
    refine hR _ (hR _ (hR _ (hR _ (hR _ (am_brf (rg := am_in 2 ∧ am_in 4) (P := 4 ≤ 2) (A := R (51, [some (aR 8 0), some (aI 2)], [], am_wr (am_wr (am_wr (am_wr M 421 0 0 (M 433 0 0)) 431 0 0 (M 434 0 0)) 22 0 0 (M 30 0 0)) 22 0 1 (M 30 0 1))) (B := R (33, [some (aR 8 0), some (aI 2)], [], am_wr (am_wr (am_wr (am_wr M 421 0 0 (M 433 0 0)) 431 0 0 (M 434 0 0)) 22 0 0 (M 30 0 0)) 22 0 1 (M 30 0 1))) (by omega) (by omega) ?_)))))
    show R (33, [some (aR 8 0), some (aI 2)], [], am_wr (am_wr (am_wr (am_wr M 421 0 0 (M 433 0 0)) 431 0 0 (M 434 0 0)) 22 0 0 (M 30 0 0)) 22 0 1 (M 30 0 1))
    refine hR _ (hR _ (hR _ (hR _ (hR _ (hR _ (?_))))))
    show R (43, [some (aR 8 0), some (aI 2)], [aI 2, aR 30 0, aI 2, aR 22 0], am_wr (am_wr (am_wr (am_wr M 421 0 0 (M 433 0 0)) 431 0 0 (M 434 0 0)) 22 0 0 (M 30 0 0)) 22 0 1 (M 30 0 1))
    refine hR _ ⟨(show 0 ≤ (2 : Int) ∧ (2 : Int) < 17 from (by omega)), ?_⟩
    show R (44, [some (aR 8 0), some (aI 2)], [aI (M 30 0 2), aI 2, aR 22 0], am_wr (am_wr (am_wr (am_wr M 421 0 0 (M 433 0 0)) 431 0 0 (M 434 0 0)) 22 0 0 (M 30 0 0)) 22 0 1 (M 30 0 1))
    refine hR _ ⟨(show 0 ≤ (2 : Int) ∧ (2 : Int) < 4 from (by omega)), ?_⟩
    show R (45, [some (aR 8 0), some (aI 2)], [], am_wr (am_wr (am_wr (am_wr (am_wr M 421 0 0 (M 433 0 0)) 431 0 0 (M 434 0 0)) 22 0 0 (M 30 0 0)) 22 0 1 (M 30 0 1)) 22 0 2 (M 30 0 2))
    refine hR _ (hR _ (hR _ (hR _ (hR _ (am_brf (rg := am_in 3 ∧ am_in 4) (P := 4 ≤ 3) (A := R (51, [some (aR 8 0), some (aI 3)], [], am_wr (am_wr (am_wr (am_wr (am_wr M 421 0 0 (M 433 0 0)) 431 0 0 (M 434 0 0)) 22 0 0 (M 30 0 0)) 22 0 1 (M 30 0 1)) 22 0 2 (M 30 0 2))) (B := R (33, [some (aR 8 0), some (aI 3)], [], am_wr (am_wr (am_wr (am_wr (am_wr M 421 0 0 (M 433 0 0)) 431 0 0 (M 434 0 0)) 22 0 0 (M 30 0 0)) 22 0 1 (M 30 0 1)) 22 0 2 (M 30 0 2))) (by omega) (by omega) ?_)))))
    show R (33, [some (aR 8 0), some (aI 3)], [], am_wr (am_wr (am_wr (am_wr (am_wr M 421 0 0 (M 433 0 0)) 431 0 0 (M 434 0 0)) 22 0 0 (M 30 0 0)) 22 0 1 (M 30 0 1)) 22 0 2 (M 30 0 2))
    refine hR _ (hR _ (hR _ (hR _ (hR _ (hR _ (?_))))))
    show R (43, [some (aR 8 0), some (aI 3)], [aI 3, aR 30 0, aI 3, aR 22 0], am_wr (am_wr (am_wr (am_wr (am_wr M 421 0 0 (M 433 0 0)) 431 0 0 (M 434 0 0)) 22 0 0 (M 30 0 0)) 22 0 1 (M 30 0 1)) 22 0 2 (M 30 0 2))
    refine hR _ ⟨(show 0 ≤ (3 : Int) ∧ (3 : Int) < 17 from (by omega)), ?_⟩
    show R (44, [some (aR 8 0), some (aI 3)], [aI (M 30 0 3), aI 3, aR 22 0], am_wr (am_wr (am_wr (am_wr (am_wr M 421 0 0 (M 433 0 0)) 431 0 0 (M 434 0 0)) 22 0 0 (M 30 0 0)) 22 0 1 (M 30 0 1)) 22 0 2 (M 30 0 2))
    refine hR _ ⟨(show 0 ≤ (3 : Int) ∧ (3 : Int) < 4 from (by omega)), ?_⟩
    show R (45, [some (aR 8 0), some (aI 3)], [], am_wr (am_wr (am_wr (am_wr (am_wr (am_wr M 421 0 0 (M 433 0 0)) 431 0 0 (M 434 0 0)) 22 0 0 (M 30 0 0)) 22 0 1 (M 30 0 1)) 22 0 2 (M 30 0 2)) 22 0 3 (M 30 0 3))
    refine hR _ (hR _ (hR _ (hR _ (hR _ (am_brt (rg := am_in 4 ∧ am_in 4) (P := (4 : Int) ≤ 4) (A := R (51, [some (aR 8 0), some (aI 4)], [], am_wr (am_wr (am_wr (am_wr (am_wr (am_wr M 421 0 0 (M 433 0 0)) 431 0 0 (M 434 0 0)) 22 0 0 (M 30 0 0)) 22 0 1 (M 30 0 1)) 22 0 2 (M 30 0 2)) 22 0 3 (M 30 0 3))) (B := R (33, [some (aR 8 0), some (aI 4)], [], am_wr (am_wr (am_wr (am_wr (am_wr (am_wr M 421 0 0 (M 433 0 0)) 431 0 0 (M 434 0 0)) 22 0 0 (M 30 0 0)) 22 0 1 (M 30 0 1)) 22 0 2 (M 30 0 2)) 22 0 3 (M 30 0 3))) (by omega) (by omega) ?_)))))
    show R (51, [some (aR 8 0), some (aI 4)], [], am_wr (am_wr (am_wr (am_wr (am_wr (am_wr M 421 0 0 (M 433 0 0)) 431 0 0 (M 434 0 0)) 22 0 0 (M 30 0 0)) 22 0 1 (M 30 0 1)) 22 0 2 (M 30 0 2)) 22 0 3 (M 30 0 3))
    refine hR _ (hR _ (hR _ (hR _ (hR _ (am_brf (rg := am_in 0 ∧ am_in 10) (P := 10 ≤ 0) (A := R (79, [some (aR 8 0), some (aI 0)], [], am_wr (am_wr (am_wr (am_wr (am_wr (am_wr M 421 0 0 (M 433 0 0)) 431 0 0 (M 434 0 0)) 22 0 0 (M 30 0 0)) 22 0 1 (M 30 0 1)) 22 0 2 (M 30 0 2)) 22 0 3 (M 30 0 3))) (B := R (59, [some (aR 8 0), some (aI 0)], [], am_wr (am_wr (am_wr (am_wr (am_wr (am_wr M 421 0 0 (M 433 0 0)) 431 0 0 (M 434 0 0)) 22 0 0 (M 30 0 0)) 22 0 1 (M 30 0 1)) 22 0 2 (M 30 0 2)) 22 0 3 (M 30 0 3))) (by omega) (by omega) ?_)))))
    show R (59, [some (aR 8 0), some (aI 0)], [], am_wr (am_wr (am_wr (am_wr (am_wr (am_wr M 421 0 0 (M 433 0 0)) 431 0 0 (M 434 0 0)) 22 0 0 (M 30 0 0)) 22 0 1 (M 30 0 1)) 22 0 2 (M 30 0 2)) 22 0 3 (M 30 0 3))
    refine hR _ (hR _ (hR _ (hR _ (hR _ (hR _ (hR _ (hR _ (?_))))))))
    show R (71, [some (aR 8 0), some (aI 0)], [aI 4, aR 30 0, aI 0, aR 25 0], am_wr (am_wr (am_wr (am_wr (am_wr (am_wr M 421 0 0 (M 433 0 0)) 431 0 0 (M 434 0 0)) 22 0 0 (M 30 0 0)) 22 0 1 (M 30 0 1)) 22 0 2 (M 30 0 2)) 22 0 3 (M 30 0 3))
    refine hR _ ⟨(show 0 ≤ (4 : Int) ∧ (4 : Int) < 17 from (by omega)), ?_⟩
    show R (72, [some (aR 8 0), some (aI 0)], [aI (M 30 0 4), aI 0, aR 25 0], am_wr (am_wr (am_wr (am_wr (am_wr (am_wr M 421 0 0 (M 433 0 0)) 431 0 0 (M 434 0 0)) 22 0 0 (M 30 0 0)) 22 0 1 (M 30 0 1)) 22 0 2 (M 30 0 2)) 22 0 3 (M 30 0 3))
    refine hR _ ⟨(show 0 ≤ (0 : Int) ∧ (0 : Int) < 10 from (by omega)), ?_⟩
    show R (73, [some (aR 8 0), some (aI 0)], [], am_wr (am_wr (am_wr (am_wr (am_wr (am_wr (am_wr M 421 0 0 (M 433 0 0)) 431 0 0 (M 434 0 0)) 22 0 0 (M 30 0 0)) 22 0 1 (M 30 0 1)) 22 0 2 (M 30 0 2)) 22 0 3 (M 30 0 3)) 25 0 0 (M 30 0 4))
    refine hR _ (hR _ (hR _ (hR _ (hR _ (am_brf (rg := am_in 1 ∧ am_in 10) (P := 10 ≤ 1) (A := R (79, [some (aR 8 0), some (aI 1)], [], am_wr (am_wr (am_wr (am_wr (am_wr (am_wr (am_wr M 421 0 0 (M 433 0 0)) 431 0 0 (M 434 0 0)) 22 0 0 (M 30 0 0)) 22 0 1 (M 30 0 1)) 22 0 2 (M 30 0 2)) 22 0 3 (M 30 0 3)) 25 0 0 (M 30 0 4))) (B := R (59, [some (aR 8 0), some (aI 1)], [], am_wr (am_wr (am_wr (am_wr (am_wr (am_wr (am_wr M 421 0 0 (M 433 0 0)) 431 0 0 (M 434 0 0)) 22 0 0 (M 30 0 0)) 22 0 1 (M 30 0 1)) 22 0 2 (M 30 0 2)) 22 0 3 (M 30 0 3)) 25 0 0 (M 30 0 4))) (by omega) (by omega) ?_)))))
    show R (59, [some (aR 8 0), some (aI 1)], [], am_wr (am_wr (am_wr (am_wr (am_wr (am_wr (am_wr M 421 0 0 (M 433 0 0)) 431 0 0 (M 434 0 0)) 22 0 0 (M 30 0 0)) 22 0 1 (M 30 0 1)) 22 0 2 (M 30 0 2)) 22 0 3 (M 30 0 3)) 25 0 0 (M 30 0 4))
    refine hR _ (hR _ (hR _ (hR _ (hR _ (hR _ (hR _ (hR _ (?_))))))))
    show R (71, [some (aR 8 0), some (aI 1)], [aI 5, aR 30 0, aI 1, aR 25 0], am_wr (am_wr (am_wr (am_wr (am_wr (am_wr (am_wr M 421 0 0 (M 433 0 0)) 431 0 0 (M 434 0 0)) 22 0 0 (M 30 0 0)) 22 0 1 (M 30 0 1)) 22 0 2 (M 30 0 2)) 22 0 3 (M 30 0 3)) 25 0 0 (M 30 0 4))
    refine hR _ ⟨(show 0 ≤ (5 : Int) ∧ (5 : Int) < 17 from (by omega)), ?_⟩
    show R (72, [some (aR 8 0), some (aI 1)], [aI (M 30 0 5), aI 1, aR 25 0], am_wr (am_wr (am_wr (am_wr (am_wr (am_wr (am_wr M 421 0 0 (M 433 0 0)) 431 0 0 (M 434 0 0)) 22 0 0 (M 30 0 0)) 22 0 1 (M 30 0 1)) 22 0 2 (M 30 0 2)) 22 0 3 (M 30 0 3)) 25 0 0 (M 30 0 4))
    refine hR _ ⟨(show 0 ≤ (1 : Int) ∧ (1 : Int) < 10 from (by omega)), ?_⟩
    show R (73, [some (aR 8 0), some (aI 1)], [], am_wr (am_wr (am_wr (am_wr (am_wr (am_wr (am_wr (am_wr M 421 0 0 (M 433 0 0)) 431 0 0 (M 434 0 0)) 22 0 0 (M 30 0 0)) 22 0 1 (M 30 0 1)) 22 0 2 (M 30 0 2)) 22 0 3 (M 30 0 3)) 25 0 0 (M 30 0 4)) 25 0 1 (M 30 0 5))
    refine hR _ (hR _ (hR _ (hR _ (hR _ (am_brf (rg := am_in 2 ∧ am_in 10) (P := 10 ≤ 2) (A := R (79, [some (aR 8 0), some (aI 2)], [], am_wr (am_wr (am_wr (am_wr (am_wr (am_wr (am_wr (am_wr M 421 0 0 (M 433 0 0)) 431 0 0 (M 434 0 0)) 22 0 0 (M 30 0 0)) 22 0 1 (M 30 0 1)) 22 0 2 (M 30 0 2)) 22 0 3 (M 30 0 3)) 25 0 0 (M 30 0 4)) 25 0 1 (M 30 0 5))) (B := R (59, [some (aR 8 0), some (aI 2)], [], am_wr (am_wr (am_wr (am_wr (am_wr (am_wr (am_wr (am_wr M 421 0 0 (M 433 0 0)) 431 0 0 (M 434 0 0)) 22 0 0 (M 30 0 0)) 22 0 1 (M 30 0 1)) 22 0 2 (M 30 0 2)) 22 0 3 (M 30 0 3)) 25 0 0 (M 30 0 4)) 25 0 1 (M 30 0 5))) (by omega) (by omega) ?_)))))
    show R (59, [some (aR 8 0), some (aI 2)], [], am_wr (am_wr (am_wr (am_wr (am_wr (am_wr (am_wr (am_wr M 421 0 0 (M 433 0 0)) 431 0 0 (M 434 0 0)) 22 0 0 (M 30 0 0)) 22 0 1 (M 30 0 1)) 22 0 2 (M 30 0 2)) 22 0 3 (M 30 0 3)) 25 0 0 (M 30 0 4)) 25 0 1 (M 30 0 5))
    refine hR _ (hR _ (hR _ (hR _ (hR _ (hR _ (hR _ (hR _ (?_))))))))
    show R (71, [some (aR 8 0), some (aI 2)], [aI 6, aR 30 0, aI 2, aR 25 0], am_wr (am_wr (am_wr (am_wr (am_wr (am_wr (am_wr (am_wr M 421 0 0 (M 433 0 0)) 431 0 0 (M 434 0 0)) 22 0 0 (M 30 0 0)) 22 0 1 (M 30 0 1)) 22 0 2 (M 30 0 2)) 22 0 3 (M 30 0 3)) 25 0 0 (M 30 0 4)) 25 0 1 (M 30 0 5))
    refine hR _ ⟨(show 0 ≤ (6 : Int) ∧ (6 : Int) < 17 from (by omega)), ?_⟩
    show R (72, [some (aR 8 0), some (aI 2)], [aI (M 30 0 6), aI 2, aR 25 0], am_wr (am_wr (am_wr (am_wr (am_wr (am_wr (am_wr (am_wr M 421 0 0 (M 433 0 0)) 431 0 0 (M 434 0 0)) 22 0 0 (M 30 0 0)) 22 0 1 (M 30 0 1)) 22 0 2 (M 30 0 2)) 22 0 3 (M 30 0 3)) 25 0 0 (M 30 0 4)) 25 0 1 (M 30 0 5))
    refine hR _ ⟨(show 0 ≤ (2 : Int) ∧ (2 : Int) < 10 from (by omega)), ?_⟩
    show R (73, [some (aR 8 0), some (aI 2)], [], am_wr (am_wr (am_wr (am_wr (am_wr (am_wr (am_wr (am_wr (am_wr M 421 0 0 (M 433 0 0)) 431 0 0 (M 434 0 0)) 22 0 0 (M 30 0 0)) 22 0 1 (M 30 0 1)) 22 0 2 (M 30 0 2)) 22 0 3 (M 30 0 3)) 25 0 0 (M 30 0 4)) 25 0 1 (M 30 0 5)) 25 0 2 (M 30 0 6))
    refine hR _ (hR _ (hR _ (hR _ (hR _ (am_brf (rg := am_in 3 ∧ am_in 10) (P := 10 ≤ 3) (A := R (79, [some (aR 8 0), some (aI 3)], [], am_wr (am_wr (am_wr (am_wr (am_wr (am_wr (am_wr (am_wr (am_wr M 421 0 0 (M 433 0 0)) 431 0 0 (M 434 0 0)) 22 0 0 (M 30 0 0)) 22 0 1 (M 30 0 1)) 22 0 2 (M 30 0 2)) 22 0 3 (M 30 0 3)) 25 0 0 (M 30 0 4)) 25 0 1 (M 30 0 5)) 25 0 2 (M 30 0 6))) (B := R (59, [some (aR 8 0), some (aI 3)], [], am_wr (am_wr (am_wr (am_wr (am_wr (am_wr (am_wr (am_wr (am_wr M 421 0 0 (M 433 0 0)) 431 0 0 (M 434 0 0)) 22 0 0 (M 30 0 0)) 22 0 1 (M 30 0 1)) 22 0 2 (M 30 0 2)) 22 0 3 (M 30 0 3)) 25 0 0 (M 30 0 4)) 25 0 1 (M 30 0 5)) 25 0 2 (M 30 0 6))) (by omega) (by omega) ?_)))))
    show R (59, [some (aR 8 0), some (aI 3)], [], am_wr (am_wr (am_wr (am_wr (am_wr (am_wr (am_wr (am_wr (am_wr M 421 0 0 (M 433 0 0)) 431 0 0 (M 434 0 0)) 22 0 0 (M 30 0 0)) 22 0 1 (M 30 0 1)) 22 0 2 (M 30 0 2)) 22 0 3 (M 30 0 3)) 25 0 0 (M 30 0 4)) 25 0 1 (M 30 0 5)) 25 0 2 (M 30 0 6))
    refine hR _ (hR _ (hR _ (hR _ (hR _ (hR _ (hR _ (hR _ (?_))))))))
    show R (71, [some (aR 8 0), some (aI 3)], [aI 7, aR 30 0, aI 3, aR 25 0], am_wr (am_wr (am_wr (am_wr (am_wr (am_wr (am_wr (am_wr (am_wr M 421 0 0 (M 433 0 0)) 431 0 0 (M 434 0 0)) 22 0 0 (M 30 0 0)) 22 0 1 (M 30 0 1)) 22 0 2 (M 30 0 2)) 22 0 3 (M 30 0 3)) 25 0 0 (M 30 0 4)) 25 0 1 (M 30 0 5)) 25 0 2 (M 30 0 6))
    refine hR _ ⟨(show 0 ≤ (7 : Int) ∧ (7 : Int) < 17 from (by omega)), ?_⟩
    show R (72, [some (aR 8 0), some (aI 3)], [aI (M 30 0 7), aI 3, aR 25 0], am_wr (am_wr (am_wr (am_wr (am_wr (am_wr (am_wr (am_wr (am_wr M 421 0 0 (M 433 0 0)) 431 0 0 (M 434 0 0)) 22 0 0 (M 30 0 0)) 22 0 1 (M 30 0 1)) 22 0 2 (M 30 0 2)) 22 0 3 (M 30 0 3)) 25 0 0 (M 30 0 4)) 25 0 1 (M 30 0 5)) 25 0 2 (M 30 0 6))
    refine hR _ ⟨(show 0 ≤ (3 : Int) ∧ (3 : Int) < 10 from (by omega)), ?_⟩
    show R (73, [some (aR 8 0), some (aI 3)], [], am_wr (am_wr (am_wr (am_wr (am_wr (am_wr (am_wr (am_wr (am_wr (am_wr M 421 0 0 (M 433 0 0)) 431 0 0 (M 434 0 0)) 22 0 0 (M 30 0 0)) 22 0 1 (M 30 0 1)) 22 0 2 (M 30 0 2)) 22 0 3 (M 30 0 3)) 25 0 0 (M 30 0 4)) 25 0 1 (M 30 0 5)) 25 0 2 (M 30 0 6)) 25 0 3 (M 30 0 7))
    refine hR _ (hR _ (hR _ (hR _ (hR _ (am_brf (rg := am_in 4 ∧ am_in 10) (P := 10 ≤ 4) (A := R (79, [some (aR 8 0), some (aI 4)], [], am_wr (am_wr (am_wr (am_wr (am_wr (am_wr (am_wr (am_wr (am_wr (am_wr M 421 0 0 (M 433 0 0)) 431 0 0 (M 434 0 0)) 22 0 0 (M 30 0 0)) 22 0 1 (M 30 0 1)) 22 0 2 (M 30 0 2)) 22 0 3 (M 30 0 3)) 25 0 0 (M 30 0 4)) 25 0 1 (M 30 0 5)) 25 0 2 (M 30 0 6)) 25 0 3 (M 30 0 7))) (B := R (59, [some (aR 8 0), some (aI 4)], [], am_wr (am_wr (am_wr (am_wr (am_wr (am_wr (am_wr (am_wr (am_wr (am_wr M 421 0 0 (M 433 0 0)) 431 0 0 (M 434 0 0)) 22 0 0 (M 30 0 0)) 22 0 1 (M 30 0 1)) 22 0 2 (M 30 0 2)) 22 0 3 (M 30 0 3)) 25 0 0 (M 30 0 4)) 25 0 1 (M 30 0 5)) 25 0 2 (M 30 0 6)) 25 0 3 (M 30 0 7))) (by omega) (by omega) ?_)))))
    show R (59, [some (aR 8 0), some (aI 4)], [], am_wr (am_wr (am_wr (am_wr (am_wr (am_wr (am_wr (am_wr (am_wr (am_wr M 421 0 0 (M 433 0 0)) 431 0 0 (M 434 0 0)) 22 0 0 (M 30 0 0)) 22 0 1 (M 30 0 1)) 22 0 2 (M 30 0 2)) 22 0 3 (M 30 0 3)) 25 0 0 (M 30 0 4)) 25 0 1 (M 30 0 5)) 25 0 2 (M 30 0 6)) 25 0 3 (M 30 0 7))
    refine hR _ (hR _ (hR _ (hR _ (hR _ (hR _ (hR _ (hR _ (?_))))))))
    show R (71, [some (aR 8 0), some (aI 4)], [aI 8, aR 30 0, aI 4, aR 25 0], am_wr (am_wr (am_wr (am_wr (am_wr (am_wr (am_wr (am_wr (am_wr (am_wr M 421 0 0 (M 433 0 0)) 431 0 0 (M 434 0 0)) 22 0 0 (M 30 0 0)) 22 0 1 (M 30 0 1)) 22 0 2 (M 30 0 2)) 22 0 3 (M 30 0 3)) 25 0 0 (M 30 0 4)) 25 0 1 (M 30 0 5)) 25 0 2 (M 30 0 6)) 25 0 3 (M 30 0 7))
    refine hR _ ⟨(show 0 ≤ (8 : Int) ∧ (8 : Int) < 17 from (by omega)), ?_⟩
    show R (72, [some (aR 8 0), some (aI 4)], [aI (M 30 0 8), aI 4, aR 25 0], am_wr (am_wr (am_wr (am_wr (am_wr (am_wr (am_wr (am_wr (am_wr (am_wr M 421 0 0 (M 433 0 0)) 431 0 0 (M 434 0 0)) 22 0 0 (M 30 0 0)) 22 0 1 (M 30 0 1)) 22 0 2 (M 30 0 2)) 22 0 3 (M 30 0 3)) 25 0 0 (M 30 0 4)) 25 0 1 (M 30 0 5)) 25 0 2 (M 30 0 6)) 25 0 3 (M 30 0 7))
    refine hR _ ⟨(show 0 ≤ (4 : Int) ∧ (4 : Int) < 10 from (by omega)), ?_⟩
    show R (73, [some (aR 8 0), some (aI 4)], [], am_wr (am_wr (am_wr (am_wr (am_wr (am_wr (am_wr (am_wr (am_wr (am_wr (am_wr M 421 0 0 (M 433 0 0)) 431 0 0 (M 434 0 0)) 22 0 0 (M 30 0 0)) 22 0 1 (M 30 0 1)) 22 0 2 (M 30 0 2)) 22 0 3 (M 30 0 3)) 25 0 0 (M 30 0 4)) 25 0 1 (M 30 0 5)) 25 0 2 (M 30 0 6)) 25 0 3 (M 30 0 7)) 25 0 4 (M 30 0 8))
    refine hR _ (hR _ (hR _ (hR _ (hR _ (am_brf (rg := am_in 5 ∧ am_in 10) (P := 10 ≤ 5) (A := R (79, [some (aR 8 0), some (aI 5)], [], am_wr (am_wr (am_wr (am_wr (am_wr (am_wr (am_wr (am_wr (am_wr (am_wr (am_wr M 421 0 0 (M 433 0 0)) 431 0 0 (M 434 0 0)) 22 0 0 (M 30 0 0)) 22 0 1 (M 30 0 1)) 22 0 2 (M 30 0 2)) 22 0 3 (M 30 0 3)) 25 0 0 (M 30 0 4)) 25 0 1 (M 30 0 5)) 25 0 2 (M 30 0 6)) 25 0 3 (M 30 0 7)) 25 0 4 (M 30 0 8))) (B := R (59, [some (aR 8 0), some (aI 5)], [], am_wr (am_wr (am_wr (am_wr (am_wr (am_wr (am_wr (am_wr (am_wr (am_wr (am_wr M 421 0 0 (M 433 0 0)) 431 0 0 (M 434 0 0)) 22 0 0 (M 30 0 0)) 22 0 1 (M 30 0 1)) 22 0 2 (M 30 0 2)) 22 0 3 (M 30 0 3)) 25 0 0 (M 30 0 4)) 25 0 1 (M 30 0 5)) 25 0 2 (M 30 0 6)) 25 0 3 (M 30 0 7)) 25 0 4 (M 30 0 8))) (by omega) (by omega) ?_)))))
    show R (59, [some (aR 8 0), some (aI 5)], [], am_wr (am_wr (am_wr (am_wr (am_wr (am_wr (am_wr (am_wr (am_wr (am_wr (am_wr M 421 0 0 (M 433 0 0)) 431 0 0 (M 434 0 0)) 22 0 0 (M 30 0 0)) 22 0 1 (M 30 0 1)) 22 0 2 (M 30 0 2)) 22 0 3 (M 30 0 3)) 25 0 0 (M 30 0 4)) 25 0 1 (M 30 0 5)) 25 0 2 (M 30 0 6)) 25 0 3 (M 30 0 7)) 25 0 4 (M 30 0 8))
    refine hR _ (hR _ (hR _ (hR _ (hR _ (hR _ (hR _ (hR _ (?_))))))))
    show R (71, [some (aR 8 0), some (aI 5)], [aI 9, aR 30 0, aI 5, aR 25 0], am_wr (am_wr (am_wr (am_wr (am_wr (am_wr (am_wr (am_wr (am_wr (am_wr (am_wr M 421 0 0 (M 433 0 0)) 431 0 0 (M 434 0 0)) 22 0 0 (M 30 0 0)) 22 0 1 (M 30 0 1)) 22 0 2 (M 30 0 2)) 22 0 3 (M 30 0 3)) 25 0 0 (M 30 0 4)) 25 0 1 (M 30 0 5)) 25 0 2 (M 30 0 6)) 25 0 3 (M 30 0 7)) 25 0 4 (M 30 0 8))
    refine hR _ ⟨(show 0 ≤ (9 : Int) ∧ (9 : Int) < 17 from (by omega)), ?_⟩
    show R (72, [some (aR 8 0), some (aI 5)], [aI (M 30 0 9), aI 5, aR 25 0], am_wr (am_wr (am_wr (am_wr (am_wr (am_wr (am_wr (am_wr (am_wr (am_wr (am_wr M 421 0 0 (M 433 0 0)) 431 0 0 (M 434 0 0)) 22 0 0 (M 30 0 0)) 22 0 1 (M 30 0 1)) 22 0 2 (M 30 0 2)) 22 0 3 (M 30 0 3)) 25 0 0 (M 30 0 4)) 25 0 1 (M 30 0 5)) 25 0 2 (M 30 0 6)) 25 0 3 (M 30 0 7)) 25 0 4 (M 30 0 8))
    refine hR _ ⟨(show 0 ≤ (5 : Int) ∧ (5 : Int) < 10 from (by omega)), ?_⟩
    show R (73, [some (aR 8 0), some (aI 5)], [], am_wr (am_wr (am_wr (am_wr (am_wr (am_wr (am_wr (am_wr (am_wr (am_wr (am_wr (am_wr M 421 0 0 (M 433 0 0)) 431 0 0 (M 434 0 0)) 22 0 0 (M 30 0 0)) 22 0 1 (M 30 0 1)) 22 0 2 (M 30 0 2)) 22 0 3 (M 30 0 3)) 25 0 0 (M 30 0 4)) 25 0 1 (M 30 0 5)) 25 0 2 (M 30 0 6)) 25 0 3 (M 30 0 7)) 25 0 4 (M 30 0 8)) 25 0 5 (M 30 0 9))
    refine hR _ (hR _ (hR _ (hR _ (hR _ (am_brf (rg := am_in 6 ∧ am_in 10) (P := 10 ≤ 6) (A := R (79, [some (aR 8 0), some (aI 6)], [], am_wr (am_wr (am_wr (am_wr (am_wr (am_wr (am_wr (am_wr (am_wr (am_wr (am_wr (am_wr M 421 0 0 (M 433 0 0)) 431 0 0 (M 434 0 0)) 22 0 0 (M 30 0 0)) 22 0 1 (M 30 0 1)) 22 0 2 (M 30 0 2)) 22 0 3 (M 30 0 3)) 25 0 0 (M 30 0 4)) 25 0 1 (M 30 0 5)) 25 0 2 (M 30 0 6)) 25 0 3 (M 30 0 7)) 25 0 4 (M 30 0 8)) 25 0 5 (M 30 0 9))) (B := R (59, [some (aR 8 0), some (aI 6)], [], am_wr (am_wr (am_wr (am_wr (am_wr (am_wr (am_wr (am_wr (am_wr (am_wr (am_wr (am_wr M 421 0 0 (M 433 0 0)) 431 0 0 (M 434 0 0)) 22 0 0 (M 30 0 0)) 22 0 1 (M 30 0 1)) 22 0 2 (M 30 0 2)) 22 0 3 (M 30 0 3)) 25 0 0 (M 30 0 4)) 25 0 1 (M 30 0 5)) 25 0 2 (M 30 0 6)) 25 0 3 (M 30 0 7)) 25 0 4 (M 30 0 8)) 25 0 5 (M 30 0 9))) (by omega) (by omega) ?_)))))
    show R (59, [some (aR 8 0), some (aI 6)], [], am_wr (am_wr (am_wr (am_wr (am_wr (am_wr (am_wr (am_wr (am_wr (am_wr (am_wr (am_wr M 421 0 0 (M 433 0 0)) 431 0 0 (M 434 0 0)) 22 0 0 (M 30 0 0)) 22 0 1 (M 30 0 1)) 22 0 2 (M 30 0 2)) 22 0 3 (M 30 0 3)) 25 0 0 (M 30 0 4)) 25 0 1 (M 30 0 5)) 25 0 2 (M 30 0 6)) 25 0 3 (M 30 0 7)) 25 0 4 (M 30 0 8)) 25 0 5 (M 30 0 9))
    refine hR _ (hR _ (hR _ (hR _ (hR _ (hR _ (hR _ (hR _ (?_))))))))
    show R (71, [some (aR 8 0), some (aI 6)], [aI 10, aR 30 0, aI 6, aR 25 0], am_wr (am_wr (am_wr (am_wr (am_wr (am_wr (am_wr (am_wr (am_wr (am_wr (am_wr (am_wr M 421 0 0 (M 433 0 0)) 431 0 0 (M 434 0 0)) 22 0 0 (M 30 0 0)) 22 0 1 (M 30 0 1)) 22 0 2 (M 30 0 2)) 22 0 3 (M 30 0 3)) 25 0 0 (M 30 0 4)) 25 0 1 (M 30 0 5)) 25 0 2 (M 30 0 6)) 25 0 3 (M 30 0 7)) 25 0 4 (M 30 0 8)) 25 0 5 (M 30 0 9))
    refine hR _ ⟨(show 0 ≤ (10 : Int) ∧ (10 : Int) < 17 from (by omega)), ?_⟩
    show R (72, [some (aR 8 0), some (aI 6)], [aI (M 30 0 10), aI 6, aR 25 0], am_wr (am_wr (am_wr (am_wr (am_wr (am_wr (am_wr (am_wr (am_wr (am_wr (am_wr (am_wr M 421 0 0 (M 433 0 0)) 431 0 0 (M 434 0 0)) 22 0 0 (M 30 0 0)) 22 0 1 (M 30 0 1)) 22 0 2 (M 30 0 2)) 22 0 3 (M 30 0 3)) 25 0 0 (M 30 0 4)) 25 0 1 (M 30 0 5)) 25 0 2 (M 30 0 6)) 25 0 3 (M 30 0 7)) 25 0 4 (M 30 0 8)) 25 0 5 (M 30 0 9))
    refine hR _ ⟨(show 0 ≤ (6 : Int) ∧ (6 : Int) < 10 from (by omega)), ?_⟩
    show R (73, [some (aR 8 0), some (aI 6)], [], am_wr (am_wr (am_wr (am_wr (am_wr (am_wr (am_wr (am_wr (am_wr (am_wr (am_wr (am_wr (am_wr M 421 0 0 (M 433 0 0)) 431 0 0 (M 434 0 0)) 22 0 0 (M 30 0 0)) 22 0 1 (M 30 0 1)) 22 0 2 (M 30 0 2)) 22 0 3 (M 30 0 3)) 25 0 0 (M 30 0 4)) 25 0 1 (M 30 0 5)) 25 0 2 (M 30 0 6)) 25 0 3 (M 30 0 7)) 25 0 4 (M 30 0 8)) 25 0 5 (M 30 0 9)) 25 0 6 (M 30 0 10))
    refine hR _ (hR _ (hR _ (hR _ (hR _ (am_brf (rg := am_in 7 ∧ am_in 10) (P := 10 ≤ 7) (A := R (79, [some (aR 8 0), some (aI 7)], [], am_wr (am_wr (am_wr (am_wr (am_wr (am_wr (am_wr (am_wr (am_wr (am_wr (am_wr (am_wr (am_wr M 421 0 0 (M 433 0 0)) 431 0 0 (M 434 0 0)) 22 0 0 (M 30 0 0)) 22 0 1 (M 30 0 1)) 22 0 2 (M 30 0 2)) 22 0 3 (M 30 0 3)) 25 0 0 (M 30 0 4)) 25 0 1 (M 30 0 5)) 25 0 2 (M 30 0 6)) 25 0 3 (M 30 0 7)) 25 0 4 (M 30 0 8)) 25 0 5 (M 30 0 9)) 25 0 6 (M 30 0 10))) (B := R (59, [some (aR 8 0), some (aI 7)], [], am_wr (am_wr (am_wr (am_wr (am_wr (am_wr (am_wr (am_wr (am_wr (am_wr (am_wr (am_wr (am_wr M 421 0 0 (M 433 0 0)) 431 0 0 (M 434 0 0)) 22 0 0 (M 30 0 0)) 22 0 1 (M 30 0 1)) 22 0 2 (M 30 0 2)) 22 0 3 (M 30 0 3)) 25 0 0 (M 30 0 4)) 25 0 1 (M 30 0 5)) 25 0 2 (M 30 0 6)) 25 0 3 (M 30 0 7)) 25 0 4 (M 30 0 8)) 25 0 5 (M 30 0 9)) 25 0 6 (M 30 0 10))) (by omega) (by omega) ?_)))))
    show R (59, [some (aR 8 0), some (aI 7)], [], am_wr (am_wr (am_wr (am_wr (am_wr (am_wr (am_wr (am_wr (am_wr (am_wr (am_wr (am_wr (am_wr M 421 0 0 (M 433 0 0)) 431 0 0 (M 434 0 0)) 22 0 0 (M 30 0 0)) 22 0 1 (M 30 0 1)) 22 0 2 (M 30 0 2)) 22 0 3 (M 30 0 3)) 25 0 0 (M 30 0 4)) 25 0 1 (M 30 0 5)) 25 0 2 (M 30 0 6)) 25 0 3 (M 30 0 7)) 25 0 4 (M 30 0 8)) 25 0 5 (M 30 0 9)) 25 0 6 (M 30 0 10))
    refine hR _ (hR _ (hR _ (hR _ (hR _ (hR _ (hR _ (hR _ (?_))))))))
    show R (71, [some (aR 8 0), some (aI 7)], [aI 11, aR 30 0, aI 7, aR 25 0], am_wr (am_wr (am_wr (am_wr (am_wr (am_wr (am_wr (am_wr (am_wr (am_wr (am_wr (am_wr (am_wr M 421 0 0 (M 433 0 0)) 431 0 0 (M 434 0 0)) 22 0 0 (M 30 0 0)) 22 0 1 (M 30 0 1)) 22 0 2 (M 30 0 2)) 22 0 3 (M 30 0 3)) 25 0 0 (M 30 0 4)) 25 0 1 (M 30 0 5)) 25 0 2 (M 30 0 6)) 25 0 3 (M 30 0 7)) 25 0 4 (M 30 0 8)) 25 0 5 (M 30 0 9)) 25 0 6 (M 30 0 10))
    refine hR _ ⟨(show 0 ≤ (11 : Int) ∧ (11 : Int) < 17 from (by omega)), ?_⟩
    show R (72, [some (aR 8 0), some (aI 7)], [aI (M 30 0 11), aI 7, aR 25 0], am_wr (am_wr (am_wr (am_wr (am_wr (am_wr (am_wr (am_wr (am_wr (am_wr (am_wr (am_wr (am_wr M 421 0 0 (M 433 0 0)) 431 0 0 (M 434 0 0)) 22 0 0 (M 30 0 0)) 22 0 1 (M 30 0 1)) 22 0 2 (M 30 0 2)) 22 0 3 (M 30 0 3)) 25 0 0 (M 30 0 4)) 25 0 1 (M 30 0 5)) 25 0 2 (M 30 0 6)) 25 0 3 (M 30 0 7)) 25 0 4 (M 30 0 8)) 25 0 5 (M 30 0 9)) 25 0 6 (M 30 0 10))
    refine hR _ ⟨(show 0 ≤ (7 : Int) ∧ (7 : Int) < 10 from (by omega)), ?_⟩
    show R (73, [some (aR 8 0), some (aI 7)], [], am_wr (am_wr (am_wr (am_wr (am_wr (am_wr (am_wr (am_wr (am_wr (am_wr (am_wr (am_wr (am_wr (am_wr M 421 0 0 (M 433 0 0)) 431 0 0 (M 434 0 0)) 22 0 0 (M 30 0 0)) 22 0 1 (M 30 0 1)) 22 0 2 (M 30 0 2)) 22 0 3 (M 30 0 3)) 25 0 0 (M 30 0 4)) 25 0 1 (M 30 0 5)) 25 0 2 (M 30 0 6)) 25 0 3 (M 30 0 7)) 25 0 4 (M 30 0 8)) 25 0 5 (M 30 0 9)) 25 0 6 (M 30 0 10)) 25 0 7 (M 30 0 11))
    refine hR _ (hR _ (hR _ (hR _ (hR _ (am_brf (rg := am_in 8 ∧ am_in 10) (P := 10 ≤ 8) (A := R (79, [some (aR 8 0), some (aI 8)], [], am_wr (am_wr (am_wr (am_wr (am_wr (am_wr (am_wr (am_wr (am_wr (am_wr (am_wr (am_wr (am_wr (am_wr M 421 0 0 (M 433 0 0)) 431 0 0 (M 434 0 0)) 22 0 0 (M 30 0 0)) 22 0 1 (M 30 0 1)) 22 0 2 (M 30 0 2)) 22 0 3 (M 30 0 3)) 25 0 0 (M 30 0 4)) 25 0 1 (M 30 0 5)) 25 0 2 (M 30 0 6)) 25 0 3 (M 30 0 7)) 25 0 4 (M 30 0 8)) 25 0 5 (M 30 0 9)) 25 0 6 (M 30 0 10)) 25 0 7 (M 30 0 11))) (B := R (59, [some (aR 8 0), some (aI 8)], [], am_wr (am_wr (am_wr (am_wr (am_wr (am_wr (am_wr (am_wr (am_wr (am_wr (am_wr (am_wr (am_wr (am_wr M 421 0 0 (M 433 0 0)) 431 0 0 (M 434 0 0)) 22 0 0 (M 30 0 0)) 22 0 1 (M 30 0 1)) 22 0 2 (M 30 0 2)) 22 0 3 (M 30 0 3)) 25 0 0 (M 30 0 4)) 25 0 1 (M 30 0 5)) 25 0 2 (M 30 0 6)) 25 0 3 (M 30 0 7)) 25 0 4 (M 30 0 8)) 25 0 5 (M 30 0 9)) 25 0 6 (M 30 0 10)) 25 0 7 (M 30 0 11))) (by omega) (by omega) ?_)))))
    show R (59, [some (aR 8 0), some (aI 8)], [], am_wr (am_wr (am_wr (am_wr (am_wr (am_wr (am_wr (am_wr (am_wr (am_wr (am_wr (am_wr (am_wr (am_wr M 421 0 0 (M 433 0 0)) 431 0 0 (M 434 0 0)) 22 0 0 (M 30 0 0)) 22 0 1 (M 30 0 1)) 22 0 2 (M 30 0 2)) 22 0 3 (M 30 0 3)) 25 0 0 (M 30 0 4)) 25 0 1 (M 30 0 5)) 25 0 2 (M 30 0 6)) 25 0 3 (M 30 0 7)) 25 0 4 (M 30 0 8)) 25 0 5 (M 30 0 9)) 25 0 6 (M 30 0 10)) 25 0 7 (M 30 0 11))
    refine hR _ (hR _ (hR _ (hR _ (hR _ (hR _ (hR _ (hR _ (?_))))))))
    show R (71, [some (aR 8 0), some (aI 8)], [aI 12, aR 30 0, aI 8, aR 25 0], am_wr (am_wr (am_wr (am_wr (am_wr (am_wr (am_wr (am_wr (am_wr (am_wr (am_wr (am_wr (am_wr (am_wr M 421 0 0 (M 433 0 0)) 431 0 0 (M 434 0 0)) 22 0 0 (M 30 0 0)) 22 0 1 (M 30 0 1)) 22 0 2 (M 30 0 2)) 22 0 3 (M 30 0 3)) 25 0 0 (M 30 0 4)) 25 0 1 (M 30 0 5)) 25 0 2 (M 30 0 6)) 25 0 3 (M 30 0 7)) 25 0 4 (M 30 0 8)) 25 0 5 (M 30 0 9)) 25 0 6 (M 30 0 10)) 25 0 7 (M 30 0 11))
    refine hR _ ⟨(show 0 ≤ (12 : Int) ∧ (12 : Int) < 17 from (by omega)), ?_⟩
    show R (72, [some (aR 8 0), some (aI 8)], [aI (M 30 0 12), aI 8, aR 25 0], am_wr (am_wr (am_wr (am_wr (am_wr (am_wr (am_wr (am_wr (am_wr (am_wr (am_wr (am_wr (am_wr (am_wr M 421 0 0 (M 433 0 0)) 431 0 0 (M 434 0 0)) 22 0 0 (M 30 0 0)) 22 0 1 (M 30 0 1)) 22 0 2 (M 30 0 2)) 22 0 3 (M 30 0 3)) 25 0 0 (M 30 0 4)) 25 0 1 (M 30 0 5)) 25 0 2 (M 30 0 6)) 25 0 3 (M 30 0 7)) 25 0 4 (M 30 0 8)) 25 0 5 (M 30 0 9)) 25 0 6 (M 30 0 10)) 25 0 7 (M 30 0 11))
    refine hR _ ⟨(show 0 ≤ (8 : Int) ∧ (8 : Int) < 10 from (by omega)), ?_⟩
    show R (73, [some (aR 8 0), some (aI 8)], [], am_wr (am_wr (am_wr (am_wr (am_wr (am_wr (am_wr (am_wr (am_wr (am_wr (am_wr (am_wr (am_wr (am_wr (am_wr M 421 0 0 (M 433 0 0)) 431 0 0 (M 434 0 0)) 22 0 0 (M 30 0 0)) 22 0 1 (M 30 0 1)) 22 0 2 (M 30 0 2)) 22 0 3 (M 30 0 3)) 25 0 0 (M 30 0 4)) 25 0 1 (M 30 0 5)) 25 0 2 (M 30 0 6)) 25 0 3 (M 30 0 7)) 25 0 4 (M 30 0 8)) 25 0 5 (M 30 0 9)) 25 0 6 (M 30 0 10)) 25 0 7 (M 30 0 11)) 25 0 8 (M 30 0 12))
    refine hR _ (hR _ (hR _ (hR _ (hR _ (am_brf (rg := am_in 9 ∧ am_in 10) (P := 10 ≤ 9) (A := R (79, [some (aR 8 0), some (aI 9)], [], am_wr (am_wr (am_wr (am_wr (am_wr (am_wr (am_wr (am_wr (am_wr (am_wr (am_wr (am_wr (am_wr (am_wr (am_wr M 421 0 0 (M 433 0 0)) 431 0 0 (M 434 0 0)) 22 0 0 (M 30 0 0)) 22 0 1 (M 30 0 1)) 22 0 2 (M 30 0 2)) 22 0 3 (M 30 0 3)) 25 0 0 (M 30 0 4)) 25 0 1 (M 30 0 5)) 25 0 2 (M 30 0 6)) 25 0 3 (M 30 0 7)) 25 0 4 (M 30 0 8)) 25 0 5 (M 30 0 9)) 25 0 6 (M 30 0 10)) 25 0 7 (M 30 0 11)) 25 0 8 (M 30 0 12))) (B := R (59, [some (aR 8 0), some (aI 9)], [], am_wr (am_wr (am_wr (am_wr (am_wr (am_wr (am_wr (am_wr (am_wr (am_wr (am_wr (am_wr (am_wr (am_wr (am_wr M 421 0 0 (M 433 0 0)) 431 0 0 (M 434 0 0)) 22 0 0 (M 30 0 0)) 22 0 1 (M 30 0 1)) 22 0 2 (M 30 0 2)) 22 0 3 (M 30 0 3)) 25 0 0 (M 30 0 4)) 25 0 1 (M 30 0 5)) 25 0 2 (M 30 0 6)) 25 0 3 (M 30 0 7)) 25 0 4 (M 30 0 8)) 25 0 5 (M 30 0 9)) 25 0 6 (M 30 0 10)) 25 0 7 (M 30 0 11)) 25 0 8 (M 30 0 12))) (by omega) (by omega) ?_)))))
    show R (59, [some (aR 8 0), some (aI 9)], [], am_wr (am_wr (am_wr (am_wr (am_wr (am_wr (am_wr (am_wr (am_wr (am_wr (am_wr (am_wr (am_wr (am_wr (am_wr M 421 0 0 (M 433 0 0)) 431 0 0 (M 434 0 0)) 22 0 0 (M 30 0 0)) 22 0 1 (M 30 0 1)) 22 0 2 (M 30 0 2)) 22 0 3 (M 30 0 3)) 25 0 0 (M 30 0 4)) 25 0 1 (M 30 0 5)) 25 0 2 (M 30 0 6)) 25 0 3 (M 30 0 7)) 25 0 4 (M 30 0 8)) 25 0 5 (M 30 0 9)) 25 0 6 (M 30 0 10)) 25 0 7 (M 30 0 11)) 25 0 8 (M 30 0 12))
    refine hR _ (hR _ (hR _ (hR _ (hR _ (hR _ (hR _ (hR _ (?_))))))))
    show R (71, [some (aR 8 0), some (aI 9)], [aI 13, aR 30 0, aI 9, aR 25 0], am_wr (am_wr (am_wr (am_wr (am_wr (am_wr (am_wr (am_wr (am_wr (am_wr (am_wr (am_wr (am_wr (am_wr (am_wr M 421 0 0 (M 433 0 0)) 431 0 0 (M 434 0 0)) 22 0 0 (M 30 0 0)) 22 0 1 (M 30 0 1)) 22 0 2 (M 30 0 2)) 22 0 3 (M 30 0 3)) 25 0 0 (M 30 0 4)) 25 0 1 (M 30 0 5)) 25 0 2 (M 30 0 6)) 25 0 3 (M 30 0 7)) 25 0 4 (M 30 0 8)) 25 0 5 (M 30 0 9)) 25 0 6 (M 30 0 10)) 25 0 7 (M 30 0 11)) 25 0 8 (M 30 0 12))
    refine hR _ ⟨(show 0 ≤ (13 : Int) ∧ (13 : Int) < 17 from (by omega)), ?_⟩
    show R (72, [some (aR 8 0), some (aI 9)], [aI (M 30 0 13), aI 9, aR 25 0], am_wr (am_wr (am_wr (am_wr (am_wr (am_wr (am_wr (am_wr (am_wr (am_wr (am_wr (am_wr (am_wr (am_wr (am_wr M 421 0 0 (M 433 0 0)) 431 0 0 (M 434 0 0)) 22 0 0 (M 30 0 0)) 22 0 1 (M 30 0 1)) 22 0 2 (M 30 0 2)) 22 0 3 (M 30 0 3)) 25 0 0 (M 30 0 4)) 25 0 1 (M 30 0 5)) 25 0 2 (M 30 0 6)) 25 0 3 (M 30 0 7)) 25 0 4 (M 30 0 8)) 25 0 5 (M 30 0 9)) 25 0 6 (M 30 0 10)) 25 0 7 (M 30 0 11)) 25 0 8 (M 30 0 12))
    refine hR _ ⟨(show 0 ≤ (9 : Int) ∧ (9 : Int) < 10 from (by omega)), ?_⟩
    show R (73, [some (aR 8 0), some (aI 9)], [], am_wr (am_wr (am_wr (am_wr (am_wr (am_wr (am_wr (am_wr (am_wr (am_wr (am_wr (am_wr (am_wr (am_wr (am_wr (am_wr M 421 0 0 (M 433 0 0)) 431 0 0 (M 434 0 0)) 22 0 0 (M 30 0 0)) 22 0 1 (M 30 0 1)) 22 0 2 (M 30 0 2)) 22 0 3 (M 30 0 3)) 25 0 0 (M 30 0 4)) 25 0 1 (M 30 0 5)) 25 0 2 (M 30 0 6)) 25 0 3 (M 30 0 7)) 25 0 4 (M 30 0 8)) 25 0 5 (M 30 0 9)) 25 0 6 (M 30 0 10)) 25 0 7 (M 30 0 11)) 25 0 8 (M 30 0 12)) 25 0 9 (M 30 0 13))
    refine hR _ (hR _ (hR _ (hR _ (hR _ (am_brt (rg := am_in 10 ∧ am_in 10) (P := (10 : Int) ≤ 10) (A := R (79, [some (aR 8 0), some (aI 10)], [], am_wr (am_wr (am_wr (am_wr (am_wr (am_wr (am_wr (am_wr (am_wr (am_wr (am_wr (am_wr (am_wr (am_wr (am_wr (am_wr M 421 0 0 (M 433 0 0)) 431 0 0 (M 434 0 0)) 22 0 0 (M 30 0 0)) 22 0 1 (M 30 0 1)) 22 0 2 (M 30 0 2)) 22 0 3 (M 30 0 3)) 25 0 0 (M 30 0 4)) 25 0 1 (M 30 0 5)) 25 0 2 (M 30 0 6)) 25 0 3 (M 30 0 7)) 25 0 4 (M 30 0 8)) 25 0 5 (M 30 0 9)) 25 0 6 (M 30 0 10)) 25 0 7 (M 30 0 11)) 25 0 8 (M 30 0 12)) 25 0 9 (M 30 0 13))) (B := R (59, [some (aR 8 0), some (aI 10)], [], am_wr (am_wr (am_wr (am_wr (am_wr (am_wr (am_wr (am_wr (am_wr (am_wr (am_wr (am_wr (am_wr (am_wr (am_wr (am_wr M 421 0 0 (M 433 0 0)) 431 0 0 (M 434 0 0)) 22 0 0 (M 30 0 0)) 22 0 1 (M 30 0 1)) 22 0 2 (M 30 0 2)) 22 0 3 (M 30 0 3)) 25 0 0 (M 30 0 4)) 25 0 1 (M 30 0 5)) 25 0 2 (M 30 0 6)) 25 0 3 (M 30 0 7)) 25 0 4 (M 30 0 8)) 25 0 5 (M 30 0 9)) 25 0 6 (M 30 0 10)) 25 0 7 (M 30 0 11)) 25 0 8 (M 30 0 12)) 25 0 9 (M 30 0 13))) (by omega) (by omega) ?_)))))
    show R (79, [some (aR 8 0), some (aI 10)], [], am_wr (am_wr (am_wr (am_wr (am_wr (am_wr (am_wr (am_wr (am_wr (am_wr (am_wr (am_wr (am_wr (am_wr (am_wr (am_wr M 421 0 0 (M 433 0 0)) 431 0 0 (M 434 0 0)) 22 0 0 (M 30 0 0)) 22 0 1 (M 30 0 1)) 22 0 2 (M 30 0 2)) 22 0 3 (M 30 0 3)) 25 0 0 (M 30 0 4)) 25 0 1 (M 30 0 5)) 25 0 2 (M 30 0 6)) 25 0 3 (M 30 0 7)) 25 0 4 (M 30 0 8)) 25 0 5 (M 30 0 9)) 25 0 6 (M 30 0 10)) 25 0 7 (M 30 0 11)) 25 0 8 (M 30 0 12)) 25 0 9 (M 30 0 13))
    refine hR _ (hR _ (hR _ (hR _ (hR _ (am_brf (rg := am_in 0 ∧ am_in 3) (P := 3 ≤ 0) (A := R (107, [some (aR 8 0), some (aI 0)], [], am_wr (am_wr (am_wr (am_wr (am_wr (am_wr (am_wr (am_wr (am_wr (am_wr (am_wr (am_wr (am_wr (am_wr (am_wr (am_wr M 421 0 0 (M 433 0 0)) 431 0 0 (M 434 0 0)) 22 0 0 (M 30 0 0)) 22 0 1 (M 30 0 1)) 22 0 2 (M 30 0 2)) 22 0 3 (M 30 0 3)) 25 0 0 (M 30 0 4)) 25 0 1 (M 30 0 5)) 25 0 2 (M 30 0 6)) 25 0 3 (M 30 0 7)) 25 0 4 (M 30 0 8)) 25 0 5 (M 30 0 9)) 25 0 6 (M 30 0 10)) 25 0 7 (M 30 0 11)) 25 0 8 (M 30 0 12)) 25 0 9 (M 30 0 13))) (B := R (86, [some (aR 8 0), some (aI 0)], [], am_wr (am_wr (am_wr (am_wr (am_wr (am_wr (am_wr (am_wr (am_wr (am_wr (am_wr (am_wr (am_wr (am_wr (am_wr (am_wr M 421 0 0 (M 433 0 0)) 431 0 0 (M 434 0 0)) 22 0 0 (M 30 0 0)) 22 0 1 (M 30 0 1)) 22 0 2 (M 30 0 2)) 22 0 3 (M 30 0 3)) 25 0 0 (M 30 0 4)) 25 0 1 (M 30 0 5)) 25 0 2 (M 30 0 6)) 25 0 3 (M 30 0 7)) 25 0 4 (M 30 0 8)) 25 0 5 (M 30 0 9)) 25 0 6 (M 30 0 10)) 25 0 7 (M 30 0 11)) 25 0 8 (M 30 0 12)) 25 0 9 (M 30 0 13))) (by omega) (by omega) ?_)))))
    show R (86, [some (aR 8 0), some (aI 0)], [], am_wr (am_wr (am_wr (am_wr (am_wr (am_wr (am_wr (am_wr (am_wr (am_wr (am_wr (am_wr (am_wr (am_wr (am_wr (am_wr M 421 0 0 (M 433 0 0)) 431 0 0 (M 434 0 0)) 22 0 0 (M 30 0 0)) 22 0 1 (M 30 0 1)) 22 0 2 (M 30 0 2)) 22 0 3 (M 30 0 3)) 25 0 0 (M 30 0 4)) 25 0 1 (M 30 0 5)) 25 0 2 (M 30 0 6)) 25 0 3 (M 30 0 7)) 25 0 4 (M 30 0 8)) 25 0 5 (M 30 0 9)) 25 0 6 (M 30 0 10)) 25 0 7 (M 30 0 11)) 25 0 8 (M 30 0 12)) 25 0 9 (M 30 0 13))
    refine hR _ (hR _ (hR _ (hR _ (hR _ (hR _ (hR _ (hR _ (?_))))))))
    show R (99, [some (aR 8 0), some (aI 0)], [aI 14, aR 30 0, aI 0, aR 26 0], am_wr (am_wr (am_wr (am_wr (am_wr (am_wr (am_wr (am_wr (am_wr (am_wr (am_wr (am_wr (am_wr (am_wr (am_wr (am_wr M 421 0 0 (M 433 0 0)) 431 0 0 (M 434 0 0)) 22 0 0 (M 30 0 0)) 22 0 1 (M 30 0 1)) 22 0 2 (M 30 0 2)) 22 0 3 (M 30 0 3)) 25 0 0 (M 30 0 4)) 25 0 1 (M 30 0 5)) 25 0 2 (M 30 0 6)) 25 0 3 (M 30 0 7)) 25 0 4 (M 30 0 8)) 25 0 5 (M 30 0 9)) 25 0 6 (M 30 0 10)) 25 0 7 (M 30 0 11)) 25 0 8 (M 30 0 12)) 25 0 9 (M 30 0 13))
    refine hR _ ⟨(show 0 ≤ (14 : Int) ∧ (14 : Int) < 17 from (by omega)), ?_⟩
    show R (100, [some (aR 8 0), some (aI 0)], [aI (M 30 0 14), aI 0, aR 26 0], am_wr (am_wr (am_wr (am_wr (am_wr (am_wr (am_wr (am_wr (am_wr (am_wr (am_wr (am_wr (am_wr (am_wr (am_wr (am_wr M 421 0 0 (M 433 0 0)) 431 0 0 (M 434 0 0)) 22 0 0 (M 30 0 0)) 22 0 1 (M 30 0 1)) 22 0 2 (M 30 0 2)) 22 0 3 (M 30 0 3)) 25 0 0 (M 30 0 4)) 25 0 1 (M 30 0 5)) 25 0 2 (M 30 0 6)) 25 0 3 (M 30 0 7)) 25 0 4 (M 30 0 8)) 25 0 5 (M 30 0 9)) 25 0 6 (M 30 0 10)) 25 0 7 (M 30 0 11)) 25 0 8 (M 30 0 12)) 25 0 9 (M 30 0 13))
    refine hR _ ⟨(show 0 ≤ (0 : Int) ∧ (0 : Int) < 3 from (by omega)), ?_⟩
    show R (101, [some (aR 8 0), some (aI 0)], [], am_wr (am_wr (am_wr (am_wr (am_wr (am_wr (am_wr (am_wr (am_wr (am_wr (am_wr (am_wr (am_wr (am_wr (am_wr (am_wr (am_wr M 421 0 0 (M 433 0 0)) 431 0 0 (M 434 0 0)) 22 0 0 (M 30 0 0)) 22 0 1 (M 30 0 1)) 22 0 2 (M 30 0 2)) 22 0 3 (M 30 0 3)) 25 0 0 (M 30 0 4)) 25 0 1 (M 30 0 5)) 25 0 2 (M 30 0 6)) 25 0 3 (M 30 0 7)) 25 0 4 (M 30 0 8)) 25 0 5 (M 30 0 9)) 25 0 6 (M 30 0 10)) 25 0 7 (M 30 0 11)) 25 0 8 (M 30 0 12)) 25 0 9 (M 30 0 13)) 26 0 0 (M 30 0 14))
    refine hR _ (hR _ (hR _ (hR _ (hR _ (am_brf (rg := am_in 1 ∧ am_in 3) (P := 3 ≤ 1) (A := R (107, [some (aR 8 0), some (aI 1)], [], am_wr (am_wr (am_wr (am_wr (am_wr (am_wr (am_wr (am_wr (am_wr (am_wr (am_wr (am_wr (am_wr (am_wr (am_wr (am_wr (am_wr M 421 0 0 (M 433 0 0)) 431 0 0 (M 434 0 0)) 22 0 0 (M 30 0 0)) 22 0 1 (M 30 0 1)) 22 0 2 (M 30 0 2)) 22 0 3 (M 30 0 3)) 25 0 0 (M 30 0 4)) 25 0 1 (M 30 0 5)) 25 0 2 (M 30 0 6)) 25 0 3 (M 30 0 7)) 25 0 4 (M 30 0 8)) 25 0 5 (M 30 0 9)) 25 0 6 (M 30 0 10)) 25 0 7 (M 30 0 11)) 25 0 8 (M 30 0 12)) 25 0 9 (M 30 0 13)) 26 0 0 (M 30 0 14))) (B := R (86, [some (aR 8 0), some (aI 1)], [], am_wr (am_wr (am_wr (am_wr (am_wr (am_wr (am_wr (am_wr (am_wr (am_wr (am_wr (am_wr (am_wr (am_wr (am_wr (am_wr (am_wr M 421 0 0 (M 433 0 0)) 431 0 0 (M 434 0 0)) 22 0 0 (M 30 0 0)) 22 0 1 (M 30 0 1)) 22 0 2 (M 30 0 2)) 22 0 3 (M 30 0 3)) 25 0 0 (M 30 0 4)) 25 0 1 (M 30 0 5)) 25 0 2 (M 30 0 6)) 25 0 3 (M 30 0 7)) 25 0 4 (M 30 0 8)) 25 0 5 (M 30 0 9)) 25 0 6 (M 30 0 10)) 25 0 7 (M 30 0 11)) 25 0 8 (M 30 0 12)) 25 0 9 (M 30 0 13)) 26 0 0 (M 30 0 14))) (by omega) (by omega) ?_)))))
    show R (86, [some (aR 8 0), some (aI 1)], [], am_wr (am_wr (am_wr (am_wr (am_wr (am_wr (am_wr (am_wr (am_wr (am_wr (am_wr (am_wr (am_wr (am_wr (am_wr (am_wr (am_wr M 421 0 0 (M 433 0 0)) 431 0 0 (M 434 0 0)) 22 0 0 (M 30 0 0)) 22 0 1 (M 30 0 1)) 22 0 2 (M 30 0 2)) 22 0 3 (M 30 0 3)) 25 0 0 (M 30 0 4)) 25 0 1 (M 30 0 5)) 25 0 2 (M 30 0 6)) 25 0 3 (M 30 0 7)) 25 0 4 (M 30 0 8)) 25 0 5 (M 30 0 9)) 25 0 6 (M 30 0 10)) 25 0 7 (M 30 0 11)) 25 0 8 (M 30 0 12)) 25 0 9 (M 30 0 13)) 26 0 0 (M 30 0 14))
    refine hR _ (hR _ (hR _ (hR _ (hR _ (hR _ (hR _ (hR _ (?_))))))))
    show R (99, [some (aR 8 0), some (aI 1)], [aI 15, aR 30 0, aI 1, aR 26 0], am_wr (am_wr (am_wr (am_wr (am_wr (am_wr (am_wr (am_wr (am_wr (am_wr (am_wr (am_wr (am_wr (am_wr (am_wr (am_wr (am_wr M 421 0 0 (M 433 0 0)) 431 0 0 (M 434 0 0)) 22 0 0 (M 30 0 0)) 22 0 1 (M 30 0 1)) 22 0 2 (M 30 0 2)) 22 0 3 (M 30 0 3)) 25 0 0 (M 30 0 4)) 25 0 1 (M 30 0 5)) 25 0 2 (M 30 0 6)) 25 0 3 (M 30 0 7)) 25 0 4 (M 30 0 8)) 25 0 5 (M 30 0 9)) 25 0 6 (M 30 0 10)) 25 0 7 (M 30 0 11)) 25 0 8 (M 30 0 12)) 25 0 9 (M 30 0 13)) 26 0 0 (M 30 0 14))
    refine hR _ ⟨(show 0 ≤ (15 : Int) ∧ (15 : Int) < 17 from (by omega)), ?_⟩
    show R (100, [some (aR 8 0), some (aI 1)], [aI (M 30 0 15), aI 1, aR 26 0], am_wr (am_wr (am_wr (am_wr (am_wr (am_wr (am_wr (am_wr (am_wr (am_wr (am_wr (am_wr (am_wr (am_wr (am_wr (am_wr (am_wr M 421 0 0 (M 433 0 0)) 431 0 0 (M 434 0 0)) 22 0 0 (M 30 0 0)) 22 0 1 (M 30 0 1)) 22 0 2 (M 30 0 2)) 22 0 3 (M 30 0 3)) 25 0 0 (M 30 0 4)) 25 0 1 (M 30 0 5)) 25 0 2 (M 30 0 6)) 25 0 3 (M 30 0 7)) 25 0 4 (M 30 0 8)) 25 0 5 (M 30 0 9)) 25 0 6 (M 30 0 10)) 25 0 7 (M 30 0 11)) 25 0 8 (M 30 0 12)) 25 0 9 (M 30 0 13)) 26 0 0 (M 30 0 14))
    refine hR _ ⟨(show 0 ≤ (1 : Int) ∧ (1 : Int) < 3 from (by omega)), ?_⟩
    show R (101, [some (aR 8 0), some (aI 1)], [], am_wr (am_wr (am_wr (am_wr (am_wr (am_wr (am_wr (am_wr (am_wr (am_wr (am_wr (am_wr (am_wr (am_wr (am_wr (am_wr (am_wr (am_wr M 421 0 0 (M 433 0 0)) 431 0 0 (M 434 0 0)) 22 0 0 (M 30 0 0)) 22 0 1 (M 30 0 1)) 22 0 2 (M 30 0 2)) 22 0 3 (M 30 0 3)) 25 0 0 (M 30 0 4)) 25 0 1 (M 30 0 5)) 25 0 2 (M 30 0 6)) 25 0 3 (M 30 0 7)) 25 0 4 (M 30 0 8)) 25 0 5 (M 30 0 9)) 25 0 6 (M 30 0 10)) 25 0 7 (M 30 0 11)) 25 0 8 (M 30 0 12)) 25 0 9 (M 30 0 13)) 26 0 0 (M 30 0 14)) 26 0 1 (M 30 0 15))
    refine hR _ (hR _ (hR _ (hR _ (hR _ (am_brf (rg := am_in 2 ∧ am_in 3) (P := 3 ≤ 2) (A := R (107, [some (aR 8 0), some (aI 2)], [], am_wr (am_wr (am_wr (am_wr (am_wr (am_wr (am_wr (am_wr (am_wr (am_wr (am_wr (am_wr (am_wr (am_wr (am_wr (am_wr (am_wr (am_wr M 421 0 0 (M 433 0 0)) 431 0 0 (M 434 0 0)) 22 0 0 (M 30 0 0)) 22 0 1 (M 30 0 1)) 22 0 2 (M 30 0 2)) 22 0 3 (M 30 0 3)) 25 0 0 (M 30 0 4)) 25 0 1 (M 30 0 5)) 25 0 2 (M 30 0 6)) 25 0 3 (M 30 0 7)) 25 0 4 (M 30 0 8)) 25 0 5 (M 30 0 9)) 25 0 6 (M 30 0 10)) 25 0 7 (M 30 0 11)) 25 0 8 (M 30 0 12)) 25 0 9 (M 30 0 13)) 26 0 0 (M 30 0 14)) 26 0 1 (M 30 0 15))) (B := R (86, [some (aR 8 0), some (aI 2)], [], am_wr (am_wr (am_wr (am_wr (am_wr (am_wr (am_wr (am_wr (am_wr (am_wr (am_wr (am_wr (am_wr (am_wr (am_wr (am_wr (am_wr (am_wr M 421 0 0 (M 433 0 0)) 431 0 0 (M 434 0 0)) 22 0 0 (M 30 0 0)) 22 0 1 (M 30 0 1)) 22 0 2 (M 30 0 2)) 22 0 3 (M 30 0 3)) 25 0 0 (M 30 0 4)) 25 0 1 (M 30 0 5)) 25 0 2 (M 30 0 6)) 25 0 3 (M 30 0 7)) 25 0 4 (M 30 0 8)) 25 0 5 (M 30 0 9)) 25 0 6 (M 30 0 10)) 25 0 7 (M 30 0 11)) 25 0 8 (M 30 0 12)) 25 0 9 (M 30 0 13)) 26 0 0 (M 30 0 14)) 26 0 1 (M 30 0 15))) (by omega) (by omega) ?_)))))
    show R (86, [some (aR 8 0), some (aI 2)], [], am_wr (am_wr (am_wr (am_wr (am_wr (am_wr (am_wr (am_wr (am_wr (am_wr (am_wr (am_wr (am_wr (am_wr (am_wr (am_wr (am_wr (am_wr M 421 0 0 (M 433 0 0)) 431 0 0 (M 434 0 0)) 22 0 0 (M 30 0 0)) 22 0 1 (M 30 0 1)) 22 0 2 (M 30 0 2)) 22 0 3 (M 30 0 3)) 25 0 0 (M 30 0 4)) 25 0 1 (M 30 0 5)) 25 0 2 (M 30 0 6)) 25 0 3 (M 30 0 7)) 25 0 4 (M 30 0 8)) 25 0 5 (M 30 0 9)) 25 0 6 (M 30 0 10)) 25 0 7 (M 30 0 11)) 25 0 8 (M 30 0 12)) 25 0 9 (M 30 0 13)) 26 0 0 (M 30 0 14)) 26 0 1 (M 30 0 15))
    refine hR _ (hR _ (hR _ (hR _ (hR _ (hR _ (hR _ (hR _ (?_))))))))
    show R (99, [some (aR 8 0), some (aI 2)], [aI 16, aR 30 0, aI 2, aR 26 0], am_wr (am_wr (am_wr (am_wr (am_wr (am_wr (am_wr (am_wr (am_wr (am_wr (am_wr (am_wr (am_wr (am_wr (am_wr (am_wr (am_wr (am_wr M 421 0 0 (M 433 0 0)) 431 0 0 (M 434 0 0)) 22 0 0 (M 30 0 0)) 22 0 1 (M 30 0 1)) 22 0 2 (M 30 0 2)) 22 0 3 (M 30 0 3)) 25 0 0 (M 30 0 4)) 25 0 1 (M 30 0 5)) 25 0 2 (M 30 0 6)) 25 0 3 (M 30 0 7)) 25 0 4 (M 30 0 8)) 25 0 5 (M 30 0 9)) 25 0 6 (M 30 0 10)) 25 0 7 (M 30 0 11)) 25 0 8 (M 30 0 12)) 25 0 9 (M 30 0 13)) 26 0 0 (M 30 0 14)) 26 0 1 (M 30 0 15))
    refine hR _ ⟨(show 0 ≤ (16 : Int) ∧ (16 : Int) < 17 from (by omega)), ?_⟩
    show R (100, [some (aR 8 0), some (aI 2)], [aI (M 30 0 16), aI 2, aR 26 0], am_wr (am_wr (am_wr (am_wr (am_wr (am_wr (am_wr (am_wr (am_wr (am_wr (am_wr (am_wr (am_wr (am_wr (am_wr (am_wr (am_wr (am_wr M 421 0 0 (M 433 0 0)) 431 0 0 (M 434 0 0)) 22 0 0 (M 30 0 0)) 22 0 1 (M 30 0 1)) 22 0 2 (M 30 0 2)) 22 0 3 (M 30 0 3)) 25 0 0 (M 30 0 4)) 25 0 1 (M 30 0 5)) 25 0 2 (M 30 0 6)) 25 0 3 (M 30 0 7)) 25 0 4 (M 30 0 8)) 25 0 5 (M 30 0 9)) 25 0 6 (M 30 0 10)) 25 0 7 (M 30 0 11)) 25 0 8 (M 30 0 12)) 25 0 9 (M 30 0 13)) 26 0 0 (M 30 0 14)) 26 0 1 (M 30 0 15))
    refine hR _ ⟨(show 0 ≤ (2 : Int) ∧ (2 : Int) < 3 from (by omega)), ?_⟩
    show R (101, [some (aR 8 0), some (aI 2)], [], am_wr (am_wr (am_wr (am_wr (am_wr (am_wr (am_wr (am_wr (am_wr (am_wr (am_wr (am_wr (am_wr (am_wr (am_wr (am_wr (am_wr (am_wr (am_wr M 421 0 0 (M 433 0 0)) 431 0 0 (M 434 0 0)) 22 0 0 (M 30 0 0)) 22 0 1 (M 30 0 1)) 22 0 2 (M 30 0 2)) 22 0 3 (M 30 0 3)) 25 0 0 (M 30 0 4)) 25 0 1 (M 30 0 5)) 25 0 2 (M 30 0 6)) 25 0 3 (M 30 0 7)) 25 0 4 (M 30 0 8)) 25 0 5 (M 30 0 9)) 25 0 6 (M 30 0 10)) 25 0 7 (M 30 0 11)) 25 0 8 (M 30 0 12)) 25 0 9 (M 30 0 13)) 26 0 0 (M 30 0 14)) 26 0 1 (M 30 0 15)) 26 0 2 (M 30 0 16))
    refine hR _ (hR _ (hR _ (hR _ (hR _ (am_brt (rg := am_in 3 ∧ am_in 3) (P := (3 : Int) ≤ 3) (A := R (107, [some (aR 8 0), some (aI 3)], [], am_wr (am_wr (am_wr (am_wr (am_wr (am_wr (am_wr (am_wr (am_wr (am_wr (am_wr (am_wr (am_wr (am_wr (am_wr (am_wr (am_wr (am_wr (am_wr M 421 0 0 (M 433 0 0)) 431 0 0 (M 434 0 0)) 22 0 0 (M 30 0 0)) 22 0 1 (M 30 0 1)) 22 0 2 (M 30 0 2)) 22 0 3 (M 30 0 3)) 25 0 0 (M 30 0 4)) 25 0 1 (M 30 0 5)) 25 0 2 (M 30 0 6)) 25 0 3 (M 30 0 7)) 25 0 4 (M 30 0 8)) 25 0 5 (M 30 0 9)) 25 0 6 (M 30 0 10)) 25 0 7 (M 30 0 11)) 25 0 8 (M 30 0 12)) 25 0 9 (M 30 0 13)) 26 0 0 (M 30 0 14)) 26 0 1 (M 30 0 15)) 26 0 2 (M 30 0 16))) (B := R (86, [some (aR 8 0), some (aI 3)], [], am_wr (am_wr (am_wr (am_wr (am_wr (am_wr (am_wr (am_wr (am_wr (am_wr (am_wr (am_wr (am_wr (am_wr (am_wr (am_wr (am_wr (am_wr (am_wr M 421 0 0 (M 433 0 0)) 431 0 0 (M 434 0 0)) 22 0 0 (M 30 0 0)) 22 0 1 (M 30 0 1)) 22 0 2 (M 30 0 2)) 22 0 3 (M 30 0 3)) 25 0 0 (M 30 0 4)) 25 0 1 (M 30 0 5)) 25 0 2 (M 30 0 6)) 25 0 3 (M 30 0 7)) 25 0 4 (M 30 0 8)) 25 0 5 (M 30 0 9)) 25 0 6 (M 30 0 10)) 25 0 7 (M 30 0 11)) 25 0 8 (M 30 0 12)) 25 0 9 (M 30 0 13)) 26 0 0 (M 30 0 14)) 26 0 1 (M 30 0 15)) 26 0 2 (M 30 0 16))) (by omega) (by omega) ?_)))))
    show R (107, [some (aR 8 0), some (aI 3)], [], am_wr (am_wr (am_wr (am_wr (am_wr (am_wr (am_wr (am_wr (am_wr (am_wr (am_wr (am_wr (am_wr (am_wr (am_wr (am_wr (am_wr (am_wr (am_wr M 421 0 0 (M 433 0 0)) 431 0 0 (M 434 0 0)) 22 0 0 (M 30 0 0)) 22 0 1 (M 30 0 1)) 22 0 2 (M 30 0 2)) 22 0 3 (M 30 0 3)) 25 0 0 (M 30 0 4)) 25 0 1 (M 30 0 5)) 25 0 2 (M 30 0 6)) 25 0 3 (M 30 0 7)) 25 0 4 (M 30 0 8)) 25 0 5 (M 30 0 9)) 25 0 6 (M 30 0 10)) 25 0 7 (M 30 0 11)) 25 0 8 (M 30 0 12)) 25 0 9 (M 30 0 13)) 26 0 0 (M 30 0 14)) 26 0 1 (M 30 0 15)) 26 0 2 (M 30 0 16))
    refine hR _ (hR _ (?_))
    show R (111, [some (aR 8 0), some (aI 3)], [aI (M 433 0 0)], am_wr (am_wr (am_wr (am_wr (am_wr (am_wr (am_wr (am_wr (am_wr (am_wr (am_wr (am_wr (am_wr (am_wr (am_wr (am_wr (am_wr (am_wr (am_wr M 421 0 0 (M 433 0 0)) 431 0 0 (M 434 0 0)) 22 0 0 (M 30 0 0)) 22 0 1 (M 30 0 1)) 22 0 2 (M 30 0 2)) 22 0 3 (M 30 0 3)) 25 0 0 (M 30 0 4)) 25 0 1 (M 30 0 5)) 25 0 2 (M 30 0 6)) 25 0 3 (M 30 0 7)) 25 0 4 (M 30 0 8)) 25 0 5 (M 30 0 9)) 25 0 6 (M 30 0 10)) 25 0 7 (M 30 0 11)) 25 0 8 (M 30 0 12)) 25 0 9 (M 30 0 13)) 26 0 0 (M 30 0 14)) 26 0 1 (M 30 0 15)) 26 0 2 (M 30 0 16))
    refine hR _ (show K (some (aI (M 433 0 0))) (am_wr (am_wr (am_wr (am_wr (am_wr (am_wr (am_wr (am_wr (am_wr (am_wr (am_wr (am_wr (am_wr (am_wr (am_wr (am_wr (am_wr (am_wr (am_wr M 421 0 0 (M 433 0 0)) 431 0 0 (M 434 0 0)) 22 0 0 (M 30 0 0)) 22 0 1 (M 30 0 1)) 22 0 2 (M 30 0 2)) 22 0 3 (M 30 0 3)) 25 0 0 (M 30 0 4)) 25 0 1 (M 30 0 5)) 25 0 2 (M 30 0 6)) 25 0 3 (M 30 0 7)) 25 0 4 (M 30 0 8)) 25 0 5 (M 30 0 9)) 25 0 6 (M 30 0 10)) 25 0 7 (M 30 0 11)) 25 0 8 (M 30 0 12)) 25 0 9 (M 30 0 13)) 26 0 0 (M 30 0 14)) 26 0 1 (M 30 0 15)) 26 0 2 (M 30 0 16)) from ?_)
    refine am_fin (S := [421, 431, 22, 25, 26]) (F := fun m => (m 421 0 0 = M 433 0 0 ∧ m 431 0 0 = M 434 0 0) ∧ (∀ j : Nat, j < 4 → m 22 0 j = M 30 0 j) ∧ (∀ j : Nat, j < 10 → m 25 0 j = M 30 0 (4 + j)) ∧ (∀ j : Nat, j < 3 → m 26 0 j = M 30 0 (14 + j))) ((((((((((((((((((((am_ag.rf).wr rfl).wr rfl).wr rfl).wr rfl).wr rfl).wr rfl).wr rfl).wr rfl).wr rfl).wr rfl).wr rfl).wr rfl).wr rfl).wr rfl).wr rfl).wr rfl).wr rfl).wr rfl).wr rfl) ⟨⟨rfl, rfl⟩, fun j hj => ?_, fun j hj => ?_, fun j hj => ?_⟩ (fun g hg => hK1 (by omega) g hg)
    · skip
      match j, hj with
      | 0, _ => rfl
      | 1, _ => rfl
      | 2, _ => rfl
      | 3, _ => rfl
    · skip
      match j, hj with
      | 0, _ => rfl
      | 1, _ => rfl
      | 2, _ => rfl
      | 3, _ => rfl
      | 4, _ => rfl
      | 5, _ => rfl
      | 6, _ => rfl
      | 7, _ => rfl
      | 8, _ => rfl
      | 9, _ => rfl
    · skip
      match j, hj with
      | 0, _ => rfl
      | 1, _ => rfl
      | 2, _ => rfl
  · refine hR _ (?_)
    show R (9, [some (aR 8 0), none], [aI (-3)], M)
    refine hR _ (show K (some (aI (-3))) M from ?_)
    exact hK0 (by omega)

set_option maxHeartbeats 1000000 in
theorem sm_sheet {d : Nat} (hd : 2 ≤ d) {sa so n : Int} {M : am_M} {K : am_K} (ha_s : am_in sa) (ha_o : am_in so) (ha_n : am_in n) (hK1 : ∀ s : Nat, sa = s → s < 4 → -1 ≤ so ∧ so ≤ 2 → (so = -1 ∨ (0 ≤ n ∧ n ≤ 40)) → ∀ g : am_M, g 31 0 s = so → g 32 0 s = (if so = -1 then 0 else n) → (∀ j, j < 40 → g 33 0 (40 * s + j) = 0) → (∀ q, q ≠ s → g 31 0 q = M 31 0 q ∧ g 32 0 q = M 32 0 q) → (∀ j, j < 40 * s ∨ 40 * s + 40 ≤ j → g 33 0 j = M 33 0 j) → K (some (aI 1)) (am_mix [31, 32, 33] g M)) (hK0 : ¬ ((0 ≤ sa ∧ sa < 4) ∧ (-1 ≤ so ∧ so ≤ 2) ∧ (so = -1 ∨ (0 ≤ n ∧ n ≤ 40))) → K (some (aI (if ((0 ≤ sa ∧ sa < 4) ∧ -1 ≤ so ∧ so ≤ 2) ∧ n < 0 then -14 else -2))) M) : am_Call true d 199 [aR 8 0, aI sa, aI so, aI n] M K := by
  obtain ⟨d, rfl⟩ : ∃ e, d = e + 1 := ⟨d - 1, by omega⟩
  refine ⟨rfl, fun R hR hC => ?_⟩
  replace hR : ∀ c, am_F true tb_f199 1 (am_Call true d) K R c → R c := hR
  show R (0, [some (aR 8 0), some (aI sa), some (aI so), some (aI n), none], [], M)
  refine hR _ (hR _ (hR _ (?_)))
  show R (3, [some (aR 8 0), some (aI sa), some (aI so), some (aI n), none], [aI 3, aI 0, aI sa], M)
  refine hR _ (sp_in (by omega) (by omega) (fun h3 => ?_) (fun h3 => ?_))
  · show R (6, [some (aR 8 0), some (aI sa), some (aI so), some (aI n), none], [aI 1], M)
    refine hR _ (am_brf (rg := am_in 1) (P := (1 : Int) = 0) (A := R (29, [some (aR 8 0), some (aI sa), some (aI so), some (aI n), none], [], M)) (B := R (9, [some (aR 8 0), some (aI sa), some (aI so), some (aI n), none], [], M)) (by omega) (by omega) ?_)
    show R (9, [some (aR 8 0), some (aI sa), some (aI so), some (aI n), none], [], M)
    refine hR _ (hR _ (hR _ (?_)))
    show R (12, [some (aR 8 0), some (aI sa), some (aI so), some (aI n), none], [aI 2, aI (-1), aI so], M)
    refine hR _ (sp_in (by omega) (by omega) (fun h12 => ?_) (fun h12 => ?_))
    · show R (15, [some (aR 8 0), some (aI sa), some (aI so), some (aI n), none], [aI 1], M)
      refine hR _ (am_brf (rg := am_in 1) (P := (1 : Int) = 0) (A := R (29, [some (aR 8 0), some (aI sa), some (aI so), some (aI n), none], [], M)) (B := R (18, [some (aR 8 0), some (aI sa), some (aI so), some (aI n), none], [], M)) (by omega) (by omega) ?_)
      show R (18, [some (aR 8 0), some (aI sa), some (aI so), some (aI n), none], [], M)
      refine hR _ (hR _ (hR _ (am_brc (rg := am_in so ∧ am_in (-1)) (P := so = (-1)) (A := R (32, [some (aR 8 0), some (aI sa), some (aI so), some (aI n), none], [], M)) (B := R (23, [some (aR 8 0), some (aI sa), some (aI so), some (aI n), none], [], M)) (by omega) (fun c20 => ?_) (fun c20 => ?_))))
      · refine hR _ (hR _ (hR _ (am_brc (rg := am_in so ∧ am_in (-1)) (P := so = (-1)) (A := R (44, [some (aR 8 0), some (aI sa), some (aI so), some (aI n), none], [], M)) (B := R (37, [some (aR 8 0), some (aI sa), some (aI so), some (aI n), none], [], M)) (by omega) (fun c34 => ?_) (fun c34 => ?_))))
        · obtain ⟨s, rfl, hs4⟩ : ∃ s : Nat, sa = (s : Int) ∧ s < 4 := ⟨sa.toNat, by omega, by omega⟩
          show R (44, [some (aR 8 0), some (aI ((s : Nat) : Int)), some (aI so), some (aI n), none], [], M)
          refine hR _ (hR _ (hR _ (hR _ (?_))))
          show R (50, [some (aR 8 0), some (aI ((s : Nat) : Int)), some (aI so), some (aI n), none], [aI so, aI ((s : Nat) : Int), aR 31 0], M)
          refine hR _ ⟨(show 0 ≤ (((s : Nat) : Int) : Int) ∧ (((s : Nat) : Int) : Int) < 4 from (by omega)), ?_⟩
          show R (51, [some (aR 8 0), some (aI ((s : Nat) : Int)), some (aI so), some (aI n), none], [], am_wr M 31 0 s so)
          refine hR _ (hR _ (hR _ (hR _ (hR _ (hR _ (am_brc (rg := am_in so ∧ am_in (-1)) (P := so ≠ (-1)) (A := R (65, [some (aR 8 0), some (aI ((s : Nat) : Int)), some (aI so), some (aI n), none], [aI ((s : Nat) : Int), aR 32 0], am_wr M 31 0 s so)) (B := R (61, [some (aR 8 0), some (aI ((s : Nat) : Int)), some (aI so), some (aI n), none], [aI ((s : Nat) : Int), aR 32 0], am_wr M 31 0 s so)) (by omega) (fun c58 => ?_) (fun c58 => ?_)))))))
          · refine hR _ (?_)
            show R (66, [some (aR 8 0), some (aI ((s : Nat) : Int)), some (aI so), some (aI n), none], [aI n, aI ((s : Nat) : Int), aR 32 0], am_wr M 31 0 s so)
            refine hR _ ⟨(show 0 ≤ (((s : Nat) : Int) : Int) ∧ (((s : Nat) : Int) : Int) < 4 from (by omega)), ?_⟩
            show R (67, [some (aR 8 0), some (aI ((s : Nat) : Int)), some (aI so), some (aI n), none], [], am_wr (am_wr M 31 0 s so) 32 0 s n)
            refine hR _ (hR _ (?_))
            show R (70, [some (aR 8 0), some (aI ((s : Nat) : Int)), some (aI so), some (aI n), some (aI 0)], [], am_wr (am_wr M 31 0 s so) 32 0 s n)
            have key : ∀ (f i : Nat) (x : Int) (g : am_M), x = (i : Int) → i + f = 40 → g 31 0 s = so → g 32 0 s = (if so = -1 then 0 else n) → (∀ j, j < i → g 33 0 (40 * s + j) = 0) → (∀ q, q ≠ s → g 31 0 q = M 31 0 q ∧ g 32 0 q = M 32 0 q) → (∀ j, j < 40 * s ∨ 40 * s + 40 ≤ j → g 33 0 j = M 33 0 j) → R (70, [some (aR 8 0), some (aI ((s : Nat) : Int)), some (aI so), some (aI n), some (aI x)], [], am_mix [31, 32, 33] g M) := by
              intro f
              induction f with
              | zero =>
                intro i x g hx hin h1 h2 h3 h4 h5
                subst hx
                refine hR _ (hR _ (hR _ (am_brt (rg := am_in ((i : Nat) : Int) ∧ am_in 40) (P := 40 ≤ ((i : Nat) : Int)) (A := R (96, [some (aR 8 0), some (aI ((s : Nat) : Int)), some (aI so), some (aI n), some (aI ((i : Nat) : Int))], [], am_mix [31, 32, 33] g M)) (B := R (77, [some (aR 8 0), some (aI ((s : Nat) : Int)), some (aI so), some (aI n), some (aI ((i : Nat) : Int))], [], am_mix [31, 32, 33] g M)) (by omega) (by omega) ?_)))
                show R (96, [some (aR 8 0), some (aI ((s : Nat) : Int)), some (aI so), some (aI n), some (aI ((i : Nat) : Int))], [], am_mix [31, 32, 33] g M)
                refine hR _ (?_)
                show R (97, [some (aR 8 0), some (aI ((s : Nat) : Int)), some (aI so), some (aI n), some (aI ((i : Nat) : Int))], [aI 1], am_mix [31, 32, 33] g M)
                refine hR _ (show K (some (aI 1)) (am_mix [31, 32, 33] g M) from ?_)
                exact hK1 s rfl hs4 (by omega) (by omega) g h1 h2 (fun j hj => h3 j (by omega)) h4 h5
              | succ f ih =>
                intro i x g hx hin h1 h2 h3 h4 h5
                subst hx
                refine hR _ (hR _ (hR _ (am_brf (rg := am_in ((i : Nat) : Int) ∧ am_in 40) (P := 40 ≤ ((i : Nat) : Int)) (A := R (96, [some (aR 8 0), some (aI ((s : Nat) : Int)), some (aI so), some (aI n), some (aI ((i : Nat) : Int))], [], am_mix [31, 32, 33] g M)) (B := R (77, [some (aR 8 0), some (aI ((s : Nat) : Int)), some (aI so), some (aI n), some (aI ((i : Nat) : Int))], [], am_mix [31, 32, 33] g M)) (by omega) (by omega) ?_)))
                show R (77, [some (aR 8 0), some (aI ((s : Nat) : Int)), some (aI so), some (aI n), some (aI ((i : Nat) : Int))], [], am_mix [31, 32, 33] g M)
                refine hR _ (hR _ (hR _ (hR _ (hR _ (hR _ (hR _ (hR _ (?_))))))))
                show R (89, [some (aR 8 0), some (aI ((s : Nat) : Int)), some (aI so), some (aI n), some (aI ((i : Nat) : Int))], [aI 0, aI ((40 * ((s : Nat) : Int)) + ((i : Nat) : Int)), aR 33 0], am_mix [31, 32, 33] g M)
                refine hR _ ⟨(show 0 ≤ (((40 * ((s : Nat) : Int)) + ((i : Nat) : Int)) : Int) ∧ (((40 * ((s : Nat) : Int)) + ((i : Nat) : Int)) : Int) < 160 from (by omega)), ?_⟩
                show R (90, [some (aR 8 0), some (aI ((s : Nat) : Int)), some (aI so), some (aI n), some (aI ((i : Nat) : Int))], [], am_wr (am_mix [31, 32, 33] g M) 33 0 ((((40 * ((s : Nat) : Int)) + ((i : Nat) : Int))).toNat) 0)
                refine hR _ (hR _ (?_))
                show R (70, [some (aR 8 0), some (aI ((s : Nat) : Int)), some (aI so), some (aI n), some (aI (((i : Nat) : Int) + 1))], [], am_wr (am_mix [31, 32, 33] g M) 33 0 ((((40 * ((s : Nat) : Int)) + ((i : Nat) : Int))).toNat) 0)
                rw [show ((((40 * ((s : Nat) : Int)) + ((i : Nat) : Int))).toNat) = 40 * s + i by omega]
                have e9 : am_ag [31, 32, 33] M (am_wr (am_mix [31, 32, 33] g M) 33 0 (40 * s + i) 0) := (am_ag.rf.mix rfl).wr rfl
                have n3 : ∀ j, j < i + 1 → (am_wr (am_mix [31, 32, 33] g M) 33 0 (40 * s + i) 0) 33 0 (40 * s + j) = 0 := by
                  intro j hj
                  by_cases e : j = i
                  · rw [e]
                    exact am_wr_eq
                  · exact (am_wr_ne (Or.inr (Or.inr (by omega)))).trans (h3 j (by omega))
                have n5 : ∀ j, j < 40 * s ∨ 40 * s + 40 ≤ j → (am_wr (am_mix [31, 32, 33] g M) 33 0 (40 * s + i) 0) 33 0 j = M 33 0 j := fun j hj => (am_wr_ne (Or.inr (Or.inr (by omega)))).trans (h5 j hj)
                have n1 : (am_wr (am_mix [31, 32, 33] g M) 33 0 (40 * s + i) 0) 31 0 s = so := h1
                have n2 : (am_wr (am_mix [31, 32, 33] g M) 33 0 (40 * s + i) 0) 32 0 s = (if so = -1 then 0 else n) := h2
                have n4 : ∀ q, q ≠ s → (am_wr (am_mix [31, 32, 33] g M) 33 0 (40 * s + i) 0) 31 0 q = M 31 0 q ∧ (am_wr (am_mix [31, 32, 33] g M) 33 0 (40 * s + i) 0) 32 0 q = M 32 0 q := h4
                rw [e9.eq] at n1 n2 n3 n4 n5 ⊢
                exact ih (i + 1) _ _ (by omega) (by omega) n1 n2 n3 n4 n5
            have e9 : am_ag [31, 32, 33] M (am_wr (am_wr M 31 0 s so) 32 0 s n) := ((am_ag.rf).wr rfl).wr rfl
            have n1 : (am_wr (am_wr M 31 0 s so) 32 0 s n) 31 0 s = so := (am_wr_ne (Or.inl (by decide))).trans am_wr_eq
            have n2 : (am_wr (am_wr M 31 0 s so) 32 0 s n) 32 0 s = (if so = -1 then 0 else n) := am_wr_eq.trans (by split <;> omega)
            have n4 : ∀ q, q ≠ s → (am_wr (am_wr M 31 0 s so) 32 0 s n) 31 0 q = M 31 0 q ∧ (am_wr (am_wr M 31 0 s so) 32 0 s n) 32 0 q = M 32 0 q := fun q hq => ⟨(am_wr_ne (Or.inl (by decide))).trans (am_wr_ne (Or.inr (Or.inr hq))), (am_wr_ne (Or.inr (Or.inr hq))).trans (am_wr_ne (Or.inl (by decide)))⟩
            have n5 : ∀ j, j < 40 * s ∨ 40 * s + 40 ≤ j → (am_wr (am_wr M 31 0 s so) 32 0 s n) 33 0 j = M 33 0 j := fun j hj => rfl
            rw [e9.eq] at n1 n2 n4 n5 ⊢
            exact key 40 0 _ _ rfl rfl n1 n2 (fun j hj => absurd hj (Nat.not_lt_zero j)) n4 n5
          · refine hR _ (hR _ (?_))
            show R (66, [some (aR 8 0), some (aI ((s : Nat) : Int)), some (aI so), some (aI n), none], [aI 0, aI ((s : Nat) : Int), aR 32 0], am_wr M 31 0 s so)
            refine hR _ ⟨(show 0 ≤ (((s : Nat) : Int) : Int) ∧ (((s : Nat) : Int) : Int) < 4 from (by omega)), ?_⟩
            show R (67, [some (aR 8 0), some (aI ((s : Nat) : Int)), some (aI so), some (aI n), none], [], am_wr (am_wr M 31 0 s so) 32 0 s 0)
            refine hR _ (hR _ (?_))
            show R (70, [some (aR 8 0), some (aI ((s : Nat) : Int)), some (aI so), some (aI n), some (aI 0)], [], am_wr (am_wr M 31 0 s so) 32 0 s 0)
            have key : ∀ (f i : Nat) (x : Int) (g : am_M), x = (i : Int) → i + f = 40 → g 31 0 s = so → g 32 0 s = (if so = -1 then 0 else n) → (∀ j, j < i → g 33 0 (40 * s + j) = 0) → (∀ q, q ≠ s → g 31 0 q = M 31 0 q ∧ g 32 0 q = M 32 0 q) → (∀ j, j < 40 * s ∨ 40 * s + 40 ≤ j → g 33 0 j = M 33 0 j) → R (70, [some (aR 8 0), some (aI ((s : Nat) : Int)), some (aI so), some (aI n), some (aI x)], [], am_mix [31, 32, 33] g M) := by
              intro f
              induction f with
              | zero =>
                intro i x g hx hin h1 h2 h3 h4 h5
                subst hx
                refine hR _ (hR _ (hR _ (am_brt (rg := am_in ((i : Nat) : Int) ∧ am_in 40) (P := 40 ≤ ((i : Nat) : Int)) (A := R (96, [some (aR 8 0), some (aI ((s : Nat) : Int)), some (aI so), some (aI n), some (aI ((i : Nat) : Int))], [], am_mix [31, 32, 33] g M)) (B := R (77, [some (aR 8 0), some (aI ((s : Nat) : Int)), some (aI so), some (aI n), some (aI ((i : Nat) : Int))], [], am_mix [31, 32, 33] g M)) (by omega) (by omega) ?_)))
                show R (96, [some (aR 8 0), some (aI ((s : Nat) : Int)), some (aI so), some (aI n), some (aI ((i : Nat) : Int))], [], am_mix [31, 32, 33] g M)
                refine hR _ (?_)
                show R (97, [some (aR 8 0), some (aI ((s : Nat) : Int)), some (aI so), some (aI n), some (aI ((i : Nat) : Int))], [aI 1], am_mix [31, 32, 33] g M)
                refine hR _ (show K (some (aI 1)) (am_mix [31, 32, 33] g M) from ?_)
                exact hK1 s rfl hs4 (by omega) (by omega) g h1 h2 (fun j hj => h3 j (by omega)) h4 h5
              | succ f ih =>
                intro i x g hx hin h1 h2 h3 h4 h5
                subst hx
                refine hR _ (hR _ (hR _ (am_brf (rg := am_in ((i : Nat) : Int) ∧ am_in 40) (P := 40 ≤ ((i : Nat) : Int)) (A := R (96, [some (aR 8 0), some (aI ((s : Nat) : Int)), some (aI so), some (aI n), some (aI ((i : Nat) : Int))], [], am_mix [31, 32, 33] g M)) (B := R (77, [some (aR 8 0), some (aI ((s : Nat) : Int)), some (aI so), some (aI n), some (aI ((i : Nat) : Int))], [], am_mix [31, 32, 33] g M)) (by omega) (by omega) ?_)))
                show R (77, [some (aR 8 0), some (aI ((s : Nat) : Int)), some (aI so), some (aI n), some (aI ((i : Nat) : Int))], [], am_mix [31, 32, 33] g M)
                refine hR _ (hR _ (hR _ (hR _ (hR _ (hR _ (hR _ (hR _ (?_))))))))
                show R (89, [some (aR 8 0), some (aI ((s : Nat) : Int)), some (aI so), some (aI n), some (aI ((i : Nat) : Int))], [aI 0, aI ((40 * ((s : Nat) : Int)) + ((i : Nat) : Int)), aR 33 0], am_mix [31, 32, 33] g M)
                refine hR _ ⟨(show 0 ≤ (((40 * ((s : Nat) : Int)) + ((i : Nat) : Int)) : Int) ∧ (((40 * ((s : Nat) : Int)) + ((i : Nat) : Int)) : Int) < 160 from (by omega)), ?_⟩
                show R (90, [some (aR 8 0), some (aI ((s : Nat) : Int)), some (aI so), some (aI n), some (aI ((i : Nat) : Int))], [], am_wr (am_mix [31, 32, 33] g M) 33 0 ((((40 * ((s : Nat) : Int)) + ((i : Nat) : Int))).toNat) 0)
                refine hR _ (hR _ (?_))
                show R (70, [some (aR 8 0), some (aI ((s : Nat) : Int)), some (aI so), some (aI n), some (aI (((i : Nat) : Int) + 1))], [], am_wr (am_mix [31, 32, 33] g M) 33 0 ((((40 * ((s : Nat) : Int)) + ((i : Nat) : Int))).toNat) 0)
                rw [show ((((40 * ((s : Nat) : Int)) + ((i : Nat) : Int))).toNat) = 40 * s + i by omega]
                have e9 : am_ag [31, 32, 33] M (am_wr (am_mix [31, 32, 33] g M) 33 0 (40 * s + i) 0) := (am_ag.rf.mix rfl).wr rfl
                have n3 : ∀ j, j < i + 1 → (am_wr (am_mix [31, 32, 33] g M) 33 0 (40 * s + i) 0) 33 0 (40 * s + j) = 0 := by
                  intro j hj
                  by_cases e : j = i
                  · rw [e]
                    exact am_wr_eq
                  · exact (am_wr_ne (Or.inr (Or.inr (by omega)))).trans (h3 j (by omega))
                have n5 : ∀ j, j < 40 * s ∨ 40 * s + 40 ≤ j → (am_wr (am_mix [31, 32, 33] g M) 33 0 (40 * s + i) 0) 33 0 j = M 33 0 j := fun j hj => (am_wr_ne (Or.inr (Or.inr (by omega)))).trans (h5 j hj)
                have n1 : (am_wr (am_mix [31, 32, 33] g M) 33 0 (40 * s + i) 0) 31 0 s = so := h1
                have n2 : (am_wr (am_mix [31, 32, 33] g M) 33 0 (40 * s + i) 0) 32 0 s = (if so = -1 then 0 else n) := h2
                have n4 : ∀ q, q ≠ s → (am_wr (am_mix [31, 32, 33] g M) 33 0 (40 * s + i) 0) 31 0 q = M 31 0 q ∧ (am_wr (am_mix [31, 32, 33] g M) 33 0 (40 * s + i) 0) 32 0 q = M 32 0 q := h4
                rw [e9.eq] at n1 n2 n3 n4 n5 ⊢
                exact ih (i + 1) _ _ (by omega) (by omega) n1 n2 n3 n4 n5
            have e9 : am_ag [31, 32, 33] M (am_wr (am_wr M 31 0 s so) 32 0 s 0) := ((am_ag.rf).wr rfl).wr rfl
            have n1 : (am_wr (am_wr M 31 0 s so) 32 0 s 0) 31 0 s = so := (am_wr_ne (Or.inl (by decide))).trans am_wr_eq
            have n2 : (am_wr (am_wr M 31 0 s so) 32 0 s 0) 32 0 s = (if so = -1 then 0 else n) := am_wr_eq.trans (by split <;> omega)
            have n4 : ∀ q, q ≠ s → (am_wr (am_wr M 31 0 s so) 32 0 s 0) 31 0 q = M 31 0 q ∧ (am_wr (am_wr M 31 0 s so) 32 0 s 0) 32 0 q = M 32 0 q := fun q hq => ⟨(am_wr_ne (Or.inl (by decide))).trans (am_wr_ne (Or.inr (Or.inr hq))), (am_wr_ne (Or.inr (Or.inr hq))).trans (am_wr_ne (Or.inl (by decide)))⟩
            have n5 : ∀ j, j < 40 * s ∨ 40 * s + 40 ≤ j → (am_wr (am_wr M 31 0 s so) 32 0 s 0) 33 0 j = M 33 0 j := fun j hj => rfl
            rw [e9.eq] at n1 n2 n4 n5 ⊢
            exact key 40 0 _ _ rfl rfl n1 n2 (fun j hj => absurd hj (Nat.not_lt_zero j)) n4 n5
        · refine hR _ (hR _ (am_brc (rg := am_in n) (P := 0 ≤ n) (A := R (44, [some (aR 8 0), some (aI sa), some (aI so), some (aI n), none], [], M)) (B := R (41, [some (aR 8 0), some (aI sa), some (aI so), some (aI n), none], [], M)) (by omega) (fun c38 => ?_) (fun c38 => ?_)))
          · obtain ⟨s, rfl, hs4⟩ : ∃ s : Nat, sa = (s : Int) ∧ s < 4 := ⟨sa.toNat, by omega, by omega⟩
            show R (44, [some (aR 8 0), some (aI ((s : Nat) : Int)), some (aI so), some (aI n), none], [], M)
            refine hR _ (hR _ (hR _ (hR _ (?_))))
            show R (50, [some (aR 8 0), some (aI ((s : Nat) : Int)), some (aI so), some (aI n), none], [aI so, aI ((s : Nat) : Int), aR 31 0], M)
            refine hR _ ⟨(show 0 ≤ (((s : Nat) : Int) : Int) ∧ (((s : Nat) : Int) : Int) < 4 from (by omega)), ?_⟩
            show R (51, [some (aR 8 0), some (aI ((s : Nat) : Int)), some (aI so), some (aI n), none], [], am_wr M 31 0 s so)
            refine hR _ (hR _ (hR _ (hR _ (hR _ (hR _ (am_brc (rg := am_in so ∧ am_in (-1)) (P := so ≠ (-1)) (A := R (65, [some (aR 8 0), some (aI ((s : Nat) : Int)), some (aI so), some (aI n), none], [aI ((s : Nat) : Int), aR 32 0], am_wr M 31 0 s so)) (B := R (61, [some (aR 8 0), some (aI ((s : Nat) : Int)), some (aI so), some (aI n), none], [aI ((s : Nat) : Int), aR 32 0], am_wr M 31 0 s so)) (by omega) (fun c58 => ?_) (fun c58 => ?_)))))))
            · refine hR _ (?_)
              show R (66, [some (aR 8 0), some (aI ((s : Nat) : Int)), some (aI so), some (aI n), none], [aI n, aI ((s : Nat) : Int), aR 32 0], am_wr M 31 0 s so)
              refine hR _ ⟨(show 0 ≤ (((s : Nat) : Int) : Int) ∧ (((s : Nat) : Int) : Int) < 4 from (by omega)), ?_⟩
              show R (67, [some (aR 8 0), some (aI ((s : Nat) : Int)), some (aI so), some (aI n), none], [], am_wr (am_wr M 31 0 s so) 32 0 s n)
              refine hR _ (hR _ (?_))
              show R (70, [some (aR 8 0), some (aI ((s : Nat) : Int)), some (aI so), some (aI n), some (aI 0)], [], am_wr (am_wr M 31 0 s so) 32 0 s n)
              have key : ∀ (f i : Nat) (x : Int) (g : am_M), x = (i : Int) → i + f = 40 → g 31 0 s = so → g 32 0 s = (if so = -1 then 0 else n) → (∀ j, j < i → g 33 0 (40 * s + j) = 0) → (∀ q, q ≠ s → g 31 0 q = M 31 0 q ∧ g 32 0 q = M 32 0 q) → (∀ j, j < 40 * s ∨ 40 * s + 40 ≤ j → g 33 0 j = M 33 0 j) → R (70, [some (aR 8 0), some (aI ((s : Nat) : Int)), some (aI so), some (aI n), some (aI x)], [], am_mix [31, 32, 33] g M) := by
                intro f
                induction f with
                | zero =>
                  intro i x g hx hin h1 h2 h3 h4 h5
                  subst hx
                  refine hR _ (hR _ (hR _ (am_brt (rg := am_in ((i : Nat) : Int) ∧ am_in 40) (P := 40 ≤ ((i : Nat) : Int)) (A := R (96, [some (aR 8 0), some (aI ((s : Nat) : Int)), some (aI so), some (aI n), some (aI ((i : Nat) : Int))], [], am_mix [31, 32, 33] g M)) (B := R (77, [some (aR 8 0), some (aI ((s : Nat) : Int)), some (aI so), some (aI n), some (aI ((i : Nat) : Int))], [], am_mix [31, 32, 33] g M)) (by omega) (by omega) ?_)))
                  show R (96, [some (aR 8 0), some (aI ((s : Nat) : Int)), some (aI so), some (aI n), some (aI ((i : Nat) : Int))], [], am_mix [31, 32, 33] g M)
                  refine hR _ (?_)
                  show R (97, [some (aR 8 0), some (aI ((s : Nat) : Int)), some (aI so), some (aI n), some (aI ((i : Nat) : Int))], [aI 1], am_mix [31, 32, 33] g M)
                  refine hR _ (show K (some (aI 1)) (am_mix [31, 32, 33] g M) from ?_)
                  exact hK1 s rfl hs4 (by omega) (by omega) g h1 h2 (fun j hj => h3 j (by omega)) h4 h5
                | succ f ih =>
                  intro i x g hx hin h1 h2 h3 h4 h5
                  subst hx
                  refine hR _ (hR _ (hR _ (am_brf (rg := am_in ((i : Nat) : Int) ∧ am_in 40) (P := 40 ≤ ((i : Nat) : Int)) (A := R (96, [some (aR 8 0), some (aI ((s : Nat) : Int)), some (aI so), some (aI n), some (aI ((i : Nat) : Int))], [], am_mix [31, 32, 33] g M)) (B := R (77, [some (aR 8 0), some (aI ((s : Nat) : Int)), some (aI so), some (aI n), some (aI ((i : Nat) : Int))], [], am_mix [31, 32, 33] g M)) (by omega) (by omega) ?_)))
                  show R (77, [some (aR 8 0), some (aI ((s : Nat) : Int)), some (aI so), some (aI n), some (aI ((i : Nat) : Int))], [], am_mix [31, 32, 33] g M)
                  refine hR _ (hR _ (hR _ (hR _ (hR _ (hR _ (hR _ (hR _ (?_))))))))
                  show R (89, [some (aR 8 0), some (aI ((s : Nat) : Int)), some (aI so), some (aI n), some (aI ((i : Nat) : Int))], [aI 0, aI ((40 * ((s : Nat) : Int)) + ((i : Nat) : Int)), aR 33 0], am_mix [31, 32, 33] g M)
                  refine hR _ ⟨(show 0 ≤ (((40 * ((s : Nat) : Int)) + ((i : Nat) : Int)) : Int) ∧ (((40 * ((s : Nat) : Int)) + ((i : Nat) : Int)) : Int) < 160 from (by omega)), ?_⟩
                  show R (90, [some (aR 8 0), some (aI ((s : Nat) : Int)), some (aI so), some (aI n), some (aI ((i : Nat) : Int))], [], am_wr (am_mix [31, 32, 33] g M) 33 0 ((((40 * ((s : Nat) : Int)) + ((i : Nat) : Int))).toNat) 0)
                  refine hR _ (hR _ (?_))
                  show R (70, [some (aR 8 0), some (aI ((s : Nat) : Int)), some (aI so), some (aI n), some (aI (((i : Nat) : Int) + 1))], [], am_wr (am_mix [31, 32, 33] g M) 33 0 ((((40 * ((s : Nat) : Int)) + ((i : Nat) : Int))).toNat) 0)
                  rw [show ((((40 * ((s : Nat) : Int)) + ((i : Nat) : Int))).toNat) = 40 * s + i by omega]
                  have e9 : am_ag [31, 32, 33] M (am_wr (am_mix [31, 32, 33] g M) 33 0 (40 * s + i) 0) := (am_ag.rf.mix rfl).wr rfl
                  have n3 : ∀ j, j < i + 1 → (am_wr (am_mix [31, 32, 33] g M) 33 0 (40 * s + i) 0) 33 0 (40 * s + j) = 0 := by
                    intro j hj
                    by_cases e : j = i
                    · rw [e]
                      exact am_wr_eq
                    · exact (am_wr_ne (Or.inr (Or.inr (by omega)))).trans (h3 j (by omega))
                  have n5 : ∀ j, j < 40 * s ∨ 40 * s + 40 ≤ j → (am_wr (am_mix [31, 32, 33] g M) 33 0 (40 * s + i) 0) 33 0 j = M 33 0 j := fun j hj => (am_wr_ne (Or.inr (Or.inr (by omega)))).trans (h5 j hj)
                  have n1 : (am_wr (am_mix [31, 32, 33] g M) 33 0 (40 * s + i) 0) 31 0 s = so := h1
                  have n2 : (am_wr (am_mix [31, 32, 33] g M) 33 0 (40 * s + i) 0) 32 0 s = (if so = -1 then 0 else n) := h2
                  have n4 : ∀ q, q ≠ s → (am_wr (am_mix [31, 32, 33] g M) 33 0 (40 * s + i) 0) 31 0 q = M 31 0 q ∧ (am_wr (am_mix [31, 32, 33] g M) 33 0 (40 * s + i) 0) 32 0 q = M 32 0 q := h4
                  rw [e9.eq] at n1 n2 n3 n4 n5 ⊢
                  exact ih (i + 1) _ _ (by omega) (by omega) n1 n2 n3 n4 n5
              have e9 : am_ag [31, 32, 33] M (am_wr (am_wr M 31 0 s so) 32 0 s n) := ((am_ag.rf).wr rfl).wr rfl
              have n1 : (am_wr (am_wr M 31 0 s so) 32 0 s n) 31 0 s = so := (am_wr_ne (Or.inl (by decide))).trans am_wr_eq
              have n2 : (am_wr (am_wr M 31 0 s so) 32 0 s n) 32 0 s = (if so = -1 then 0 else n) := am_wr_eq.trans (by split <;> omega)
              have n4 : ∀ q, q ≠ s → (am_wr (am_wr M 31 0 s so) 32 0 s n) 31 0 q = M 31 0 q ∧ (am_wr (am_wr M 31 0 s so) 32 0 s n) 32 0 q = M 32 0 q := fun q hq => ⟨(am_wr_ne (Or.inl (by decide))).trans (am_wr_ne (Or.inr (Or.inr hq))), (am_wr_ne (Or.inr (Or.inr hq))).trans (am_wr_ne (Or.inl (by decide)))⟩
              have n5 : ∀ j, j < 40 * s ∨ 40 * s + 40 ≤ j → (am_wr (am_wr M 31 0 s so) 32 0 s n) 33 0 j = M 33 0 j := fun j hj => rfl
              rw [e9.eq] at n1 n2 n4 n5 ⊢
              exact key 40 0 _ _ rfl rfl n1 n2 (fun j hj => absurd hj (Nat.not_lt_zero j)) n4 n5
            · refine hR _ (hR _ (?_))
              show R (66, [some (aR 8 0), some (aI ((s : Nat) : Int)), some (aI so), some (aI n), none], [aI 0, aI ((s : Nat) : Int), aR 32 0], am_wr M 31 0 s so)
              refine hR _ ⟨(show 0 ≤ (((s : Nat) : Int) : Int) ∧ (((s : Nat) : Int) : Int) < 4 from (by omega)), ?_⟩
              show R (67, [some (aR 8 0), some (aI ((s : Nat) : Int)), some (aI so), some (aI n), none], [], am_wr (am_wr M 31 0 s so) 32 0 s 0)
              refine hR _ (hR _ (?_))
              show R (70, [some (aR 8 0), some (aI ((s : Nat) : Int)), some (aI so), some (aI n), some (aI 0)], [], am_wr (am_wr M 31 0 s so) 32 0 s 0)
              have key : ∀ (f i : Nat) (x : Int) (g : am_M), x = (i : Int) → i + f = 40 → g 31 0 s = so → g 32 0 s = (if so = -1 then 0 else n) → (∀ j, j < i → g 33 0 (40 * s + j) = 0) → (∀ q, q ≠ s → g 31 0 q = M 31 0 q ∧ g 32 0 q = M 32 0 q) → (∀ j, j < 40 * s ∨ 40 * s + 40 ≤ j → g 33 0 j = M 33 0 j) → R (70, [some (aR 8 0), some (aI ((s : Nat) : Int)), some (aI so), some (aI n), some (aI x)], [], am_mix [31, 32, 33] g M) := by
                intro f
                induction f with
                | zero =>
                  intro i x g hx hin h1 h2 h3 h4 h5
                  subst hx
                  refine hR _ (hR _ (hR _ (am_brt (rg := am_in ((i : Nat) : Int) ∧ am_in 40) (P := 40 ≤ ((i : Nat) : Int)) (A := R (96, [some (aR 8 0), some (aI ((s : Nat) : Int)), some (aI so), some (aI n), some (aI ((i : Nat) : Int))], [], am_mix [31, 32, 33] g M)) (B := R (77, [some (aR 8 0), some (aI ((s : Nat) : Int)), some (aI so), some (aI n), some (aI ((i : Nat) : Int))], [], am_mix [31, 32, 33] g M)) (by omega) (by omega) ?_)))
                  show R (96, [some (aR 8 0), some (aI ((s : Nat) : Int)), some (aI so), some (aI n), some (aI ((i : Nat) : Int))], [], am_mix [31, 32, 33] g M)
                  refine hR _ (?_)
                  show R (97, [some (aR 8 0), some (aI ((s : Nat) : Int)), some (aI so), some (aI n), some (aI ((i : Nat) : Int))], [aI 1], am_mix [31, 32, 33] g M)
                  refine hR _ (show K (some (aI 1)) (am_mix [31, 32, 33] g M) from ?_)
                  exact hK1 s rfl hs4 (by omega) (by omega) g h1 h2 (fun j hj => h3 j (by omega)) h4 h5
                | succ f ih =>
                  intro i x g hx hin h1 h2 h3 h4 h5
                  subst hx
                  refine hR _ (hR _ (hR _ (am_brf (rg := am_in ((i : Nat) : Int) ∧ am_in 40) (P := 40 ≤ ((i : Nat) : Int)) (A := R (96, [some (aR 8 0), some (aI ((s : Nat) : Int)), some (aI so), some (aI n), some (aI ((i : Nat) : Int))], [], am_mix [31, 32, 33] g M)) (B := R (77, [some (aR 8 0), some (aI ((s : Nat) : Int)), some (aI so), some (aI n), some (aI ((i : Nat) : Int))], [], am_mix [31, 32, 33] g M)) (by omega) (by omega) ?_)))
                  show R (77, [some (aR 8 0), some (aI ((s : Nat) : Int)), some (aI so), some (aI n), some (aI ((i : Nat) : Int))], [], am_mix [31, 32, 33] g M)
                  refine hR _ (hR _ (hR _ (hR _ (hR _ (hR _ (hR _ (hR _ (?_))))))))
                  show R (89, [some (aR 8 0), some (aI ((s : Nat) : Int)), some (aI so), some (aI n), some (aI ((i : Nat) : Int))], [aI 0, aI ((40 * ((s : Nat) : Int)) + ((i : Nat) : Int)), aR 33 0], am_mix [31, 32, 33] g M)
                  refine hR _ ⟨(show 0 ≤ (((40 * ((s : Nat) : Int)) + ((i : Nat) : Int)) : Int) ∧ (((40 * ((s : Nat) : Int)) + ((i : Nat) : Int)) : Int) < 160 from (by omega)), ?_⟩
                  show R (90, [some (aR 8 0), some (aI ((s : Nat) : Int)), some (aI so), some (aI n), some (aI ((i : Nat) : Int))], [], am_wr (am_mix [31, 32, 33] g M) 33 0 ((((40 * ((s : Nat) : Int)) + ((i : Nat) : Int))).toNat) 0)
                  refine hR _ (hR _ (?_))
                  show R (70, [some (aR 8 0), some (aI ((s : Nat) : Int)), some (aI so), some (aI n), some (aI (((i : Nat) : Int) + 1))], [], am_wr (am_mix [31, 32, 33] g M) 33 0 ((((40 * ((s : Nat) : Int)) + ((i : Nat) : Int))).toNat) 0)
                  rw [show ((((40 * ((s : Nat) : Int)) + ((i : Nat) : Int))).toNat) = 40 * s + i by omega]
                  have e9 : am_ag [31, 32, 33] M (am_wr (am_mix [31, 32, 33] g M) 33 0 (40 * s + i) 0) := (am_ag.rf.mix rfl).wr rfl
                  have n3 : ∀ j, j < i + 1 → (am_wr (am_mix [31, 32, 33] g M) 33 0 (40 * s + i) 0) 33 0 (40 * s + j) = 0 := by
                    intro j hj
                    by_cases e : j = i
                    · rw [e]
                      exact am_wr_eq
                    · exact (am_wr_ne (Or.inr (Or.inr (by omega)))).trans (h3 j (by omega))
                  have n5 : ∀ j, j < 40 * s ∨ 40 * s + 40 ≤ j → (am_wr (am_mix [31, 32, 33] g M) 33 0 (40 * s + i) 0) 33 0 j = M 33 0 j := fun j hj => (am_wr_ne (Or.inr (Or.inr (by omega)))).trans (h5 j hj)
                  have n1 : (am_wr (am_mix [31, 32, 33] g M) 33 0 (40 * s + i) 0) 31 0 s = so := h1
                  have n2 : (am_wr (am_mix [31, 32, 33] g M) 33 0 (40 * s + i) 0) 32 0 s = (if so = -1 then 0 else n) := h2
                  have n4 : ∀ q, q ≠ s → (am_wr (am_mix [31, 32, 33] g M) 33 0 (40 * s + i) 0) 31 0 q = M 31 0 q ∧ (am_wr (am_mix [31, 32, 33] g M) 33 0 (40 * s + i) 0) 32 0 q = M 32 0 q := h4
                  rw [e9.eq] at n1 n2 n3 n4 n5 ⊢
                  exact ih (i + 1) _ _ (by omega) (by omega) n1 n2 n3 n4 n5
              have e9 : am_ag [31, 32, 33] M (am_wr (am_wr M 31 0 s so) 32 0 s 0) := ((am_ag.rf).wr rfl).wr rfl
              have n1 : (am_wr (am_wr M 31 0 s so) 32 0 s 0) 31 0 s = so := (am_wr_ne (Or.inl (by decide))).trans am_wr_eq
              have n2 : (am_wr (am_wr M 31 0 s so) 32 0 s 0) 32 0 s = (if so = -1 then 0 else n) := am_wr_eq.trans (by split <;> omega)
              have n4 : ∀ q, q ≠ s → (am_wr (am_wr M 31 0 s so) 32 0 s 0) 31 0 q = M 31 0 q ∧ (am_wr (am_wr M 31 0 s so) 32 0 s 0) 32 0 q = M 32 0 q := fun q hq => ⟨(am_wr_ne (Or.inl (by decide))).trans (am_wr_ne (Or.inr (Or.inr hq))), (am_wr_ne (Or.inr (Or.inr hq))).trans (am_wr_ne (Or.inl (by decide)))⟩
              have n5 : ∀ j, j < 40 * s ∨ 40 * s + 40 ≤ j → (am_wr (am_wr M 31 0 s so) 32 0 s 0) 33 0 j = M 33 0 j := fun j hj => rfl
              rw [e9.eq] at n1 n2 n4 n5 ⊢
              exact key 40 0 _ _ rfl rfl n1 n2 (fun j hj => absurd hj (Nat.not_lt_zero j)) n4 n5
          · refine hR _ (?_)
            show R (43, [some (aR 8 0), some (aI sa), some (aI so), some (aI n), none], [aI (-14)], M)
            refine hR _ (show K (some (aI (-14))) M from ?_)
            refine am_kr (hK0 (by omega)) ?_
            split
            all_goals omega
      · refine hR _ (hR _ (hR _ (am_brc (rg := am_in n ∧ am_in 40) (P := n ≤ 40) (A := R (32, [some (aR 8 0), some (aI sa), some (aI so), some (aI n), none], [], M)) (B := R (29, [some (aR 8 0), some (aI sa), some (aI so), some (aI n), none], [], M)) (by omega) (fun c26 => ?_) (fun c26 => ?_))))
        · refine hR _ (hR _ (hR _ (am_brc (rg := am_in so ∧ am_in (-1)) (P := so = (-1)) (A := R (44, [some (aR 8 0), some (aI sa), some (aI so), some (aI n), none], [], M)) (B := R (37, [some (aR 8 0), some (aI sa), some (aI so), some (aI n), none], [], M)) (by omega) (fun c34 => ?_) (fun c34 => ?_))))
          · obtain ⟨s, rfl, hs4⟩ : ∃ s : Nat, sa = (s : Int) ∧ s < 4 := ⟨sa.toNat, by omega, by omega⟩
            show R (44, [some (aR 8 0), some (aI ((s : Nat) : Int)), some (aI so), some (aI n), none], [], M)
            refine hR _ (hR _ (hR _ (hR _ (?_))))
            show R (50, [some (aR 8 0), some (aI ((s : Nat) : Int)), some (aI so), some (aI n), none], [aI so, aI ((s : Nat) : Int), aR 31 0], M)
            refine hR _ ⟨(show 0 ≤ (((s : Nat) : Int) : Int) ∧ (((s : Nat) : Int) : Int) < 4 from (by omega)), ?_⟩
            show R (51, [some (aR 8 0), some (aI ((s : Nat) : Int)), some (aI so), some (aI n), none], [], am_wr M 31 0 s so)
            refine hR _ (hR _ (hR _ (hR _ (hR _ (hR _ (am_brc (rg := am_in so ∧ am_in (-1)) (P := so ≠ (-1)) (A := R (65, [some (aR 8 0), some (aI ((s : Nat) : Int)), some (aI so), some (aI n), none], [aI ((s : Nat) : Int), aR 32 0], am_wr M 31 0 s so)) (B := R (61, [some (aR 8 0), some (aI ((s : Nat) : Int)), some (aI so), some (aI n), none], [aI ((s : Nat) : Int), aR 32 0], am_wr M 31 0 s so)) (by omega) (fun c58 => ?_) (fun c58 => ?_)))))))
            · refine hR _ (?_)
              show R (66, [some (aR 8 0), some (aI ((s : Nat) : Int)), some (aI so), some (aI n), none], [aI n, aI ((s : Nat) : Int), aR 32 0], am_wr M 31 0 s so)
              refine hR _ ⟨(show 0 ≤ (((s : Nat) : Int) : Int) ∧ (((s : Nat) : Int) : Int) < 4 from (by omega)), ?_⟩
              show R (67, [some (aR 8 0), some (aI ((s : Nat) : Int)), some (aI so), some (aI n), none], [], am_wr (am_wr M 31 0 s so) 32 0 s n)
              refine hR _ (hR _ (?_))
              show R (70, [some (aR 8 0), some (aI ((s : Nat) : Int)), some (aI so), some (aI n), some (aI 0)], [], am_wr (am_wr M 31 0 s so) 32 0 s n)
              have key : ∀ (f i : Nat) (x : Int) (g : am_M), x = (i : Int) → i + f = 40 → g 31 0 s = so → g 32 0 s = (if so = -1 then 0 else n) → (∀ j, j < i → g 33 0 (40 * s + j) = 0) → (∀ q, q ≠ s → g 31 0 q = M 31 0 q ∧ g 32 0 q = M 32 0 q) → (∀ j, j < 40 * s ∨ 40 * s + 40 ≤ j → g 33 0 j = M 33 0 j) → R (70, [some (aR 8 0), some (aI ((s : Nat) : Int)), some (aI so), some (aI n), some (aI x)], [], am_mix [31, 32, 33] g M) := by
                intro f
                induction f with
                | zero =>
                  intro i x g hx hin h1 h2 h3 h4 h5
                  subst hx
                  refine hR _ (hR _ (hR _ (am_brt (rg := am_in ((i : Nat) : Int) ∧ am_in 40) (P := 40 ≤ ((i : Nat) : Int)) (A := R (96, [some (aR 8 0), some (aI ((s : Nat) : Int)), some (aI so), some (aI n), some (aI ((i : Nat) : Int))], [], am_mix [31, 32, 33] g M)) (B := R (77, [some (aR 8 0), some (aI ((s : Nat) : Int)), some (aI so), some (aI n), some (aI ((i : Nat) : Int))], [], am_mix [31, 32, 33] g M)) (by omega) (by omega) ?_)))
                  show R (96, [some (aR 8 0), some (aI ((s : Nat) : Int)), some (aI so), some (aI n), some (aI ((i : Nat) : Int))], [], am_mix [31, 32, 33] g M)
                  refine hR _ (?_)
                  show R (97, [some (aR 8 0), some (aI ((s : Nat) : Int)), some (aI so), some (aI n), some (aI ((i : Nat) : Int))], [aI 1], am_mix [31, 32, 33] g M)
                  refine hR _ (show K (some (aI 1)) (am_mix [31, 32, 33] g M) from ?_)
                  exact hK1 s rfl hs4 (by omega) (by omega) g h1 h2 (fun j hj => h3 j (by omega)) h4 h5
                | succ f ih =>
                  intro i x g hx hin h1 h2 h3 h4 h5
                  subst hx
                  refine hR _ (hR _ (hR _ (am_brf (rg := am_in ((i : Nat) : Int) ∧ am_in 40) (P := 40 ≤ ((i : Nat) : Int)) (A := R (96, [some (aR 8 0), some (aI ((s : Nat) : Int)), some (aI so), some (aI n), some (aI ((i : Nat) : Int))], [], am_mix [31, 32, 33] g M)) (B := R (77, [some (aR 8 0), some (aI ((s : Nat) : Int)), some (aI so), some (aI n), some (aI ((i : Nat) : Int))], [], am_mix [31, 32, 33] g M)) (by omega) (by omega) ?_)))
                  show R (77, [some (aR 8 0), some (aI ((s : Nat) : Int)), some (aI so), some (aI n), some (aI ((i : Nat) : Int))], [], am_mix [31, 32, 33] g M)
                  refine hR _ (hR _ (hR _ (hR _ (hR _ (hR _ (hR _ (hR _ (?_))))))))
                  show R (89, [some (aR 8 0), some (aI ((s : Nat) : Int)), some (aI so), some (aI n), some (aI ((i : Nat) : Int))], [aI 0, aI ((40 * ((s : Nat) : Int)) + ((i : Nat) : Int)), aR 33 0], am_mix [31, 32, 33] g M)
                  refine hR _ ⟨(show 0 ≤ (((40 * ((s : Nat) : Int)) + ((i : Nat) : Int)) : Int) ∧ (((40 * ((s : Nat) : Int)) + ((i : Nat) : Int)) : Int) < 160 from (by omega)), ?_⟩
                  show R (90, [some (aR 8 0), some (aI ((s : Nat) : Int)), some (aI so), some (aI n), some (aI ((i : Nat) : Int))], [], am_wr (am_mix [31, 32, 33] g M) 33 0 ((((40 * ((s : Nat) : Int)) + ((i : Nat) : Int))).toNat) 0)
                  refine hR _ (hR _ (?_))
                  show R (70, [some (aR 8 0), some (aI ((s : Nat) : Int)), some (aI so), some (aI n), some (aI (((i : Nat) : Int) + 1))], [], am_wr (am_mix [31, 32, 33] g M) 33 0 ((((40 * ((s : Nat) : Int)) + ((i : Nat) : Int))).toNat) 0)
                  rw [show ((((40 * ((s : Nat) : Int)) + ((i : Nat) : Int))).toNat) = 40 * s + i by omega]
                  have e9 : am_ag [31, 32, 33] M (am_wr (am_mix [31, 32, 33] g M) 33 0 (40 * s + i) 0) := (am_ag.rf.mix rfl).wr rfl
                  have n3 : ∀ j, j < i + 1 → (am_wr (am_mix [31, 32, 33] g M) 33 0 (40 * s + i) 0) 33 0 (40 * s + j) = 0 := by
                    intro j hj
                    by_cases e : j = i
                    · rw [e]
                      exact am_wr_eq
                    · exact (am_wr_ne (Or.inr (Or.inr (by omega)))).trans (h3 j (by omega))
                  have n5 : ∀ j, j < 40 * s ∨ 40 * s + 40 ≤ j → (am_wr (am_mix [31, 32, 33] g M) 33 0 (40 * s + i) 0) 33 0 j = M 33 0 j := fun j hj => (am_wr_ne (Or.inr (Or.inr (by omega)))).trans (h5 j hj)
                  have n1 : (am_wr (am_mix [31, 32, 33] g M) 33 0 (40 * s + i) 0) 31 0 s = so := h1
                  have n2 : (am_wr (am_mix [31, 32, 33] g M) 33 0 (40 * s + i) 0) 32 0 s = (if so = -1 then 0 else n) := h2
                  have n4 : ∀ q, q ≠ s → (am_wr (am_mix [31, 32, 33] g M) 33 0 (40 * s + i) 0) 31 0 q = M 31 0 q ∧ (am_wr (am_mix [31, 32, 33] g M) 33 0 (40 * s + i) 0) 32 0 q = M 32 0 q := h4
                  rw [e9.eq] at n1 n2 n3 n4 n5 ⊢
                  exact ih (i + 1) _ _ (by omega) (by omega) n1 n2 n3 n4 n5
              have e9 : am_ag [31, 32, 33] M (am_wr (am_wr M 31 0 s so) 32 0 s n) := ((am_ag.rf).wr rfl).wr rfl
              have n1 : (am_wr (am_wr M 31 0 s so) 32 0 s n) 31 0 s = so := (am_wr_ne (Or.inl (by decide))).trans am_wr_eq
              have n2 : (am_wr (am_wr M 31 0 s so) 32 0 s n) 32 0 s = (if so = -1 then 0 else n) := am_wr_eq.trans (by split <;> omega)
              have n4 : ∀ q, q ≠ s → (am_wr (am_wr M 31 0 s so) 32 0 s n) 31 0 q = M 31 0 q ∧ (am_wr (am_wr M 31 0 s so) 32 0 s n) 32 0 q = M 32 0 q := fun q hq => ⟨(am_wr_ne (Or.inl (by decide))).trans (am_wr_ne (Or.inr (Or.inr hq))), (am_wr_ne (Or.inr (Or.inr hq))).trans (am_wr_ne (Or.inl (by decide)))⟩
              have n5 : ∀ j, j < 40 * s ∨ 40 * s + 40 ≤ j → (am_wr (am_wr M 31 0 s so) 32 0 s n) 33 0 j = M 33 0 j := fun j hj => rfl
              rw [e9.eq] at n1 n2 n4 n5 ⊢
              exact key 40 0 _ _ rfl rfl n1 n2 (fun j hj => absurd hj (Nat.not_lt_zero j)) n4 n5
            · refine hR _ (hR _ (?_))
              show R (66, [some (aR 8 0), some (aI ((s : Nat) : Int)), some (aI so), some (aI n), none], [aI 0, aI ((s : Nat) : Int), aR 32 0], am_wr M 31 0 s so)
              refine hR _ ⟨(show 0 ≤ (((s : Nat) : Int) : Int) ∧ (((s : Nat) : Int) : Int) < 4 from (by omega)), ?_⟩
              show R (67, [some (aR 8 0), some (aI ((s : Nat) : Int)), some (aI so), some (aI n), none], [], am_wr (am_wr M 31 0 s so) 32 0 s 0)
              refine hR _ (hR _ (?_))
              show R (70, [some (aR 8 0), some (aI ((s : Nat) : Int)), some (aI so), some (aI n), some (aI 0)], [], am_wr (am_wr M 31 0 s so) 32 0 s 0)
              have key : ∀ (f i : Nat) (x : Int) (g : am_M), x = (i : Int) → i + f = 40 → g 31 0 s = so → g 32 0 s = (if so = -1 then 0 else n) → (∀ j, j < i → g 33 0 (40 * s + j) = 0) → (∀ q, q ≠ s → g 31 0 q = M 31 0 q ∧ g 32 0 q = M 32 0 q) → (∀ j, j < 40 * s ∨ 40 * s + 40 ≤ j → g 33 0 j = M 33 0 j) → R (70, [some (aR 8 0), some (aI ((s : Nat) : Int)), some (aI so), some (aI n), some (aI x)], [], am_mix [31, 32, 33] g M) := by
                intro f
                induction f with
                | zero =>
                  intro i x g hx hin h1 h2 h3 h4 h5
                  subst hx
                  refine hR _ (hR _ (hR _ (am_brt (rg := am_in ((i : Nat) : Int) ∧ am_in 40) (P := 40 ≤ ((i : Nat) : Int)) (A := R (96, [some (aR 8 0), some (aI ((s : Nat) : Int)), some (aI so), some (aI n), some (aI ((i : Nat) : Int))], [], am_mix [31, 32, 33] g M)) (B := R (77, [some (aR 8 0), some (aI ((s : Nat) : Int)), some (aI so), some (aI n), some (aI ((i : Nat) : Int))], [], am_mix [31, 32, 33] g M)) (by omega) (by omega) ?_)))
                  show R (96, [some (aR 8 0), some (aI ((s : Nat) : Int)), some (aI so), some (aI n), some (aI ((i : Nat) : Int))], [], am_mix [31, 32, 33] g M)
                  refine hR _ (?_)
                  show R (97, [some (aR 8 0), some (aI ((s : Nat) : Int)), some (aI so), some (aI n), some (aI ((i : Nat) : Int))], [aI 1], am_mix [31, 32, 33] g M)
                  refine hR _ (show K (some (aI 1)) (am_mix [31, 32, 33] g M) from ?_)
                  exact hK1 s rfl hs4 (by omega) (by omega) g h1 h2 (fun j hj => h3 j (by omega)) h4 h5
                | succ f ih =>
                  intro i x g hx hin h1 h2 h3 h4 h5
                  subst hx
                  refine hR _ (hR _ (hR _ (am_brf (rg := am_in ((i : Nat) : Int) ∧ am_in 40) (P := 40 ≤ ((i : Nat) : Int)) (A := R (96, [some (aR 8 0), some (aI ((s : Nat) : Int)), some (aI so), some (aI n), some (aI ((i : Nat) : Int))], [], am_mix [31, 32, 33] g M)) (B := R (77, [some (aR 8 0), some (aI ((s : Nat) : Int)), some (aI so), some (aI n), some (aI ((i : Nat) : Int))], [], am_mix [31, 32, 33] g M)) (by omega) (by omega) ?_)))
                  show R (77, [some (aR 8 0), some (aI ((s : Nat) : Int)), some (aI so), some (aI n), some (aI ((i : Nat) : Int))], [], am_mix [31, 32, 33] g M)
                  refine hR _ (hR _ (hR _ (hR _ (hR _ (hR _ (hR _ (hR _ (?_))))))))
                  show R (89, [some (aR 8 0), some (aI ((s : Nat) : Int)), some (aI so), some (aI n), some (aI ((i : Nat) : Int))], [aI 0, aI ((40 * ((s : Nat) : Int)) + ((i : Nat) : Int)), aR 33 0], am_mix [31, 32, 33] g M)
                  refine hR _ ⟨(show 0 ≤ (((40 * ((s : Nat) : Int)) + ((i : Nat) : Int)) : Int) ∧ (((40 * ((s : Nat) : Int)) + ((i : Nat) : Int)) : Int) < 160 from (by omega)), ?_⟩
                  show R (90, [some (aR 8 0), some (aI ((s : Nat) : Int)), some (aI so), some (aI n), some (aI ((i : Nat) : Int))], [], am_wr (am_mix [31, 32, 33] g M) 33 0 ((((40 * ((s : Nat) : Int)) + ((i : Nat) : Int))).toNat) 0)
                  refine hR _ (hR _ (?_))
                  show R (70, [some (aR 8 0), some (aI ((s : Nat) : Int)), some (aI so), some (aI n), some (aI (((i : Nat) : Int) + 1))], [], am_wr (am_mix [31, 32, 33] g M) 33 0 ((((40 * ((s : Nat) : Int)) + ((i : Nat) : Int))).toNat) 0)
                  rw [show ((((40 * ((s : Nat) : Int)) + ((i : Nat) : Int))).toNat) = 40 * s + i by omega]
                  have e9 : am_ag [31, 32, 33] M (am_wr (am_mix [31, 32, 33] g M) 33 0 (40 * s + i) 0) := (am_ag.rf.mix rfl).wr rfl
                  have n3 : ∀ j, j < i + 1 → (am_wr (am_mix [31, 32, 33] g M) 33 0 (40 * s + i) 0) 33 0 (40 * s + j) = 0 := by
                    intro j hj
                    by_cases e : j = i
                    · rw [e]
                      exact am_wr_eq
                    · exact (am_wr_ne (Or.inr (Or.inr (by omega)))).trans (h3 j (by omega))
                  have n5 : ∀ j, j < 40 * s ∨ 40 * s + 40 ≤ j → (am_wr (am_mix [31, 32, 33] g M) 33 0 (40 * s + i) 0) 33 0 j = M 33 0 j := fun j hj => (am_wr_ne (Or.inr (Or.inr (by omega)))).trans (h5 j hj)
                  have n1 : (am_wr (am_mix [31, 32, 33] g M) 33 0 (40 * s + i) 0) 31 0 s = so := h1
                  have n2 : (am_wr (am_mix [31, 32, 33] g M) 33 0 (40 * s + i) 0) 32 0 s = (if so = -1 then 0 else n) := h2
                  have n4 : ∀ q, q ≠ s → (am_wr (am_mix [31, 32, 33] g M) 33 0 (40 * s + i) 0) 31 0 q = M 31 0 q ∧ (am_wr (am_mix [31, 32, 33] g M) 33 0 (40 * s + i) 0) 32 0 q = M 32 0 q := h4
                  rw [e9.eq] at n1 n2 n3 n4 n5 ⊢
                  exact ih (i + 1) _ _ (by omega) (by omega) n1 n2 n3 n4 n5
              have e9 : am_ag [31, 32, 33] M (am_wr (am_wr M 31 0 s so) 32 0 s 0) := ((am_ag.rf).wr rfl).wr rfl
              have n1 : (am_wr (am_wr M 31 0 s so) 32 0 s 0) 31 0 s = so := (am_wr_ne (Or.inl (by decide))).trans am_wr_eq
              have n2 : (am_wr (am_wr M 31 0 s so) 32 0 s 0) 32 0 s = (if so = -1 then 0 else n) := am_wr_eq.trans (by split <;> omega)
              have n4 : ∀ q, q ≠ s → (am_wr (am_wr M 31 0 s so) 32 0 s 0) 31 0 q = M 31 0 q ∧ (am_wr (am_wr M 31 0 s so) 32 0 s 0) 32 0 q = M 32 0 q := fun q hq => ⟨(am_wr_ne (Or.inl (by decide))).trans (am_wr_ne (Or.inr (Or.inr hq))), (am_wr_ne (Or.inr (Or.inr hq))).trans (am_wr_ne (Or.inl (by decide)))⟩
              have n5 : ∀ j, j < 40 * s ∨ 40 * s + 40 ≤ j → (am_wr (am_wr M 31 0 s so) 32 0 s 0) 33 0 j = M 33 0 j := fun j hj => rfl
              rw [e9.eq] at n1 n2 n4 n5 ⊢
              exact key 40 0 _ _ rfl rfl n1 n2 (fun j hj => absurd hj (Nat.not_lt_zero j)) n4 n5
          · refine hR _ (hR _ (am_brc (rg := am_in n) (P := 0 ≤ n) (A := R (44, [some (aR 8 0), some (aI sa), some (aI so), some (aI n), none], [], M)) (B := R (41, [some (aR 8 0), some (aI sa), some (aI so), some (aI n), none], [], M)) (by omega) (fun c38 => ?_) (fun c38 => ?_)))
            · obtain ⟨s, rfl, hs4⟩ : ∃ s : Nat, sa = (s : Int) ∧ s < 4 := ⟨sa.toNat, by omega, by omega⟩
              show R (44, [some (aR 8 0), some (aI ((s : Nat) : Int)), some (aI so), some (aI n), none], [], M)
              refine hR _ (hR _ (hR _ (hR _ (?_))))
              show R (50, [some (aR 8 0), some (aI ((s : Nat) : Int)), some (aI so), some (aI n), none], [aI so, aI ((s : Nat) : Int), aR 31 0], M)
              refine hR _ ⟨(show 0 ≤ (((s : Nat) : Int) : Int) ∧ (((s : Nat) : Int) : Int) < 4 from (by omega)), ?_⟩
              show R (51, [some (aR 8 0), some (aI ((s : Nat) : Int)), some (aI so), some (aI n), none], [], am_wr M 31 0 s so)
              refine hR _ (hR _ (hR _ (hR _ (hR _ (hR _ (am_brc (rg := am_in so ∧ am_in (-1)) (P := so ≠ (-1)) (A := R (65, [some (aR 8 0), some (aI ((s : Nat) : Int)), some (aI so), some (aI n), none], [aI ((s : Nat) : Int), aR 32 0], am_wr M 31 0 s so)) (B := R (61, [some (aR 8 0), some (aI ((s : Nat) : Int)), some (aI so), some (aI n), none], [aI ((s : Nat) : Int), aR 32 0], am_wr M 31 0 s so)) (by omega) (fun c58 => ?_) (fun c58 => ?_)))))))
              · refine hR _ (?_)
                show R (66, [some (aR 8 0), some (aI ((s : Nat) : Int)), some (aI so), some (aI n), none], [aI n, aI ((s : Nat) : Int), aR 32 0], am_wr M 31 0 s so)
                refine hR _ ⟨(show 0 ≤ (((s : Nat) : Int) : Int) ∧ (((s : Nat) : Int) : Int) < 4 from (by omega)), ?_⟩
                show R (67, [some (aR 8 0), some (aI ((s : Nat) : Int)), some (aI so), some (aI n), none], [], am_wr (am_wr M 31 0 s so) 32 0 s n)
                refine hR _ (hR _ (?_))
                show R (70, [some (aR 8 0), some (aI ((s : Nat) : Int)), some (aI so), some (aI n), some (aI 0)], [], am_wr (am_wr M 31 0 s so) 32 0 s n)
                have key : ∀ (f i : Nat) (x : Int) (g : am_M), x = (i : Int) → i + f = 40 → g 31 0 s = so → g 32 0 s = (if so = -1 then 0 else n) → (∀ j, j < i → g 33 0 (40 * s + j) = 0) → (∀ q, q ≠ s → g 31 0 q = M 31 0 q ∧ g 32 0 q = M 32 0 q) → (∀ j, j < 40 * s ∨ 40 * s + 40 ≤ j → g 33 0 j = M 33 0 j) → R (70, [some (aR 8 0), some (aI ((s : Nat) : Int)), some (aI so), some (aI n), some (aI x)], [], am_mix [31, 32, 33] g M) := by
                  intro f
                  induction f with
                  | zero =>
                    intro i x g hx hin h1 h2 h3 h4 h5
                    subst hx
                    refine hR _ (hR _ (hR _ (am_brt (rg := am_in ((i : Nat) : Int) ∧ am_in 40) (P := 40 ≤ ((i : Nat) : Int)) (A := R (96, [some (aR 8 0), some (aI ((s : Nat) : Int)), some (aI so), some (aI n), some (aI ((i : Nat) : Int))], [], am_mix [31, 32, 33] g M)) (B := R (77, [some (aR 8 0), some (aI ((s : Nat) : Int)), some (aI so), some (aI n), some (aI ((i : Nat) : Int))], [], am_mix [31, 32, 33] g M)) (by omega) (by omega) ?_)))
                    show R (96, [some (aR 8 0), some (aI ((s : Nat) : Int)), some (aI so), some (aI n), some (aI ((i : Nat) : Int))], [], am_mix [31, 32, 33] g M)
                    refine hR _ (?_)
                    show R (97, [some (aR 8 0), some (aI ((s : Nat) : Int)), some (aI so), some (aI n), some (aI ((i : Nat) : Int))], [aI 1], am_mix [31, 32, 33] g M)
                    refine hR _ (show K (some (aI 1)) (am_mix [31, 32, 33] g M) from ?_)
                    exact hK1 s rfl hs4 (by omega) (by omega) g h1 h2 (fun j hj => h3 j (by omega)) h4 h5
                  | succ f ih =>
                    intro i x g hx hin h1 h2 h3 h4 h5
                    subst hx
                    refine hR _ (hR _ (hR _ (am_brf (rg := am_in ((i : Nat) : Int) ∧ am_in 40) (P := 40 ≤ ((i : Nat) : Int)) (A := R (96, [some (aR 8 0), some (aI ((s : Nat) : Int)), some (aI so), some (aI n), some (aI ((i : Nat) : Int))], [], am_mix [31, 32, 33] g M)) (B := R (77, [some (aR 8 0), some (aI ((s : Nat) : Int)), some (aI so), some (aI n), some (aI ((i : Nat) : Int))], [], am_mix [31, 32, 33] g M)) (by omega) (by omega) ?_)))
                    show R (77, [some (aR 8 0), some (aI ((s : Nat) : Int)), some (aI so), some (aI n), some (aI ((i : Nat) : Int))], [], am_mix [31, 32, 33] g M)
                    refine hR _ (hR _ (hR _ (hR _ (hR _ (hR _ (hR _ (hR _ (?_))))))))
                    show R (89, [some (aR 8 0), some (aI ((s : Nat) : Int)), some (aI so), some (aI n), some (aI ((i : Nat) : Int))], [aI 0, aI ((40 * ((s : Nat) : Int)) + ((i : Nat) : Int)), aR 33 0], am_mix [31, 32, 33] g M)
                    refine hR _ ⟨(show 0 ≤ (((40 * ((s : Nat) : Int)) + ((i : Nat) : Int)) : Int) ∧ (((40 * ((s : Nat) : Int)) + ((i : Nat) : Int)) : Int) < 160 from (by omega)), ?_⟩
                    show R (90, [some (aR 8 0), some (aI ((s : Nat) : Int)), some (aI so), some (aI n), some (aI ((i : Nat) : Int))], [], am_wr (am_mix [31, 32, 33] g M) 33 0 ((((40 * ((s : Nat) : Int)) + ((i : Nat) : Int))).toNat) 0)
                    refine hR _ (hR _ (?_))
                    show R (70, [some (aR 8 0), some (aI ((s : Nat) : Int)), some (aI so), some (aI n), some (aI (((i : Nat) : Int) + 1))], [], am_wr (am_mix [31, 32, 33] g M) 33 0 ((((40 * ((s : Nat) : Int)) + ((i : Nat) : Int))).toNat) 0)
                    rw [show ((((40 * ((s : Nat) : Int)) + ((i : Nat) : Int))).toNat) = 40 * s + i by omega]
                    have e9 : am_ag [31, 32, 33] M (am_wr (am_mix [31, 32, 33] g M) 33 0 (40 * s + i) 0) := (am_ag.rf.mix rfl).wr rfl
                    have n3 : ∀ j, j < i + 1 → (am_wr (am_mix [31, 32, 33] g M) 33 0 (40 * s + i) 0) 33 0 (40 * s + j) = 0 := by
                      intro j hj
                      by_cases e : j = i
                      · rw [e]
                        exact am_wr_eq
                      · exact (am_wr_ne (Or.inr (Or.inr (by omega)))).trans (h3 j (by omega))
                    have n5 : ∀ j, j < 40 * s ∨ 40 * s + 40 ≤ j → (am_wr (am_mix [31, 32, 33] g M) 33 0 (40 * s + i) 0) 33 0 j = M 33 0 j := fun j hj => (am_wr_ne (Or.inr (Or.inr (by omega)))).trans (h5 j hj)
                    have n1 : (am_wr (am_mix [31, 32, 33] g M) 33 0 (40 * s + i) 0) 31 0 s = so := h1
                    have n2 : (am_wr (am_mix [31, 32, 33] g M) 33 0 (40 * s + i) 0) 32 0 s = (if so = -1 then 0 else n) := h2
                    have n4 : ∀ q, q ≠ s → (am_wr (am_mix [31, 32, 33] g M) 33 0 (40 * s + i) 0) 31 0 q = M 31 0 q ∧ (am_wr (am_mix [31, 32, 33] g M) 33 0 (40 * s + i) 0) 32 0 q = M 32 0 q := h4
                    rw [e9.eq] at n1 n2 n3 n4 n5 ⊢
                    exact ih (i + 1) _ _ (by omega) (by omega) n1 n2 n3 n4 n5
                have e9 : am_ag [31, 32, 33] M (am_wr (am_wr M 31 0 s so) 32 0 s n) := ((am_ag.rf).wr rfl).wr rfl
                have n1 : (am_wr (am_wr M 31 0 s so) 32 0 s n) 31 0 s = so := (am_wr_ne (Or.inl (by decide))).trans am_wr_eq
                have n2 : (am_wr (am_wr M 31 0 s so) 32 0 s n) 32 0 s = (if so = -1 then 0 else n) := am_wr_eq.trans (by split <;> omega)
                have n4 : ∀ q, q ≠ s → (am_wr (am_wr M 31 0 s so) 32 0 s n) 31 0 q = M 31 0 q ∧ (am_wr (am_wr M 31 0 s so) 32 0 s n) 32 0 q = M 32 0 q := fun q hq => ⟨(am_wr_ne (Or.inl (by decide))).trans (am_wr_ne (Or.inr (Or.inr hq))), (am_wr_ne (Or.inr (Or.inr hq))).trans (am_wr_ne (Or.inl (by decide)))⟩
                have n5 : ∀ j, j < 40 * s ∨ 40 * s + 40 ≤ j → (am_wr (am_wr M 31 0 s so) 32 0 s n) 33 0 j = M 33 0 j := fun j hj => rfl
                rw [e9.eq] at n1 n2 n4 n5 ⊢
                exact key 40 0 _ _ rfl rfl n1 n2 (fun j hj => absurd hj (Nat.not_lt_zero j)) n4 n5
              · refine hR _ (hR _ (?_))
                show R (66, [some (aR 8 0), some (aI ((s : Nat) : Int)), some (aI so), some (aI n), none], [aI 0, aI ((s : Nat) : Int), aR 32 0], am_wr M 31 0 s so)
                refine hR _ ⟨(show 0 ≤ (((s : Nat) : Int) : Int) ∧ (((s : Nat) : Int) : Int) < 4 from (by omega)), ?_⟩
                show R (67, [some (aR 8 0), some (aI ((s : Nat) : Int)), some (aI so), some (aI n), none], [], am_wr (am_wr M 31 0 s so) 32 0 s 0)
                refine hR _ (hR _ (?_))
                show R (70, [some (aR 8 0), some (aI ((s : Nat) : Int)), some (aI so), some (aI n), some (aI 0)], [], am_wr (am_wr M 31 0 s so) 32 0 s 0)
                have key : ∀ (f i : Nat) (x : Int) (g : am_M), x = (i : Int) → i + f = 40 → g 31 0 s = so → g 32 0 s = (if so = -1 then 0 else n) → (∀ j, j < i → g 33 0 (40 * s + j) = 0) → (∀ q, q ≠ s → g 31 0 q = M 31 0 q ∧ g 32 0 q = M 32 0 q) → (∀ j, j < 40 * s ∨ 40 * s + 40 ≤ j → g 33 0 j = M 33 0 j) → R (70, [some (aR 8 0), some (aI ((s : Nat) : Int)), some (aI so), some (aI n), some (aI x)], [], am_mix [31, 32, 33] g M) := by
                  intro f
                  induction f with
                  | zero =>
                    intro i x g hx hin h1 h2 h3 h4 h5
                    subst hx
                    refine hR _ (hR _ (hR _ (am_brt (rg := am_in ((i : Nat) : Int) ∧ am_in 40) (P := 40 ≤ ((i : Nat) : Int)) (A := R (96, [some (aR 8 0), some (aI ((s : Nat) : Int)), some (aI so), some (aI n), some (aI ((i : Nat) : Int))], [], am_mix [31, 32, 33] g M)) (B := R (77, [some (aR 8 0), some (aI ((s : Nat) : Int)), some (aI so), some (aI n), some (aI ((i : Nat) : Int))], [], am_mix [31, 32, 33] g M)) (by omega) (by omega) ?_)))
                    show R (96, [some (aR 8 0), some (aI ((s : Nat) : Int)), some (aI so), some (aI n), some (aI ((i : Nat) : Int))], [], am_mix [31, 32, 33] g M)
                    refine hR _ (?_)
                    show R (97, [some (aR 8 0), some (aI ((s : Nat) : Int)), some (aI so), some (aI n), some (aI ((i : Nat) : Int))], [aI 1], am_mix [31, 32, 33] g M)
                    refine hR _ (show K (some (aI 1)) (am_mix [31, 32, 33] g M) from ?_)
                    exact hK1 s rfl hs4 (by omega) (by omega) g h1 h2 (fun j hj => h3 j (by omega)) h4 h5
                  | succ f ih =>
                    intro i x g hx hin h1 h2 h3 h4 h5
                    subst hx
                    refine hR _ (hR _ (hR _ (am_brf (rg := am_in ((i : Nat) : Int) ∧ am_in 40) (P := 40 ≤ ((i : Nat) : Int)) (A := R (96, [some (aR 8 0), some (aI ((s : Nat) : Int)), some (aI so), some (aI n), some (aI ((i : Nat) : Int))], [], am_mix [31, 32, 33] g M)) (B := R (77, [some (aR 8 0), some (aI ((s : Nat) : Int)), some (aI so), some (aI n), some (aI ((i : Nat) : Int))], [], am_mix [31, 32, 33] g M)) (by omega) (by omega) ?_)))
                    show R (77, [some (aR 8 0), some (aI ((s : Nat) : Int)), some (aI so), some (aI n), some (aI ((i : Nat) : Int))], [], am_mix [31, 32, 33] g M)
                    refine hR _ (hR _ (hR _ (hR _ (hR _ (hR _ (hR _ (hR _ (?_))))))))
                    show R (89, [some (aR 8 0), some (aI ((s : Nat) : Int)), some (aI so), some (aI n), some (aI ((i : Nat) : Int))], [aI 0, aI ((40 * ((s : Nat) : Int)) + ((i : Nat) : Int)), aR 33 0], am_mix [31, 32, 33] g M)
                    refine hR _ ⟨(show 0 ≤ (((40 * ((s : Nat) : Int)) + ((i : Nat) : Int)) : Int) ∧ (((40 * ((s : Nat) : Int)) + ((i : Nat) : Int)) : Int) < 160 from (by omega)), ?_⟩
                    show R (90, [some (aR 8 0), some (aI ((s : Nat) : Int)), some (aI so), some (aI n), some (aI ((i : Nat) : Int))], [], am_wr (am_mix [31, 32, 33] g M) 33 0 ((((40 * ((s : Nat) : Int)) + ((i : Nat) : Int))).toNat) 0)
                    refine hR _ (hR _ (?_))
                    show R (70, [some (aR 8 0), some (aI ((s : Nat) : Int)), some (aI so), some (aI n), some (aI (((i : Nat) : Int) + 1))], [], am_wr (am_mix [31, 32, 33] g M) 33 0 ((((40 * ((s : Nat) : Int)) + ((i : Nat) : Int))).toNat) 0)
                    rw [show ((((40 * ((s : Nat) : Int)) + ((i : Nat) : Int))).toNat) = 40 * s + i by omega]
                    have e9 : am_ag [31, 32, 33] M (am_wr (am_mix [31, 32, 33] g M) 33 0 (40 * s + i) 0) := (am_ag.rf.mix rfl).wr rfl
                    have n3 : ∀ j, j < i + 1 → (am_wr (am_mix [31, 32, 33] g M) 33 0 (40 * s + i) 0) 33 0 (40 * s + j) = 0 := by
                      intro j hj
                      by_cases e : j = i
                      · rw [e]
                        exact am_wr_eq
                      · exact (am_wr_ne (Or.inr (Or.inr (by omega)))).trans (h3 j (by omega))
                    have n5 : ∀ j, j < 40 * s ∨ 40 * s + 40 ≤ j → (am_wr (am_mix [31, 32, 33] g M) 33 0 (40 * s + i) 0) 33 0 j = M 33 0 j := fun j hj => (am_wr_ne (Or.inr (Or.inr (by omega)))).trans (h5 j hj)
                    have n1 : (am_wr (am_mix [31, 32, 33] g M) 33 0 (40 * s + i) 0) 31 0 s = so := h1
                    have n2 : (am_wr (am_mix [31, 32, 33] g M) 33 0 (40 * s + i) 0) 32 0 s = (if so = -1 then 0 else n) := h2
                    have n4 : ∀ q, q ≠ s → (am_wr (am_mix [31, 32, 33] g M) 33 0 (40 * s + i) 0) 31 0 q = M 31 0 q ∧ (am_wr (am_mix [31, 32, 33] g M) 33 0 (40 * s + i) 0) 32 0 q = M 32 0 q := h4
                    rw [e9.eq] at n1 n2 n3 n4 n5 ⊢
                    exact ih (i + 1) _ _ (by omega) (by omega) n1 n2 n3 n4 n5
                have e9 : am_ag [31, 32, 33] M (am_wr (am_wr M 31 0 s so) 32 0 s 0) := ((am_ag.rf).wr rfl).wr rfl
                have n1 : (am_wr (am_wr M 31 0 s so) 32 0 s 0) 31 0 s = so := (am_wr_ne (Or.inl (by decide))).trans am_wr_eq
                have n2 : (am_wr (am_wr M 31 0 s so) 32 0 s 0) 32 0 s = (if so = -1 then 0 else n) := am_wr_eq.trans (by split <;> omega)
                have n4 : ∀ q, q ≠ s → (am_wr (am_wr M 31 0 s so) 32 0 s 0) 31 0 q = M 31 0 q ∧ (am_wr (am_wr M 31 0 s so) 32 0 s 0) 32 0 q = M 32 0 q := fun q hq => ⟨(am_wr_ne (Or.inl (by decide))).trans (am_wr_ne (Or.inr (Or.inr hq))), (am_wr_ne (Or.inr (Or.inr hq))).trans (am_wr_ne (Or.inl (by decide)))⟩
                have n5 : ∀ j, j < 40 * s ∨ 40 * s + 40 ≤ j → (am_wr (am_wr M 31 0 s so) 32 0 s 0) 33 0 j = M 33 0 j := fun j hj => rfl
                rw [e9.eq] at n1 n2 n4 n5 ⊢
                exact key 40 0 _ _ rfl rfl n1 n2 (fun j hj => absurd hj (Nat.not_lt_zero j)) n4 n5
            · refine hR _ (?_)
              show R (43, [some (aR 8 0), some (aI sa), some (aI so), some (aI n), none], [aI (-14)], M)
              refine hR _ (show K (some (aI (-14))) M from ?_)
              refine am_kr (hK0 (by omega)) ?_
              split
              all_goals omega
        · refine hR _ (?_)
          show R (31, [some (aR 8 0), some (aI sa), some (aI so), some (aI n), none], [aI (-2)], M)
          refine hR _ (show K (some (aI (-2))) M from ?_)
          refine am_kr (hK0 (by omega)) ?_
          split
          all_goals omega
    · show R (15, [some (aR 8 0), some (aI sa), some (aI so), some (aI n), none], [aI 0], M)
      refine hR _ (am_brt (rg := am_in 0) (P := (0 : Int) = 0) (A := R (29, [some (aR 8 0), some (aI sa), some (aI so), some (aI n), none], [], M)) (B := R (18, [some (aR 8 0), some (aI sa), some (aI so), some (aI n), none], [], M)) (by omega) (by omega) ?_)
      show R (29, [some (aR 8 0), some (aI sa), some (aI so), some (aI n), none], [], M)
      refine hR _ (?_)
      show R (31, [some (aR 8 0), some (aI sa), some (aI so), some (aI n), none], [aI (-2)], M)
      refine hR _ (show K (some (aI (-2))) M from ?_)
      refine am_kr (hK0 (by omega)) ?_
      split
      all_goals omega
  · show R (6, [some (aR 8 0), some (aI sa), some (aI so), some (aI n), none], [aI 0], M)
    refine hR _ (am_brt (rg := am_in 0) (P := (0 : Int) = 0) (A := R (29, [some (aR 8 0), some (aI sa), some (aI so), some (aI n), none], [], M)) (B := R (9, [some (aR 8 0), some (aI sa), some (aI so), some (aI n), none], [], M)) (by omega) (by omega) ?_)
    show R (29, [some (aR 8 0), some (aI sa), some (aI so), some (aI n), none], [], M)
    refine hR _ (?_)
    show R (31, [some (aR 8 0), some (aI sa), some (aI so), some (aI n), none], [aI (-2)], M)
    refine hR _ (show K (some (aI (-2))) M from ?_)
    refine am_kr (hK0 (by omega)) ?_
    split
    all_goals omega

theorem sm_cell {d : Nat} (hd : 2 ≤ d) {sa i v : Int} {M : am_M} {K : am_K} (hso : ∀ q : Nat, q < 4 → (-1 ≤ M 31 0 q ∧ M 31 0 q ≤ 2) ∧ 0 ≤ M 32 0 q ∧ M 32 0 q ≤ 40) (ha_s : am_in sa) (ha_i : am_in i) (ha_v : am_in v) (hK1 : ∀ s : Nat, sa = s → s < 4 → M 31 0 s ≠ -1 → 0 ≤ i ∧ i < M 32 0 s → K (some (aI 1)) (am_wr M 33 0 (40 * s + i.toNat) (jf_put (M 31 0 s) v))) (hK0 : ¬ ((0 ≤ sa ∧ sa < 4) ∧ M 31 0 sa.toNat ≠ -1 ∧ 0 ≤ i ∧ i < M 32 0 sa.toNat) → K (some (aI (if 0 ≤ sa ∧ sa < 4 then (if M 31 0 sa.toNat = -1 then -11 else -12) else -2))) M) : am_Call true d 200 [aR 8 0, aI sa, aI i, aI v] M K := by
  obtain ⟨d, rfl⟩ : ∃ e, d = e + 1 := ⟨d - 1, by omega⟩
  refine ⟨rfl, fun R hR hC => ?_⟩
  replace hR : ∀ c, am_F true tb_f200 1 (am_Call true d) K R c → R c := hR
  show R (0, [some (aR 8 0), some (aI sa), some (aI i), some (aI v)], [], M)
  refine hR _ (hR _ (hR _ (?_)))
  show R (3, [some (aR 8 0), some (aI sa), some (aI i), some (aI v)], [aI 3, aI 0, aI sa], M)
  refine hR _ (sp_in (by omega) (by omega) (fun h3 => ?_) (fun h3 => ?_))
  · show R (6, [some (aR 8 0), some (aI sa), some (aI i), some (aI v)], [aI 1], M)
    refine hR _ (am_brt (rg := am_in 1) (P := (1 : Int) ≠ 0) (A := R (12, [some (aR 8 0), some (aI sa), some (aI i), some (aI v)], [], M)) (B := R (9, [some (aR 8 0), some (aI sa), some (aI i), some (aI v)], [], M)) (by omega) (by omega) ?_)
    show R (12, [some (aR 8 0), some (aI sa), some (aI i), some (aI v)], [], M)
    obtain ⟨s, rfl, hs4⟩ : ∃ s : Nat, sa = (s : Int) ∧ s < 4 := ⟨sa.toNat, by omega, by omega⟩
    have hss := hso s hs4
    show R (12, [some (aR 8 0), some (aI ((s : Nat) : Int)), some (aI i), some (aI v)], [], M)
    refine hR _ (hR _ (hR _ (?_)))
    show R (17, [some (aR 8 0), some (aI ((s : Nat) : Int)), some (aI i), some (aI v)], [aI ((s : Nat) : Int), aR 31 0], M)
    refine hR _ ⟨(show 0 ≤ (((s : Nat) : Int) : Int) ∧ (((s : Nat) : Int) : Int) < 4 from (by omega)), ?_⟩
    show R (18, [some (aR 8 0), some (aI ((s : Nat) : Int)), some (aI i), some (aI v)], [aI (M 31 0 s)], M)
    refine hR _ (hR _ (am_brc (rg := am_in (M 31 0 s) ∧ am_in (-1)) (P := M 31 0 s ≠ (-1)) (A := R (25, [some (aR 8 0), some (aI ((s : Nat) : Int)), some (aI i), some (aI v)], [], M)) (B := R (22, [some (aR 8 0), some (aI ((s : Nat) : Int)), some (aI i), some (aI v)], [], M)) (by omega) (fun c19 => ?_) (fun c19 => ?_)))
    · refine hR _ (hR _ (hR _ (hR _ (hR _ (?_)))))
      show R (32, [some (aR 8 0), some (aI ((s : Nat) : Int)), some (aI i), some (aI v)], [aI ((s : Nat) : Int), aR 32 0, aI 0, aI i], M)
      refine hR _ ⟨(show 0 ≤ (((s : Nat) : Int) : Int) ∧ (((s : Nat) : Int) : Int) < 4 from (by omega)), ?_⟩
      show R (33, [some (aR 8 0), some (aI ((s : Nat) : Int)), some (aI i), some (aI v)], [aI (M 32 0 s), aI 0, aI i], M)
      refine hR _ (hR _ (?_))
      show R (35, [some (aR 8 0), some (aI ((s : Nat) : Int)), some (aI i), some (aI v)], [aI (M 32 0 s - 1), aI 0, aI i], M)
      refine hR _ (sp_in (by omega) (by omega) (fun h35 => ?_) (fun h35 => ?_))
      · show R (38, [some (aR 8 0), some (aI ((s : Nat) : Int)), some (aI i), some (aI v)], [aI 1], M)
        refine hR _ (am_brt (rg := am_in 1) (P := (1 : Int) ≠ 0) (A := R (44, [some (aR 8 0), some (aI ((s : Nat) : Int)), some (aI i), some (aI v)], [], M)) (B := R (41, [some (aR 8 0), some (aI ((s : Nat) : Int)), some (aI i), some (aI v)], [], M)) (by omega) (by omega) ?_)
        show R (44, [some (aR 8 0), some (aI ((s : Nat) : Int)), some (aI i), some (aI v)], [], M)
        refine hR _ (hR _ (hR _ (hR _ (hR _ (hR _ (hR _ (hR _ (hR _ (hR _ (?_))))))))))
        show R (59, [some (aR 8 0), some (aI ((s : Nat) : Int)), some (aI i), some (aI v)], [aI ((s : Nat) : Int), aR 31 0, aI ((40 * ((s : Nat) : Int)) + i), aR 33 0], M)
        refine hR _ ⟨(show 0 ≤ (((s : Nat) : Int) : Int) ∧ (((s : Nat) : Int) : Int) < 4 from (by omega)), ?_⟩
        show R (60, [some (aR 8 0), some (aI ((s : Nat) : Int)), some (aI i), some (aI v)], [aI (M 31 0 s), aI ((40 * ((s : Nat) : Int)) + i), aR 33 0], M)
        refine hR _ (am_brc (rg := am_in (M 31 0 s)) (P := M 31 0 s ≠ 0) (A := R (68, [some (aR 8 0), some (aI ((s : Nat) : Int)), some (aI i), some (aI v)], [aI ((40 * ((s : Nat) : Int)) + i), aR 33 0], M)) (B := R (63, [some (aR 8 0), some (aI ((s : Nat) : Int)), some (aI i), some (aI v)], [aI ((40 * ((s : Nat) : Int)) + i), aR 33 0], M)) (by omega) (fun c60 => ?_) (fun c60 => ?_))
        · refine hR _ (hR _ (hR _ (?_)))
          show R (73, [some (aR 8 0), some (aI ((s : Nat) : Int)), some (aI i), some (aI v)], [aI ((s : Nat) : Int), aR 31 0, aI ((40 * ((s : Nat) : Int)) + i), aR 33 0], M)
          refine hR _ ⟨(show 0 ≤ (((s : Nat) : Int) : Int) ∧ (((s : Nat) : Int) : Int) < 4 from (by omega)), ?_⟩
          show R (74, [some (aR 8 0), some (aI ((s : Nat) : Int)), some (aI i), some (aI v)], [aI (M 31 0 s), aI ((40 * ((s : Nat) : Int)) + i), aR 33 0], M)
          refine hR _ (hR _ (am_brc (rg := am_in (M 31 0 s) ∧ am_in 1) (P := M 31 0 s ≠ 1) (A := R (83, [some (aR 8 0), some (aI ((s : Nat) : Int)), some (aI i), some (aI v)], [aI ((40 * ((s : Nat) : Int)) + i), aR 33 0], M)) (B := R (78, [some (aR 8 0), some (aI ((s : Nat) : Int)), some (aI i), some (aI v)], [aI ((40 * ((s : Nat) : Int)) + i), aR 33 0], M)) (by omega) (fun c75 => ?_) (fun c75 => ?_)))
          · refine hR _ (?_)
            show R (84, [some (aR 8 0), some (aI ((s : Nat) : Int)), some (aI i), some (aI v)], [aI v, aI ((40 * ((s : Nat) : Int)) + i), aR 33 0], M)
            refine hR _ ⟨(show 0 ≤ (((40 * ((s : Nat) : Int)) + i) : Int) ∧ (((40 * ((s : Nat) : Int)) + i) : Int) < 160 from (by omega)), ?_⟩
            show R (85, [some (aR 8 0), some (aI ((s : Nat) : Int)), some (aI i), some (aI v)], [], am_wr M 33 0 ((((40 * ((s : Nat) : Int)) + i)).toNat) v)
            refine hR _ (?_)
            show R (86, [some (aR 8 0), some (aI ((s : Nat) : Int)), some (aI i), some (aI v)], [aI 1], am_wr M 33 0 ((((40 * ((s : Nat) : Int)) + i)).toNat) v)
            refine hR _ (show K (some (aI 1)) (am_wr M 33 0 ((((40 * ((s : Nat) : Int)) + i)).toNat) v) from ?_)
            rw [show ((((40 * ((s : Nat) : Int)) + i)).toNat) = 40 * s + i.toNat by omega]
            have hpt : jf_put (M 31 0 s) v = v := by
              unfold jf_put
              repeat' split
              all_goals first | rfl | (exfalso; omega)
            rw [← hpt]
            exact hK1 s rfl hs4 (by omega) (by omega)
          · refine hR _ (hR _ (hR _ (?_)))
            show R (84, [some (aR 8 0), some (aI ((s : Nat) : Int)), some (aI i), some (aI v)], [aI (am_i2s v), aI ((40 * ((s : Nat) : Int)) + i), aR 33 0], M)
            refine hR _ ⟨(show 0 ≤ (((40 * ((s : Nat) : Int)) + i) : Int) ∧ (((40 * ((s : Nat) : Int)) + i) : Int) < 160 from (by omega)), ?_⟩
            show R (85, [some (aR 8 0), some (aI ((s : Nat) : Int)), some (aI i), some (aI v)], [], am_wr M 33 0 ((((40 * ((s : Nat) : Int)) + i)).toNat) (am_i2s v))
            refine hR _ (?_)
            show R (86, [some (aR 8 0), some (aI ((s : Nat) : Int)), some (aI i), some (aI v)], [aI 1], am_wr M 33 0 ((((40 * ((s : Nat) : Int)) + i)).toNat) (am_i2s v))
            refine hR _ (show K (some (aI 1)) (am_wr M 33 0 ((((40 * ((s : Nat) : Int)) + i)).toNat) (am_i2s v)) from ?_)
            rw [show ((((40 * ((s : Nat) : Int)) + i)).toNat) = 40 * s + i.toNat by omega]
            have hpt : jf_put (M 31 0 s) v = (am_i2s v) := by
              unfold jf_put
              repeat' split
              all_goals first | rfl | (exfalso; omega)
            rw [← hpt]
            exact hK1 s rfl hs4 (by omega) (by omega)
        · refine hR _ (hR _ (hR _ (?_)))
          show R (84, [some (aR 8 0), some (aI ((s : Nat) : Int)), some (aI i), some (aI v)], [aI (am_i2b v), aI ((40 * ((s : Nat) : Int)) + i), aR 33 0], M)
          refine hR _ ⟨(show 0 ≤ (((40 * ((s : Nat) : Int)) + i) : Int) ∧ (((40 * ((s : Nat) : Int)) + i) : Int) < 160 from (by omega)), ?_⟩
          show R (85, [some (aR 8 0), some (aI ((s : Nat) : Int)), some (aI i), some (aI v)], [], am_wr M 33 0 ((((40 * ((s : Nat) : Int)) + i)).toNat) (am_i2b v))
          refine hR _ (?_)
          show R (86, [some (aR 8 0), some (aI ((s : Nat) : Int)), some (aI i), some (aI v)], [aI 1], am_wr M 33 0 ((((40 * ((s : Nat) : Int)) + i)).toNat) (am_i2b v))
          refine hR _ (show K (some (aI 1)) (am_wr M 33 0 ((((40 * ((s : Nat) : Int)) + i)).toNat) (am_i2b v)) from ?_)
          rw [show ((((40 * ((s : Nat) : Int)) + i)).toNat) = 40 * s + i.toNat by omega]
          have hpt : jf_put (M 31 0 s) v = (am_i2b v) := by
            unfold jf_put
            repeat' split
            all_goals first | rfl | (exfalso; omega)
          rw [← hpt]
          exact hK1 s rfl hs4 (by omega) (by omega)
      · show R (38, [some (aR 8 0), some (aI ((s : Nat) : Int)), some (aI i), some (aI v)], [aI 0], M)
        refine hR _ (am_brf (rg := am_in 0) (P := (0 : Int) ≠ 0) (A := R (44, [some (aR 8 0), some (aI ((s : Nat) : Int)), some (aI i), some (aI v)], [], M)) (B := R (41, [some (aR 8 0), some (aI ((s : Nat) : Int)), some (aI i), some (aI v)], [], M)) (by omega) (by omega) ?_)
        show R (41, [some (aR 8 0), some (aI ((s : Nat) : Int)), some (aI i), some (aI v)], [], M)
        refine hR _ (?_)
        show R (43, [some (aR 8 0), some (aI ((s : Nat) : Int)), some (aI i), some (aI v)], [aI (-12)], M)
        refine hR _ (show K (some (aI (-12))) M from ?_)
        simp only [Int.toNat_natCast] at hK0
        refine am_kr (hK0 (by omega)) ?_
        repeat' split
        all_goals omega
    · refine hR _ (?_)
      show R (24, [some (aR 8 0), some (aI ((s : Nat) : Int)), some (aI i), some (aI v)], [aI (-11)], M)
      refine hR _ (show K (some (aI (-11))) M from ?_)
      simp only [Int.toNat_natCast] at hK0
      refine am_kr (hK0 (by omega)) ?_
      repeat' split
      all_goals omega
  · show R (6, [some (aR 8 0), some (aI sa), some (aI i), some (aI v)], [aI 0], M)
    refine hR _ (am_brf (rg := am_in 0) (P := (0 : Int) ≠ 0) (A := R (12, [some (aR 8 0), some (aI sa), some (aI i), some (aI v)], [], M)) (B := R (9, [some (aR 8 0), some (aI sa), some (aI i), some (aI v)], [], M)) (by omega) (by omega) ?_)
    show R (9, [some (aR 8 0), some (aI sa), some (aI i), some (aI v)], [], M)
    refine hR _ (?_)
    show R (11, [some (aR 8 0), some (aI sa), some (aI i), some (aI v)], [aI (-2)], M)
    refine hR _ (show K (some (aI (-2))) M from ?_)
    refine am_kr (hK0 (by omega)) ?_
    repeat' split
    all_goals omega
