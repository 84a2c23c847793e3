/-! wb -/
/-! THE REFERENCE: its other calls -/

theorem sm_count {d : Nat} (hd : 2 ≤ d) {w : Int} {M : am_M} {K : am_K} (hJ : jf_J M) (hW : jf_C M) (ha_w : am_in w) (hK : K (some (aI (jx_count M w))) M) : am_Call true d 135 [aR 8 0, aI w] M K := by
  obtain ⟨d, rfl⟩ : ∃ e, d = e + 1 := ⟨d - 1, by omega⟩
  refine ⟨rfl, fun R hR hC => ?_⟩
  replace hR : ∀ c, am_F true tb_f135 1 (am_Call true d) K R c → R c := hR
  have hn := hJ.1.1.2.2.2.2.2.2.2.1
  have hl0 := hJ.1.1.2.2.2.2.2.2.2.2
  have htc := hJ.2.2.1.1
  have hlt : 0 ≤ M 228 0 0 ∧ M 228 0 0 < 6 := by omega
  have hmk := hJ.1.1.1
  have hdr := hJ.1.1.2.1
  have hpr := hJ.1.1.2.2.1
  have hfu := hJ.1.1.2.2.2.1
  have hn' : 0 ≤ M 421 0 0 ∧ M 421 0 0 ≤ 5 := by rw [hW.1.2.1.1]; exact hn
  have h421 : M 421 0 0 = M 227 0 0 := hW.1.2.1.1
  show R (0, [some (aR 8 0), some (aI w)], [], M)
  refine hR _ (?_)
  show R (1, [some (aR 8 0), some (aI w)], [aI w], M)
  refine hR _ ⟨(by omega), ⟨fun c1 => ?_, fun c1 => ?_, fun c1 => ?_, fun c1 => ?_, fun c1 => ?_, fun c1 => ?_, fun c1 => ?_, fun c1 => ?_, trivial⟩, fun c1 => ?_⟩
  · show R (48, [some (aR 8 0), some (aI w)], [], M)
    refine hR _ (hR _ (?_))
    show R (52, [some (aR 8 0), some (aI w)], [aI (M 421 0 0)], M)
    rw [(show M 421 0 0 = M 227 0 0 from hW.1.2.1.1)]
    show R (52, [some (aR 8 0), some (aI w)], [aI (M 227 0 0)], M)
    refine hR _ (show K (some (aI (M 227 0 0))) M from ?_)
    have hres : jx_count M w = (M 227 0 0) := by
      unfold jx_count
      repeat' split
      all_goals first | omega | rfl
    rw [hres] at hK
    exact hK
  · show R (53, [some (aR 8 0), some (aI w)], [], M)
    refine hR _ (hR _ (hR _ (hR _ (hR _ (?_)))))
    show R (60, [some (aR 8 0), some (aI w)], [aI (w - 1), aR 22 0], M)
    refine hR _ ⟨(show 0 ≤ ((w - 1) : Int) ∧ ((w - 1) : Int) < 4 from (by omega)), ?_⟩
    show R (61, [some (aR 8 0), some (aI w)], [aI (M 22 0 (((w - 1)).toNat))], M)
    refine hR _ (show K (some (aI (M 22 0 (((w - 1)).toNat)))) M from ?_)
    have hw1 : w = 1 ∨ w = 2 ∨ w = 3 ∨ w = 4 := by omega
    have hC1 := hW.1.1
    have hres : jx_count M w = M 22 0 (((w - 1)).toNat) := by
      unfold jx_count
      rcases hw1 with rfl | rfl | rfl | rfl
      · exact hC1.1.symm
      · exact hC1.2.1.symm
      · exact hC1.2.2.1.symm
      · exact hC1.2.2.2.symm
    rw [hres] at hK
    exact hK
  · show R (53, [some (aR 8 0), some (aI w)], [], M)
    refine hR _ (hR _ (hR _ (hR _ (hR _ (?_)))))
    show R (60, [some (aR 8 0), some (aI w)], [aI (w - 1), aR 22 0], M)
    refine hR _ ⟨(show 0 ≤ ((w - 1) : Int) ∧ ((w - 1) : Int) < 4 from (by omega)), ?_⟩
    show R (61, [some (aR 8 0), some (aI w)], [aI (M 22 0 (((w - 1)).toNat))], M)
    refine hR _ (show K (some (aI (M 22 0 (((w - 1)).toNat)))) M from ?_)
    have hw1 : w = 1 ∨ w = 2 ∨ w = 3 ∨ w = 4 := by omega
    have hC1 := hW.1.1
    have hres : jx_count M w = M 22 0 (((w - 1)).toNat) := by
      unfold jx_count
      rcases hw1 with rfl | rfl | rfl | rfl
      · exact hC1.1.symm
      · exact hC1.2.1.symm
      · exact hC1.2.2.1.symm
      · exact hC1.2.2.2.symm
    rw [hres] at hK
    exact hK
  · show R (53, [some (aR 8 0), some (aI w)], [], M)
    refine hR _ (hR _ (hR _ (hR _ (hR _ (?_)))))
    show R (60, [some (aR 8 0), some (aI w)], [aI (w - 1), aR 22 0], M)
    refine hR _ ⟨(show 0 ≤ ((w - 1) : Int) ∧ ((w - 1) : Int) < 4 from (by omega)), ?_⟩
    show R (61, [some (aR 8 0), some (aI w)], [aI (M 22 0 (((w - 1)).toNat))], M)
    refine hR _ (show K (some (aI (M 22 0 (((w - 1)).toNat)))) M from ?_)
    have hw1 : w = 1 ∨ w = 2 ∨ w = 3 ∨ w = 4 := by omega
    have hC1 := hW.1.1
    have hres : jx_count M w = M 22 0 (((w - 1)).toNat) := by
      unfold jx_count
      rcases hw1 with rfl | rfl | rfl | rfl
      · exact hC1.1.symm
      · exact hC1.2.1.symm
      · exact hC1.2.2.1.symm
      · exact hC1.2.2.2.symm
    rw [hres] at hK
    exact hK
  · show R (53, [some (aR 8 0), some (aI w)], [], M)
    refine hR _ (hR _ (hR _ (hR _ (hR _ (?_)))))
    show R (60, [some (aR 8 0), some (aI w)], [aI (w - 1), aR 22 0], M)
    refine hR _ ⟨(show 0 ≤ ((w - 1) : Int) ∧ ((w - 1) : Int) < 4 from (by omega)), ?_⟩
    show R (61, [some (aR 8 0), some (aI w)], [aI (M 22 0 (((w - 1)).toNat))], M)
    refine hR _ (show K (some (aI (M 22 0 (((w - 1)).toNat)))) M from ?_)
    have hw1 : w = 1 ∨ w = 2 ∨ w = 3 ∨ w = 4 := by omega
    have hC1 := hW.1.1
    have hres : jx_count M w = M 22 0 (((w - 1)).toNat) := by
      unfold jx_count
      rcases hw1 with rfl | rfl | rfl | rfl
      · exact hC1.1.symm
      · exact hC1.2.1.symm
      · exact hC1.2.2.1.symm
      · exact hC1.2.2.2.symm
    rw [hres] at hK
    exact hK
  · show R (62, [some (aR 8 0), some (aI w)], [], M)
    refine hR _ (hR _ (?_))
    show R (66, [some (aR 8 0), some (aI w)], [aI (M 430 0 0)], M)
    rw [(show M 430 0 0 = M 386 0 0 from hW.1.2.1.2.1)]
    show R (66, [some (aR 8 0), some (aI w)], [aI (M 386 0 0)], M)
    refine hR _ (show K (some (aI (M 386 0 0))) M from ?_)
    have hres : jx_count M w = (M 386 0 0) := by
      unfold jx_count
      repeat' split
      all_goals first | omega | rfl
    rw [hres] at hK
    exact hK
  · show R (67, [some (aR 8 0), some (aI w)], [], M)
    refine hR _ (hR _ (?_))
    show R (71, [some (aR 8 0), some (aI w)], [aI (M 431 0 0)], M)
    rw [(show M 431 0 0 = M 228 0 0 from hW.1.2.1.2.2.1)]
    show R (71, [some (aR 8 0), some (aI w)], [aI (M 228 0 0)], M)
    refine hR _ (show K (some (aI (M 228 0 0))) M from ?_)
    have hres : jx_count M w = (M 228 0 0) := by
      unfold jx_count
      repeat' split
      all_goals first | omega | rfl
    rw [hres] at hK
    exact hK
  · show R (72, [some (aR 8 0), some (aI w)], [], M)
    refine hR _ (hR _ (?_))
    show R (76, [some (aR 8 0), some (aI w)], [aI (M 427 0 0)], M)
    rw [(show M 427 0 0 = M 301 0 0 from hW.1.2.1.2.2.2)]
    show R (76, [some (aR 8 0), some (aI w)], [aI (M 301 0 0)], M)
    refine hR _ (show K (some (aI (M 301 0 0))) M from ?_)
    have hres : jx_count M w = (M 301 0 0) := by
      unfold jx_count
      repeat' split
      all_goals first | omega | rfl
    rw [hres] at hK
    exact hK
  · show R (77, [some (aR 8 0), some (aI w)], [], M)
    refine hR _ (?_)
    show R (79, [some (aR 8 0), some (aI w)], [aI (-2)], M)
    refine hR _ (show K (some (aI (-2))) M from ?_)
    have hres : jx_count M w = (-2) := by
      unfold jx_count
      repeat' split
      all_goals first | omega | rfl
    rw [hres] at hK
    exact hK

theorem sm_set {d : Nat} (hd : 2 ≤ d) {w v : Int} {M : am_M} {K : am_K} (ha : am_in w) (hb : am_in v) (hK1 : (w = 0 ∧ 1 ≤ v ∧ v ≤ 2000) ∨ (w = 1 ∧ 0 ≤ v ∧ v ≤ 9) ∨ (w = 2 ∧ 1 ≤ v ∧ v ≤ 99) ∨ (w = 3 ∧ 1 ≤ v ∧ v ≤ 5000) → K (some (aI (M 22 0 w.toNat))) (am_wr M 22 0 w.toNat v)) (hK0 : ¬ ((w = 0 ∧ 1 ≤ v ∧ v ≤ 2000) ∨ (w = 1 ∧ 0 ≤ v ∧ v ≤ 9) ∨ (w = 2 ∧ 1 ≤ v ∧ v ≤ 99) ∨ (w = 3 ∧ 1 ≤ v ∧ v ≤ 5000)) → K (some (aI (if 0 ≤ w ∧ w ≤ 3 then -7 else -5))) M) : am_Call true d 136 [aR 8 0, aI w, aI v] M K := by
  obtain ⟨d, rfl⟩ : ∃ e, d = e + 1 := ⟨d - 1, by omega⟩
  refine ⟨rfl, fun R hR hC => ?_⟩
  replace hR : ∀ c, am_F true tb_f136 1 (am_Call true d) K R c → R c := hR
  show R (0, [some (aR 8 0), some (aI w), some (aI v), none], [], M)
  refine hR _ (hR _ (hR _ (?_)))
  show R (3, [some (aR 8 0), some (aI w), some (aI v), none], [aI 3, aI 0, aI w], M)
  refine hR _ (sp_in (by omega) (by omega) (fun h3 => ?_) (fun h3 => ?_))
  · show R (6, [some (aR 8 0), some (aI w), some (aI v), none], [aI 1], M)
    refine hR _ (am_brt (rg := am_in 1) (P := (1 : Int) ≠ 0) (A := R (12, [some (aR 8 0), some (aI w), some (aI v), none], [], M)) (B := R (9, [some (aR 8 0), some (aI w), some (aI v), none], [], M)) (by omega) (by omega) ?_)
    show R (12, [some (aR 8 0), some (aI w), some (aI v), none], [], M)
    refine hR _ (hR _ (hR _ (hR _ (am_brc (rg := am_in w ∧ am_in 1) (P := w ≠ 1) (A := R (22, [some (aR 8 0), some (aI w), some (aI v), none], [aI v], M)) (B := R (18, [some (aR 8 0), some (aI w), some (aI v), none], [aI v], M)) (by omega) (fun c15 => ?_) (fun c15 => ?_)))))
    · refine hR _ (hR _ (hR _ (am_brc (rg := am_in w) (P := w ≠ 0) (A := R (33, [some (aR 8 0), some (aI w), some (aI v), none], [aI 1, aI v], M)) (B := R (27, [some (aR 8 0), some (aI w), some (aI v), none], [aI 1, aI v], M)) (by omega) (fun c24 => ?_) (fun c24 => ?_))))
      · refine hR _ (hR _ (hR _ (am_brc (rg := am_in w ∧ am_in 1) (P := w ≠ 1) (A := R (43, [some (aR 8 0), some (aI w), some (aI v), none], [aI 1, aI v], M)) (B := R (38, [some (aR 8 0), some (aI w), some (aI v), none], [aI 1, aI v], M)) (by omega) (fun c35 => ?_) (fun c35 => ?_))))
        · refine hR _ (hR _ (hR _ (am_brc (rg := am_in w ∧ am_in 2) (P := w ≠ 2) (A := R (53, [some (aR 8 0), some (aI w), some (aI v), none], [aI 1, aI v], M)) (B := R (48, [some (aR 8 0), some (aI w), some (aI v), none], [aI 1, aI v], M)) (by omega) (fun c45 => ?_) (fun c45 => ?_))))
          · refine hR _ (?_)
            show R (56, [some (aR 8 0), some (aI w), some (aI v), none], [aI 5000, aI 1, aI v], M)
            refine hR _ (sp_in (by omega) (by omega) (fun h56 => ?_) (fun h56 => ?_))
            · show R (59, [some (aR 8 0), some (aI w), some (aI v), none], [aI 1], M)
              refine hR _ (am_brt (rg := am_in 1) (P := (1 : Int) ≠ 0) (A := R (65, [some (aR 8 0), some (aI w), some (aI v), none], [], M)) (B := R (62, [some (aR 8 0), some (aI w), some (aI v), none], [], M)) (by omega) (by omega) ?_)
              show R (65, [some (aR 8 0), some (aI w), some (aI v), none], [], M)
              refine hR _ (hR _ (hR _ (?_)))
              show R (70, [some (aR 8 0), some (aI w), some (aI v), none], [aI w, aR 22 0], M)
              refine hR _ ⟨(show 0 ≤ (w : Int) ∧ (w : Int) < 4 from (by omega)), ?_⟩
              show R (71, [some (aR 8 0), some (aI w), some (aI v), none], [aI (M 22 0 ((w).toNat))], M)
              refine hR _ (hR _ (hR _ (hR _ (hR _ (?_)))))
              show R (78, [some (aR 8 0), some (aI w), some (aI v), some (aI (M 22 0 ((w).toNat)))], [aI v, aI w, aR 22 0], M)
              refine hR _ ⟨(show 0 ≤ (w : Int) ∧ (w : Int) < 4 from (by omega)), ?_⟩
              show R (79, [some (aR 8 0), some (aI w), some (aI v), some (aI (M 22 0 ((w).toNat)))], [], am_wr M 22 0 ((w).toNat) v)
              refine hR _ (?_)
              show R (80, [some (aR 8 0), some (aI w), some (aI v), some (aI (M 22 0 ((w).toNat)))], [aI (M 22 0 ((w).toNat))], am_wr M 22 0 ((w).toNat) v)
              refine hR _ (show K (some (aI (M 22 0 ((w).toNat)))) (am_wr M 22 0 ((w).toNat) v) from ?_)
              exact hK1 (by omega)
            · show R (59, [some (aR 8 0), some (aI w), some (aI v), none], [aI 0], M)
              refine hR _ (am_brf (rg := am_in 0) (P := (0 : Int) ≠ 0) (A := R (65, [some (aR 8 0), some (aI w), some (aI v), none], [], M)) (B := R (62, [some (aR 8 0), some (aI w), some (aI v), none], [], M)) (by omega) (by omega) ?_)
              show R (62, [some (aR 8 0), some (aI w), some (aI v), none], [], M)
              refine hR _ (?_)
              show R (64, [some (aR 8 0), some (aI w), some (aI v), none], [aI (-7)], M)
              refine hR _ (show K (some (aI (-7))) M from ?_)
              refine am_kr (hK0 (by omega)) ?_
              split
              all_goals omega
          · refine hR _ (hR _ (?_))
            show R (56, [some (aR 8 0), some (aI w), some (aI v), none], [aI 99, aI 1, aI v], M)
            refine hR _ (sp_in (by omega) (by omega) (fun h56 => ?_) (fun h56 => ?_))
            · show R (59, [some (aR 8 0), some (aI w), some (aI v), none], [aI 1], M)
              refine hR _ (am_brt (rg := am_in 1) (P := (1 : Int) ≠ 0) (A := R (65, [some (aR 8 0), some (aI w), some (aI v), none], [], M)) (B := R (62, [some (aR 8 0), some (aI w), some (aI v), none], [], M)) (by omega) (by omega) ?_)
              show R (65, [some (aR 8 0), some (aI w), some (aI v), none], [], M)
              refine hR _ (hR _ (hR _ (?_)))
              show R (70, [some (aR 8 0), some (aI w), some (aI v), none], [aI w, aR 22 0], M)
              refine hR _ ⟨(show 0 ≤ (w : Int) ∧ (w : Int) < 4 from (by omega)), ?_⟩
              show R (71, [some (aR 8 0), some (aI w), some (aI v), none], [aI (M 22 0 ((w).toNat))], M)
              refine hR _ (hR _ (hR _ (hR _ (hR _ (?_)))))
              show R (78, [some (aR 8 0), some (aI w), some (aI v), some (aI (M 22 0 ((w).toNat)))], [aI v, aI w, aR 22 0], M)
              refine hR _ ⟨(show 0 ≤ (w : Int) ∧ (w : Int) < 4 from (by omega)), ?_⟩
              show R (79, [some (aR 8 0), some (aI w), some (aI v), some (aI (M 22 0 ((w).toNat)))], [], am_wr M 22 0 ((w).toNat) v)
              refine hR _ (?_)
              show R (80, [some (aR 8 0), some (aI w), some (aI v), some (aI (M 22 0 ((w).toNat)))], [aI (M 22 0 ((w).toNat))], am_wr M 22 0 ((w).toNat) v)
              refine hR _ (show K (some (aI (M 22 0 ((w).toNat)))) (am_wr M 22 0 ((w).toNat) v) from ?_)
              exact hK1 (by omega)
            · show R (59, [some (aR 8 0), some (aI w), some (aI v), none], [aI 0], M)
              refine hR _ (am_brf (rg := am_in 0) (P := (0 : Int) ≠ 0) (A := R (65, [some (aR 8 0), some (aI w), some (aI v), none], [], M)) (B := R (62, [some (aR 8 0), some (aI w), some (aI v), none], [], M)) (by omega) (by omega) ?_)
              show R (62, [some (aR 8 0), some (aI w), some (aI v), none], [], M)
              refine hR _ (?_)
              show R (64, [some (aR 8 0), some (aI w), some (aI v), none], [aI (-7)], M)
              refine hR _ (show K (some (aI (-7))) M from ?_)
              refine am_kr (hK0 (by omega)) ?_
              split
              all_goals omega
        · refine hR _ (hR _ (?_))
          show R (56, [some (aR 8 0), some (aI w), some (aI v), none], [aI 9, aI 1, aI v], M)
          refine hR _ (sp_in (by omega) (by omega) (fun h56 => ?_) (fun h56 => ?_))
          · show R (59, [some (aR 8 0), some (aI w), some (aI v), none], [aI 1], M)
            refine hR _ (am_brt (rg := am_in 1) (P := (1 : Int) ≠ 0) (A := R (65, [some (aR 8 0), some (aI w), some (aI v), none], [], M)) (B := R (62, [some (aR 8 0), some (aI w), some (aI v), none], [], M)) (by omega) (by omega) ?_)
            show R (65, [some (aR 8 0), some (aI w), some (aI v), none], [], M)
            refine hR _ (hR _ (hR _ (?_)))
            show R (70, [some (aR 8 0), some (aI w), some (aI v), none], [aI w, aR 22 0], M)
            refine hR _ ⟨(show 0 ≤ (w : Int) ∧ (w : Int) < 4 from (by omega)), ?_⟩
            show R (71, [some (aR 8 0), some (aI w), some (aI v), none], [aI (M 22 0 ((w).toNat))], M)
            refine hR _ (hR _ (hR _ (hR _ (hR _ (?_)))))
            show R (78, [some (aR 8 0), some (aI w), some (aI v), some (aI (M 22 0 ((w).toNat)))], [aI v, aI w, aR 22 0], M)
            refine hR _ ⟨(show 0 ≤ (w : Int) ∧ (w : Int) < 4 from (by omega)), ?_⟩
            show R (79, [some (aR 8 0), some (aI w), some (aI v), some (aI (M 22 0 ((w).toNat)))], [], am_wr M 22 0 ((w).toNat) v)
            refine hR _ (?_)
            show R (80, [some (aR 8 0), some (aI w), some (aI v), some (aI (M 22 0 ((w).toNat)))], [aI (M 22 0 ((w).toNat))], am_wr M 22 0 ((w).toNat) v)
            refine hR _ (show K (some (aI (M 22 0 ((w).toNat)))) (am_wr M 22 0 ((w).toNat) v) from ?_)
            exact hK1 (by omega)
          · show R (59, [some (aR 8 0), some (aI w), some (aI v), none], [aI 0], M)
            refine hR _ (am_brf (rg := am_in 0) (P := (0 : Int) ≠ 0) (A := R (65, [some (aR 8 0), some (aI w), some (aI v), none], [], M)) (B := R (62, [some (aR 8 0), some (aI w), some (aI v), none], [], M)) (by omega) (by omega) ?_)
            show R (62, [some (aR 8 0), some (aI w), some (aI v), none], [], M)
            refine hR _ (?_)
            show R (64, [some (aR 8 0), some (aI w), some (aI v), none], [aI (-7)], M)
            refine hR _ (show K (some (aI (-7))) M from ?_)
            refine am_kr (hK0 (by omega)) ?_
            split
            all_goals omega
      · refine hR _ (hR _ (?_))
        show R (56, [some (aR 8 0), some (aI w), some (aI v), none], [aI 2000, aI 1, aI v], M)
        refine hR _ (sp_in (by omega) (by omega) (fun h56 => ?_) (fun h56 => ?_))
        · show R (59, [some (aR 8 0), some (aI w), some (aI v), none], [aI 1], M)
          refine hR _ (am_brt (rg := am_in 1) (P := (1 : Int) ≠ 0) (A := R (65, [some (aR 8 0), some (aI w), some (aI v), none], [], M)) (B := R (62, [some (aR 8 0), some (aI w), some (aI v), none], [], M)) (by omega) (by omega) ?_)
          show R (65, [some (aR 8 0), some (aI w), some (aI v), none], [], M)
          refine hR _ (hR _ (hR _ (?_)))
          show R (70, [some (aR 8 0), some (aI w), some (aI v), none], [aI w, aR 22 0], M)
          refine hR _ ⟨(show 0 ≤ (w : Int) ∧ (w : Int) < 4 from (by omega)), ?_⟩
          show R (71, [some (aR 8 0), some (aI w), some (aI v), none], [aI (M 22 0 ((w).toNat))], M)
          refine hR _ (hR _ (hR _ (hR _ (hR _ (?_)))))
          show R (78, [some (aR 8 0), some (aI w), some (aI v), some (aI (M 22 0 ((w).toNat)))], [aI v, aI w, aR 22 0], M)
          refine hR _ ⟨(show 0 ≤ (w : Int) ∧ (w : Int) < 4 from (by omega)), ?_⟩
          show R (79, [some (aR 8 0), some (aI w), some (aI v), some (aI (M 22 0 ((w).toNat)))], [], am_wr M 22 0 ((w).toNat) v)
          refine hR _ (?_)
          show R (80, [some (aR 8 0), some (aI w), some (aI v), some (aI (M 22 0 ((w).toNat)))], [aI (M 22 0 ((w).toNat))], am_wr M 22 0 ((w).toNat) v)
          refine hR _ (show K (some (aI (M 22 0 ((w).toNat)))) (am_wr M 22 0 ((w).toNat) v) from ?_)
          exact hK1 (by omega)
        · show R (59, [some (aR 8 0), some (aI w), some (aI v), none], [aI 0], M)
          refine hR _ (am_brf (rg := am_in 0) (P := (0 : Int) ≠ 0) (A := R (65, [some (aR 8 0), some (aI w), some (aI v), none], [], M)) (B := R (62, [some (aR 8 0), some (aI w), some (aI v), none], [], M)) (by omega) (by omega) ?_)
          show R (62, [some (aR 8 0), some (aI w), some (aI v), none], [], M)
          refine hR _ (?_)
          show R (64, [some (aR 8 0), some (aI w), some (aI v), none], [aI (-7)], M)
          refine hR _ (show K (some (aI (-7))) M from ?_)
          refine am_kr (hK0 (by omega)) ?_
          split
          all_goals omega
    · refine hR _ (hR _ (hR _ (hR _ (am_brc (rg := am_in w) (P := w ≠ 0) (A := R (33, [some (aR 8 0), some (aI w), some (aI v), none], [aI 0, aI v], M)) (B := R (27, [some (aR 8 0), some (aI w), some (aI v), none], [aI 0, aI v], M)) (by omega) (fun c24 => ?_) (fun c24 => ?_)))))
      · refine hR _ (hR _ (hR _ (am_brc (rg := am_in w ∧ am_in 1) (P := w ≠ 1) (A := R (43, [some (aR 8 0), some (aI w), some (aI v), none], [aI 0, aI v], M)) (B := R (38, [some (aR 8 0), some (aI w), some (aI v), none], [aI 0, aI v], M)) (by omega) (fun c35 => ?_) (fun c35 => ?_))))
        · refine hR _ (hR _ (hR _ (am_brc (rg := am_in w ∧ am_in 2) (P := w ≠ 2) (A := R (53, [some (aR 8 0), some (aI w), some (aI v), none], [aI 0, aI v], M)) (B := R (48, [some (aR 8 0), some (aI w), some (aI v), none], [aI 0, aI v], M)) (by omega) (fun c45 => ?_) (fun c45 => ?_))))
          · refine hR _ (?_)
            show R (56, [some (aR 8 0), some (aI w), some (aI v), none], [aI 5000, aI 0, aI v], M)
            refine hR _ (sp_in (by omega) (by omega) (fun h56 => ?_) (fun h56 => ?_))
            · show R (59, [some (aR 8 0), some (aI w), some (aI v), none], [aI 1], M)
              refine hR _ (am_brt (rg := am_in 1) (P := (1 : Int) ≠ 0) (A := R (65, [some (aR 8 0), some (aI w), some (aI v), none], [], M)) (B := R (62, [some (aR 8 0), some (aI w), some (aI v), none], [], M)) (by omega) (by omega) ?_)
              show R (65, [some (aR 8 0), some (aI w), some (aI v), none], [], M)
              refine hR _ (hR _ (hR _ (?_)))
              show R (70, [some (aR 8 0), some (aI w), some (aI v), none], [aI w, aR 22 0], M)
              refine hR _ ⟨(show 0 ≤ (w : Int) ∧ (w : Int) < 4 from (by omega)), ?_⟩
              show R (71, [some (aR 8 0), some (aI w), some (aI v), none], [aI (M 22 0 ((w).toNat))], M)
              refine hR _ (hR _ (hR _ (hR _ (hR _ (?_)))))
              show R (78, [some (aR 8 0), some (aI w), some (aI v), some (aI (M 22 0 ((w).toNat)))], [aI v, aI w, aR 22 0], M)
              refine hR _ ⟨(show 0 ≤ (w : Int) ∧ (w : Int) < 4 from (by omega)), ?_⟩
              show R (79, [some (aR 8 0), some (aI w), some (aI v), some (aI (M 22 0 ((w).toNat)))], [], am_wr M 22 0 ((w).toNat) v)
              refine hR _ (?_)
              show R (80, [some (aR 8 0), some (aI w), some (aI v), some (aI (M 22 0 ((w).toNat)))], [aI (M 22 0 ((w).toNat))], am_wr M 22 0 ((w).toNat) v)
              refine hR _ (show K (some (aI (M 22 0 ((w).toNat)))) (am_wr M 22 0 ((w).toNat) v) from ?_)
              exact hK1 (by omega)
            · show R (59, [some (aR 8 0), some (aI w), some (aI v), none], [aI 0], M)
              refine hR _ (am_brf (rg := am_in 0) (P := (0 : Int) ≠ 0) (A := R (65, [some (aR 8 0), some (aI w), some (aI v), none], [], M)) (B := R (62, [some (aR 8 0), some (aI w), some (aI v), none], [], M)) (by omega) (by omega) ?_)
              show R (62, [some (aR 8 0), some (aI w), some (aI v), none], [], M)
              refine hR _ (?_)
              show R (64, [some (aR 8 0), some (aI w), some (aI v), none], [aI (-7)], M)
              refine hR _ (show K (some (aI (-7))) M from ?_)
              refine am_kr (hK0 (by omega)) ?_
              split
              all_goals omega
          · refine hR _ (hR _ (?_))
            show R (56, [some (aR 8 0), some (aI w), some (aI v), none], [aI 99, aI 0, aI v], M)
            refine hR _ (sp_in (by omega) (by omega) (fun h56 => ?_) (fun h56 => ?_))
            · show R (59, [some (aR 8 0), some (aI w), some (aI v), none], [aI 1], M)
              refine hR _ (am_brt (rg := am_in 1) (P := (1 : Int) ≠ 0) (A := R (65, [some (aR 8 0), some (aI w), some (aI v), none], [], M)) (B := R (62, [some (aR 8 0), some (aI w), some (aI v), none], [], M)) (by omega) (by omega) ?_)
              show R (65, [some (aR 8 0), some (aI w), some (aI v), none], [], M)
              refine hR _ (hR _ (hR _ (?_)))
              show R (70, [some (aR 8 0), some (aI w), some (aI v), none], [aI w, aR 22 0], M)
              refine hR _ ⟨(show 0 ≤ (w : Int) ∧ (w : Int) < 4 from (by omega)), ?_⟩
              show R (71, [some (aR 8 0), some (aI w), some (aI v), none], [aI (M 22 0 ((w).toNat))], M)
              refine hR _ (hR _ (hR _ (hR _ (hR _ (?_)))))
              show R (78, [some (aR 8 0), some (aI w), some (aI v), some (aI (M 22 0 ((w).toNat)))], [aI v, aI w, aR 22 0], M)
              refine hR _ ⟨(show 0 ≤ (w : Int) ∧ (w : Int) < 4 from (by omega)), ?_⟩
              show R (79, [some (aR 8 0), some (aI w), some (aI v), some (aI (M 22 0 ((w).toNat)))], [], am_wr M 22 0 ((w).toNat) v)
              refine hR _ (?_)
              show R (80, [some (aR 8 0), some (aI w), some (aI v), some (aI (M 22 0 ((w).toNat)))], [aI (M 22 0 ((w).toNat))], am_wr M 22 0 ((w).toNat) v)
              refine hR _ (show K (some (aI (M 22 0 ((w).toNat)))) (am_wr M 22 0 ((w).toNat) v) from ?_)
              exact hK1 (by omega)
            · show R (59, [some (aR 8 0), some (aI w), some (aI v), none], [aI 0], M)
              refine hR _ (am_brf (rg := am_in 0) (P := (0 : Int) ≠ 0) (A := R (65, [some (aR 8 0), some (aI w), some (aI v), none], [], M)) (B := R (62, [some (aR 8 0), some (aI w), some (aI v), none], [], M)) (by omega) (by omega) ?_)
              show R (62, [some (aR 8 0), some (aI w), some (aI v), none], [], M)
              refine hR _ (?_)
              show R (64, [some (aR 8 0), some (aI w), some (aI v), none], [aI (-7)], M)
              refine hR _ (show K (some (aI (-7))) M from ?_)
              refine am_kr (hK0 (by omega)) ?_
              split
              all_goals omega
        · refine hR _ (hR _ (?_))
          show R (56, [some (aR 8 0), some (aI w), some (aI v), none], [aI 9, aI 0, aI v], M)
          refine hR _ (sp_in (by omega) (by omega) (fun h56 => ?_) (fun h56 => ?_))
          · show R (59, [some (aR 8 0), some (aI w), some (aI v), none], [aI 1], M)
            refine hR _ (am_brt (rg := am_in 1) (P := (1 : Int) ≠ 0) (A := R (65, [some (aR 8 0), some (aI w), some (aI v), none], [], M)) (B := R (62, [some (aR 8 0), some (aI w), some (aI v), none], [], M)) (by omega) (by omega) ?_)
            show R (65, [some (aR 8 0), some (aI w), some (aI v), none], [], M)
            refine hR _ (hR _ (hR _ (?_)))
            show R (70, [some (aR 8 0), some (aI w), some (aI v), none], [aI w, aR 22 0], M)
            refine hR _ ⟨(show 0 ≤ (w : Int) ∧ (w : Int) < 4 from (by omega)), ?_⟩
            show R (71, [some (aR 8 0), some (aI w), some (aI v), none], [aI (M 22 0 ((w).toNat))], M)
            refine hR _ (hR _ (hR _ (hR _ (hR _ (?_)))))
            show R (78, [some (aR 8 0), some (aI w), some (aI v), some (aI (M 22 0 ((w).toNat)))], [aI v, aI w, aR 22 0], M)
            refine hR _ ⟨(show 0 ≤ (w : Int) ∧ (w : Int) < 4 from (by omega)), ?_⟩
            show R (79, [some (aR 8 0), some (aI w), some (aI v), some (aI (M 22 0 ((w).toNat)))], [], am_wr M 22 0 ((w).toNat) v)
            refine hR _ (?_)
            show R (80, [some (aR 8 0), some (aI w), some (aI v), some (aI (M 22 0 ((w).toNat)))], [aI (M 22 0 ((w).toNat))], am_wr M 22 0 ((w).toNat) v)
            refine hR _ (show K (some (aI (M 22 0 ((w).toNat)))) (am_wr M 22 0 ((w).toNat) v) from ?_)
            exact hK1 (by omega)
          · show R (59, [some (aR 8 0), some (aI w), some (aI v), none], [aI 0], M)
            refine hR _ (am_brf (rg := am_in 0) (P := (0 : Int) ≠ 0) (A := R (65, [some (aR 8 0), some (aI w), some (aI v), none], [], M)) (B := R (62, [some (aR 8 0), some (aI w), some (aI v), none], [], M)) (by omega) (by omega) ?_)
            show R (62, [some (aR 8 0), some (aI w), some (aI v), none], [], M)
            refine hR _ (?_)
            show R (64, [some (aR 8 0), some (aI w), some (aI v), none], [aI (-7)], M)
            refine hR _ (show K (some (aI (-7))) M from ?_)
            refine am_kr (hK0 (by omega)) ?_
            split
            all_goals omega
      · refine hR _ (hR _ (?_))
        show R (56, [some (aR 8 0), some (aI w), some (aI v), none], [aI 2000, aI 0, aI v], M)
        refine hR _ (sp_in (by omega) (by omega) (fun h56 => ?_) (fun h56 => ?_))
        · show R (59, [some (aR 8 0), some (aI w), some (aI v), none], [aI 1], M)
          refine hR _ (am_brt (rg := am_in 1) (P := (1 : Int) ≠ 0) (A := R (65, [some (aR 8 0), some (aI w), some (aI v), none], [], M)) (B := R (62, [some (aR 8 0), some (aI w), some (aI v), none], [], M)) (by omega) (by omega) ?_)
          show R (65, [some (aR 8 0), some (aI w), some (aI v), none], [], M)
          refine hR _ (hR _ (hR _ (?_)))
          show R (70, [some (aR 8 0), some (aI w), some (aI v), none], [aI w, aR 22 0], M)
          refine hR _ ⟨(show 0 ≤ (w : Int) ∧ (w : Int) < 4 from (by omega)), ?_⟩
          show R (71, [some (aR 8 0), some (aI w), some (aI v), none], [aI (M 22 0 ((w).toNat))], M)
          refine hR _ (hR _ (hR _ (hR _ (hR _ (?_)))))
          show R (78, [some (aR 8 0), some (aI w), some (aI v), some (aI (M 22 0 ((w).toNat)))], [aI v, aI w, aR 22 0], M)
          refine hR _ ⟨(show 0 ≤ (w : Int) ∧ (w : Int) < 4 from (by omega)), ?_⟩
          show R (79, [some (aR 8 0), some (aI w), some (aI v), some (aI (M 22 0 ((w).toNat)))], [], am_wr M 22 0 ((w).toNat) v)
          refine hR _ (?_)
          show R (80, [some (aR 8 0), some (aI w), some (aI v), some (aI (M 22 0 ((w).toNat)))], [aI (M 22 0 ((w).toNat))], am_wr M 22 0 ((w).toNat) v)
          refine hR _ (show K (some (aI (M 22 0 ((w).toNat)))) (am_wr M 22 0 ((w).toNat) v) from ?_)
          exact hK1 (by omega)
        · show R (59, [some (aR 8 0), some (aI w), some (aI v), none], [aI 0], M)
          refine hR _ (am_brf (rg := am_in 0) (P := (0 : Int) ≠ 0) (A := R (65, [some (aR 8 0), some (aI w), some (aI v), none], [], M)) (B := R (62, [some (aR 8 0), some (aI w), some (aI v), none], [], M)) (by omega) (by omega) ?_)
          show R (62, [some (aR 8 0), some (aI w), some (aI v), none], [], M)
          refine hR _ (?_)
          show R (64, [some (aR 8 0), some (aI w), some (aI v), none], [aI (-7)], M)
          refine hR _ (show K (some (aI (-7))) M from ?_)
          refine am_kr (hK0 (by omega)) ?_
          split
          all_goals omega
  · show R (6, [some (aR 8 0), some (aI w), some (aI v), none], [aI 0], M)
    refine hR _ (am_brf (rg := am_in 0) (P := (0 : Int) ≠ 0) (A := R (12, [some (aR 8 0), some (aI w), some (aI v), none], [], M)) (B := R (9, [some (aR 8 0), some (aI w), some (aI v), none], [], M)) (by omega) (by omega) ?_)
    show R (9, [some (aR 8 0), some (aI w), some (aI v), none], [], M)
    refine hR _ (?_)
    show R (11, [some (aR 8 0), some (aI w), some (aI v), none], [aI (-5)], M)
    refine hR _ (show K (some (aI (-5))) M from ?_)
    refine am_kr (hK0 (by omega)) ?_
    split
    all_goals omega

set_option maxHeartbeats 1000000 in
theorem sm_feed {d : Nat} (hd : 3 ≤ d) {n a b c e f : Int} {M : am_M} {K : am_K} (hz : 0 ≤ M 427 0 0 ∧ M 427 0 0 ≤ 160) (ha_n : am_in n) (ha_a : am_in a) (ha_b : am_in b) (ha_c : am_in c) (ha_e : am_in e) (ha_f : am_in f) (hK1 : ((1 ≤ n ∧ n ≤ 5) ∧ (0 ≤ a ∧ a ≤ 255) ∧ (0 ≤ b ∧ b ≤ 255) ∧ (0 ≤ c ∧ c ≤ 255) ∧ (0 ≤ e ∧ e ≤ 255) ∧ 0 ≤ f ∧ f ≤ 255) → M 427 0 0 + n ≤ 160 → ∀ g : am_M, g 427 0 0 = M 427 0 0 + n → jf_fed (fun j => M 27 0 j) (g 27 0) (M 427 0 0).toNat n.toNat [a, b, c, e, f] → K (some (aI (M 427 0 0 + n))) (am_mix [27, 427] g M)) (hK0 : ¬ (((1 ≤ n ∧ n ≤ 5) ∧ (0 ≤ a ∧ a ≤ 255) ∧ (0 ≤ b ∧ b ≤ 255) ∧ (0 ≤ c ∧ c ≤ 255) ∧ (0 ≤ e ∧ e ≤ 255) ∧ 0 ≤ f ∧ f ≤ 255) ∧ M 427 0 0 + n ≤ 160) → K (some (aI (if (1 ≤ n ∧ n ≤ 5) ∧ (0 ≤ a ∧ a ≤ 255) ∧ (0 ≤ b ∧ b ≤ 255) ∧ (0 ≤ c ∧ c ≤ 255) ∧ (0 ≤ e ∧ e ≤ 255) ∧ 0 ≤ f ∧ f ≤ 255 then -4 else -2))) M) : am_Call true d 137 [aR 8 0, aI n, aI a, aI b, aI c, aI e, aI f] M K := by
  obtain ⟨d, rfl⟩ : ∃ e, d = e + 1 := ⟨d - 1, by omega⟩
  refine ⟨rfl, fun R hR hC => ?_⟩
  replace hR : ∀ c, am_F true tb_f137 1 (am_Call true d) K R c → R c := hR
  show R (0, [some (aR 8 0), some (aI n), some (aI a), some (aI b), some (aI c), some (aI e), some (aI f), none], [], M)
  refine hR _ (hR _ (hR _ (?_)))
  show R (3, [some (aR 8 0), some (aI n), some (aI a), some (aI b), some (aI c), some (aI e), some (aI f), none], [aI 5, aI 1, aI n], M)
  refine hR _ (sp_in (by omega) (by omega) (fun h3 => ?_) (fun h3 => ?_))
  · show R (6, [some (aR 8 0), some (aI n), some (aI a), some (aI b), some (aI c), some (aI e), some (aI f), none], [aI 1], M)
    refine hR _ (am_brf (rg := am_in 1) (P := (1 : Int) = 0) (A := R (47, [some (aR 8 0), some (aI n), some (aI a), some (aI b), some (aI c), some (aI e), some (aI f), none], [], M)) (B := R (9, [some (aR 8 0), some (aI n), some (aI a), some (aI b), some (aI c), some (aI e), some (aI f), none], [], M)) (by omega) (by omega) ?_)
    show R (9, [some (aR 8 0), some (aI n), some (aI a), some (aI b), some (aI c), some (aI e), some (aI f), none], [], M)
    refine hR _ (?_)
    show R (10, [some (aR 8 0), some (aI n), some (aI a), some (aI b), some (aI c), some (aI e), some (aI f), none], [aI a], M)
    refine hR _ (sp_m_isByte (by omega) (by omega) (fun h10 => ?_) (fun h10 => ?_))
    · show R (13, [some (aR 8 0), some (aI n), some (aI a), some (aI b), some (aI c), some (aI e), some (aI f), none], [aI 1], M)
      refine hR _ (am_brf (rg := am_in 1) (P := (1 : Int) = 0) (A := R (47, [some (aR 8 0), some (aI n), some (aI a), some (aI b), some (aI c), some (aI e), some (aI f), none], [], M)) (B := R (16, [some (aR 8 0), some (aI n), some (aI a), some (aI b), some (aI c), some (aI e), some (aI f), none], [], M)) (by omega) (by omega) ?_)
      show R (16, [some (aR 8 0), some (aI n), some (aI a), some (aI b), some (aI c), some (aI e), some (aI f), none], [], M)
      refine hR _ (?_)
      show R (17, [some (aR 8 0), some (aI n), some (aI a), some (aI b), some (aI c), some (aI e), some (aI f), none], [aI b], M)
      refine hR _ (sp_m_isByte (by omega) (by omega) (fun h17 => ?_) (fun h17 => ?_))
      · show R (20, [some (aR 8 0), some (aI n), some (aI a), some (aI b), some (aI c), some (aI e), some (aI f), none], [aI 1], M)
        refine hR _ (am_brf (rg := am_in 1) (P := (1 : Int) = 0) (A := R (47, [some (aR 8 0), some (aI n), some (aI a), some (aI b), some (aI c), some (aI e), some (aI f), none], [], M)) (B := R (23, [some (aR 8 0), some (aI n), some (aI a), some (aI b), some (aI c), some (aI e), some (aI f), none], [], M)) (by omega) (by omega) ?_)
        show R (23, [some (aR 8 0), some (aI n), some (aI a), some (aI b), some (aI c), some (aI e), some (aI f), none], [], M)
        refine hR _ (?_)
        show R (25, [some (aR 8 0), some (aI n), some (aI a), some (aI b), some (aI c), some (aI e), some (aI f), none], [aI c], M)
        refine hR _ (sp_m_isByte (by omega) (by omega) (fun h25 => ?_) (fun h25 => ?_))
        · show R (28, [some (aR 8 0), some (aI n), some (aI a), some (aI b), some (aI c), some (aI e), some (aI f), none], [aI 1], M)
          refine hR _ (am_brf (rg := am_in 1) (P := (1 : Int) = 0) (A := R (47, [some (aR 8 0), some (aI n), some (aI a), some (aI b), some (aI c), some (aI e), some (aI f), none], [], M)) (B := R (31, [some (aR 8 0), some (aI n), some (aI a), some (aI b), some (aI c), some (aI e), some (aI f), none], [], M)) (by omega) (by omega) ?_)
          show R (31, [some (aR 8 0), some (aI n), some (aI a), some (aI b), some (aI c), some (aI e), some (aI f), none], [], M)
          refine hR _ (?_)
          show R (33, [some (aR 8 0), some (aI n), some (aI a), some (aI b), some (aI c), some (aI e), some (aI f), none], [aI e], M)
          refine hR _ (sp_m_isByte (by omega) (by omega) (fun h33 => ?_) (fun h33 => ?_))
          · show R (36, [some (aR 8 0), some (aI n), some (aI a), some (aI b), some (aI c), some (aI e), some (aI f), none], [aI 1], M)
            refine hR _ (am_brf (rg := am_in 1) (P := (1 : Int) = 0) (A := R (47, [some (aR 8 0), some (aI n), some (aI a), some (aI b), some (aI c), some (aI e), some (aI f), none], [], M)) (B := R (39, [some (aR 8 0), some (aI n), some (aI a), some (aI b), some (aI c), some (aI e), some (aI f), none], [], M)) (by omega) (by omega) ?_)
            show R (39, [some (aR 8 0), some (aI n), some (aI a), some (aI b), some (aI c), some (aI e), some (aI f), none], [], M)
            refine hR _ (?_)
            show R (41, [some (aR 8 0), some (aI n), some (aI a), some (aI b), some (aI c), some (aI e), some (aI f), none], [aI f], M)
            refine hR _ (sp_m_isByte (by omega) (by omega) (fun h41 => ?_) (fun h41 => ?_))
            · show R (44, [some (aR 8 0), some (aI n), some (aI a), some (aI b), some (aI c), some (aI e), some (aI f), none], [aI 1], M)
              refine hR _ (am_brt (rg := am_in 1) (P := (1 : Int) ≠ 0) (A := R (50, [some (aR 8 0), some (aI n), some (aI a), some (aI b), some (aI c), some (aI e), some (aI f), none], [], M)) (B := R (47, [some (aR 8 0), some (aI n), some (aI a), some (aI b), some (aI c), some (aI e), some (aI f), none], [], M)) (by omega) (by omega) ?_)
              show R (50, [some (aR 8 0), some (aI n), some (aI a), some (aI b), some (aI c), some (aI e), some (aI f), none], [], M)
              refine hR _ (hR _ (hR _ (hR _ (hR _ (hR _ (am_brc (rg := am_in (M 427 0 0 + n) ∧ am_in 160) (P := (M 427 0 0 + n) ≤ 160) (A := R (65, [some (aR 8 0), some (aI n), some (aI a), some (aI b), some (aI c), some (aI e), some (aI f), none], [], M)) (B := R (62, [some (aR 8 0), some (aI n), some (aI a), some (aI b), some (aI c), some (aI e), some (aI f), none], [], M)) (by omega) (fun c59 => ?_) (fun c59 => ?_)))))))
              · refine hR _ (hR _ (?_))
                show R (68, [some (aR 8 0), some (aI n), some (aI a), some (aI b), some (aI c), some (aI e), some (aI f), some (aI 0)], [], M)
                have key : ∀ (q i : Nat) (x : Int) (g : am_M), x = (i : Int) → (i : Int) + q = n → g 427 0 0 = M 427 0 0 + i → jf_fed (fun j => M 27 0 j) (g 27 0) (M 427 0 0).toNat i [a, b, c, e, f] → R (68, [some (aR 8 0), some (aI n), some (aI a), some (aI b), some (aI c), some (aI e), some (aI f), some (aI x)], [], am_mix [27, 427] g M) := by
                  intro q
                  induction q with
                  | zero =>
                    intro i x g hx hin hs hf
                    subst hx
                    refine hR _ (hR _ (hR _ (am_brt (rg := am_in ((i : Nat) : Int) ∧ am_in n) (P := n ≤ ((i : Nat) : Int)) (A := R (142, [some (aR 8 0), some (aI n), some (aI a), some (aI b), some (aI c), some (aI e), some (aI f), some (aI ((i : Nat) : Int))], [], am_mix [27, 427] g M)) (B := R (74, [some (aR 8 0), some (aI n), some (aI a), some (aI b), some (aI c), some (aI e), some (aI f), some (aI ((i : Nat) : Int))], [], am_mix [27, 427] g M)) (by omega) (by omega) ?_)))
                    show R (142, [some (aR 8 0), some (aI n), some (aI a), some (aI b), some (aI c), some (aI e), some (aI f), some (aI ((i : Nat) : Int))], [], am_mix [27, 427] g M)
                    refine hR _ (hR _ (?_))
                    show R (146, [some (aR 8 0), some (aI n), some (aI a), some (aI b), some (aI c), some (aI e), some (aI f), some (aI ((i : Nat) : Int))], [aI (g 427 0 0)], am_mix [27, 427] g M)
                    refine hR _ (show K (some (aI (g 427 0 0))) (am_mix [27, 427] g M) from ?_)
                    rw [show g 427 0 0 = M 427 0 0 + n by rw [hs]; omega]
                    exact hK1 (by omega) (by omega) g (by omega) (by rw [show n.toNat = i by omega]; exact hf)
                  | succ q ih =>
                    intro i x g hx hin hs hf
                    subst hx
                    have hix : (g 427 0 0).toNat = (M 427 0 0).toNat + i := by omega
                    refine hR _ (hR _ (hR _ (am_brf (rg := am_in ((i : Nat) : Int) ∧ am_in n) (P := n ≤ ((i : Nat) : Int)) (A := R (142, [some (aR 8 0), some (aI n), some (aI a), some (aI b), some (aI c), some (aI e), some (aI f), some (aI ((i : Nat) : Int))], [], am_mix [27, 427] g M)) (B := R (74, [some (aR 8 0), some (aI n), some (aI a), some (aI b), some (aI c), some (aI e), some (aI f), some (aI ((i : Nat) : Int))], [], am_mix [27, 427] g M)) (by omega) (by omega) ?_)))
                    show R (74, [some (aR 8 0), some (aI n), some (aI a), some (aI b), some (aI c), some (aI e), some (aI f), some (aI ((i : Nat) : Int))], [], am_mix [27, 427] g M)
                    refine hR _ (hR _ (hR _ (hR _ (hR _ (hR _ (am_brc (rg := am_in ((i : Nat) : Int)) (P := ((i : Nat) : Int) ≠ 0) (A := R (91, [some (aR 8 0), some (aI n), some (aI a), some (aI b), some (aI c), some (aI e), some (aI f), some (aI ((i : Nat) : Int))], [aI (g 427 0 0), aR 27 0], am_mix [27, 427] g M)) (B := R (87, [some (aR 8 0), some (aI n), some (aI a), some (aI b), some (aI c), some (aI e), some (aI f), some (aI ((i : Nat) : Int))], [aI (g 427 0 0), aR 27 0], am_mix [27, 427] g M)) (by omega) (fun c84 => ?_) (fun c84 => ?_)))))))
                    · refine hR _ (hR _ (hR _ (am_brc (rg := am_in ((i : Nat) : Int) ∧ am_in 1) (P := ((i : Nat) : Int) ≠ 1) (A := R (101, [some (aR 8 0), some (aI n), some (aI a), some (aI b), some (aI c), some (aI e), some (aI f), some (aI ((i : Nat) : Int))], [aI (g 427 0 0), aR 27 0], am_mix [27, 427] g M)) (B := R (97, [some (aR 8 0), some (aI n), some (aI a), some (aI b), some (aI c), some (aI e), some (aI f), some (aI ((i : Nat) : Int))], [aI (g 427 0 0), aR 27 0], am_mix [27, 427] g M)) (by omega) (fun c94 => ?_) (fun c94 => ?_))))
                      · refine hR _ (hR _ (hR _ (am_brc (rg := am_in ((i : Nat) : Int) ∧ am_in 2) (P := ((i : Nat) : Int) ≠ 2) (A := R (112, [some (aR 8 0), some (aI n), some (aI a), some (aI b), some (aI c), some (aI e), some (aI f), some (aI ((i : Nat) : Int))], [aI (g 427 0 0), aR 27 0], am_mix [27, 427] g M)) (B := R (107, [some (aR 8 0), some (aI n), some (aI a), some (aI b), some (aI c), some (aI e), some (aI f), some (aI ((i : Nat) : Int))], [aI (g 427 0 0), aR 27 0], am_mix [27, 427] g M)) (by omega) (fun c104 => ?_) (fun c104 => ?_))))
                        · refine hR _ (hR _ (hR _ (am_brc (rg := am_in ((i : Nat) : Int) ∧ am_in 3) (P := ((i : Nat) : Int) ≠ 3) (A := R (123, [some (aR 8 0), some (aI n), some (aI a), some (aI b), some (aI c), some (aI e), some (aI f), some (aI ((i : Nat) : Int))], [aI (g 427 0 0), aR 27 0], am_mix [27, 427] g M)) (B := R (118, [some (aR 8 0), some (aI n), some (aI a), some (aI b), some (aI c), some (aI e), some (aI f), some (aI ((i : Nat) : Int))], [aI (g 427 0 0), aR 27 0], am_mix [27, 427] g M)) (by omega) (fun c115 => ?_) (fun c115 => ?_))))
                          · refine hR _ (?_)
                            show R (125, [some (aR 8 0), some (aI n), some (aI a), some (aI b), some (aI c), some (aI e), some (aI f), some (aI ((i : Nat) : Int))], [aI f, aI (g 427 0 0), aR 27 0], am_mix [27, 427] g M)
                            refine hR _ ⟨(show 0 ≤ (g 427 0 0 : Int) ∧ (g 427 0 0 : Int) < 160 from (by omega)), ?_⟩
                            show R (126, [some (aR 8 0), some (aI n), some (aI a), some (aI b), some (aI c), some (aI e), some (aI f), some (aI ((i : Nat) : Int))], [], am_wr (am_mix [27, 427] g M) 27 0 ((g 427 0 0).toNat) f)
                            refine hR _ (hR _ (hR _ (hR _ (hR _ (hR _ (hR _ (hR _ (?_))))))))
                            show R (68, [some (aR 8 0), some (aI n), some (aI a), some (aI b), some (aI c), some (aI e), some (aI f), some (aI (((i : Nat) : Int) + 1))], [], am_wr (am_wr (am_mix [27, 427] g M) 27 0 ((g 427 0 0).toNat) f) 427 0 0 (g 427 0 0 + 1))
                            have e9 : am_ag [27, 427] M (am_wr (am_wr (am_mix [27, 427] g M) 27 0 ((g 427 0 0).toNat) f) 427 0 0 (g 427 0 0 + 1)) := (((am_ag.rf).mix rfl).wr rfl).wr rfl
                            have n1 : (am_wr (am_wr (am_mix [27, 427] g M) 27 0 ((g 427 0 0).toNat) f) 427 0 0 (g 427 0 0 + 1)) 427 0 0 = M 427 0 0 + ((i + 1 : Nat) : Int) := by
                              show g 427 0 0 + 1 = _
                              omega
                            have n2 : jf_fed (fun j => M 27 0 j) ((am_wr (am_wr (am_mix [27, 427] g M) 27 0 ((g 427 0 0).toNat) f) 427 0 0 (g 427 0 0 + 1)) 27 0) (M 427 0 0).toNat (i + 1) [a, b, c, e, f] := by
                              refine hf.step ?_ ?_
                              · rw [← hix]
                                refine ((am_wr_ne (Or.inl (by decide))).trans am_wr_eq).trans ?_
                                obtain h5 | h5 | h5 | h5 | h5 : i = 0 ∨ i = 1 ∨ i = 2 ∨ i = 3 ∨ i = 4 := by omega
                                all_goals (subst h5; first | rfl | (exfalso; omega))
                              · intro j hj
                                exact (am_wr_ne (Or.inl (by decide))).trans (am_wr_ne (Or.inr (Or.inr (by omega))))
                            rw [e9.eq] at n1 n2 ⊢
                            exact ih (i + 1) _ _ (by omega) (by omega) n1 n2
                          · refine hR _ (hR _ (?_))
                            show R (125, [some (aR 8 0), some (aI n), some (aI a), some (aI b), some (aI c), some (aI e), some (aI f), some (aI ((i : Nat) : Int))], [aI e, aI (g 427 0 0), aR 27 0], am_mix [27, 427] g M)
                            refine hR _ ⟨(show 0 ≤ (g 427 0 0 : Int) ∧ (g 427 0 0 : Int) < 160 from (by omega)), ?_⟩
                            show R (126, [some (aR 8 0), some (aI n), some (aI a), some (aI b), some (aI c), some (aI e), some (aI f), some (aI ((i : Nat) : Int))], [], am_wr (am_mix [27, 427] g M) 27 0 ((g 427 0 0).toNat) e)
                            refine hR _ (hR _ (hR _ (hR _ (hR _ (hR _ (hR _ (hR _ (?_))))))))
                            show R (68, [some (aR 8 0), some (aI n), some (aI a), some (aI b), some (aI c), some (aI e), some (aI f), some (aI (((i : Nat) : Int) + 1))], [], am_wr (am_wr (am_mix [27, 427] g M) 27 0 ((g 427 0 0).toNat) e) 427 0 0 (g 427 0 0 + 1))
                            have e9 : am_ag [27, 427] M (am_wr (am_wr (am_mix [27, 427] g M) 27 0 ((g 427 0 0).toNat) e) 427 0 0 (g 427 0 0 + 1)) := (((am_ag.rf).mix rfl).wr rfl).wr rfl
                            have n1 : (am_wr (am_wr (am_mix [27, 427] g M) 27 0 ((g 427 0 0).toNat) e) 427 0 0 (g 427 0 0 + 1)) 427 0 0 = M 427 0 0 + ((i + 1 : Nat) : Int) := by
                              show g 427 0 0 + 1 = _
                              omega
                            have n2 : jf_fed (fun j => M 27 0 j) ((am_wr (am_wr (am_mix [27, 427] g M) 27 0 ((g 427 0 0).toNat) e) 427 0 0 (g 427 0 0 + 1)) 27 0) (M 427 0 0).toNat (i + 1) [a, b, c, e, f] := by
                              refine hf.step ?_ ?_
                              · rw [← hix]
                                refine ((am_wr_ne (Or.inl (by decide))).trans am_wr_eq).trans ?_
                                obtain h5 | h5 | h5 | h5 | h5 : i = 0 ∨ i = 1 ∨ i = 2 ∨ i = 3 ∨ i = 4 := by omega
                                all_goals (subst h5; first | rfl | (exfalso; omega))
                              · intro j hj
                                exact (am_wr_ne (Or.inl (by decide))).trans (am_wr_ne (Or.inr (Or.inr (by omega))))
                            rw [e9.eq] at n1 n2 ⊢
                            exact ih (i + 1) _ _ (by omega) (by omega) n1 n2
                        · refine hR _ (hR _ (?_))
                          show R (125, [some (aR 8 0), some (aI n), some (aI a), some (aI b), some (aI c), some (aI e), some (aI f), some (aI ((i : Nat) : Int))], [aI c, aI (g 427 0 0), aR 27 0], am_mix [27, 427] g M)
                          refine hR _ ⟨(show 0 ≤ (g 427 0 0 : Int) ∧ (g 427 0 0 : Int) < 160 from (by omega)), ?_⟩
                          show R (126, [some (aR 8 0), some (aI n), some (aI a), some (aI b), some (aI c), some (aI e), some (aI f), some (aI ((i : Nat) : Int))], [], am_wr (am_mix [27, 427] g M) 27 0 ((g 427 0 0).toNat) c)
                          refine hR _ (hR _ (hR _ (hR _ (hR _ (hR _ (hR _ (hR _ (?_))))))))
                          show R (68, [some (aR 8 0), some (aI n), some (aI a), some (aI b), some (aI c), some (aI e), some (aI f), some (aI (((i : Nat) : Int) + 1))], [], am_wr (am_wr (am_mix [27, 427] g M) 27 0 ((g 427 0 0).toNat) c) 427 0 0 (g 427 0 0 + 1))
                          have e9 : am_ag [27, 427] M (am_wr (am_wr (am_mix [27, 427] g M) 27 0 ((g 427 0 0).toNat) c) 427 0 0 (g 427 0 0 + 1)) := (((am_ag.rf).mix rfl).wr rfl).wr rfl
                          have n1 : (am_wr (am_wr (am_mix [27, 427] g M) 27 0 ((g 427 0 0).toNat) c) 427 0 0 (g 427 0 0 + 1)) 427 0 0 = M 427 0 0 + ((i + 1 : Nat) : Int) := by
                            show g 427 0 0 + 1 = _
                            omega
                          have n2 : jf_fed (fun j => M 27 0 j) ((am_wr (am_wr (am_mix [27, 427] g M) 27 0 ((g 427 0 0).toNat) c) 427 0 0 (g 427 0 0 + 1)) 27 0) (M 427 0 0).toNat (i + 1) [a, b, c, e, f] := by
                            refine hf.step ?_ ?_
                            · rw [← hix]
                              refine ((am_wr_ne (Or.inl (by decide))).trans am_wr_eq).trans ?_
                              obtain h5 | h5 | h5 | h5 | h5 : i = 0 ∨ i = 1 ∨ i = 2 ∨ i = 3 ∨ i = 4 := by omega
                              all_goals (subst h5; first | rfl | (exfalso; omega))
                            · intro j hj
                              exact (am_wr_ne (Or.inl (by decide))).trans (am_wr_ne (Or.inr (Or.inr (by omega))))
                          rw [e9.eq] at n1 n2 ⊢
                          exact ih (i + 1) _ _ (by omega) (by omega) n1 n2
                      · refine hR _ (hR _ (?_))
                        show R (125, [some (aR 8 0), some (aI n), some (aI a), some (aI b), some (aI c), some (aI e), some (aI f), some (aI ((i : Nat) : Int))], [aI b, aI (g 427 0 0), aR 27 0], am_mix [27, 427] g M)
                        refine hR _ ⟨(show 0 ≤ (g 427 0 0 : Int) ∧ (g 427 0 0 : Int) < 160 from (by omega)), ?_⟩
                        show R (126, [some (aR 8 0), some (aI n), some (aI a), some (aI b), some (aI c), some (aI e), some (aI f), some (aI ((i : Nat) : Int))], [], am_wr (am_mix [27, 427] g M) 27 0 ((g 427 0 0).toNat) b)
                        refine hR _ (hR _ (hR _ (hR _ (hR _ (hR _ (hR _ (hR _ (?_))))))))
                        show R (68, [some (aR 8 0), some (aI n), some (aI a), some (aI b), some (aI c), some (aI e), some (aI f), some (aI (((i : Nat) : Int) + 1))], [], am_wr (am_wr (am_mix [27, 427] g M) 27 0 ((g 427 0 0).toNat) b) 427 0 0 (g 427 0 0 + 1))
                        have e9 : am_ag [27, 427] M (am_wr (am_wr (am_mix [27, 427] g M) 27 0 ((g 427 0 0).toNat) b) 427 0 0 (g 427 0 0 + 1)) := (((am_ag.rf).mix rfl).wr rfl).wr rfl
                        have n1 : (am_wr (am_wr (am_mix [27, 427] g M) 27 0 ((g 427 0 0).toNat) b) 427 0 0 (g 427 0 0 + 1)) 427 0 0 = M 427 0 0 + ((i + 1 : Nat) : Int) := by
                          show g 427 0 0 + 1 = _
                          omega
                        have n2 : jf_fed (fun j => M 27 0 j) ((am_wr (am_wr (am_mix [27, 427] g M) 27 0 ((g 427 0 0).toNat) b) 427 0 0 (g 427 0 0 + 1)) 27 0) (M 427 0 0).toNat (i + 1) [a, b, c, e, f] := by
                          refine hf.step ?_ ?_
                          · rw [← hix]
                            refine ((am_wr_ne (Or.inl (by decide))).trans am_wr_eq).trans ?_
                            obtain h5 | h5 | h5 | h5 | h5 : i = 0 ∨ i = 1 ∨ i = 2 ∨ i = 3 ∨ i = 4 := by omega
                            all_goals (subst h5; first | rfl | (exfalso; omega))
                          · intro j hj
                            exact (am_wr_ne (Or.inl (by decide))).trans (am_wr_ne (Or.inr (Or.inr (by omega))))
                        rw [e9.eq] at n1 n2 ⊢
                        exact ih (i + 1) _ _ (by omega) (by omega) n1 n2
                    · refine hR _ (hR _ (?_))
                      show R (125, [some (aR 8 0), some (aI n), some (aI a), some (aI b), some (aI c), some (aI e), some (aI f), some (aI ((i : Nat) : Int))], [aI a, aI (g 427 0 0), aR 27 0], am_mix [27, 427] g M)
                      refine hR _ ⟨(show 0 ≤ (g 427 0 0 : Int) ∧ (g 427 0 0 : Int) < 160 from (by omega)), ?_⟩
                      show R (126, [some (aR 8 0), some (aI n), some (aI a), some (aI b), some (aI c), some (aI e), some (aI f), some (aI ((i : Nat) : Int))], [], am_wr (am_mix [27, 427] g M) 27 0 ((g 427 0 0).toNat) a)
                      refine hR _ (hR _ (hR _ (hR _ (hR _ (hR _ (hR _ (hR _ (?_))))))))
                      show R (68, [some (aR 8 0), some (aI n), some (aI a), some (aI b), some (aI c), some (aI e), some (aI f), some (aI (((i : Nat) : Int) + 1))], [], am_wr (am_wr (am_mix [27, 427] g M) 27 0 ((g 427 0 0).toNat) a) 427 0 0 (g 427 0 0 + 1))
                      have e9 : am_ag [27, 427] M (am_wr (am_wr (am_mix [27, 427] g M) 27 0 ((g 427 0 0).toNat) a) 427 0 0 (g 427 0 0 + 1)) := (((am_ag.rf).mix rfl).wr rfl).wr rfl
                      have n1 : (am_wr (am_wr (am_mix [27, 427] g M) 27 0 ((g 427 0 0).toNat) a) 427 0 0 (g 427 0 0 + 1)) 427 0 0 = M 427 0 0 + ((i + 1 : Nat) : Int) := by
                        show g 427 0 0 + 1 = _
                        omega
                      have n2 : jf_fed (fun j => M 27 0 j) ((am_wr (am_wr (am_mix [27, 427] g M) 27 0 ((g 427 0 0).toNat) a) 427 0 0 (g 427 0 0 + 1)) 27 0) (M 427 0 0).toNat (i + 1) [a, b, c, e, f] := by
                        refine hf.step ?_ ?_
                        · rw [← hix]
                          refine ((am_wr_ne (Or.inl (by decide))).trans am_wr_eq).trans ?_
                          obtain h5 | h5 | h5 | h5 | h5 : i = 0 ∨ i = 1 ∨ i = 2 ∨ i = 3 ∨ i = 4 := by omega
                          all_goals (subst h5; first | rfl | (exfalso; omega))
                        · intro j hj
                          exact (am_wr_ne (Or.inl (by decide))).trans (am_wr_ne (Or.inr (Or.inr (by omega))))
                      rw [e9.eq] at n1 n2 ⊢
                      exact ih (i + 1) _ _ (by omega) (by omega) n1 n2
                have e9 : am_ag [27, 427] M M := am_ag.rf
                rw [e9.eq]
                exact key n.toNat 0 _ _ rfl (by omega) (show M 427 0 0 = M 427 0 0 + ((0 : Nat) : Int) by omega) (jf_fed.base _ _ _)
              · refine hR _ (?_)
                show R (64, [some (aR 8 0), some (aI n), some (aI a), some (aI b), some (aI c), some (aI e), some (aI f), none], [aI (-4)], M)
                refine hR _ (show K (some (aI (-4))) M from ?_)
                refine am_kr (hK0 (by omega)) ?_
                split
                all_goals omega
            · show R (44, [some (aR 8 0), some (aI n), some (aI a), some (aI b), some (aI c), some (aI e), some (aI f), none], [aI 0], M)
              refine hR _ (am_brf (rg := am_in 0) (P := (0 : Int) ≠ 0) (A := R (50, [some (aR 8 0), some (aI n), some (aI a), some (aI b), some (aI c), some (aI e), some (aI f), none], [], M)) (B := R (47, [some (aR 8 0), some (aI n), some (aI a), some (aI b), some (aI c), some (aI e), some (aI f), none], [], M)) (by omega) (by omega) ?_)
              show R (47, [some (aR 8 0), some (aI n), some (aI a), some (aI b), some (aI c), some (aI e), some (aI f), none], [], M)
              refine hR _ (?_)
              show R (49, [some (aR 8 0), some (aI n), some (aI a), some (aI b), some (aI c), some (aI e), some (aI f), none], [aI (-2)], M)
              refine hR _ (show K (some (aI (-2))) M from ?_)
              refine am_kr (hK0 (by omega)) ?_
              split
              all_goals omega
          · show R (36, [some (aR 8 0), some (aI n), some (aI a), some (aI b), some (aI c), some (aI e), some (aI f), none], [aI 0], M)
            refine hR _ (am_brt (rg := am_in 0) (P := (0 : Int) = 0) (A := R (47, [some (aR 8 0), some (aI n), some (aI a), some (aI b), some (aI c), some (aI e), some (aI f), none], [], M)) (B := R (39, [some (aR 8 0), some (aI n), some (aI a), some (aI b), some (aI c), some (aI e), some (aI f), none], [], M)) (by omega) (by omega) ?_)
            show R (47, [some (aR 8 0), some (aI n), some (aI a), some (aI b), some (aI c), some (aI e), some (aI f), none], [], M)
            refine hR _ (?_)
            show R (49, [some (aR 8 0), some (aI n), some (aI a), some (aI b), some (aI c), some (aI e), some (aI f), none], [aI (-2)], M)
            refine hR _ (show K (some (aI (-2))) M from ?_)
            refine am_kr (hK0 (by omega)) ?_
            split
            all_goals omega
        · show R (28, [some (aR 8 0), some (aI n), some (aI a), some (aI b), some (aI c), some (aI e), some (aI f), none], [aI 0], M)
          refine hR _ (am_brt (rg := am_in 0) (P := (0 : Int) = 0) (A := R (47, [some (aR 8 0), some (aI n), some (aI a), some (aI b), some (aI c), some (aI e), some (aI f), none], [], M)) (B := R (31, [some (aR 8 0), some (aI n), some (aI a), some (aI b), some (aI c), some (aI e), some (aI f), none], [], M)) (by omega) (by omega) ?_)
          show R (47, [some (aR 8 0), some (aI n), some (aI a), some (aI b), some (aI c), some (aI e), some (aI f), none], [], M)
          refine hR _ (?_)
          show R (49, [some (aR 8 0), some (aI n), some (aI a), some (aI b), some (aI c), some (aI e), some (aI f), none], [aI (-2)], M)
          refine hR _ (show K (some (aI (-2))) M from ?_)
          refine am_kr (hK0 (by omega)) ?_
          split
          all_goals omega
      · show R (20, [some (aR 8 0), some (aI n), some (aI a), some (aI b), some (aI c), some (aI e), some (aI f), none], [aI 0], M)
        refine hR _ (am_brt (rg := am_in 0) (P := (0 : Int) = 0) (A := R (47, [some (aR 8 0), some (aI n), some (aI a), some (aI b), some (aI c), some (aI e), some (aI f), none], [], M)) (B := R (23, [some (aR 8 0), some (aI n), some (aI a), some (aI b), some (aI c), some (aI e), some (aI f), none], [], M)) (by omega) (by omega) ?_)
        show R (47, [some (aR 8 0), some (aI n), some (aI a), some (aI b), some (aI c), some (aI e), some (aI f), none], [], M)
        refine hR _ (?_)
        show R (49, [some (aR 8 0), some (aI n), some (aI a), some (aI b), some (aI c), some (aI e), some (aI f), none], [aI (-2)], M)
        refine hR _ (show K (some (aI (-2))) M from ?_)
        refine am_kr (hK0 (by omega)) ?_
        split
        all_goals omega
    · show R (13, [some (aR 8 0), some (aI n), some (aI a), some (aI b), some (aI c), some (aI e), some (aI f), none], [aI 0], M)
      refine hR _ (am_brt (rg := am_in 0) (P := (0 : Int) = 0) (A := R (47, [some (aR 8 0), some (aI n), some (aI a), some (aI b), some (aI c), some (aI e), some (aI f), none], [], M)) (B := R (16, [some (aR 8 0), some (aI n), some (aI a), some (aI b), some (aI c), some (aI e), some (aI f), none], [], M)) (by omega) (by omega) ?_)
      show R (47, [some (aR 8 0), some (aI n), some (aI a), some (aI b), some (aI c), some (aI e), some (aI f), none], [], M)
      refine hR _ (?_)
      show R (49, [some (aR 8 0), some (aI n), some (aI a), some (aI b), some (aI c), some (aI e), some (aI f), none], [aI (-2)], M)
      refine hR _ (show K (some (aI (-2))) M from ?_)
      refine am_kr (hK0 (by omega)) ?_
      split
      all_goals omega
  · show R (6, [some (aR 8 0), some (aI n), some (aI a), some (aI b), some (aI c), some (aI e), some (aI f), none], [aI 0], M)
    refine hR _ (am_brt (rg := am_in 0) (P := (0 : Int) = 0) (A := R (47, [some (aR 8 0), some (aI n), some (aI a), some (aI b), some (aI c), some (aI e), some (aI f), none], [], M)) (B := R (9, [some (aR 8 0), some (aI n), some (aI a), some (aI b), some (aI c), some (aI e), some (aI f), none], [], M)) (by omega) (by omega) ?_)
    show R (47, [some (aR 8 0), some (aI n), some (aI a), some (aI b), some (aI c), some (aI e), some (aI f), none], [], M)
    refine hR _ (?_)
    show R (49, [some (aR 8 0), some (aI n), some (aI a), some (aI b), some (aI c), some (aI e), some (aI f), none], [aI (-2)], M)
    refine hR _ (show K (some (aI (-2))) M from ?_)
    refine am_kr (hK0 (by omega)) ?_
    split
    all_goals omega

theorem sm_force {d : Nat} (hd : 2 ≤ d) {t : Int} {M : am_M} {K : am_K} (hx : 0 ≤ M 430 0 0 ∧ M 430 0 0 ≤ 6) (ha : am_in t) (hK1 : 0 ≤ t ∧ t < M 430 0 0 → K (some (aI (M 431 0 0))) (am_wr M 431 0 0 t)) (hK0 : ¬ (0 ≤ t ∧ t < M 430 0 0) → K (some (aI (-2))) M) : am_Call true d 139 [aR 8 0, aI t] M K := by
  obtain ⟨d, rfl⟩ : ∃ e, d = e + 1 := ⟨d - 1, by omega⟩
  refine ⟨rfl, fun R hR hC => ?_⟩
  replace hR : ∀ c, am_F true tb_f139 1 (am_Call true d) K R c → R c := hR
  show R (0, [some (aR 8 0), some (aI t), none], [], M)
  refine hR _ (hR _ (hR _ (hR _ (hR _ (hR _ (?_))))))
  show R (8, [some (aR 8 0), some (aI t), none], [aI (M 430 0 0 - 1), aI 0, aI t], M)
  refine hR _ (sp_in (by omega) (by omega) (fun h8 => ?_) (fun h8 => ?_))
  · show R (11, [some (aR 8 0), some (aI t), none], [aI 1], M)
    refine hR _ (am_brt (rg := am_in 1) (P := (1 : Int) ≠ 0) (A := R (17, [some (aR 8 0), some (aI t), none], [], M)) (B := R (14, [some (aR 8 0), some (aI t), none], [], M)) (by omega) (by omega) ?_)
    show R (17, [some (aR 8 0), some (aI t), none], [], M)
    refine hR _ (hR _ (hR _ (hR _ (hR _ (hR _ (hR _ (?_)))))))
    show R (28, [some (aR 8 0), some (aI t), some (aI (M 431 0 0))], [aI (M 431 0 0)], am_wr M 431 0 0 t)
    refine hR _ (show K (some (aI (M 431 0 0))) (am_wr M 431 0 0 t) from ?_)
    exact hK1 (by omega)
  · show R (11, [some (aR 8 0), some (aI t), none], [aI 0], M)
    refine hR _ (am_brf (rg := am_in 0) (P := (0 : Int) ≠ 0) (A := R (17, [some (aR 8 0), some (aI t), none], [], M)) (B := R (14, [some (aR 8 0), some (aI t), none], [], M)) (by omega) (by omega) ?_)
    show R (14, [some (aR 8 0), some (aI t), none], [], M)
    refine hR _ (?_)
    show R (16, [some (aR 8 0), some (aI t), none], [aI (-2)], M)
    refine hR _ (show K (some (aI (-2))) M from ?_)
    exact hK0 (by omega)

set_option maxHeartbeats 1000000 in
theorem sm_asks {d : Nat} (hd : 4 ≤ d) {pt na oo mo : Int} {M : am_M} {K : am_K} (hJ : jf_J M) (hW : jf_C M) (ha_pt : am_in pt) (ha_na : am_in na) (ha_oo : am_in oo) (ha_mo : am_in mo) (hK1 : jg_asks pt na oo mo → ∀ g, K (some (aI (jv_asks M pt na oo mo))) (am_mix mo_SM g M)) (hK0 : ¬ jg_asks pt na oo mo → K (some (aI (-2))) M) : am_Call true d 140 [aR 8 0, aI pt, aI na, aI oo, aI mo] M K := by
  obtain ⟨d, rfl⟩ : ∃ e, d = e + 1 := ⟨d - 1, by omega⟩
  refine ⟨rfl, fun R hR hC => ?_⟩
  replace hR : ∀ c, am_F true tb_f140 1 (am_Call true d) K R c → R c := hR
  have hn := hJ.1.1.2.2.2.2.2.2.2.1
  have hl0 := hJ.1.1.2.2.2.2.2.2.2.2
  have htc := hJ.2.2.1.1
  have hlt : 0 ≤ M 228 0 0 ∧ M 228 0 0 < 6 := by omega
  have hmk := hJ.1.1.1
  have hdr := hJ.1.1.2.1
  have hpr := hJ.1.1.2.2.1
  have hfu := hJ.1.1.2.2.2.1
  have hn' : 0 ≤ M 421 0 0 ∧ M 421 0 0 ≤ 5 := by rw [hW.1.2.1.1]; exact hn
  have h421 : M 421 0 0 = M 227 0 0 := hW.1.2.1.1
  obtain ⟨r, hrr⟩ : ∃ r, r = (M 228 0 0).toNat := ⟨_, rfl⟩
  have hr : M 431 0 0 = (r : Int) := by rw [hW.1.2.1.2.2.1]; omega
  have hr6 : r < 6 := by omega
  have hwt : mo_wt M r := (hW.2.1.2.2 r (by omega)).1
  have hpr2 : M 22 0 2 = M 222 0 0 := hW.1.1.2.2.1
  have hd1 := jf_dm na
  have hd2 := jf_dm oo
  show R (0, [some (aR 8 0), some (aI pt), some (aI na), some (aI oo), some (aI mo), none], [], M)
  refine hR _ (hR _ (hR _ (?_)))
  show R (3, [some (aR 8 0), some (aI pt), some (aI na), some (aI oo), some (aI mo), none], [aI 2, aI 0, aI pt], M)
  refine hR _ (sp_in (by omega) (by omega) (fun h3 => ?_) (fun h3 => ?_))
  · show R (6, [some (aR 8 0), some (aI pt), some (aI na), some (aI oo), some (aI mo), none], [aI 1], M)
    refine hR _ (am_brf (rg := am_in 1) (P := (1 : Int) = 0) (A := R (62, [some (aR 8 0), some (aI pt), some (aI na), some (aI oo), some (aI mo), none], [], M)) (B := R (9, [some (aR 8 0), some (aI pt), some (aI na), some (aI oo), some (aI mo), none], [], M)) (by omega) (by omega) ?_)
    show R (9, [some (aR 8 0), some (aI pt), some (aI na), some (aI oo), some (aI mo), none], [], M)
    refine hR _ (hR _ (hR _ (?_)))
    show R (14, [some (aR 8 0), some (aI pt), some (aI na), some (aI oo), some (aI mo), none], [aI 34, aI 10, aI na], M)
    refine hR _ (sp_in (by omega) (by omega) (fun h14 => ?_) (fun h14 => ?_))
    · show R (17, [some (aR 8 0), some (aI pt), some (aI na), some (aI oo), some (aI mo), none], [aI 1], M)
      refine hR _ (am_brf (rg := am_in 1) (P := (1 : Int) = 0) (A := R (62, [some (aR 8 0), some (aI pt), some (aI na), some (aI oo), some (aI mo), none], [], M)) (B := R (20, [some (aR 8 0), some (aI pt), some (aI na), some (aI oo), some (aI mo), none], [], M)) (by omega) (by omega) ?_)
      show R (20, [some (aR 8 0), some (aI pt), some (aI na), some (aI oo), some (aI mo), none], [], M)
      refine hR _ (hR _ (?_))
      show R (23, [some (aR 8 0), some (aI pt), some (aI na), some (aI oo), some (aI mo), none], [aI 10, aI na], M)
      refine hR _ ⟨(by omega), ?_⟩
      show R (24, [some (aR 8 0), some (aI pt), some (aI na), some (aI oo), some (aI mo), none], [aI (Int.tmod na 10)], M)
      refine hR _ (hR _ (am_brc (rg := am_in (Int.tmod na 10) ∧ am_in 5) (P := 5 ≤ (Int.tmod na 10)) (A := R (62, [some (aR 8 0), some (aI pt), some (aI na), some (aI oo), some (aI mo), none], [], M)) (B := R (28, [some (aR 8 0), some (aI pt), some (aI na), some (aI oo), some (aI mo), none], [], M)) (by omega) (fun c25 => ?_) (fun c25 => ?_)))
      · refine hR _ (hR _ (hR _ (hR _ (am_brt (rg := am_in 0) (P := (0 : Int) = 0) (A := R (96, [some (aR 8 0), some (aI pt), some (aI na), some (aI oo), some (aI mo), some (aI 0)], [], M)) (B := R (70, [some (aR 8 0), some (aI pt), some (aI na), some (aI oo), some (aI mo), some (aI 0)], [], M)) (by omega) (by omega) ?_))))
        show R (96, [some (aR 8 0), some (aI pt), some (aI na), some (aI oo), some (aI mo), some (aI 0)], [], M)
        refine hR _ (?_)
        show R (98, [some (aR 8 0), some (aI pt), some (aI na), some (aI oo), some (aI mo), some (aI 0)], [aI (-2)], M)
        refine hR _ (show K (some (aI (-2))) M from ?_)
        exact hK0 (fun hg => by unfold jg_asks at hg; omega)
      · refine hR _ (hR _ (hR _ (?_)))
        show R (33, [some (aR 8 0), some (aI pt), some (aI na), some (aI oo), some (aI mo), none], [aI 9991, aI 0, aI oo], M)
        refine hR _ (sp_in (by omega) (by omega) (fun h33 => ?_) (fun h33 => ?_))
        · show R (36, [some (aR 8 0), some (aI pt), some (aI na), some (aI oo), some (aI mo), none], [aI 1], M)
          refine hR _ (am_brf (rg := am_in 1) (P := (1 : Int) = 0) (A := R (62, [some (aR 8 0), some (aI pt), some (aI na), some (aI oo), some (aI mo), none], [], M)) (B := R (39, [some (aR 8 0), some (aI pt), some (aI na), some (aI oo), some (aI mo), none], [], M)) (by omega) (by omega) ?_)
          show R (39, [some (aR 8 0), some (aI pt), some (aI na), some (aI oo), some (aI mo), none], [], M)
          refine hR _ (hR _ (?_))
          show R (42, [some (aR 8 0), some (aI pt), some (aI na), some (aI oo), some (aI mo), none], [aI 10, aI oo], M)
          refine hR _ ⟨(by omega), ?_⟩
          show R (43, [some (aR 8 0), some (aI pt), some (aI na), some (aI oo), some (aI mo), none], [aI (Int.tmod oo 10)], M)
          refine hR _ (hR _ (am_brc (rg := am_in (Int.tmod oo 10) ∧ am_in 2) (P := 2 ≤ (Int.tmod oo 10)) (A := R (62, [some (aR 8 0), some (aI pt), some (aI na), some (aI oo), some (aI mo), none], [], M)) (B := R (47, [some (aR 8 0), some (aI pt), some (aI na), some (aI oo), some (aI mo), none], [], M)) (by omega) (fun c44 => ?_) (fun c44 => ?_)))
          · refine hR _ (hR _ (hR _ (hR _ (am_brt (rg := am_in 0) (P := (0 : Int) = 0) (A := R (96, [some (aR 8 0), some (aI pt), some (aI na), some (aI oo), some (aI mo), some (aI 0)], [], M)) (B := R (70, [some (aR 8 0), some (aI pt), some (aI na), some (aI oo), some (aI mo), some (aI 0)], [], M)) (by omega) (by omega) ?_))))
            show R (96, [some (aR 8 0), some (aI pt), some (aI na), some (aI oo), some (aI mo), some (aI 0)], [], M)
            refine hR _ (?_)
            show R (98, [some (aR 8 0), some (aI pt), some (aI na), some (aI oo), some (aI mo), some (aI 0)], [aI (-2)], M)
            refine hR _ (show K (some (aI (-2))) M from ?_)
            exact hK0 (fun hg => by unfold jg_asks at hg; omega)
          · refine hR _ (hR _ (hR _ (?_)))
            show R (52, [some (aR 8 0), some (aI pt), some (aI na), some (aI oo), some (aI mo), none], [aI 9, aI 0, aI mo], M)
            refine hR _ (sp_in (by omega) (by omega) (fun h52 => ?_) (fun h52 => ?_))
            · show R (55, [some (aR 8 0), some (aI pt), some (aI na), some (aI oo), some (aI mo), none], [aI 1], M)
              refine hR _ (am_brf (rg := am_in 1) (P := (1 : Int) = 0) (A := R (62, [some (aR 8 0), some (aI pt), some (aI na), some (aI oo), some (aI mo), none], [], M)) (B := R (58, [some (aR 8 0), some (aI pt), some (aI na), some (aI oo), some (aI mo), none], [], M)) (by omega) (by omega) ?_)
              show R (58, [some (aR 8 0), some (aI pt), some (aI na), some (aI oo), some (aI mo), none], [], M)
              refine hR _ (hR _ (hR _ (hR _ (hR _ (am_brf (rg := am_in 1) (P := (1 : Int) = 0) (A := R (96, [some (aR 8 0), some (aI pt), some (aI na), some (aI oo), some (aI mo), some (aI 1)], [], M)) (B := R (70, [some (aR 8 0), some (aI pt), some (aI na), some (aI oo), some (aI mo), some (aI 1)], [], M)) (by omega) (by omega) ?_)))))
              show R (70, [some (aR 8 0), some (aI pt), some (aI na), some (aI oo), some (aI mo), some (aI 1)], [], M)
              have hgood : jg_asks pt na oo mo := ⟨by omega, by omega, by omega, by omega, by omega, by omega⟩
              replace hK := hK1 hgood
              obtain hp | hp | hp : pt = 0 ∨ pt = 1 ∨ pt = 2 := by omega
              · subst hp
                show R (70, [some (aR 8 0), some (aI 0), some (aI na), some (aI oo), some (aI mo), some (aI 1)], [], M)
                refine hR _ (hR _ (hR _ (hR _ (?_))))
                show R (75, [some (aR 8 0), some (aI 0), some (aI na), some (aI oo), some (aI mo), some (aI 1)], [aI 10, aI na, aI 0, aR 8 0], M)
                refine hR _ ⟨(by omega), ?_⟩
                show R (76, [some (aR 8 0), some (aI 0), some (aI na), some (aI oo), some (aI mo), some (aI 1)], [aI (Int.tdiv na 10), aI 0, aR 8 0], M)
                refine hR _ (hR _ (?_))
                show R (79, [some (aR 8 0), some (aI 0), some (aI na), some (aI oo), some (aI mo), some (aI 1)], [aI 10, aI na, aI (Int.tdiv na 10), aI 0, aR 8 0], M)
                refine hR _ ⟨(by omega), ?_⟩
                show R (80, [some (aR 8 0), some (aI 0), some (aI na), some (aI oo), some (aI mo), some (aI 1)], [aI (Int.tmod na 10), aI (Int.tdiv na 10), aI 0, aR 8 0], M)
                refine hR _ (hR _ (?_))
                show R (83, [some (aR 8 0), some (aI 0), some (aI na), some (aI oo), some (aI mo), some (aI 1)], [aI 10, aI oo, aI (Int.tmod na 10), aI (Int.tdiv na 10), aI 0, aR 8 0], M)
                refine hR _ ⟨(by omega), ?_⟩
                show R (84, [some (aR 8 0), some (aI 0), some (aI na), some (aI oo), some (aI mo), some (aI 1)], [aI (Int.tdiv oo 10), aI (Int.tmod na 10), aI (Int.tdiv na 10), aI 0, aR 8 0], M)
                refine hR _ (hR _ (?_))
                show R (87, [some (aR 8 0), some (aI 0), some (aI na), some (aI oo), some (aI mo), some (aI 1)], [aI 10, aI oo, aI (Int.tdiv oo 10), aI (Int.tmod na 10), aI (Int.tdiv na 10), aI 0, aR 8 0], M)
                refine hR _ ⟨(by omega), ?_⟩
                show R (88, [some (aR 8 0), some (aI 0), some (aI na), some (aI oo), some (aI mo), some (aI 1)], [aI (Int.tmod oo 10), aI (Int.tdiv oo 10), aI (Int.tmod na 10), aI (Int.tdiv na 10), aI 0, aR 8 0], M)
                refine hR _ (?_)
                show R (90, [some (aR 8 0), some (aI 0), some (aI na), some (aI oo), some (aI mo), some (aI 1)], [aI mo, aI (Int.tmod oo 10), aI (Int.tdiv oo 10), aI (Int.tmod na 10), aI (Int.tdiv na 10), aI 0, aR 8 0], M)
                refine hR _ (sm_asksOf_0 (r := r) (by omega) hr hr6 hwt (show am_in (M 22 0 2) from by omega) ⟨by omega, by omega, by omega, by omega, by omega⟩ (fun g186 => ?_))
                show R (93, [some (aR 8 0), some (aI 0), some (aI na), some (aI oo), some (aI mo), some (aI 1)], [aI (jf_cl 0 (jf_val (jf_nm (Int.tdiv na 10) (Int.tmod na 10) (Int.tdiv oo 10) (Int.tmod oo 10) mo (M 22 0 2)) (mo_tk M r 0)))], am_mix [37, 38] g186 M)
                refine hR _ (?_)
                show R (98, [some (aR 8 0), some (aI 0), some (aI na), some (aI oo), some (aI mo), some (aI 1)], [aI (jf_cl 0 (jf_val (jf_nm (Int.tdiv na 10) (Int.tmod na 10) (Int.tdiv oo 10) (Int.tmod oo 10) mo (M 22 0 2)) (mo_tk M r 0)))], am_mix [37, 38] g186 M)
                refine hR _ (show K (some (aI (jf_cl 0 (jf_val (jf_nm (Int.tdiv na 10) (Int.tmod na 10) (Int.tdiv oo 10) (Int.tmod oo 10) mo (M 22 0 2)) (mo_tk M r 0))))) (am_mix [37, 38] g186 M) from ?_)
                have hv : jv_asks M 0 na oo mo = (jf_cl 0 (jf_val (jf_nm (Int.tdiv na 10) (Int.tmod na 10) (Int.tdiv oo 10) (Int.tmod oo 10) mo (M 22 0 2)) (mo_tk M r 0))) := by
                  unfold jv_asks
                  show jf_cl 0 (jf_val (jf_nm _ _ _ _ _ (M 222 0 0)) (jf_tk M (M 228 0 0).toNat 0)) = _
                  rw [← hrr, ← (hW.2.1.2.2 r (by omega)).2 0 (by decide), ← hW.1.1.2.2.1]
                have e9 : am_ag mo_SM M (am_mix [37, 38] g186 M) := (am_ag.rf).mix rfl
                rw [← hv, e9.eq]
                exact hK _
              · subst hp
                show R (70, [some (aR 8 0), some (aI 1), some (aI na), some (aI oo), some (aI mo), some (aI 1)], [], M)
                refine hR _ (hR _ (hR _ (hR _ (?_))))
                show R (75, [some (aR 8 0), some (aI 1), some (aI na), some (aI oo), some (aI mo), some (aI 1)], [aI 10, aI na, aI 1, aR 8 0], M)
                refine hR _ ⟨(by omega), ?_⟩
                show R (76, [some (aR 8 0), some (aI 1), some (aI na), some (aI oo), some (aI mo), some (aI 1)], [aI (Int.tdiv na 10), aI 1, aR 8 0], M)
                refine hR _ (hR _ (?_))
                show R (79, [some (aR 8 0), some (aI 1), some (aI na), some (aI oo), some (aI mo), some (aI 1)], [aI 10, aI na, aI (Int.tdiv na 10), aI 1, aR 8 0], M)
                refine hR _ ⟨(by omega), ?_⟩
                show R (80, [some (aR 8 0), some (aI 1), some (aI na), some (aI oo), some (aI mo), some (aI 1)], [aI (Int.tmod na 10), aI (Int.tdiv na 10), aI 1, aR 8 0], M)
                refine hR _ (hR _ (?_))
                show R (83, [some (aR 8 0), some (aI 1), some (aI na), some (aI oo), some (aI mo), some (aI 1)], [aI 10, aI oo, aI (Int.tmod na 10), aI (Int.tdiv na 10), aI 1, aR 8 0], M)
                refine hR _ ⟨(by omega), ?_⟩
                show R (84, [some (aR 8 0), some (aI 1), some (aI na), some (aI oo), some (aI mo), some (aI 1)], [aI (Int.tdiv oo 10), aI (Int.tmod na 10), aI (Int.tdiv na 10), aI 1, aR 8 0], M)
                refine hR _ (hR _ (?_))
                show R (87, [some (aR 8 0), some (aI 1), some (aI na), some (aI oo), some (aI mo), some (aI 1)], [aI 10, aI oo, aI (Int.tdiv oo 10), aI (Int.tmod na 10), aI (Int.tdiv na 10), aI 1, aR 8 0], M)
                refine hR _ ⟨(by omega), ?_⟩
                show R (88, [some (aR 8 0), some (aI 1), some (aI na), some (aI oo), some (aI mo), some (aI 1)], [aI (Int.tmod oo 10), aI (Int.tdiv oo 10), aI (Int.tmod na 10), aI (Int.tdiv na 10), aI 1, aR 8 0], M)
                refine hR _ (?_)
                show R (90, [some (aR 8 0), some (aI 1), some (aI na), some (aI oo), some (aI mo), some (aI 1)], [aI mo, aI (Int.tmod oo 10), aI (Int.tdiv oo 10), aI (Int.tmod na 10), aI (Int.tdiv na 10), aI 1, aR 8 0], M)
                refine hR _ (sm_asksOf_1 (r := r) (by omega) hr hr6 hwt (show am_in (M 22 0 2) from by omega) ⟨by omega, by omega, by omega, by omega, by omega⟩ (fun g187 => ?_))
                show R (93, [some (aR 8 0), some (aI 1), some (aI na), some (aI oo), some (aI mo), some (aI 1)], [aI (jf_cl 1 (jf_val (jf_nm (Int.tdiv na 10) (Int.tmod na 10) (Int.tdiv oo 10) (Int.tmod oo 10) mo (M 22 0 2)) (mo_tk M r 1)))], am_mix [37, 38] g187 M)
                refine hR _ (?_)
                show R (98, [some (aR 8 0), some (aI 1), some (aI na), some (aI oo), some (aI mo), some (aI 1)], [aI (jf_cl 1 (jf_val (jf_nm (Int.tdiv na 10) (Int.tmod na 10) (Int.tdiv oo 10) (Int.tmod oo 10) mo (M 22 0 2)) (mo_tk M r 1)))], am_mix [37, 38] g187 M)
                refine hR _ (show K (some (aI (jf_cl 1 (jf_val (jf_nm (Int.tdiv na 10) (Int.tmod na 10) (Int.tdiv oo 10) (Int.tmod oo 10) mo (M 22 0 2)) (mo_tk M r 1))))) (am_mix [37, 38] g187 M) from ?_)
                have hv : jv_asks M 1 na oo mo = (jf_cl 1 (jf_val (jf_nm (Int.tdiv na 10) (Int.tmod na 10) (Int.tdiv oo 10) (Int.tmod oo 10) mo (M 22 0 2)) (mo_tk M r 1))) := by
                  unfold jv_asks
                  show jf_cl 1 (jf_val (jf_nm _ _ _ _ _ (M 222 0 0)) (jf_tk M (M 228 0 0).toNat 1)) = _
                  rw [← hrr, ← (hW.2.1.2.2 r (by omega)).2 1 (by decide), ← hW.1.1.2.2.1]
                have e9 : am_ag mo_SM M (am_mix [37, 38] g187 M) := (am_ag.rf).mix rfl
                rw [← hv, e9.eq]
                exact hK _
              · subst hp
                show R (70, [some (aR 8 0), some (aI 2), some (aI na), some (aI oo), some (aI mo), some (aI 1)], [], M)
                refine hR _ (hR _ (hR _ (hR _ (?_))))
                show R (75, [some (aR 8 0), some (aI 2), some (aI na), some (aI oo), some (aI mo), some (aI 1)], [aI 10, aI na, aI 2, aR 8 0], M)
                refine hR _ ⟨(by omega), ?_⟩
                show R (76, [some (aR 8 0), some (aI 2), some (aI na), some (aI oo), some (aI mo), some (aI 1)], [aI (Int.tdiv na 10), aI 2, aR 8 0], M)
                refine hR _ (hR _ (?_))
                show R (79, [some (aR 8 0), some (aI 2), some (aI na), some (aI oo), some (aI mo), some (aI 1)], [aI 10, aI na, aI (Int.tdiv na 10), aI 2, aR 8 0], M)
                refine hR _ ⟨(by omega), ?_⟩
                show R (80, [some (aR 8 0), some (aI 2), some (aI na), some (aI oo), some (aI mo), some (aI 1)], [aI (Int.tmod na 10), aI (Int.tdiv na 10), aI 2, aR 8 0], M)
                refine hR _ (hR _ (?_))
                show R (83, [some (aR 8 0), some (aI 2), some (aI na), some (aI oo), some (aI mo), some (aI 1)], [aI 10, aI oo, aI (Int.tmod na 10), aI (Int.tdiv na 10), aI 2, aR 8 0], M)
                refine hR _ ⟨(by omega), ?_⟩
                show R (84, [some (aR 8 0), some (aI 2), some (aI na), some (aI oo), some (aI mo), some (aI 1)], [aI (Int.tdiv oo 10), aI (Int.tmod na 10), aI (Int.tdiv na 10), aI 2, aR 8 0], M)
                refine hR _ (hR _ (?_))
                show R (87, [some (aR 8 0), some (aI 2), some (aI na), some (aI oo), some (aI mo), some (aI 1)], [aI 10, aI oo, aI (Int.tdiv oo 10), aI (Int.tmod na 10), aI (Int.tdiv na 10), aI 2, aR 8 0], M)
                refine hR _ ⟨(by omega), ?_⟩
                show R (88, [some (aR 8 0), some (aI 2), some (aI na), some (aI oo), some (aI mo), some (aI 1)], [aI (Int.tmod oo 10), aI (Int.tdiv oo 10), aI (Int.tmod na 10), aI (Int.tdiv na 10), aI 2, aR 8 0], M)
                refine hR _ (?_)
                show R (90, [some (aR 8 0), some (aI 2), some (aI na), some (aI oo), some (aI mo), some (aI 1)], [aI mo, aI (Int.tmod oo 10), aI (Int.tdiv oo 10), aI (Int.tmod na 10), aI (Int.tdiv na 10), aI 2, aR 8 0], M)
                refine hR _ (sm_asksOf_2 (r := r) (by omega) hr hr6 hwt (show am_in (M 22 0 2) from by omega) ⟨by omega, by omega, by omega, by omega, by omega⟩ (fun g188 => ?_))
                show R (93, [some (aR 8 0), some (aI 2), some (aI na), some (aI oo), some (aI mo), some (aI 1)], [aI (jf_cl 2 (jf_val (jf_nm (Int.tdiv na 10) (Int.tmod na 10) (Int.tdiv oo 10) (Int.tmod oo 10) mo (M 22 0 2)) (mo_tk M r 2)))], am_mix [37, 38] g188 M)
                refine hR _ (?_)
                show R (98, [some (aR 8 0), some (aI 2), some (aI na), some (aI oo), some (aI mo), some (aI 1)], [aI (jf_cl 2 (jf_val (jf_nm (Int.tdiv na 10) (Int.tmod na 10) (Int.tdiv oo 10) (Int.tmod oo 10) mo (M 22 0 2)) (mo_tk M r 2)))], am_mix [37, 38] g188 M)
                refine hR _ (show K (some (aI (jf_cl 2 (jf_val (jf_nm (Int.tdiv na 10) (Int.tmod na 10) (Int.tdiv oo 10) (Int.tmod oo 10) mo (M 22 0 2)) (mo_tk M r 2))))) (am_mix [37, 38] g188 M) from ?_)
                have hv : jv_asks M 2 na oo mo = (jf_cl 2 (jf_val (jf_nm (Int.tdiv na 10) (Int.tmod na 10) (Int.tdiv oo 10) (Int.tmod oo 10) mo (M 22 0 2)) (mo_tk M r 2))) := by
                  unfold jv_asks
                  show jf_cl 2 (jf_val (jf_nm _ _ _ _ _ (M 222 0 0)) (jf_tk M (M 228 0 0).toNat 2)) = _
                  rw [← hrr, ← (hW.2.1.2.2 r (by omega)).2 2 (by decide), ← hW.1.1.2.2.1]
                have e9 : am_ag mo_SM M (am_mix [37, 38] g188 M) := (am_ag.rf).mix rfl
                rw [← hv, e9.eq]
                exact hK _
            · show R (55, [some (aR 8 0), some (aI pt), some (aI na), some (aI oo), some (aI mo), none], [aI 0], M)
              refine hR _ (am_brt (rg := am_in 0) (P := (0 : Int) = 0) (A := R (62, [some (aR 8 0), some (aI pt), some (aI na), some (aI oo), some (aI mo), none], [], M)) (B := R (58, [some (aR 8 0), some (aI pt), some (aI na), some (aI oo), some (aI mo), none], [], M)) (by omega) (by omega) ?_)
              show R (62, [some (aR 8 0), some (aI pt), some (aI na), some (aI oo), some (aI mo), none], [], M)
              refine hR _ (hR _ (hR _ (hR _ (am_brt (rg := am_in 0) (P := (0 : Int) = 0) (A := R (96, [some (aR 8 0), some (aI pt), some (aI na), some (aI oo), some (aI mo), some (aI 0)], [], M)) (B := R (70, [some (aR 8 0), some (aI pt), some (aI na), some (aI oo), some (aI mo), some (aI 0)], [], M)) (by omega) (by omega) ?_))))
              show R (96, [some (aR 8 0), some (aI pt), some (aI na), some (aI oo), some (aI mo), some (aI 0)], [], M)
              refine hR _ (?_)
              show R (98, [some (aR 8 0), some (aI pt), some (aI na), some (aI oo), some (aI mo), some (aI 0)], [aI (-2)], M)
              refine hR _ (show K (some (aI (-2))) M from ?_)
              exact hK0 (fun hg => by unfold jg_asks at hg; omega)
        · show R (36, [some (aR 8 0), some (aI pt), some (aI na), some (aI oo), some (aI mo), none], [aI 0], M)
          refine hR _ (am_brt (rg := am_in 0) (P := (0 : Int) = 0) (A := R (62, [some (aR 8 0), some (aI pt), some (aI na), some (aI oo), some (aI mo), none], [], M)) (B := R (39, [some (aR 8 0), some (aI pt), some (aI na), some (aI oo), some (aI mo), none], [], M)) (by omega) (by omega) ?_)
          show R (62, [some (aR 8 0), some (aI pt), some (aI na), some (aI oo), some (aI mo), none], [], M)
          refine hR _ (hR _ (hR _ (hR _ (am_brt (rg := am_in 0) (P := (0 : Int) = 0) (A := R (96, [some (aR 8 0), some (aI pt), some (aI na), some (aI oo), some (aI mo), some (aI 0)], [], M)) (B := R (70, [some (aR 8 0), some (aI pt), some (aI na), some (aI oo), some (aI mo), some (aI 0)], [], M)) (by omega) (by omega) ?_))))
          show R (96, [some (aR 8 0), some (aI pt), some (aI na), some (aI oo), some (aI mo), some (aI 0)], [], M)
          refine hR _ (?_)
          show R (98, [some (aR 8 0), some (aI pt), some (aI na), some (aI oo), some (aI mo), some (aI 0)], [aI (-2)], M)
          refine hR _ (show K (some (aI (-2))) M from ?_)
          exact hK0 (fun hg => by unfold jg_asks at hg; omega)
    · show R (17, [some (aR 8 0), some (aI pt), some (aI na), some (aI oo), some (aI mo), none], [aI 0], M)
      refine hR _ (am_brt (rg := am_in 0) (P := (0 : Int) = 0) (A := R (62, [some (aR 8 0), some (aI pt), some (aI na), some (aI oo), some (aI mo), none], [], M)) (B := R (20, [some (aR 8 0), some (aI pt), some (aI na), some (aI oo), some (aI mo), none], [], M)) (by omega) (by omega) ?_)
      show R (62, [some (aR 8 0), some (aI pt), some (aI na), some (aI oo), some (aI mo), none], [], M)
      refine hR _ (hR _ (hR _ (hR _ (am_brt (rg := am_in 0) (P := (0 : Int) = 0) (A := R (96, [some (aR 8 0), some (aI pt), some (aI na), some (aI oo), some (aI mo), some (aI 0)], [], M)) (B := R (70, [some (aR 8 0), some (aI pt), some (aI na), some (aI oo), some (aI mo), some (aI 0)], [], M)) (by omega) (by omega) ?_))))
      show R (96, [some (aR 8 0), some (aI pt), some (aI na), some (aI oo), some (aI mo), some (aI 0)], [], M)
      refine hR _ (?_)
      show R (98, [some (aR 8 0), some (aI pt), some (aI na), some (aI oo), some (aI mo), some (aI 0)], [aI (-2)], M)
      refine hR _ (show K (some (aI (-2))) M from ?_)
      exact hK0 (fun hg => by unfold jg_asks at hg; omega)
  · show R (6, [some (aR 8 0), some (aI pt), some (aI na), some (aI oo), some (aI mo), none], [aI 0], M)
    refine hR _ (am_brt (rg := am_in 0) (P := (0 : Int) = 0) (A := R (62, [some (aR 8 0), some (aI pt), some (aI na), some (aI oo), some (aI mo), none], [], M)) (B := R (9, [some (aR 8 0), some (aI pt), some (aI na), some (aI oo), some (aI mo), none], [], M)) (by omega) (by omega) ?_)
    show R (62, [some (aR 8 0), some (aI pt), some (aI na), some (aI oo), some (aI mo), none], [], M)
    refine hR _ (hR _ (hR _ (hR _ (am_brt (rg := am_in 0) (P := (0 : Int) = 0) (A := R (96, [some (aR 8 0), some (aI pt), some (aI na), some (aI oo), some (aI mo), some (aI 0)], [], M)) (B := R (70, [some (aR 8 0), some (aI pt), some (aI na), some (aI oo), some (aI mo), some (aI 0)], [], M)) (by omega) (by omega) ?_))))
    show R (96, [some (aR 8 0), some (aI pt), some (aI na), some (aI oo), some (aI mo), some (aI 0)], [], M)
    refine hR _ (?_)
    show R (98, [some (aR 8 0), some (aI pt), some (aI na), some (aI oo), some (aI mo), some (aI 0)], [aI (-2)], M)
    refine hR _ (show K (some (aI (-2))) M from ?_)
    exact hK0 (fun hg => by unfold jg_asks at hg; omega)

theorem sm_hand {d : Nat} (hd : 2 ≤ d) {N : Nat} {km ah ch : Int} {M : am_M} {K : am_K} (hN : M 421 0 0 = (N : Int)) (hN5 : N ≤ 5) (ha_km : am_in km) (ha_ah : am_in ah) (ha_ch : am_in ch) (hK1 : ((0 ≤ km ∧ km ≤ 59) ∧ (0 ≤ ah ∧ ah ≤ 99) ∧ 0 ≤ ch ∧ ch ≤ 500) → N < 5 → K (some (aI (N : Int))) (am_wr (am_wr (am_wr (am_wr (am_wr M 23 0 N (Int.tdiv km 10)) 24 0 N (Int.tmod km 10)) 25 0 (2 * N) ah) 25 0 (2 * N + 1) ch) 421 0 0 ((N : Int) + 1))) (hK0 : ¬ (((0 ≤ km ∧ km ≤ 59) ∧ (0 ≤ ah ∧ ah ≤ 99) ∧ 0 ≤ ch ∧ ch ≤ 500) ∧ N < 5) → K (some (aI (if (0 ≤ km ∧ km ≤ 59) ∧ (0 ≤ ah ∧ ah ≤ 99) ∧ 0 ≤ ch ∧ ch ≤ 500 then -4 else -2))) M) : am_Call true d 145 [aR 8 0, aI km, aI ah, aI ch] M K := by
  obtain ⟨d, rfl⟩ : ∃ e, d = e + 1 := ⟨d - 1, by omega⟩
  refine ⟨rfl, fun R hR hC => ?_⟩
  replace hR : ∀ c, am_F true tb_f145 1 (am_Call true d) K R c → R c := hR
  have hd1 := jf_dm km
  show R (0, [some (aR 8 0), some (aI km), some (aI ah), some (aI ch)], [], M)
  refine hR _ (hR _ (hR _ (?_)))
  show R (4, [some (aR 8 0), some (aI km), some (aI ah), some (aI ch)], [aI 59, aI 0, aI km], M)
  refine hR _ (sp_in (by omega) (by omega) (fun h4 => ?_) (fun h4 => ?_))
  · show R (7, [some (aR 8 0), some (aI km), some (aI ah), some (aI ch)], [aI 1], M)
    refine hR _ (am_brf (rg := am_in 1) (P := (1 : Int) = 0) (A := R (31, [some (aR 8 0), some (aI km), some (aI ah), some (aI ch)], [], M)) (B := R (10, [some (aR 8 0), some (aI km), some (aI ah), some (aI ch)], [], M)) (by omega) (by omega) ?_)
    show R (10, [some (aR 8 0), some (aI km), some (aI ah), some (aI ch)], [], M)
    refine hR _ (hR _ (hR _ (?_)))
    show R (14, [some (aR 8 0), some (aI km), some (aI ah), some (aI ch)], [aI 99, aI 0, aI ah], M)
    refine hR _ (sp_in (by omega) (by omega) (fun h14 => ?_) (fun h14 => ?_))
    · show R (17, [some (aR 8 0), some (aI km), some (aI ah), some (aI ch)], [aI 1], M)
      refine hR _ (am_brf (rg := am_in 1) (P := (1 : Int) = 0) (A := R (31, [some (aR 8 0), some (aI km), some (aI ah), some (aI ch)], [], M)) (B := R (20, [some (aR 8 0), some (aI km), some (aI ah), some (aI ch)], [], M)) (by omega) (by omega) ?_)
      show R (20, [some (aR 8 0), some (aI km), some (aI ah), some (aI ch)], [], M)
      refine hR _ (hR _ (hR _ (?_)))
      show R (25, [some (aR 8 0), some (aI km), some (aI ah), some (aI ch)], [aI 500, aI 0, aI ch], M)
      refine hR _ (sp_in (by omega) (by omega) (fun h25 => ?_) (fun h25 => ?_))
      · show R (28, [some (aR 8 0), some (aI km), some (aI ah), some (aI ch)], [aI 1], M)
        refine hR _ (am_brt (rg := am_in 1) (P := (1 : Int) ≠ 0) (A := R (34, [some (aR 8 0), some (aI km), some (aI ah), some (aI ch)], [], M)) (B := R (31, [some (aR 8 0), some (aI km), some (aI ah), some (aI ch)], [], M)) (by omega) (by omega) ?_)
        show R (34, [some (aR 8 0), some (aI km), some (aI ah), some (aI ch)], [], M)
        refine hR _ (hR _ (?_))
        show R (38, [some (aR 8 0), some (aI km), some (aI ah), some (aI ch)], [aI (M 421 0 0)], M)
        rw [(show M 421 0 0 = ((N : Nat) : Int) from hN)]
        show R (38, [some (aR 8 0), some (aI km), some (aI ah), some (aI ch)], [aI ((N : Nat) : Int)], M)
        refine hR _ (hR _ (am_brc (rg := am_in ((N : Nat) : Int) ∧ am_in 5) (P := ((N : Nat) : Int) ≠ 5) (A := R (45, [some (aR 8 0), some (aI km), some (aI ah), some (aI ch)], [], M)) (B := R (42, [some (aR 8 0), some (aI km), some (aI ah), some (aI ch)], [], M)) (by omega) (fun c39 => ?_) (fun c39 => ?_)))
        · refine hR _ (hR _ (hR _ (hR _ (?_))))
          show R (53, [some (aR 8 0), some (aI km), some (aI ah), some (aI ch)], [aI (M 421 0 0), aR 23 0], M)
          rw [(show M 421 0 0 = ((N : Nat) : Int) from hN)]
          show R (53, [some (aR 8 0), some (aI km), some (aI ah), some (aI ch)], [aI ((N : Nat) : Int), aR 23 0], M)
          refine hR _ (hR _ (?_))
          show R (56, [some (aR 8 0), some (aI km), some (aI ah), some (aI ch)], [aI 10, aI km, aI ((N : Nat) : Int), aR 23 0], M)
          refine hR _ ⟨(by omega), ?_⟩
          show R (57, [some (aR 8 0), some (aI km), some (aI ah), some (aI ch)], [aI (Int.tdiv km 10), aI ((N : Nat) : Int), aR 23 0], M)
          refine hR _ ⟨(show 0 ≤ (((N : Nat) : Int) : Int) ∧ (((N : Nat) : Int) : Int) < 5 from (by omega)), ?_⟩
          show R (58, [some (aR 8 0), some (aI km), some (aI ah), some (aI ch)], [], am_wr M 23 0 N (Int.tdiv km 10))
          refine hR _ (hR _ (hR _ (hR _ (?_))))
          show R (66, [some (aR 8 0), some (aI km), some (aI ah), some (aI ch)], [aI (M 421 0 0), aR 24 0], am_wr M 23 0 N (Int.tdiv km 10))
          rw [(show M 421 0 0 = ((N : Nat) : Int) from hN)]
          show R (66, [some (aR 8 0), some (aI km), some (aI ah), some (aI ch)], [aI ((N : Nat) : Int), aR 24 0], am_wr M 23 0 N (Int.tdiv km 10))
          refine hR _ (hR _ (?_))
          show R (69, [some (aR 8 0), some (aI km), some (aI ah), some (aI ch)], [aI 10, aI km, aI ((N : Nat) : Int), aR 24 0], am_wr M 23 0 N (Int.tdiv km 10))
          refine hR _ ⟨(by omega), ?_⟩
          show R (70, [some (aR 8 0), some (aI km), some (aI ah), some (aI ch)], [aI (Int.tmod km 10), aI ((N : Nat) : Int), aR 24 0], am_wr M 23 0 N (Int.tdiv km 10))
          refine hR _ ⟨(show 0 ≤ (((N : Nat) : Int) : Int) ∧ (((N : Nat) : Int) : Int) < 5 from (by omega)), ?_⟩
          show R (71, [some (aR 8 0), some (aI km), some (aI ah), some (aI ch)], [], am_wr (am_wr M 23 0 N (Int.tdiv km 10)) 24 0 N (Int.tmod km 10))
          refine hR _ (hR _ (hR _ (hR _ (hR _ (?_)))))
          show R (80, [some (aR 8 0), some (aI km), some (aI ah), some (aI ch)], [aI (M 421 0 0), aI 2, aR 25 0], am_wr (am_wr M 23 0 N (Int.tdiv km 10)) 24 0 N (Int.tmod km 10))
          rw [(show M 421 0 0 = ((N : Nat) : Int) from hN)]
          show R (80, [some (aR 8 0), some (aI km), some (aI ah), some (aI ch)], [aI ((N : Nat) : Int), aI 2, aR 25 0], am_wr (am_wr M 23 0 N (Int.tdiv km 10)) 24 0 N (Int.tmod km 10))
          refine hR _ (hR _ (?_))
          show R (82, [some (aR 8 0), some (aI km), some (aI ah), some (aI ch)], [aI ah, aI (2 * ((N : Nat) : Int)), aR 25 0], am_wr (am_wr M 23 0 N (Int.tdiv km 10)) 24 0 N (Int.tmod km 10))
          refine hR _ ⟨(show 0 ≤ ((2 * ((N : Nat) : Int)) : Int) ∧ ((2 * ((N : Nat) : Int)) : Int) < 10 from (by omega)), ?_⟩
          show R (83, [some (aR 8 0), some (aI km), some (aI ah), some (aI ch)], [], am_wr (am_wr (am_wr M 23 0 N (Int.tdiv km 10)) 24 0 N (Int.tmod km 10)) 25 0 (((2 * ((N : Nat) : Int))).toNat) ah)
          refine hR _ (hR _ (hR _ (hR _ (hR _ (?_)))))
          show R (92, [some (aR 8 0), some (aI km), some (aI ah), some (aI ch)], [aI (M 421 0 0), aI 2, aR 25 0], am_wr (am_wr (am_wr M 23 0 N (Int.tdiv km 10)) 24 0 N (Int.tmod km 10)) 25 0 (((2 * ((N : Nat) : Int))).toNat) ah)
          rw [(show M 421 0 0 = ((N : Nat) : Int) from hN)]
          show R (92, [some (aR 8 0), some (aI km), some (aI ah), some (aI ch)], [aI ((N : Nat) : Int), aI 2, aR 25 0], am_wr (am_wr (am_wr M 23 0 N (Int.tdiv km 10)) 24 0 N (Int.tmod km 10)) 25 0 (((2 * ((N : Nat) : Int))).toNat) ah)
          refine hR _ (hR _ (hR _ (hR _ (?_))))
          show R (96, [some (aR 8 0), some (aI km), some (aI ah), some (aI ch)], [aI ch, aI ((2 * ((N : Nat) : Int)) + 1), aR 25 0], am_wr (am_wr (am_wr M 23 0 N (Int.tdiv km 10)) 24 0 N (Int.tmod km 10)) 25 0 (((2 * ((N : Nat) : Int))).toNat) ah)
          refine hR _ ⟨(show 0 ≤ (((2 * ((N : Nat) : Int)) + 1) : Int) ∧ (((2 * ((N : Nat) : Int)) + 1) : Int) < 10 from (by omega)), ?_⟩
          show R (97, [some (aR 8 0), some (aI km), some (aI ah), some (aI ch)], [], am_wr (am_wr (am_wr (am_wr M 23 0 N (Int.tdiv km 10)) 24 0 N (Int.tmod km 10)) 25 0 (((2 * ((N : Nat) : Int))).toNat) ah) 25 0 ((((2 * ((N : Nat) : Int)) + 1)).toNat) ch)
          refine hR _ (hR _ (hR _ (?_)))
          show R (102, [some (aR 8 0), some (aI km), some (aI ah), some (aI ch)], [aI (M 421 0 0), aR 8 0], am_wr (am_wr (am_wr (am_wr M 23 0 N (Int.tdiv km 10)) 24 0 N (Int.tmod km 10)) 25 0 (((2 * ((N : Nat) : Int))).toNat) ah) 25 0 ((((2 * ((N : Nat) : Int)) + 1)).toNat) ch)
          rw [(show M 421 0 0 = ((N : Nat) : Int) from hN)]
          show R (102, [some (aR 8 0), some (aI km), some (aI ah), some (aI ch)], [aI ((N : Nat) : Int), aR 8 0], am_wr (am_wr (am_wr (am_wr M 23 0 N (Int.tdiv km 10)) 24 0 N (Int.tmod km 10)) 25 0 (((2 * ((N : Nat) : Int))).toNat) ah) 25 0 ((((2 * ((N : Nat) : Int)) + 1)).toNat) ch)
          refine hR _ (hR _ (hR _ (hR _ (hR _ (hR _ (hR _ (?_)))))))
          show R (113, [some (aR 8 0), some (aI km), some (aI ah), some (aI ch)], [aI ((((N : Nat) : Int) + 1) - 1)], am_wr (am_wr (am_wr (am_wr (am_wr M 23 0 N (Int.tdiv km 10)) 24 0 N (Int.tmod km 10)) 25 0 (((2 * ((N : Nat) : Int))).toNat) ah) 25 0 ((((2 * ((N : Nat) : Int)) + 1)).toNat) ch) 421 0 0 (((N : Nat) : Int) + 1))
          refine hR _ (show K (some (aI ((((N : Nat) : Int) + 1) - 1))) (am_wr (am_wr (am_wr (am_wr (am_wr M 23 0 N (Int.tdiv km 10)) 24 0 N (Int.tmod km 10)) 25 0 (((2 * ((N : Nat) : Int))).toNat) ah) 25 0 ((((2 * ((N : Nat) : Int)) + 1)).toNat) ch) 421 0 0 (((N : Nat) : Int) + 1)) from ?_)
          rw [show (2 * ((N : Nat) : Int)).toNat = 2 * N by omega, show (2 * ((N : Nat) : Int) + 1).toNat = 2 * N + 1 by omega, show ((N : Nat) : Int) + 1 - 1 = N by omega]
          exact hK1 (by omega) (by omega)
        · refine hR _ (?_)
          show R (44, [some (aR 8 0), some (aI km), some (aI ah), some (aI ch)], [aI (-4)], M)
          refine hR _ (show K (some (aI (-4))) M from ?_)
          refine am_kr (hK0 (by omega)) ?_
          split
          all_goals omega
      · show R (28, [some (aR 8 0), some (aI km), some (aI ah), some (aI ch)], [aI 0], M)
        refine hR _ (am_brf (rg := am_in 0) (P := (0 : Int) ≠ 0) (A := R (34, [some (aR 8 0), some (aI km), some (aI ah), some (aI ch)], [], M)) (B := R (31, [some (aR 8 0), some (aI km), some (aI ah), some (aI ch)], [], M)) (by omega) (by omega) ?_)
        show R (31, [some (aR 8 0), some (aI km), some (aI ah), some (aI ch)], [], M)
        refine hR _ (?_)
        show R (33, [some (aR 8 0), some (aI km), some (aI ah), some (aI ch)], [aI (-2)], M)
        refine hR _ (show K (some (aI (-2))) M from ?_)
        refine am_kr (hK0 (by omega)) ?_
        split
        all_goals omega
    · show R (17, [some (aR 8 0), some (aI km), some (aI ah), some (aI ch)], [aI 0], M)
      refine hR _ (am_brt (rg := am_in 0) (P := (0 : Int) = 0) (A := R (31, [some (aR 8 0), some (aI km), some (aI ah), some (aI ch)], [], M)) (B := R (20, [some (aR 8 0), some (aI km), some (aI ah), some (aI ch)], [], M)) (by omega) (by omega) ?_)
      show R (31, [some (aR 8 0), some (aI km), some (aI ah), some (aI ch)], [], M)
      refine hR _ (?_)
      show R (33, [some (aR 8 0), some (aI km), some (aI ah), some (aI ch)], [aI (-2)], M)
      refine hR _ (show K (some (aI (-2))) M from ?_)
      refine am_kr (hK0 (by omega)) ?_
      split
      all_goals omega
  · show R (7, [some (aR 8 0), some (aI km), some (aI ah), some (aI ch)], [aI 0], M)
    refine hR _ (am_brt (rg := am_in 0) (P := (0 : Int) = 0) (A := R (31, [some (aR 8 0), some (aI km), some (aI ah), some (aI ch)], [], M)) (B := R (10, [some (aR 8 0), some (aI km), some (aI ah), some (aI ch)], [], M)) (by omega) (by omega) ?_)
    show R (31, [some (aR 8 0), some (aI km), some (aI ah), some (aI ch)], [], M)
    refine hR _ (?_)
    show R (33, [some (aR 8 0), some (aI km), some (aI ah), some (aI ch)], [aI (-2)], M)
    refine hR _ (show K (some (aI (-2))) M from ?_)
    refine am_kr (hK0 (by omega)) ?_
    split
    all_goals omega

theorem sm_train {d : Nat} (hd : 3 ≤ d) {h w v : Int} {M : am_M} {K : am_K} (hn' : 0 ≤ M 421 0 0 ∧ M 421 0 0 ≤ 5) (ha_h : am_in h) (ha_w : am_in w) (ha_v : am_in v) (hK1 : ∀ k : Nat, h = k → k < M 421 0 0 → w = 0 → 0 ≤ v ∧ v ≤ 99 → K (some (aI (M 25 0 (2 * k)))) (am_wr M 25 0 (2 * k) v)) (hK2 : ∀ k : Nat, h = k → k < M 421 0 0 → w = 1 → 0 ≤ v ∧ v ≤ 500 → K (some (aI (M 25 0 (2 * k + 1)))) (am_wr M 25 0 (2 * k + 1) v)) (hK0 : ¬ ((0 ≤ h ∧ h < M 421 0 0) ∧ ((w = 0 ∧ 0 ≤ v ∧ v ≤ 99) ∨ (w = 1 ∧ 0 ≤ v ∧ v ≤ 500))) → K (some (aI (if 0 ≤ h ∧ h < M 421 0 0 then -7 else -5))) M) : am_Call true d 146 [aR 8 0, aI h, aI w, aI v] M K := by
  obtain ⟨d, rfl⟩ : ∃ e, d = e + 1 := ⟨d - 1, by omega⟩
  refine ⟨rfl, fun R hR hC => ?_⟩
  replace hR : ∀ c, am_F true tb_f146 1 (am_Call true d) K R c → R c := hR
  show R (0, [some (aR 8 0), some (aI h), some (aI w), some (aI v), none], [], M)
  rcases (show (∃ k : Nat, h = (k : Int) ∧ (k : Int) < M 421 0 0 ∧ k < 5) ∨ ¬ (0 ≤ h ∧ h < M 421 0 0) from by
    by_cases hh : 0 ≤ h ∧ h < M 421 0 0
    · exact Or.inl ⟨h.toNat, by omega, by omega, by omega⟩
    · exact Or.inr hh) with ⟨k, rfl, hk5, hk⟩ | hno
  · show R (0, [some (aR 8 0), some (aI ((k : Nat) : Int)), some (aI w), some (aI v), none], [], M)
    refine hR _ (hR _ (?_))
    show R (2, [some (aR 8 0), some (aI ((k : Nat) : Int)), some (aI w), some (aI v), none], [aI ((k : Nat) : Int), aR 8 0], M)
    refine hR _ (sm_isHand (by omega) hn' (by omega) (fun _ => ?_) (fun hz => absurd (show 0 ≤ ((k : Nat) : Int) ∧ ((k : Nat) : Int) < M 421 0 0 by omega) hz))
    show R (5, [some (aR 8 0), some (aI ((k : Nat) : Int)), some (aI w), some (aI v), none], [aI 1], M)
    refine hR _ (am_brt (rg := am_in 1) (P := (1 : Int) ≠ 0) (A := R (11, [some (aR 8 0), some (aI ((k : Nat) : Int)), some (aI w), some (aI v), none], [], M)) (B := R (8, [some (aR 8 0), some (aI ((k : Nat) : Int)), some (aI w), some (aI v), none], [], M)) (by omega) (by omega) ?_)
    show R (11, [some (aR 8 0), some (aI ((k : Nat) : Int)), some (aI w), some (aI v), none], [], M)
    refine hR _ (hR _ (hR _ (?_)))
    show R (14, [some (aR 8 0), some (aI ((k : Nat) : Int)), some (aI w), some (aI v), none], [aI 1, aI 0, aI w], M)
    refine hR _ (sp_in (by omega) (by omega) (fun h14 => ?_) (fun h14 => ?_))
    · show R (17, [some (aR 8 0), some (aI ((k : Nat) : Int)), some (aI w), some (aI v), none], [aI 1], M)
      refine hR _ (am_brf (rg := am_in 1) (P := (1 : Int) = 0) (A := R (40, [some (aR 8 0), some (aI ((k : Nat) : Int)), some (aI w), some (aI v), none], [], M)) (B := R (20, [some (aR 8 0), some (aI ((k : Nat) : Int)), some (aI w), some (aI v), none], [], M)) (by omega) (by omega) ?_)
      show R (20, [some (aR 8 0), some (aI ((k : Nat) : Int)), some (aI w), some (aI v), none], [], M)
      refine hR _ (hR _ (hR _ (hR _ (am_brc (rg := am_in w) (P := w ≠ 0) (A := R (31, [some (aR 8 0), some (aI ((k : Nat) : Int)), some (aI w), some (aI v), none], [aI 0, aI v], M)) (B := R (26, [some (aR 8 0), some (aI ((k : Nat) : Int)), some (aI w), some (aI v), none], [aI 0, aI v], M)) (by omega) (fun c23 => ?_) (fun c23 => ?_)))))
      · refine hR _ (?_)
        show R (34, [some (aR 8 0), some (aI ((k : Nat) : Int)), some (aI w), some (aI v), none], [aI 500, aI 0, aI v], M)
        refine hR _ (sp_in (by omega) (by omega) (fun h34 => ?_) (fun h34 => ?_))
        · show R (37, [some (aR 8 0), some (aI ((k : Nat) : Int)), some (aI w), some (aI v), none], [aI 1], M)
          refine hR _ (am_brt (rg := am_in 1) (P := (1 : Int) ≠ 0) (A := R (43, [some (aR 8 0), some (aI ((k : Nat) : Int)), some (aI w), some (aI v), none], [], M)) (B := R (40, [some (aR 8 0), some (aI ((k : Nat) : Int)), some (aI w), some (aI v), none], [], M)) (by omega) (by omega) ?_)
          show R (43, [some (aR 8 0), some (aI ((k : Nat) : Int)), some (aI w), some (aI v), none], [], M)
          rcases (show w = 0 ∨ w = 1 by omega) with rfl | rfl
          · show R (43, [some (aR 8 0), some (aI ((k : Nat) : Int)), some (aI 0), some (aI v), none], [], M)
            refine hR _ (hR _ (hR _ (hR _ (hR _ (hR _ (hR _ (?_)))))))
            show R (52, [some (aR 8 0), some (aI ((k : Nat) : Int)), some (aI 0), some (aI v), none], [aI ((2 * ((k : Nat) : Int)) + 0), aR 25 0], M)
            refine hR _ ⟨(show 0 ≤ (((2 * ((k : Nat) : Int)) + 0) : Int) ∧ (((2 * ((k : Nat) : Int)) + 0) : Int) < 10 from (by omega)), ?_⟩
            show R (53, [some (aR 8 0), some (aI ((k : Nat) : Int)), some (aI 0), some (aI v), none], [aI (M 25 0 ((((2 * ((k : Nat) : Int)) + 0)).toNat))], M)
            refine hR _ (hR _ (hR _ (hR _ (hR _ (hR _ (hR _ (hR _ (hR _ (?_)))))))))
            show R (65, [some (aR 8 0), some (aI ((k : Nat) : Int)), some (aI 0), some (aI v), some (aI (M 25 0 ((((2 * ((k : Nat) : Int)) + 0)).toNat)))], [aI v, aI ((2 * ((k : Nat) : Int)) + 0), aR 25 0], M)
            refine hR _ ⟨(show 0 ≤ (((2 * ((k : Nat) : Int)) + 0) : Int) ∧ (((2 * ((k : Nat) : Int)) + 0) : Int) < 10 from (by omega)), ?_⟩
            show R (66, [some (aR 8 0), some (aI ((k : Nat) : Int)), some (aI 0), some (aI v), some (aI (M 25 0 ((((2 * ((k : Nat) : Int)) + 0)).toNat)))], [], am_wr M 25 0 ((((2 * ((k : Nat) : Int)) + 0)).toNat) v)
            refine hR _ (?_)
            show R (68, [some (aR 8 0), some (aI ((k : Nat) : Int)), some (aI 0), some (aI v), some (aI (M 25 0 ((((2 * ((k : Nat) : Int)) + 0)).toNat)))], [aI (M 25 0 ((((2 * ((k : Nat) : Int)) + 0)).toNat))], am_wr M 25 0 ((((2 * ((k : Nat) : Int)) + 0)).toNat) v)
            refine hR _ (show K (some (aI (M 25 0 ((((2 * ((k : Nat) : Int)) + 0)).toNat)))) (am_wr M 25 0 ((((2 * ((k : Nat) : Int)) + 0)).toNat) v) from ?_)
            rw [show ((((2 * ((k : Nat) : Int)) + 0)).toNat) = 2 * k by omega]
            exact hK1 k rfl hk5 rfl (by omega)
          · show R (43, [some (aR 8 0), some (aI ((k : Nat) : Int)), some (aI 1), some (aI v), none], [], M)
            refine hR _ (hR _ (hR _ (hR _ (hR _ (hR _ (hR _ (?_)))))))
            show R (52, [some (aR 8 0), some (aI ((k : Nat) : Int)), some (aI 1), some (aI v), none], [aI ((2 * ((k : Nat) : Int)) + 1), aR 25 0], M)
            refine hR _ ⟨(show 0 ≤ (((2 * ((k : Nat) : Int)) + 1) : Int) ∧ (((2 * ((k : Nat) : Int)) + 1) : Int) < 10 from (by omega)), ?_⟩
            show R (53, [some (aR 8 0), some (aI ((k : Nat) : Int)), some (aI 1), some (aI v), none], [aI (M 25 0 ((((2 * ((k : Nat) : Int)) + 1)).toNat))], M)
            refine hR _ (hR _ (hR _ (hR _ (hR _ (hR _ (hR _ (hR _ (hR _ (?_)))))))))
            show R (65, [some (aR 8 0), some (aI ((k : Nat) : Int)), some (aI 1), some (aI v), some (aI (M 25 0 ((((2 * ((k : Nat) : Int)) + 1)).toNat)))], [aI v, aI ((2 * ((k : Nat) : Int)) + 1), aR 25 0], M)
            refine hR _ ⟨(show 0 ≤ (((2 * ((k : Nat) : Int)) + 1) : Int) ∧ (((2 * ((k : Nat) : Int)) + 1) : Int) < 10 from (by omega)), ?_⟩
            show R (66, [some (aR 8 0), some (aI ((k : Nat) : Int)), some (aI 1), some (aI v), some (aI (M 25 0 ((((2 * ((k : Nat) : Int)) + 1)).toNat)))], [], am_wr M 25 0 ((((2 * ((k : Nat) : Int)) + 1)).toNat) v)
            refine hR _ (?_)
            show R (68, [some (aR 8 0), some (aI ((k : Nat) : Int)), some (aI 1), some (aI v), some (aI (M 25 0 ((((2 * ((k : Nat) : Int)) + 1)).toNat)))], [aI (M 25 0 ((((2 * ((k : Nat) : Int)) + 1)).toNat))], am_wr M 25 0 ((((2 * ((k : Nat) : Int)) + 1)).toNat) v)
            refine hR _ (show K (some (aI (M 25 0 ((((2 * ((k : Nat) : Int)) + 1)).toNat)))) (am_wr M 25 0 ((((2 * ((k : Nat) : Int)) + 1)).toNat) v) from ?_)
            rw [show ((((2 * ((k : Nat) : Int)) + 1)).toNat) = 2 * k + 1 by omega]
            exact hK2 k rfl hk5 rfl (by omega)
        · show R (37, [some (aR 8 0), some (aI ((k : Nat) : Int)), some (aI w), some (aI v), none], [aI 0], M)
          refine hR _ (am_brf (rg := am_in 0) (P := (0 : Int) ≠ 0) (A := R (43, [some (aR 8 0), some (aI ((k : Nat) : Int)), some (aI w), some (aI v), none], [], M)) (B := R (40, [some (aR 8 0), some (aI ((k : Nat) : Int)), some (aI w), some (aI v), none], [], M)) (by omega) (by omega) ?_)
          show R (40, [some (aR 8 0), some (aI ((k : Nat) : Int)), some (aI w), some (aI v), none], [], M)
          refine hR _ (?_)
          show R (42, [some (aR 8 0), some (aI ((k : Nat) : Int)), some (aI w), some (aI v), none], [aI (-7)], M)
          refine hR _ (show K (some (aI (-7))) M from ?_)
          refine am_kr (hK0 (by omega)) ?_
          split
          all_goals omega
      · refine hR _ (hR _ (?_))
        show R (34, [some (aR 8 0), some (aI ((k : Nat) : Int)), some (aI w), some (aI v), none], [aI 99, aI 0, aI v], M)
        refine hR _ (sp_in (by omega) (by omega) (fun h34 => ?_) (fun h34 => ?_))
        · show R (37, [some (aR 8 0), some (aI ((k : Nat) : Int)), some (aI w), some (aI v), none], [aI 1], M)
          refine hR _ (am_brt (rg := am_in 1) (P := (1 : Int) ≠ 0) (A := R (43, [some (aR 8 0), some (aI ((k : Nat) : Int)), some (aI w), some (aI v), none], [], M)) (B := R (40, [some (aR 8 0), some (aI ((k : Nat) : Int)), some (aI w), some (aI v), none], [], M)) (by omega) (by omega) ?_)
          show R (43, [some (aR 8 0), some (aI ((k : Nat) : Int)), some (aI w), some (aI v), none], [], M)
          rcases (show w = 0 ∨ w = 1 by omega) with rfl | rfl
          · show R (43, [some (aR 8 0), some (aI ((k : Nat) : Int)), some (aI 0), some (aI v), none], [], M)
            refine hR _ (hR _ (hR _ (hR _ (hR _ (hR _ (hR _ (?_)))))))
            show R (52, [some (aR 8 0), some (aI ((k : Nat) : Int)), some (aI 0), some (aI v), none], [aI ((2 * ((k : Nat) : Int)) + 0), aR 25 0], M)
            refine hR _ ⟨(show 0 ≤ (((2 * ((k : Nat) : Int)) + 0) : Int) ∧ (((2 * ((k : Nat) : Int)) + 0) : Int) < 10 from (by omega)), ?_⟩
            show R (53, [some (aR 8 0), some (aI ((k : Nat) : Int)), some (aI 0), some (aI v), none], [aI (M 25 0 ((((2 * ((k : Nat) : Int)) + 0)).toNat))], M)
            refine hR _ (hR _ (hR _ (hR _ (hR _ (hR _ (hR _ (hR _ (hR _ (?_)))))))))
            show R (65, [some (aR 8 0), some (aI ((k : Nat) : Int)), some (aI 0), some (aI v), some (aI (M 25 0 ((((2 * ((k : Nat) : Int)) + 0)).toNat)))], [aI v, aI ((2 * ((k : Nat) : Int)) + 0), aR 25 0], M)
            refine hR _ ⟨(show 0 ≤ (((2 * ((k : Nat) : Int)) + 0) : Int) ∧ (((2 * ((k : Nat) : Int)) + 0) : Int) < 10 from (by omega)), ?_⟩
            show R (66, [some (aR 8 0), some (aI ((k : Nat) : Int)), some (aI 0), some (aI v), some (aI (M 25 0 ((((2 * ((k : Nat) : Int)) + 0)).toNat)))], [], am_wr M 25 0 ((((2 * ((k : Nat) : Int)) + 0)).toNat) v)
            refine hR _ (?_)
            show R (68, [some (aR 8 0), some (aI ((k : Nat) : Int)), some (aI 0), some (aI v), some (aI (M 25 0 ((((2 * ((k : Nat) : Int)) + 0)).toNat)))], [aI (M 25 0 ((((2 * ((k : Nat) : Int)) + 0)).toNat))], am_wr M 25 0 ((((2 * ((k : Nat) : Int)) + 0)).toNat) v)
            refine hR _ (show K (some (aI (M 25 0 ((((2 * ((k : Nat) : Int)) + 0)).toNat)))) (am_wr M 25 0 ((((2 * ((k : Nat) : Int)) + 0)).toNat) v) from ?_)
            rw [show ((((2 * ((k : Nat) : Int)) + 0)).toNat) = 2 * k by omega]
            exact hK1 k rfl hk5 rfl (by omega)
          · show R (43, [some (aR 8 0), some (aI ((k : Nat) : Int)), some (aI 1), some (aI v), none], [], M)
            refine hR _ (hR _ (hR _ (hR _ (hR _ (hR _ (hR _ (?_)))))))
            show R (52, [some (aR 8 0), some (aI ((k : Nat) : Int)), some (aI 1), some (aI v), none], [aI ((2 * ((k : Nat) : Int)) + 1), aR 25 0], M)
            refine hR _ ⟨(show 0 ≤ (((2 * ((k : Nat) : Int)) + 1) : Int) ∧ (((2 * ((k : Nat) : Int)) + 1) : Int) < 10 from (by omega)), ?_⟩
            show R (53, [some (aR 8 0), some (aI ((k : Nat) : Int)), some (aI 1), some (aI v), none], [aI (M 25 0 ((((2 * ((k : Nat) : Int)) + 1)).toNat))], M)
            refine hR _ (hR _ (hR _ (hR _ (hR _ (hR _ (hR _ (hR _ (hR _ (?_)))))))))
            show R (65, [some (aR 8 0), some (aI ((k : Nat) : Int)), some (aI 1), some (aI v), some (aI (M 25 0 ((((2 * ((k : Nat) : Int)) + 1)).toNat)))], [aI v, aI ((2 * ((k : Nat) : Int)) + 1), aR 25 0], M)
            refine hR _ ⟨(show 0 ≤ (((2 * ((k : Nat) : Int)) + 1) : Int) ∧ (((2 * ((k : Nat) : Int)) + 1) : Int) < 10 from (by omega)), ?_⟩
            show R (66, [some (aR 8 0), some (aI ((k : Nat) : Int)), some (aI 1), some (aI v), some (aI (M 25 0 ((((2 * ((k : Nat) : Int)) + 1)).toNat)))], [], am_wr M 25 0 ((((2 * ((k : Nat) : Int)) + 1)).toNat) v)
            refine hR _ (?_)
            show R (68, [some (aR 8 0), some (aI ((k : Nat) : Int)), some (aI 1), some (aI v), some (aI (M 25 0 ((((2 * ((k : Nat) : Int)) + 1)).toNat)))], [aI (M 25 0 ((((2 * ((k : Nat) : Int)) + 1)).toNat))], am_wr M 25 0 ((((2 * ((k : Nat) : Int)) + 1)).toNat) v)
            refine hR _ (show K (some (aI (M 25 0 ((((2 * ((k : Nat) : Int)) + 1)).toNat)))) (am_wr M 25 0 ((((2 * ((k : Nat) : Int)) + 1)).toNat) v) from ?_)
            rw [show ((((2 * ((k : Nat) : Int)) + 1)).toNat) = 2 * k + 1 by omega]
            exact hK2 k rfl hk5 rfl (by omega)
        · show R (37, [some (aR 8 0), some (aI ((k : Nat) : Int)), some (aI w), some (aI v), none], [aI 0], M)
          refine hR _ (am_brf (rg := am_in 0) (P := (0 : Int) ≠ 0) (A := R (43, [some (aR 8 0), some (aI ((k : Nat) : Int)), some (aI w), some (aI v), none], [], M)) (B := R (40, [some (aR 8 0), some (aI ((k : Nat) : Int)), some (aI w), some (aI v), none], [], M)) (by omega) (by omega) ?_)
          show R (40, [some (aR 8 0), some (aI ((k : Nat) : Int)), some (aI w), some (aI v), none], [], M)
          refine hR _ (?_)
          show R (42, [some (aR 8 0), some (aI ((k : Nat) : Int)), some (aI w), some (aI v), none], [aI (-7)], M)
          refine hR _ (show K (some (aI (-7))) M from ?_)
          refine am_kr (hK0 (by omega)) ?_
          split
          all_goals omega
    · show R (17, [some (aR 8 0), some (aI ((k : Nat) : Int)), some (aI w), some (aI v), none], [aI 0], M)
      refine hR _ (am_brt (rg := am_in 0) (P := (0 : Int) = 0) (A := R (40, [some (aR 8 0), some (aI ((k : Nat) : Int)), some (aI w), some (aI v), none], [], M)) (B := R (20, [some (aR 8 0), some (aI ((k : Nat) : Int)), some (aI w), some (aI v), none], [], M)) (by omega) (by omega) ?_)
      show R (40, [some (aR 8 0), some (aI ((k : Nat) : Int)), some (aI w), some (aI v), none], [], M)
      refine hR _ (?_)
      show R (42, [some (aR 8 0), some (aI ((k : Nat) : Int)), some (aI w), some (aI v), none], [aI (-7)], M)
      refine hR _ (show K (some (aI (-7))) M from ?_)
      refine am_kr (hK0 (by omega)) ?_
      split
      all_goals omega
  · show R (0, [some (aR 8 0), some (aI h), some (aI w), some (aI v), none], [], M)
    refine hR _ (hR _ (?_))
    show R (2, [some (aR 8 0), some (aI h), some (aI w), some (aI v), none], [aI h, aR 8 0], M)
    refine hR _ (sm_isHand (by omega) hn' (by omega) (fun hz => absurd hz hno) (fun _ => ?_))
    show R (5, [some (aR 8 0), some (aI h), some (aI w), some (aI v), none], [aI 0], M)
    refine hR _ (am_brf (rg := am_in 0) (P := (0 : Int) ≠ 0) (A := R (11, [some (aR 8 0), some (aI h), some (aI w), some (aI v), none], [], M)) (B := R (8, [some (aR 8 0), some (aI h), some (aI w), some (aI v), none], [], M)) (by omega) (by omega) ?_)
    show R (8, [some (aR 8 0), some (aI h), some (aI w), some (aI v), none], [], M)
    refine hR _ (?_)
    show R (10, [some (aR 8 0), some (aI h), some (aI w), some (aI v), none], [aI (-5)], M)
    refine hR _ (show K (some (aI (-5))) M from ?_)
    refine am_kr (hK0 (by omega)) ?_
    split
    all_goals omega
