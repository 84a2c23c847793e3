/-! wb -/
variable {wb : Bool}
/-! sheet, cell, copy, handsBy -/
def jf_h1 (M : am_M) (km ah ch : Int) : am_M := if ((0 ≤ km ∧ km ≤ 59) ∧ (0 ≤ ah ∧ ah ≤ 99) ∧ 0 ≤ ch ∧ ch ≤ 500) ∧ M 227 0 0 < 5 then (am_wr (am_wr (am_wr (am_wr (am_wr M 140 (M 227 0 0).toNat 0 (Int.tdiv km 10)) 141 (M 227 0 0).toNat 0 (Int.tmod km 10)) 142 (M 227 0 0).toNat 0 ah) 143 (M 227 0 0).toNat 0 ch) 227 0 0 (M 227 0 0 + 1)) else M
def jf_hs (M : am_M) (s at' : Nat) : Nat → am_M
  | 0 => M
  | i + 1 => jf_h1 (jf_hs M s at' i) (M 21 s (at' + 3 * i)) (M 21 s (at' + 3 * i + 1)) (M 21 s (at' + 3 * i + 2))
def jf_hc (M : am_M) (s at' : Nat) : Nat → Int
  | 0 => 0
  | i + 1 => if ((0 ≤ M 21 s (at' + 3 * i) ∧ M 21 s (at' + 3 * i) ≤ 59) ∧ (0 ≤ M 21 s (at' + 3 * i + 1) ∧ M 21 s (at' + 3 * i + 1) ≤ 99) ∧ 0 ≤ M 21 s (at' + 3 * i + 2) ∧ M 21 s (at' + 3 * i + 2) ≤ 500) ∧ jf_hs M s at' i 227 0 0 < 5 then jf_hc M s at' i + 1 else jf_hc M s at' i
theorem jf_h1_v {M : am_M} {km ah ch : Int} {v : Nat} (h : am_el [140, 141, 142, 143, 227] v = false) : jf_h1 M km ah ch v = M v := by
  unfold jf_h1
  split
  · exact (((((am_ag.rf (S := [140, 141, 142, 143, 227])).wr rfl).wr rfl).wr rfl).wr rfl).wr rfl v h
  · rfl
theorem jf_hs_v {M : am_M} {s a v : Nat} (h : am_el [140, 141, 142, 143, 227] v = false) : ∀ i, jf_hs M s a i v = M v
  | 0 => rfl
  | i + 1 => (jf_h1_v h).trans (jf_hs_v h i)
theorem jf_hs_n {M : am_M} {s a : Nat} (h : 0 ≤ M 227 0 0 ∧ M 227 0 0 ≤ 5) : ∀ i, 0 ≤ jf_hs M s a i 227 0 0 ∧ jf_hs M s a i 227 0 0 ≤ 5
  | 0 => h
  | i + 1 => by
    have ih := jf_hs_n (s := s) (a := a) h i
    show 0 ≤ jf_h1 (jf_hs M s a i) _ _ _ 227 0 0 ∧ jf_h1 (jf_hs M s a i) _ _ _ 227 0 0 ≤ 5
    unfold jf_h1
    split
    · show 0 ≤ jf_hs M s a i 227 0 0 + 1 ∧ jf_hs M s a i 227 0 0 + 1 ≤ 5
      omega
    · exact ih
theorem jf_hc_b (M : am_M) (s a : Nat) : ∀ i : Nat, 0 ≤ jf_hc M s a i ∧ jf_hc M s a i ≤ i
  | 0 => by
    unfold jf_hc
    omega
  | i + 1 => by
    have ih := jf_hc_b M s a i
    unfold jf_hc
    split <;> omega
def jd (A F N i k : Nat) : Prop := (F < A ∧ N ≤ k + i) ∨ (A ≤ F ∧ k < i)

theorem sq_sheet {d : Nat} (hd : 3 ≤ d) {sa so n : Int} {M : am_M} {K : am_K} (hJ : jf_J M) (ha_s : am_in sa) (ha_o : am_in so) (ha_n : am_in n) (hK1 : ∀ s : Nat, sa = s → s < 4 → -1 ≤ so ∧ so ≤ 2 → (so = -1 ∨ (0 ≤ n ∧ n ≤ 40)) → ∀ g : am_M, g 180 s 0 = so → g 181 s 0 = (if so = -1 then 0 else n) → (∀ j, j < 40 → g 21 s j = 0) → jf_os g M s → K (some (aI 1)) (am_mix [180, 181, 21] g M)) (hK0 : ¬ ((0 ≤ sa ∧ sa < 4) ∧ (-1 ≤ so ∧ so ≤ 2) ∧ (so = -1 ∨ (0 ≤ n ∧ n ≤ 40))) → K (some (aI (if ((0 ≤ sa ∧ sa < 4) ∧ -1 ≤ so ∧ so ≤ 2) ∧ n < 0 then -14 else -2))) M) : am_Call wb d 116 [aR 7 0, aI sa, aI so, aI n] M K := by
  obtain ⟨d, rfl⟩ : ∃ e, d = e + 1 := ⟨d - 1, by omega⟩
  refine ⟨rfl, fun R hR hC => ?_⟩
  replace hR : ∀ c, am_F wb tb_f116 1 (am_Call wb d) K R c → R c := hR
  have hn := hJ.1.1.2.2.2.2.2.2.2.1
  have hl0 := hJ.1.1.2.2.2.2.2.2.2.2
  have htc := hJ.2.2.1.1
  have hlt : 0 ≤ M 228 0 0 ∧ M 228 0 0 < 6 := by omega
  have hmk := hJ.1.1.1
  have hdr := hJ.1.1.2.1
  have hpr := hJ.1.1.2.2.1
  have hfu := hJ.1.1.2.2.2.1
  show R (0, [some (aR 7 0), some (aI sa), some (aI so), some (aI n), none], [], M)
  refine hR _ (hR _ (?_))
  show R (2, [some (aR 7 0), some (aI sa), some (aI so), some (aI n), none], [aI sa, aR 7 0], M)
  refine hR _ (sp_sheetAt (by omega) (by omega) (fun s hhs hs4 => ?_) (fun hns => ?_))
  · have hJs := hJ.2.2.2.1 s hs4
    have hJs1 := hJs.1
    have hJs2 := hJs.2.1
    show R (5, [some (aR 7 0), some (aI sa), some (aI so), some (aI n), none], [aR 2 s], M)
    refine hR _ (hR _ (hR _ (hR _ (hR _ (hR _ (?_))))))
    show R (15, [some (aR 7 0), some (aI sa), some (aI so), some (aI n), some (aR 2 s)], [aI 2, aI (-1), aI so], M)
    refine hR _ (sp_within (by omega) (by omega) (fun h15 => ?_) (fun h15 => ?_))
    · show R (18, [some (aR 7 0), some (aI sa), some (aI so), some (aI n), some (aR 2 s)], [aI 1], M)
      refine hR _ (am_brt (rg := am_in 1) (P := (1 : Int) ≠ 0) (A := R (24, [some (aR 7 0), some (aI sa), some (aI so), some (aI n), some (aR 2 s)], [], M)) (B := R (21, [some (aR 7 0), some (aI sa), some (aI so), some (aI n), some (aR 2 s)], [], M)) (by omega) (by omega) ?_)
      show R (24, [some (aR 7 0), some (aI sa), some (aI so), some (aI n), some (aR 2 s)], [], M)
      refine hR _ (hR _ (hR _ (am_brc (rg := am_in so ∧ am_in (-1)) (P := so = (-1)) (A := R (38, [some (aR 7 0), some (aI sa), some (aI so), some (aI n), some (aR 2 s)], [], M)) (B := R (29, [some (aR 7 0), some (aI sa), some (aI so), some (aI n), some (aR 2 s)], [], M)) (by omega) (fun c26 => ?_) (fun c26 => ?_))))
      · refine hR _ (hR _ (hR _ (am_brc (rg := am_in so ∧ am_in (-1)) (P := so = (-1)) (A := R (50, [some (aR 7 0), some (aI sa), some (aI so), some (aI n), some (aR 2 s)], [], M)) (B := R (43, [some (aR 7 0), some (aI sa), some (aI so), some (aI n), some (aR 2 s)], [], M)) (by omega) (fun c40 => ?_) (fun c40 => ?_))))
        · refine hR _ (hR _ (hR _ (hR _ (hR _ (am_brc (rg := am_in so ∧ am_in (-1)) (P := so ≠ (-1)) (A := R (62, [some (aR 7 0), some (aI sa), some (aI so), some (aI n), some (aR 2 s)], [aI so, aR 2 s], M)) (B := R (58, [some (aR 7 0), some (aI sa), some (aI so), some (aI n), some (aR 2 s)], [aI so, aR 2 s], M)) (by omega) (fun c55 => ?_) (fun c55 => ?_))))))
          · refine hR _ (?_)
            show R (63, [some (aR 7 0), some (aI sa), some (aI so), some (aI n), some (aR 2 s)], [aI n, aI so, aR 2 s], M)
            refine hR _ (am_ct (am_vi (by omega : s < 4)) (sp_become (by omega) (by omega) (by omega) (by omega) (fun g126 hb1 hb2 hb3 hb4 => ?_)))
            replace hb1 : g126 180 s 0 = so := hb1
            replace hb2 : g126 181 s 0 = max 0 (min 40 n) := hb2
            replace hb3 : ∀ j, j < 40 → g126 21 s j = 0 := hb3
            replace hb4 : jf_os g126 (M) s := hb4
            show R (66, [some (aR 7 0), some (aI sa), some (aI so), some (aI n), some (aR 2 s)], [], am_mix [180, 181, 21] g126 M)
            refine hR _ (?_)
            show R (67, [some (aR 7 0), some (aI sa), some (aI so), some (aI n), some (aR 2 s)], [aI 1], am_mix [180, 181, 21] g126 M)
            refine hR _ (show K (some (aI 1)) (am_mix [180, 181, 21] g126 M) from ?_)
            exact hK1 s hhs hs4 (by omega) (by omega) _ hb1 (by rw [hb2]; repeat' split; all_goals omega) hb3 hb4
          · refine hR _ (hR _ (?_))
            show R (63, [some (aR 7 0), some (aI sa), some (aI so), some (aI n), some (aR 2 s)], [aI 0, aI so, aR 2 s], M)
            refine hR _ (am_ct (am_vi (by omega : s < 4)) (sp_become (by omega) (by omega) (by omega) (by omega) (fun g127 hb1 hb2 hb3 hb4 => ?_)))
            replace hb1 : g127 180 s 0 = so := hb1
            replace hb2 : g127 181 s 0 = max 0 (min 40 0) := hb2
            replace hb3 : ∀ j, j < 40 → g127 21 s j = 0 := hb3
            replace hb4 : jf_os g127 (M) s := hb4
            show R (66, [some (aR 7 0), some (aI sa), some (aI so), some (aI n), some (aR 2 s)], [], am_mix [180, 181, 21] g127 M)
            refine hR _ (?_)
            show R (67, [some (aR 7 0), some (aI sa), some (aI so), some (aI n), some (aR 2 s)], [aI 1], am_mix [180, 181, 21] g127 M)
            refine hR _ (show K (some (aI 1)) (am_mix [180, 181, 21] g127 M) from ?_)
            exact hK1 s hhs hs4 (by omega) (by omega) _ hb1 (by rw [hb2]; repeat' split; all_goals omega) hb3 hb4
        · refine hR _ (hR _ (am_brc (rg := am_in n) (P := 0 ≤ n) (A := R (50, [some (aR 7 0), some (aI sa), some (aI so), some (aI n), some (aR 2 s)], [], M)) (B := R (47, [some (aR 7 0), some (aI sa), some (aI so), some (aI n), some (aR 2 s)], [], M)) (by omega) (fun c44 => ?_) (fun c44 => ?_)))
          · refine hR _ (hR _ (hR _ (hR _ (hR _ (am_brc (rg := am_in so ∧ am_in (-1)) (P := so ≠ (-1)) (A := R (62, [some (aR 7 0), some (aI sa), some (aI so), some (aI n), some (aR 2 s)], [aI so, aR 2 s], M)) (B := R (58, [some (aR 7 0), some (aI sa), some (aI so), some (aI n), some (aR 2 s)], [aI so, aR 2 s], M)) (by omega) (fun c55 => ?_) (fun c55 => ?_))))))
            · refine hR _ (?_)
              show R (63, [some (aR 7 0), some (aI sa), some (aI so), some (aI n), some (aR 2 s)], [aI n, aI so, aR 2 s], M)
              refine hR _ (am_ct (am_vi (by omega : s < 4)) (sp_become (by omega) (by omega) (by omega) (by omega) (fun g128 hb1 hb2 hb3 hb4 => ?_)))
              replace hb1 : g128 180 s 0 = so := hb1
              replace hb2 : g128 181 s 0 = max 0 (min 40 n) := hb2
              replace hb3 : ∀ j, j < 40 → g128 21 s j = 0 := hb3
              replace hb4 : jf_os g128 (M) s := hb4
              show R (66, [some (aR 7 0), some (aI sa), some (aI so), some (aI n), some (aR 2 s)], [], am_mix [180, 181, 21] g128 M)
              refine hR _ (?_)
              show R (67, [some (aR 7 0), some (aI sa), some (aI so), some (aI n), some (aR 2 s)], [aI 1], am_mix [180, 181, 21] g128 M)
              refine hR _ (show K (some (aI 1)) (am_mix [180, 181, 21] g128 M) from ?_)
              exact hK1 s hhs hs4 (by omega) (by omega) _ hb1 (by rw [hb2]; repeat' split; all_goals omega) hb3 hb4
            · refine hR _ (hR _ (?_))
              show R (63, [some (aR 7 0), some (aI sa), some (aI so), some (aI n), some (aR 2 s)], [aI 0, aI so, aR 2 s], M)
              refine hR _ (am_ct (am_vi (by omega : s < 4)) (sp_become (by omega) (by omega) (by omega) (by omega) (fun g129 hb1 hb2 hb3 hb4 => ?_)))
              replace hb1 : g129 180 s 0 = so := hb1
              replace hb2 : g129 181 s 0 = max 0 (min 40 0) := hb2
              replace hb3 : ∀ j, j < 40 → g129 21 s j = 0 := hb3
              replace hb4 : jf_os g129 (M) s := hb4
              show R (66, [some (aR 7 0), some (aI sa), some (aI so), some (aI n), some (aR 2 s)], [], am_mix [180, 181, 21] g129 M)
              refine hR _ (?_)
              show R (67, [some (aR 7 0), some (aI sa), some (aI so), some (aI n), some (aR 2 s)], [aI 1], am_mix [180, 181, 21] g129 M)
              refine hR _ (show K (some (aI 1)) (am_mix [180, 181, 21] g129 M) from ?_)
              exact hK1 s hhs hs4 (by omega) (by omega) _ hb1 (by rw [hb2]; repeat' split; all_goals omega) hb3 hb4
          · refine hR _ (?_)
            show R (49, [some (aR 7 0), some (aI sa), some (aI so), some (aI n), some (aR 2 s)], [aI (-14)], M)
            refine hR _ (show K (some (aI (-14))) M from ?_)
            refine am_kr (hK0 (by omega)) ?_
            split
            all_goals omega
      · refine hR _ (hR _ (hR _ (am_brc (rg := am_in n ∧ am_in 40) (P := n ≤ 40) (A := R (38, [some (aR 7 0), some (aI sa), some (aI so), some (aI n), some (aR 2 s)], [], M)) (B := R (35, [some (aR 7 0), some (aI sa), some (aI so), some (aI n), some (aR 2 s)], [], M)) (by omega) (fun c32 => ?_) (fun c32 => ?_))))
        · refine hR _ (hR _ (hR _ (am_brc (rg := am_in so ∧ am_in (-1)) (P := so = (-1)) (A := R (50, [some (aR 7 0), some (aI sa), some (aI so), some (aI n), some (aR 2 s)], [], M)) (B := R (43, [some (aR 7 0), some (aI sa), some (aI so), some (aI n), some (aR 2 s)], [], M)) (by omega) (fun c40 => ?_) (fun c40 => ?_))))
          · refine hR _ (hR _ (hR _ (hR _ (hR _ (am_brc (rg := am_in so ∧ am_in (-1)) (P := so ≠ (-1)) (A := R (62, [some (aR 7 0), some (aI sa), some (aI so), some (aI n), some (aR 2 s)], [aI so, aR 2 s], M)) (B := R (58, [some (aR 7 0), some (aI sa), some (aI so), some (aI n), some (aR 2 s)], [aI so, aR 2 s], M)) (by omega) (fun c55 => ?_) (fun c55 => ?_))))))
            · refine hR _ (?_)
              show R (63, [some (aR 7 0), some (aI sa), some (aI so), some (aI n), some (aR 2 s)], [aI n, aI so, aR 2 s], M)
              refine hR _ (am_ct (am_vi (by omega : s < 4)) (sp_become (by omega) (by omega) (by omega) (by omega) (fun g130 hb1 hb2 hb3 hb4 => ?_)))
              replace hb1 : g130 180 s 0 = so := hb1
              replace hb2 : g130 181 s 0 = max 0 (min 40 n) := hb2
              replace hb3 : ∀ j, j < 40 → g130 21 s j = 0 := hb3
              replace hb4 : jf_os g130 (M) s := hb4
              show R (66, [some (aR 7 0), some (aI sa), some (aI so), some (aI n), some (aR 2 s)], [], am_mix [180, 181, 21] g130 M)
              refine hR _ (?_)
              show R (67, [some (aR 7 0), some (aI sa), some (aI so), some (aI n), some (aR 2 s)], [aI 1], am_mix [180, 181, 21] g130 M)
              refine hR _ (show K (some (aI 1)) (am_mix [180, 181, 21] g130 M) from ?_)
              exact hK1 s hhs hs4 (by omega) (by omega) _ hb1 (by rw [hb2]; repeat' split; all_goals omega) hb3 hb4
            · refine hR _ (hR _ (?_))
              show R (63, [some (aR 7 0), some (aI sa), some (aI so), some (aI n), some (aR 2 s)], [aI 0, aI so, aR 2 s], M)
              refine hR _ (am_ct (am_vi (by omega : s < 4)) (sp_become (by omega) (by omega) (by omega) (by omega) (fun g131 hb1 hb2 hb3 hb4 => ?_)))
              replace hb1 : g131 180 s 0 = so := hb1
              replace hb2 : g131 181 s 0 = max 0 (min 40 0) := hb2
              replace hb3 : ∀ j, j < 40 → g131 21 s j = 0 := hb3
              replace hb4 : jf_os g131 (M) s := hb4
              show R (66, [some (aR 7 0), some (aI sa), some (aI so), some (aI n), some (aR 2 s)], [], am_mix [180, 181, 21] g131 M)
              refine hR _ (?_)
              show R (67, [some (aR 7 0), some (aI sa), some (aI so), some (aI n), some (aR 2 s)], [aI 1], am_mix [180, 181, 21] g131 M)
              refine hR _ (show K (some (aI 1)) (am_mix [180, 181, 21] g131 M) from ?_)
              exact hK1 s hhs hs4 (by omega) (by omega) _ hb1 (by rw [hb2]; repeat' split; all_goals omega) hb3 hb4
          · refine hR _ (hR _ (am_brc (rg := am_in n) (P := 0 ≤ n) (A := R (50, [some (aR 7 0), some (aI sa), some (aI so), some (aI n), some (aR 2 s)], [], M)) (B := R (47, [some (aR 7 0), some (aI sa), some (aI so), some (aI n), some (aR 2 s)], [], M)) (by omega) (fun c44 => ?_) (fun c44 => ?_)))
            · refine hR _ (hR _ (hR _ (hR _ (hR _ (am_brc (rg := am_in so ∧ am_in (-1)) (P := so ≠ (-1)) (A := R (62, [some (aR 7 0), some (aI sa), some (aI so), some (aI n), some (aR 2 s)], [aI so, aR 2 s], M)) (B := R (58, [some (aR 7 0), some (aI sa), some (aI so), some (aI n), some (aR 2 s)], [aI so, aR 2 s], M)) (by omega) (fun c55 => ?_) (fun c55 => ?_))))))
              · refine hR _ (?_)
                show R (63, [some (aR 7 0), some (aI sa), some (aI so), some (aI n), some (aR 2 s)], [aI n, aI so, aR 2 s], M)
                refine hR _ (am_ct (am_vi (by omega : s < 4)) (sp_become (by omega) (by omega) (by omega) (by omega) (fun g132 hb1 hb2 hb3 hb4 => ?_)))
                replace hb1 : g132 180 s 0 = so := hb1
                replace hb2 : g132 181 s 0 = max 0 (min 40 n) := hb2
                replace hb3 : ∀ j, j < 40 → g132 21 s j = 0 := hb3
                replace hb4 : jf_os g132 (M) s := hb4
                show R (66, [some (aR 7 0), some (aI sa), some (aI so), some (aI n), some (aR 2 s)], [], am_mix [180, 181, 21] g132 M)
                refine hR _ (?_)
                show R (67, [some (aR 7 0), some (aI sa), some (aI so), some (aI n), some (aR 2 s)], [aI 1], am_mix [180, 181, 21] g132 M)
                refine hR _ (show K (some (aI 1)) (am_mix [180, 181, 21] g132 M) from ?_)
                exact hK1 s hhs hs4 (by omega) (by omega) _ hb1 (by rw [hb2]; repeat' split; all_goals omega) hb3 hb4
              · refine hR _ (hR _ (?_))
                show R (63, [some (aR 7 0), some (aI sa), some (aI so), some (aI n), some (aR 2 s)], [aI 0, aI so, aR 2 s], M)
                refine hR _ (am_ct (am_vi (by omega : s < 4)) (sp_become (by omega) (by omega) (by omega) (by omega) (fun g133 hb1 hb2 hb3 hb4 => ?_)))
                replace hb1 : g133 180 s 0 = so := hb1
                replace hb2 : g133 181 s 0 = max 0 (min 40 0) := hb2
                replace hb3 : ∀ j, j < 40 → g133 21 s j = 0 := hb3
                replace hb4 : jf_os g133 (M) s := hb4
                show R (66, [some (aR 7 0), some (aI sa), some (aI so), some (aI n), some (aR 2 s)], [], am_mix [180, 181, 21] g133 M)
                refine hR _ (?_)
                show R (67, [some (aR 7 0), some (aI sa), some (aI so), some (aI n), some (aR 2 s)], [aI 1], am_mix [180, 181, 21] g133 M)
                refine hR _ (show K (some (aI 1)) (am_mix [180, 181, 21] g133 M) from ?_)
                exact hK1 s hhs hs4 (by omega) (by omega) _ hb1 (by rw [hb2]; repeat' split; all_goals omega) hb3 hb4
            · refine hR _ (?_)
              show R (49, [some (aR 7 0), some (aI sa), some (aI so), some (aI n), some (aR 2 s)], [aI (-14)], M)
              refine hR _ (show K (some (aI (-14))) M from ?_)
              refine am_kr (hK0 (by omega)) ?_
              split
              all_goals omega
        · refine hR _ (?_)
          show R (37, [some (aR 7 0), some (aI sa), some (aI so), some (aI n), some (aR 2 s)], [aI (-2)], M)
          refine hR _ (show K (some (aI (-2))) M from ?_)
          refine am_kr (hK0 (by omega)) ?_
          split
          all_goals omega
    · show R (18, [some (aR 7 0), some (aI sa), some (aI so), some (aI n), some (aR 2 s)], [aI 0], M)
      refine hR _ (am_brf (rg := am_in 0) (P := (0 : Int) ≠ 0) (A := R (24, [some (aR 7 0), some (aI sa), some (aI so), some (aI n), some (aR 2 s)], [], M)) (B := R (21, [some (aR 7 0), some (aI sa), some (aI so), some (aI n), some (aR 2 s)], [], M)) (by omega) (by omega) ?_)
      show R (21, [some (aR 7 0), some (aI sa), some (aI so), some (aI n), some (aR 2 s)], [], M)
      refine hR _ (?_)
      show R (23, [some (aR 7 0), some (aI sa), some (aI so), some (aI n), some (aR 2 s)], [aI (-2)], M)
      refine hR _ (show K (some (aI (-2))) M from ?_)
      refine am_kr (hK0 (by omega)) ?_
      split
      all_goals omega
  · show R (5, [some (aR 7 0), some (aI sa), some (aI so), some (aI n), none], [aN], M)
    refine hR _ (hR _ (hR _ (hR _ (?_))))
    show R (23, [some (aR 7 0), some (aI sa), some (aI so), some (aI n), some (aN)], [aI (-2)], M)
    refine hR _ (show K (some (aI (-2))) M from ?_)
    refine am_kr (hK0 (by omega)) ?_
    split
    all_goals omega

theorem sq_cell {d : Nat} (hd : 3 ≤ d) {sa i v : Int} {M : am_M} {K : am_K} (hJ : jf_J M) (ha_s : am_in sa) (ha_i : am_in i) (ha_v : am_in v) (hK1 : ∀ s : Nat, sa = s → s < 4 → M 180 s 0 ≠ -1 → 0 ≤ i ∧ i < M 181 s 0 → K (some (aI 1)) (am_wr M 21 s i.toNat (jf_put (M 180 s 0) v))) (hK0 : ¬ ((0 ≤ sa ∧ sa < 4) ∧ M 180 sa.toNat 0 ≠ -1 ∧ 0 ≤ i ∧ i < M 181 sa.toNat 0) → K (some (aI (if 0 ≤ sa ∧ sa < 4 then (if M 180 sa.toNat 0 = -1 then -11 else -12) else -2))) M) : am_Call wb d 117 [aR 7 0, aI sa, aI i, aI v] M K := by
  obtain ⟨d, rfl⟩ : ∃ e, d = e + 1 := ⟨d - 1, by omega⟩
  refine ⟨rfl, fun R hR hC => ?_⟩
  replace hR : ∀ c, am_F wb tb_f117 1 (am_Call wb d) K R c → R c := hR
  have hn := hJ.1.1.2.2.2.2.2.2.2.1
  have hl0 := hJ.1.1.2.2.2.2.2.2.2.2
  have htc := hJ.2.2.1.1
  have hlt : 0 ≤ M 228 0 0 ∧ M 228 0 0 < 6 := by omega
  have hmk := hJ.1.1.1
  have hdr := hJ.1.1.2.1
  have hpr := hJ.1.1.2.2.1
  have hfu := hJ.1.1.2.2.2.1
  show R (0, [some (aR 7 0), some (aI sa), some (aI i), some (aI v), none], [], M)
  refine hR _ (hR _ (?_))
  show R (2, [some (aR 7 0), some (aI sa), some (aI i), some (aI v), none], [aI sa, aR 7 0], M)
  refine hR _ (sp_sheetAt (by omega) (by omega) (fun s hhs hs4 => ?_) (fun hns => ?_))
  · have hJs := hJ.2.2.2.1 s hs4
    have hJs1 := hJs.1
    have hJs2 := hJs.2.1
    show R (5, [some (aR 7 0), some (aI sa), some (aI i), some (aI v), none], [aR 2 s], M)
    refine hR _ (hR _ (hR _ (hR _ (?_))))
    show R (17, [some (aR 7 0), some (aI sa), some (aI i), some (aI v), some (aR 2 s)], [aR 2 s], M)
    refine hR _ (am_ct (am_vi (by omega : s < 4)) ?_)
    show R (20, [some (aR 7 0), some (aI sa), some (aI i), some (aI v), some (aR 2 s)], [aI (M 180 s 0)], M)
    refine hR _ (hR _ (am_brc (rg := am_in (M 180 s 0) ∧ am_in (-1)) (P := M 180 s 0 ≠ (-1)) (A := R (27, [some (aR 7 0), some (aI sa), some (aI i), some (aI v), some (aR 2 s)], [], M)) (B := R (24, [some (aR 7 0), some (aI sa), some (aI i), some (aI v), some (aR 2 s)], [], M)) (by omega) (fun c21 => ?_) (fun c21 => ?_)))
    · refine hR _ (hR _ (hR _ (?_)))
      show R (31, [some (aR 7 0), some (aI sa), some (aI i), some (aI v), some (aR 2 s)], [aR 2 s, aI 0, aI i], M)
      refine hR _ (am_ct (am_vi (by omega : s < 4)) ?_)
      show R (34, [some (aR 7 0), some (aI sa), some (aI i), some (aI v), some (aR 2 s)], [aI (M 181 s 0), aI 0, aI i], M)
      refine hR _ (hR _ (?_))
      show R (36, [some (aR 7 0), some (aI sa), some (aI i), some (aI v), some (aR 2 s)], [aI (M 181 s 0 - 1), aI 0, aI i], M)
      refine hR _ (sp_within (by omega) (by omega) (fun h36 => ?_) (fun h36 => ?_))
      · show R (39, [some (aR 7 0), some (aI sa), some (aI i), some (aI v), some (aR 2 s)], [aI 1], M)
        refine hR _ (am_brt (rg := am_in 1) (P := (1 : Int) ≠ 0) (A := R (45, [some (aR 7 0), some (aI sa), some (aI i), some (aI v), some (aR 2 s)], [], M)) (B := R (42, [some (aR 7 0), some (aI sa), some (aI i), some (aI v), some (aR 2 s)], [], M)) (by omega) (by omega) ?_)
        show R (45, [some (aR 7 0), some (aI sa), some (aI i), some (aI v), some (aR 2 s)], [], M)
        refine hR _ (hR _ (hR _ (?_)))
        show R (49, [some (aR 7 0), some (aI sa), some (aI i), some (aI v), some (aR 2 s)], [aI v, aI i, aR 2 s], M)
        refine hR _ (am_ct (am_vi (by omega : s < 4)) (sp_write (by omega) (by omega) (by omega) (show am_in (M 180 s 0) from by omega) (by omega) ?_))
        show R (52, [some (aR 7 0), some (aI sa), some (aI i), some (aI v), some (aR 2 s)], [], am_wr M 21 s ((i).toNat) (jf_put (M 180 s 0) v))
        refine hR _ (?_)
        show R (53, [some (aR 7 0), some (aI sa), some (aI i), some (aI v), some (aR 2 s)], [aI 1], am_wr M 21 s ((i).toNat) (jf_put (M 180 s 0) v))
        refine hR _ (show K (some (aI 1)) (am_wr M 21 s ((i).toNat) (jf_put (M 180 s 0) v)) from ?_)
        exact hK1 s hhs hs4 (by omega) (by omega)
      · show R (39, [some (aR 7 0), some (aI sa), some (aI i), some (aI v), some (aR 2 s)], [aI 0], M)
        refine hR _ (am_brf (rg := am_in 0) (P := (0 : Int) ≠ 0) (A := R (45, [some (aR 7 0), some (aI sa), some (aI i), some (aI v), some (aR 2 s)], [], M)) (B := R (42, [some (aR 7 0), some (aI sa), some (aI i), some (aI v), some (aR 2 s)], [], M)) (by omega) (by omega) ?_)
        show R (42, [some (aR 7 0), some (aI sa), some (aI i), some (aI v), some (aR 2 s)], [], M)
        refine hR _ (?_)
        show R (44, [some (aR 7 0), some (aI sa), some (aI i), some (aI v), some (aR 2 s)], [aI (-12)], M)
        refine hR _ (show K (some (aI (-12))) M from ?_)
        subst hhs
        simp only [Int.toNat_natCast] at hK0
        refine am_kr (hK0 (by omega)) ?_
        repeat' split
        all_goals omega
    · refine hR _ (?_)
      show R (26, [some (aR 7 0), some (aI sa), some (aI i), some (aI v), some (aR 2 s)], [aI (-11)], M)
      refine hR _ (show K (some (aI (-11))) M from ?_)
      subst hhs
      simp only [Int.toNat_natCast] at hK0
      refine am_kr (hK0 (by omega)) ?_
      repeat' split
      all_goals omega
  · show R (5, [some (aR 7 0), some (aI sa), some (aI i), some (aI v), none], [aN], M)
    refine hR _ (hR _ (hR _ (hR _ (?_))))
    show R (14, [some (aR 7 0), some (aI sa), some (aI i), some (aI v), some (aN)], [aI (-2)], M)
    refine hR _ (show K (some (aI (-2))) M from ?_)
    refine am_kr (hK0 (by omega)) ?_
    repeat' split
    all_goals omega

theorem sp_take {d : Nat} (hd : 3 ≤ d) {s1 s2 A F N : Nat} {M : am_M} {K : am_K} (hs1 : s1 < 4) (hs2 : s2 < 4) (hA : A + N ≤ 40) (hF : F + N ≤ 40) (hso : am_in (M 180 s1 0)) (hc : ∀ j, j < 40 → am_in (M 21 s2 j) ∧ jf_put (M 180 s1 0) (M 21 s2 j) = M 21 s2 j) (h : ∀ g : am_M, (∀ k, k < N → g 21 s1 (A + k) = M 21 s2 (F + k)) → (∀ j, j < 40 → (∀ k, k < N → j ≠ A + k) → g 21 s1 j = M 21 s1 j) → (∀ s, s ≠ s1 → ∀ j, g 21 s j = M 21 s j) → K none (am_mix [21] g M)) : am_Call wb d 119 [aR 2 s1, aI ((A : Nat) : Int), aR 2 s2, aI ((F : Nat) : Int), aI ((N : Nat) : Int)] M K := by
  obtain ⟨d, rfl⟩ : ∃ e, d = e + 1 := ⟨d - 1, by omega⟩
  refine ⟨rfl, fun R hR hC => ?_⟩
  replace hR : ∀ c, am_F wb tb_f119 0 (am_Call wb d) K R c → R c := hR
  show R (0, [some (aR 2 s1), some (aI ((A : Nat) : Int)), some (aR 2 s2), some (aI ((F : Nat) : Int)), some (aI ((N : Nat) : Int)), none, none], [], M)
  refine hR _ (hR _ (?_))
  show R (3, [some (aR 2 s1), some (aI ((A : Nat) : Int)), some (aR 2 s2), some (aI ((F : Nat) : Int)), some (aI ((N : Nat) : Int)), some (aI 0), none], [], M)
  have key : ∀ (n i : Nat) (x : Int) (o6 : Option am_V) (g : am_M), x = (i : Int) → i + n = N → (∀ k, k < N → jd A F N i k → g 21 s1 (A + k) = M 21 s2 (F + k)) → (∀ j, j < 40 → (∀ k, k < N → jd A F N i k → j ≠ A + k) → g 21 s1 j = M 21 s1 j) → (∀ s, s ≠ s1 → ∀ j, g 21 s j = M 21 s j) → R (3, [some (aR 2 s1), some (aI ((A : Nat) : Int)), some (aR 2 s2), some (aI ((F : Nat) : Int)), some (aI ((N : Nat) : Int)), some (aI x), o6], [], am_mix [21] g M) := by
    intro n
    induction n with
    | zero =>
      intro i x o6 g hx hin h1 h2 h3
      subst hx
      refine hR _ (hR _ (hR _ (am_brt (rg := am_in ((i : Nat) : Int) ∧ am_in ((N : Nat) : Int)) (P := ((N : Nat) : Int) ≤ ((i : Nat) : Int)) (A := R (51, [some (aR 2 s1), some (aI ((A : Nat) : Int)), some (aR 2 s2), some (aI ((F : Nat) : Int)), some (aI ((N : Nat) : Int)), some (aI ((i : Nat) : Int)), o6], [], am_mix [21] g M)) (B := R (10, [some (aR 2 s1), some (aI ((A : Nat) : Int)), some (aR 2 s2), some (aI ((F : Nat) : Int)), some (aI ((N : Nat) : Int)), some (aI ((i : Nat) : Int)), o6], [], am_mix [21] g M)) (by omega) (by omega) ?_)))
      show R (51, [some (aR 2 s1), some (aI ((A : Nat) : Int)), some (aR 2 s2), some (aI ((F : Nat) : Int)), some (aI ((N : Nat) : Int)), some (aI ((i : Nat) : Int)), o6], [], am_mix [21] g M)
      refine hR _ (show K none (am_mix [21] g M) from ?_)
      refine h g ?_ ?_ h3
      · intro k hk
        exact h1 k hk (by unfold jd; omega)
      · intro j hj hk
        exact h2 j hj (fun k hk2 _ => hk k hk2)
    | succ n ih =>
      intro i x o6 g hx hin h1 h2 h3
      subst hx
      refine hR _ (hR _ (hR _ (am_brf (rg := am_in ((i : Nat) : Int) ∧ am_in ((N : Nat) : Int)) (P := ((N : Nat) : Int) ≤ ((i : Nat) : Int)) (A := R (51, [some (aR 2 s1), some (aI ((A : Nat) : Int)), some (aR 2 s2), some (aI ((F : Nat) : Int)), some (aI ((N : Nat) : Int)), some (aI ((i : Nat) : Int)), o6], [], am_mix [21] g M)) (B := R (10, [some (aR 2 s1), some (aI ((A : Nat) : Int)), some (aR 2 s2), some (aI ((F : Nat) : Int)), some (aI ((N : Nat) : Int)), some (aI ((i : Nat) : Int)), o6], [], am_mix [21] g M)) (by omega) (by omega) ?_)))
      show R (10, [some (aR 2 s1), some (aI ((A : Nat) : Int)), some (aR 2 s2), some (aI ((F : Nat) : Int)), some (aI ((N : Nat) : Int)), some (aI ((i : Nat) : Int)), o6], [], am_mix [21] g M)
      refine hR _ (hR _ (hR _ (am_brc (rg := am_in ((A : Nat) : Int) ∧ am_in ((F : Nat) : Int)) (P := ((A : Nat) : Int) ≤ ((F : Nat) : Int)) (A := R (25, [some (aR 2 s1), some (aI ((A : Nat) : Int)), some (aR 2 s2), some (aI ((F : Nat) : Int)), some (aI ((N : Nat) : Int)), some (aI ((i : Nat) : Int)), o6], [], am_mix [21] g M)) (B := R (15, [some (aR 2 s1), some (aI ((A : Nat) : Int)), some (aR 2 s2), some (aI ((F : Nat) : Int)), some (aI ((N : Nat) : Int)), some (aI ((i : Nat) : Int)), o6], [], am_mix [21] g M)) (by omega) (fun c12 => ?_) (fun c12 => ?_))))
      · refine hR _ (hR _ (?_))
        show R (29, [some (aR 2 s1), some (aI ((A : Nat) : Int)), some (aR 2 s2), some (aI ((F : Nat) : Int)), some (aI ((N : Nat) : Int)), some (aI ((i : Nat) : Int)), some (aI ((i : Nat) : Int))], [], am_mix [21] g M)
        have hsrc : g 21 s2 (F + i) = M 21 s2 (F + i) := by
          by_cases hs : s2 = s1
          · rw [hs]
            exact h2 (F + i) (by omega) (fun k hk hd => by unfold jd at hd; omega)
          · exact h3 s2 hs _
        have hcc := hc (F + i) (by omega)
        have hcc1 := hcc.1
        refine hR _ (hR _ (hR _ (hR _ (hR _ (hR _ (hR _ (hR _ (?_))))))))
        show R (39, [some (aR 2 s1), some (aI ((A : Nat) : Int)), some (aR 2 s2), some (aI ((F : Nat) : Int)), some (aI ((N : Nat) : Int)), some (aI ((i : Nat) : Int)), some (aI ((i : Nat) : Int))], [aI (((F : Nat) : Int) + ((i : Nat) : Int)), aR 2 s2, aI (((A : Nat) : Int) + ((i : Nat) : Int)), aR 2 s1], am_mix [21] g M)
        refine hR _ (am_ct (am_vi (by omega : s2 < 4)) (sp_read (by omega) (by omega) (by omega) ?_))
        have hrd39 : am_in (g 21 s2 (((((F : Nat) : Int) + ((i : Nat) : Int))).toNat)) := by
          rw [show (((((F : Nat) : Int) + ((i : Nat) : Int))).toNat) = F + i by omega, hsrc]
          exact hcc1
        show R (42, [some (aR 2 s1), some (aI ((A : Nat) : Int)), some (aR 2 s2), some (aI ((F : Nat) : Int)), some (aI ((N : Nat) : Int)), some (aI ((i : Nat) : Int)), some (aI ((i : Nat) : Int))], [aI (g 21 s2 (((((F : Nat) : Int) + ((i : Nat) : Int))).toNat)), aI (((A : Nat) : Int) + ((i : Nat) : Int)), aR 2 s1], am_mix [21] g M)
        refine hR _ (am_ct (am_vi (by omega : s1 < 4)) (sp_write (by omega) (by omega) (by omega) (show am_in (M 180 s1 0) from by omega) (by omega) ?_))
        show R (45, [some (aR 2 s1), some (aI ((A : Nat) : Int)), some (aR 2 s2), some (aI ((F : Nat) : Int)), some (aI ((N : Nat) : Int)), some (aI ((i : Nat) : Int)), some (aI ((i : Nat) : Int))], [], am_wr (am_mix [21] g M) 21 s1 (((((A : Nat) : Int) + ((i : Nat) : Int))).toNat) (jf_put (M 180 s1 0) (g 21 s2 (((((F : Nat) : Int) + ((i : Nat) : Int))).toNat))))
        refine hR _ (hR _ (?_))
        show R (3, [some (aR 2 s1), some (aI ((A : Nat) : Int)), some (aR 2 s2), some (aI ((F : Nat) : Int)), some (aI ((N : Nat) : Int)), some (aI (((i : Nat) : Int) + 1)), some (aI ((i : Nat) : Int))], [], am_wr (am_mix [21] g M) 21 s1 (((((A : Nat) : Int) + ((i : Nat) : Int))).toNat) (jf_put (M 180 s1 0) (g 21 s2 (((((F : Nat) : Int) + ((i : Nat) : Int))).toNat))))
        have hidx : (((((A : Nat) : Int) + ((i : Nat) : Int))).toNat) = A + i := by omega
        have hsx : (jf_put (M 180 s1 0) (g 21 s2 (((((F : Nat) : Int) + ((i : Nat) : Int))).toNat))) = M 21 s2 (F + i) := by
          rw [show ((((((F : Nat) : Int) + ((i : Nat) : Int))).toNat)) = F + i by omega, hsrc]
          exact hcc.2
        rw [hidx, hsx]
        have e9 : am_ag [21] M (am_wr (am_mix [21] g M) 21 s1 (A + i) (M 21 s2 (F + i))) := (am_ag.rf.mix rfl).wr rfl
        rw [e9.eq]
        refine ih (i + 1) _ _ _ rfl (by omega) ?_ ?_ ?_
        · intro k hk hd
          by_cases hkk : k = i
          · rw [hkk]
            exact am_wr_eq
          · exact (am_wr_ne (Or.inr (Or.inr (by omega)))).trans (h1 k hk (by unfold jd at hd ⊢; omega))
        · intro j hj hk
          refine (am_wr_ne (Or.inr (Or.inr (hk i (by omega) (by unfold jd; omega))))).trans (h2 j hj (fun k hk2 hd => hk k hk2 (by unfold jd at hd ⊢; omega)))
        · intro s hs j
          exact (am_wr_ne (Or.inr (Or.inl hs))).trans (h3 s hs j)
      · refine hR _ (hR _ (hR _ (hR _ (hR _ (hR _ (hR _ (?_)))))))
        show R (29, [some (aR 2 s1), some (aI ((A : Nat) : Int)), some (aR 2 s2), some (aI ((F : Nat) : Int)), some (aI ((N : Nat) : Int)), some (aI ((i : Nat) : Int)), some (aI ((((N : Nat) : Int) - 1) - ((i : Nat) : Int)))], [], am_mix [21] g M)
        have hsrc : g 21 s2 (F + (N - 1 - i)) = M 21 s2 (F + (N - 1 - i)) := by
          by_cases hs : s2 = s1
          · rw [hs]
            exact h2 (F + (N - 1 - i)) (by omega) (fun k hk hd => by unfold jd at hd; omega)
          · exact h3 s2 hs _
        have hcc := hc (F + (N - 1 - i)) (by omega)
        have hcc1 := hcc.1
        refine hR _ (hR _ (hR _ (hR _ (hR _ (hR _ (hR _ (hR _ (?_))))))))
        show R (39, [some (aR 2 s1), some (aI ((A : Nat) : Int)), some (aR 2 s2), some (aI ((F : Nat) : Int)), some (aI ((N : Nat) : Int)), some (aI ((i : Nat) : Int)), some (aI ((((N : Nat) : Int) - 1) - ((i : Nat) : Int)))], [aI (((F : Nat) : Int) + ((((N : Nat) : Int) - 1) - ((i : Nat) : Int))), aR 2 s2, aI (((A : Nat) : Int) + ((((N : Nat) : Int) - 1) - ((i : Nat) : Int))), aR 2 s1], am_mix [21] g M)
        refine hR _ (am_ct (am_vi (by omega : s2 < 4)) (sp_read (by omega) (by omega) (by omega) ?_))
        have hrd39 : am_in (g 21 s2 (((((F : Nat) : Int) + ((((N : Nat) : Int) - 1) - ((i : Nat) : Int)))).toNat)) := by
          rw [show (((((F : Nat) : Int) + ((((N : Nat) : Int) - 1) - ((i : Nat) : Int)))).toNat) = F + (N - 1 - i) by omega, hsrc]
          exact hcc1
        show R (42, [some (aR 2 s1), some (aI ((A : Nat) : Int)), some (aR 2 s2), some (aI ((F : Nat) : Int)), some (aI ((N : Nat) : Int)), some (aI ((i : Nat) : Int)), some (aI ((((N : Nat) : Int) - 1) - ((i : Nat) : Int)))], [aI (g 21 s2 (((((F : Nat) : Int) + ((((N : Nat) : Int) - 1) - ((i : Nat) : Int)))).toNat)), aI (((A : Nat) : Int) + ((((N : Nat) : Int) - 1) - ((i : Nat) : Int))), aR 2 s1], am_mix [21] g M)
        refine hR _ (am_ct (am_vi (by omega : s1 < 4)) (sp_write (by omega) (by omega) (by omega) (show am_in (M 180 s1 0) from by omega) (by omega) ?_))
        show R (45, [some (aR 2 s1), some (aI ((A : Nat) : Int)), some (aR 2 s2), some (aI ((F : Nat) : Int)), some (aI ((N : Nat) : Int)), some (aI ((i : Nat) : Int)), some (aI ((((N : Nat) : Int) - 1) - ((i : Nat) : Int)))], [], am_wr (am_mix [21] g M) 21 s1 (((((A : Nat) : Int) + ((((N : Nat) : Int) - 1) - ((i : Nat) : Int)))).toNat) (jf_put (M 180 s1 0) (g 21 s2 (((((F : Nat) : Int) + ((((N : Nat) : Int) - 1) - ((i : Nat) : Int)))).toNat))))
        refine hR _ (hR _ (?_))
        show R (3, [some (aR 2 s1), some (aI ((A : Nat) : Int)), some (aR 2 s2), some (aI ((F : Nat) : Int)), some (aI ((N : Nat) : Int)), some (aI (((i : Nat) : Int) + 1)), some (aI ((((N : Nat) : Int) - 1) - ((i : Nat) : Int)))], [], am_wr (am_mix [21] g M) 21 s1 (((((A : Nat) : Int) + ((((N : Nat) : Int) - 1) - ((i : Nat) : Int)))).toNat) (jf_put (M 180 s1 0) (g 21 s2 (((((F : Nat) : Int) + ((((N : Nat) : Int) - 1) - ((i : Nat) : Int)))).toNat))))
        have hidx : (((((A : Nat) : Int) + ((((N : Nat) : Int) - 1) - ((i : Nat) : Int)))).toNat) = A + (N - 1 - i) := by omega
        have hsx : (jf_put (M 180 s1 0) (g 21 s2 (((((F : Nat) : Int) + ((((N : Nat) : Int) - 1) - ((i : Nat) : Int)))).toNat))) = M 21 s2 (F + (N - 1 - i)) := by
          rw [show ((((((F : Nat) : Int) + ((((N : Nat) : Int) - 1) - ((i : Nat) : Int)))).toNat)) = F + (N - 1 - i) by omega, hsrc]
          exact hcc.2
        rw [hidx, hsx]
        have e9 : am_ag [21] M (am_wr (am_mix [21] g M) 21 s1 (A + (N - 1 - i)) (M 21 s2 (F + (N - 1 - i)))) := (am_ag.rf.mix rfl).wr rfl
        rw [e9.eq]
        refine ih (i + 1) _ _ _ rfl (by omega) ?_ ?_ ?_
        · intro k hk hd
          by_cases hkk : k = (N - 1 - i)
          · rw [hkk]
            exact am_wr_eq
          · exact (am_wr_ne (Or.inr (Or.inr (by omega)))).trans (h1 k hk (by unfold jd at hd ⊢; omega))
        · intro j hj hk
          refine (am_wr_ne (Or.inr (Or.inr (hk (N - 1 - i) (by omega) (by unfold jd; omega))))).trans (h2 j hj (fun k hk2 hd => hk k hk2 (by unfold jd at hd ⊢; omega)))
        · intro s hs j
          exact (am_wr_ne (Or.inr (Or.inl hs))).trans (h3 s hs j)
  have e9 : am_ag [21] M M := am_ag.rf
  rw [e9.eq]
  exact key N 0 _ _ _ rfl (by omega) (fun k hk hd => absurd hd (by unfold jd; omega)) (fun j hj hk => rfl) (fun s hs j => rfl)
