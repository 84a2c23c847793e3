/-! wb -/
variable {wb : Bool}
set_option maxHeartbeats 1000000 in
theorem sq_copy {d : Nat} (hd : 4 ≤ d) {sa i sb j n : Int} {M : am_M} {K : am_K} (hJ : jf_J M) (ha_sa : am_in sa) (ha_i : am_in i) (ha_sb : am_in sb) (ha_j : am_in j) (ha_n : am_in n) (hK1 : ∀ s s2 A F N : Nat, sa = s → sb = s2 → s < 4 → s2 < 4 → j = A → i = F → n = N → M 180 s 0 ≠ -1 → M 180 s 0 = M 180 s2 0 → (F : Int) + N ≤ M 181 s 0 → (A : Int) + N ≤ M 181 s2 0 → ∀ g : am_M, (∀ k, k < N → g 21 s2 (A + k) = M 21 s (F + k)) → (∀ j, j < 40 → (∀ k, k < N → j ≠ A + k) → g 21 s2 j = M 21 s2 j) → (∀ q, q ≠ s2 → ∀ j, g 21 q j = M 21 q j) → K (some (aI ((N : Nat) : Int))) (am_mix [21] g M)) (hK0 : ¬ (((0 ≤ sa ∧ sa < 4) ∧ 0 ≤ sb ∧ sb < 4) ∧ M 180 sa.toNat 0 ≠ -1 ∧ M 180 sb.toNat 0 ≠ -1 ∧ M 180 sa.toNat 0 = M 180 sb.toNat 0 ∧ 0 ≤ i ∧ 0 ≤ j ∧ 0 ≤ n ∧ i + n ≤ M 181 sa.toNat 0 ∧ j + n ≤ M 181 sb.toNat 0) → K (some (aI (if (0 ≤ sa ∧ sa < 4) ∧ 0 ≤ sb ∧ sb < 4 then (if M 180 sa.toNat 0 = -1 ∨ M 180 sb.toNat 0 = -1 then -11 else if M 180 sa.toNat 0 ≠ M 180 sb.toNat 0 then -13 else -12) else -2))) M) : am_Call wb d 118 [aR 7 0, aI sa, aI i, aI sb, aI j, aI n] M K := by
  obtain ⟨d, rfl⟩ : ∃ e, d = e + 1 := ⟨d - 1, by omega⟩
  refine ⟨rfl, fun R hR hC => ?_⟩
  replace hR : ∀ c, am_F wb tb_f118 1 (am_Call wb d) K R c → R c := hR
  have hn := hJ.1.1.2.2.2.2.2.2.2.1
  have hl0 := hJ.1.1.2.2.2.2.2.2.2.2
  have htc := hJ.2.2.1.1
  have hlt : 0 ≤ M 228 0 0 ∧ M 228 0 0 < 6 := by omega
  have hmk := hJ.1.1.1
  have hdr := hJ.1.1.2.1
  have hpr := hJ.1.1.2.2.1
  have hfu := hJ.1.1.2.2.2.1
  show R (0, [some (aR 7 0), some (aI sa), some (aI i), some (aI sb), some (aI j), some (aI n), none, none], [], M)
  refine hR _ (hR _ (?_))
  show R (2, [some (aR 7 0), some (aI sa), some (aI i), some (aI sb), some (aI j), some (aI n), none, none], [aI sa, aR 7 0], M)
  refine hR _ (sp_sheetAt (by omega) (by omega) (fun s hhs hs4 => ?_) (fun hns => ?_))
  · have hJs := hJ.2.2.2.1 s hs4
    have hJs1 := hJs.1
    have hJs2 := hJs.2.1
    show R (5, [some (aR 7 0), some (aI sa), some (aI i), some (aI sb), some (aI j), some (aI n), none, none], [aR 2 s], M)
    refine hR _ (hR _ (hR _ (?_)))
    show R (9, [some (aR 7 0), some (aI sa), some (aI i), some (aI sb), some (aI j), some (aI n), some (aR 2 s), none], [aI sb, aR 7 0], M)
    refine hR _ (sp_sheetAt (by omega) (by omega) (fun s2 hhs2 hs42 => ?_) (fun hns2 => ?_))
    · have hJt := hJ.2.2.2.1 s2 hs42
      have hJt1 := hJt.1
      have hJt2 := hJt.2.1
      show R (12, [some (aR 7 0), some (aI sa), some (aI i), some (aI sb), some (aI j), some (aI n), some (aR 2 s), none], [aR 2 s2], M)
      refine hR _ (hR _ (hR _ (hR _ (hR _ (hR _ (?_))))))
      show R (29, [some (aR 7 0), some (aI sa), some (aI i), some (aI sb), some (aI j), some (aI n), some (aR 2 s), some (aR 2 s2)], [aR 2 s], M)
      refine hR _ (am_ct (am_vi (by omega : s < 4)) ?_)
      show R (32, [some (aR 7 0), some (aI sa), some (aI i), some (aI sb), some (aI j), some (aI n), some (aR 2 s), some (aR 2 s2)], [aI (M 180 s 0)], M)
      refine hR _ (hR _ (am_brc (rg := am_in (M 180 s 0) ∧ am_in (-1)) (P := M 180 s 0 = (-1)) (A := R (45, [some (aR 7 0), some (aI sa), some (aI i), some (aI sb), some (aI j), some (aI n), some (aR 2 s), some (aR 2 s2)], [], M)) (B := R (36, [some (aR 7 0), some (aI sa), some (aI i), some (aI sb), some (aI j), some (aI n), some (aR 2 s), some (aR 2 s2)], [], M)) (by omega) (fun c33 => ?_) (fun c33 => ?_)))
      · refine hR _ (?_)
        show R (47, [some (aR 7 0), some (aI sa), some (aI i), some (aI sb), some (aI j), some (aI n), some (aR 2 s), some (aR 2 s2)], [aI (-11)], M)
        refine hR _ (show K (some (aI (-11))) M from ?_)
        subst hhs
        subst hhs2
        simp only [Int.toNat_natCast] at hK0
        refine am_kr (hK0 (by omega)) ?_
        repeat' split
        all_goals omega
      · refine hR _ (?_)
        show R (38, [some (aR 7 0), some (aI sa), some (aI i), some (aI sb), some (aI j), some (aI n), some (aR 2 s), some (aR 2 s2)], [aR 2 s2], M)
        refine hR _ (am_ct (am_vi (by omega : s2 < 4)) ?_)
        show R (41, [some (aR 7 0), some (aI sa), some (aI i), some (aI sb), some (aI j), some (aI n), some (aR 2 s), some (aR 2 s2)], [aI (M 180 s2 0)], M)
        refine hR _ (hR _ (am_brc (rg := am_in (M 180 s2 0) ∧ am_in (-1)) (P := M 180 s2 0 ≠ (-1)) (A := R (48, [some (aR 7 0), some (aI sa), some (aI i), some (aI sb), some (aI j), some (aI n), some (aR 2 s), some (aR 2 s2)], [], M)) (B := R (45, [some (aR 7 0), some (aI sa), some (aI i), some (aI sb), some (aI j), some (aI n), some (aR 2 s), some (aR 2 s2)], [], M)) (by omega) (fun c42 => ?_) (fun c42 => ?_)))
        · refine hR _ (?_)
          show R (50, [some (aR 7 0), some (aI sa), some (aI i), some (aI sb), some (aI j), some (aI n), some (aR 2 s), some (aR 2 s2)], [aR 2 s], M)
          refine hR _ (am_ct (am_vi (by omega : s < 4)) ?_)
          show R (53, [some (aR 7 0), some (aI sa), some (aI i), some (aI sb), some (aI j), some (aI n), some (aR 2 s), some (aR 2 s2)], [aI (M 180 s 0)], M)
          refine hR _ (?_)
          show R (55, [some (aR 7 0), some (aI sa), some (aI i), some (aI sb), some (aI j), some (aI n), some (aR 2 s), some (aR 2 s2)], [aR 2 s2, aI (M 180 s 0)], M)
          refine hR _ (am_ct (am_vi (by omega : s2 < 4)) ?_)
          show R (58, [some (aR 7 0), some (aI sa), some (aI i), some (aI sb), some (aI j), some (aI n), some (aR 2 s), some (aR 2 s2)], [aI (M 180 s2 0), aI (M 180 s 0)], M)
          refine hR _ (am_brc (rg := am_in (M 180 s 0) ∧ am_in (M 180 s2 0)) (P := M 180 s 0 = M 180 s2 0) (A := R (64, [some (aR 7 0), some (aI sa), some (aI i), some (aI sb), some (aI j), some (aI n), some (aR 2 s), some (aR 2 s2)], [], M)) (B := R (61, [some (aR 7 0), some (aI sa), some (aI i), some (aI sb), some (aI j), some (aI n), some (aR 2 s), some (aR 2 s2)], [], M)) (by omega) (fun c58 => ?_) (fun c58 => ?_))
          · refine hR _ (hR _ (am_brc (rg := am_in i) (P := i < 0) (A := R (103, [some (aR 7 0), some (aI sa), some (aI i), some (aI sb), some (aI j), some (aI n), some (aR 2 s), some (aR 2 s2)], [], M)) (B := R (68, [some (aR 7 0), some (aI sa), some (aI i), some (aI sb), some (aI j), some (aI n), some (aR 2 s), some (aR 2 s2)], [], M)) (by omega) (fun c65 => ?_) (fun c65 => ?_)))
            · refine hR _ (?_)
              show R (105, [some (aR 7 0), some (aI sa), some (aI i), some (aI sb), some (aI j), some (aI n), some (aR 2 s), some (aR 2 s2)], [aI (-12)], M)
              refine hR _ (show K (some (aI (-12))) M from ?_)
              subst hhs
              subst hhs2
              simp only [Int.toNat_natCast] at hK0
              refine am_kr (hK0 (by omega)) ?_
              repeat' split
              all_goals omega
            · refine hR _ (hR _ (am_brc (rg := am_in j) (P := j < 0) (A := R (103, [some (aR 7 0), some (aI sa), some (aI i), some (aI sb), some (aI j), some (aI n), some (aR 2 s), some (aR 2 s2)], [], M)) (B := R (73, [some (aR 7 0), some (aI sa), some (aI i), some (aI sb), some (aI j), some (aI n), some (aR 2 s), some (aR 2 s2)], [], M)) (by omega) (fun c70 => ?_) (fun c70 => ?_)))
              · refine hR _ (?_)
                show R (105, [some (aR 7 0), some (aI sa), some (aI i), some (aI sb), some (aI j), some (aI n), some (aR 2 s), some (aR 2 s2)], [aI (-12)], M)
                refine hR _ (show K (some (aI (-12))) M from ?_)
                subst hhs
                subst hhs2
                simp only [Int.toNat_natCast] at hK0
                refine am_kr (hK0 (by omega)) ?_
                repeat' split
                all_goals omega
              · refine hR _ (hR _ (am_brc (rg := am_in n) (P := n < 0) (A := R (103, [some (aR 7 0), some (aI sa), some (aI i), some (aI sb), some (aI j), some (aI n), some (aR 2 s), some (aR 2 s2)], [], M)) (B := R (78, [some (aR 7 0), some (aI sa), some (aI i), some (aI sb), some (aI j), some (aI n), some (aR 2 s), some (aR 2 s2)], [], M)) (by omega) (fun c75 => ?_) (fun c75 => ?_)))
                · refine hR _ (?_)
                  show R (105, [some (aR 7 0), some (aI sa), some (aI i), some (aI sb), some (aI j), some (aI n), some (aR 2 s), some (aR 2 s2)], [aI (-12)], M)
                  refine hR _ (show K (some (aI (-12))) M from ?_)
                  subst hhs
                  subst hhs2
                  simp only [Int.toNat_natCast] at hK0
                  refine am_kr (hK0 (by omega)) ?_
                  repeat' split
                  all_goals omega
                · refine hR _ (hR _ (?_))
                  show R (81, [some (aR 7 0), some (aI sa), some (aI i), some (aI sb), some (aI j), some (aI n), some (aR 2 s), some (aR 2 s2)], [aR 2 s, aI i], M)
                  refine hR _ (am_ct (am_vi (by omega : s < 4)) ?_)
                  show R (84, [some (aR 7 0), some (aI sa), some (aI i), some (aI sb), some (aI j), some (aI n), some (aR 2 s), some (aR 2 s2)], [aI (M 181 s 0), aI i], M)
                  refine hR _ (hR _ (hR _ (am_brc (rg := am_in i ∧ am_in (M 181 s 0 - n)) (P := (M 181 s 0 - n) < i) (A := R (103, [some (aR 7 0), some (aI sa), some (aI i), some (aI sb), some (aI j), some (aI n), some (aR 2 s), some (aR 2 s2)], [], M)) (B := R (90, [some (aR 7 0), some (aI sa), some (aI i), some (aI sb), some (aI j), some (aI n), some (aR 2 s), some (aR 2 s2)], [], M)) (by omega) (fun c87 => ?_) (fun c87 => ?_))))
                  · refine hR _ (?_)
                    show R (105, [some (aR 7 0), some (aI sa), some (aI i), some (aI sb), some (aI j), some (aI n), some (aR 2 s), some (aR 2 s2)], [aI (-12)], M)
                    refine hR _ (show K (some (aI (-12))) M from ?_)
                    subst hhs
                    subst hhs2
                    simp only [Int.toNat_natCast] at hK0
                    refine am_kr (hK0 (by omega)) ?_
                    repeat' split
                    all_goals omega
                  · refine hR _ (hR _ (?_))
                    show R (94, [some (aR 7 0), some (aI sa), some (aI i), some (aI sb), some (aI j), some (aI n), some (aR 2 s), some (aR 2 s2)], [aR 2 s2, aI j], M)
                    refine hR _ (am_ct (am_vi (by omega : s2 < 4)) ?_)
                    show R (97, [some (aR 7 0), some (aI sa), some (aI i), some (aI sb), some (aI j), some (aI n), some (aR 2 s), some (aR 2 s2)], [aI (M 181 s2 0), aI j], M)
                    refine hR _ (hR _ (hR _ (am_brc (rg := am_in j ∧ am_in (M 181 s2 0 - n)) (P := j ≤ (M 181 s2 0 - n)) (A := R (106, [some (aR 7 0), some (aI sa), some (aI i), some (aI sb), some (aI j), some (aI n), some (aR 2 s), some (aR 2 s2)], [], M)) (B := R (103, [some (aR 7 0), some (aI sa), some (aI i), some (aI sb), some (aI j), some (aI n), some (aR 2 s), some (aR 2 s2)], [], M)) (by omega) (fun c100 => ?_) (fun c100 => ?_))))
                    · have hsame : M 180 s 0 = M 180 s2 0 := by omega
                      obtain ⟨A, rfl⟩ : ∃ A : Nat, j = A := ⟨j.toNat, by omega⟩
                      obtain ⟨F, rfl⟩ : ∃ F : Nat, i = F := ⟨i.toNat, by omega⟩
                      obtain ⟨N, rfl⟩ : ∃ N : Nat, n = N := ⟨n.toNat, by omega⟩
                      refine hR _ (hR _ (hR _ (hR _ (hR _ (?_)))))
                      show R (115, [some (aR 7 0), some (aI sa), some (aI ((F : Nat) : Int)), some (aI sb), some (aI ((A : Nat) : Int)), some (aI ((N : Nat) : Int)), some (aR 2 s), some (aR 2 s2)], [aI ((N : Nat) : Int), aI ((F : Nat) : Int), aR 2 s, aI ((A : Nat) : Int), aR 2 s2], M)
                      refine hR _ (am_ct (am_vi (by omega : s2 < 4)) (sp_take (A := A) (F := F) (N := N) (by omega) (by omega) (by omega) (by omega) (by omega) (show am_in (M 180 s2 0) from by omega) (fun j hj => ⟨(hJs.2.2 j hj).1, (show jf_put (M 180 s2 0) (M 21 s j) = M 21 s j by rw [← hsame]; exact (hJs.2.2 j hj).2)⟩) (fun g134 ht1 ht2 ht3 => ?_)))
                      show R (118, [some (aR 7 0), some (aI sa), some (aI ((F : Nat) : Int)), some (aI sb), some (aI ((A : Nat) : Int)), some (aI ((N : Nat) : Int)), some (aR 2 s), some (aR 2 s2)], [], am_mix [21] g134 M)
                      refine hR _ (?_)
                      show R (120, [some (aR 7 0), some (aI sa), some (aI ((F : Nat) : Int)), some (aI sb), some (aI ((A : Nat) : Int)), some (aI ((N : Nat) : Int)), some (aR 2 s), some (aR 2 s2)], [aI ((N : Nat) : Int)], am_mix [21] g134 M)
                      refine hR _ (show K (some (aI ((N : Nat) : Int))) (am_mix [21] g134 M) from ?_)
                      exact hK1 s s2 A F N hhs hhs2 hs4 hs42 rfl rfl rfl (by omega) hsame (by omega) (by omega) g134 ht1 ht2 ht3
                    · refine hR _ (?_)
                      show R (105, [some (aR 7 0), some (aI sa), some (aI i), some (aI sb), some (aI j), some (aI n), some (aR 2 s), some (aR 2 s2)], [aI (-12)], M)
                      refine hR _ (show K (some (aI (-12))) M from ?_)
                      subst hhs
                      subst hhs2
                      simp only [Int.toNat_natCast] at hK0
                      refine am_kr (hK0 (by omega)) ?_
                      repeat' split
                      all_goals omega
          · refine hR _ (?_)
            show R (63, [some (aR 7 0), some (aI sa), some (aI i), some (aI sb), some (aI j), some (aI n), some (aR 2 s), some (aR 2 s2)], [aI (-13)], M)
            refine hR _ (show K (some (aI (-13))) M from ?_)
            subst hhs
            subst hhs2
            simp only [Int.toNat_natCast] at hK0
            refine am_kr (hK0 (by omega)) ?_
            repeat' split
            all_goals omega
        · refine hR _ (?_)
          show R (47, [some (aR 7 0), some (aI sa), some (aI i), some (aI sb), some (aI j), some (aI n), some (aR 2 s), some (aR 2 s2)], [aI (-11)], M)
          refine hR _ (show K (some (aI (-11))) M from ?_)
          subst hhs
          subst hhs2
          simp only [Int.toNat_natCast] at hK0
          refine am_kr (hK0 (by omega)) ?_
          repeat' split
          all_goals omega
    · show R (12, [some (aR 7 0), some (aI sa), some (aI i), some (aI sb), some (aI j), some (aI n), some (aR 2 s), none], [aN], M)
      refine hR _ (hR _ (hR _ (hR _ (hR _ (hR _ (?_))))))
      show R (26, [some (aR 7 0), some (aI sa), some (aI i), some (aI sb), some (aI j), some (aI n), some (aR 2 s), some (aN)], [aI (-2)], M)
      refine hR _ (show K (some (aI (-2))) M from ?_)
      subst hhs
      simp only [Int.toNat_natCast] at hK0
      refine am_kr (hK0 (by omega)) ?_
      repeat' split
      all_goals omega
  · show R (5, [some (aR 7 0), some (aI sa), some (aI i), some (aI sb), some (aI j), some (aI n), none, none], [aN], M)
    refine hR _ (hR _ (hR _ (?_)))
    show R (9, [some (aR 7 0), some (aI sa), some (aI i), some (aI sb), some (aI j), some (aI n), some (aN), none], [aI sb, aR 7 0], M)
    refine hR _ (sp_sheetAt (by omega) (by omega) (fun s2 hhs2 hs42 => ?_) (fun hns2 => ?_))
    · have hJt := hJ.2.2.2.1 s2 hs42
      have hJt1 := hJt.1
      have hJt2 := hJt.2.1
      show R (12, [some (aR 7 0), some (aI sa), some (aI i), some (aI sb), some (aI j), some (aI n), some (aN), none], [aR 2 s2], M)
      refine hR _ (hR _ (hR _ (hR _ (?_))))
      show R (26, [some (aR 7 0), some (aI sa), some (aI i), some (aI sb), some (aI j), some (aI n), some (aN), some (aR 2 s2)], [aI (-2)], M)
      refine hR _ (show K (some (aI (-2))) M from ?_)
      subst hhs2
      simp only [Int.toNat_natCast] at hK0
      refine am_kr (hK0 (by omega)) ?_
      repeat' split
      all_goals omega
    · show R (12, [some (aR 7 0), some (aI sa), some (aI i), some (aI sb), some (aI j), some (aI n), some (aN), none], [aN], M)
      refine hR _ (hR _ (hR _ (hR _ (?_))))
      show R (26, [some (aR 7 0), some (aI sa), some (aI i), some (aI sb), some (aI j), some (aI n), some (aN), some (aN)], [aI (-2)], M)
      refine hR _ (show K (some (aI (-2))) M from ?_)
      refine am_kr (hK0 (by omega)) ?_
      repeat' split
      all_goals omega

set_option maxHeartbeats 1000000 in
theorem sq_handsBy {d : Nat} (hd : 4 ≤ d) {sa so at' n : Int} {M : am_M} {K : am_K} (hJ : jf_J M) (ha_s : am_in sa) (ha_o : am_in so) (ha_a : am_in at') (ha_n : am_in n) (hKA : ∀ s : Nat, sa = s → s < 4 → 0 ≤ so ∧ so ≤ 2 → 0 ≤ n ∧ n ≤ 5 → M 180 s 0 = so → (∀ q : Nat, (q : Int) < n → 0 ≤ at' + 3 * (q : Int) ∧ at' + 3 * (q : Int) ≤ M 181 s 0 - 3) → K (some (aI (jf_hc M s at'.toNat n.toNat))) (jf_hs M s at'.toNat n.toNat)) (hKO : ∀ s : Nat, sa = s → s < 4 → 0 ≤ so ∧ so ≤ 2 → 0 ≤ n ∧ n ≤ 5 → M 180 s 0 = so → ∀ i : Nat, (i : Int) < n → (∀ q : Nat, q < i → 0 ≤ at' + 3 * (q : Int) ∧ at' + 3 * (q : Int) ≤ M 181 s 0 - 3) → ¬ (0 ≤ at' + 3 * (i : Int) ∧ at' + 3 * (i : Int) ≤ M 181 s 0 - 3) → K (some (aI (-12))) (jf_hs M s at'.toNat i)) (hK0 : ¬ (((0 ≤ sa ∧ sa < 4) ∧ (0 ≤ so ∧ so ≤ 2) ∧ 0 ≤ n ∧ n ≤ 5) ∧ M 180 sa.toNat 0 = so) → K (some (aI (if ((0 ≤ sa ∧ sa < 4) ∧ (0 ≤ so ∧ so ≤ 2) ∧ 0 ≤ n ∧ n ≤ 5) then (if M 180 sa.toNat 0 = -1 then -11 else -13) else -2))) M) : am_Call wb d 120 [aR 7 0, aI sa, aI so, aI at', aI n] M K := by
  obtain ⟨d, rfl⟩ : ∃ e, d = e + 1 := ⟨d - 1, by omega⟩
  refine ⟨rfl, fun R hR hC => ?_⟩
  replace hR : ∀ c, am_F wb tb_f120 1 (am_Call wb d) K R c → R c := hR
  have hn := hJ.1.1.2.2.2.2.2.2.2.1
  have hl0 := hJ.1.1.2.2.2.2.2.2.2.2
  have htc := hJ.2.2.1.1
  have hlt : 0 ≤ M 228 0 0 ∧ M 228 0 0 < 6 := by omega
  have hmk := hJ.1.1.1
  have hdr := hJ.1.1.2.1
  have hpr := hJ.1.1.2.2.1
  have hfu := hJ.1.1.2.2.2.1
  show R (0, [some (aR 7 0), some (aI sa), some (aI so), some (aI at'), some (aI n), none, none, none, none], [], M)
  refine hR _ (hR _ (?_))
  show R (2, [some (aR 7 0), some (aI sa), some (aI so), some (aI at'), some (aI n), none, none, none, none], [aI sa, aR 7 0], M)
  refine hR _ (sp_sheetAt (by omega) (by omega) (fun s hhs hs4 => ?_) (fun hns => ?_))
  · have hJs := hJ.2.2.2.1 s hs4
    have hJs1 := hJs.1
    have hJs2 := hJs.2.1
    show R (5, [some (aR 7 0), some (aI sa), some (aI so), some (aI at'), some (aI n), none, none, none, none], [aR 2 s], M)
    refine hR _ (hR _ (hR _ (hR _ (hR _ (hR _ (?_))))))
    show R (15, [some (aR 7 0), some (aI sa), some (aI so), some (aI at'), some (aI n), some (aR 2 s), none, none, none], [aI 2, aI 0, aI so], M)
    refine hR _ (sp_within (by omega) (by omega) (fun h15 => ?_) (fun h15 => ?_))
    · show R (18, [some (aR 7 0), some (aI sa), some (aI so), some (aI at'), some (aI n), some (aR 2 s), none, none, none], [aI 1], M)
      refine hR _ (am_brf (rg := am_in 1) (P := (1 : Int) = 0) (A := R (31, [some (aR 7 0), some (aI sa), some (aI so), some (aI at'), some (aI n), some (aR 2 s), none, none, none], [], M)) (B := R (21, [some (aR 7 0), some (aI sa), some (aI so), some (aI at'), some (aI n), some (aR 2 s), none, none, none], [], M)) (by omega) (by omega) ?_)
      show R (21, [some (aR 7 0), some (aI sa), some (aI so), some (aI at'), some (aI n), some (aR 2 s), none, none, none], [], M)
      refine hR _ (hR _ (hR _ (?_)))
      show R (25, [some (aR 7 0), some (aI sa), some (aI so), some (aI at'), some (aI n), some (aR 2 s), none, none, none], [aI 5, aI 0, aI n], M)
      refine hR _ (sp_within (by omega) (by omega) (fun h25 => ?_) (fun h25 => ?_))
      · show R (28, [some (aR 7 0), some (aI sa), some (aI so), some (aI at'), some (aI n), some (aR 2 s), none, none, none], [aI 1], M)
        refine hR _ (am_brt (rg := am_in 1) (P := (1 : Int) ≠ 0) (A := R (34, [some (aR 7 0), some (aI sa), some (aI so), some (aI at'), some (aI n), some (aR 2 s), none, none, none], [], M)) (B := R (31, [some (aR 7 0), some (aI sa), some (aI so), some (aI at'), some (aI n), some (aR 2 s), none, none, none], [], M)) (by omega) (by omega) ?_)
        show R (34, [some (aR 7 0), some (aI sa), some (aI so), some (aI at'), some (aI n), some (aR 2 s), none, none, none], [], M)
        refine hR _ (?_)
        show R (36, [some (aR 7 0), some (aI sa), some (aI so), some (aI at'), some (aI n), some (aR 2 s), none, none, none], [aR 2 s], M)
        refine hR _ (am_ct (am_vi (by omega : s < 4)) ?_)
        show R (39, [some (aR 7 0), some (aI sa), some (aI so), some (aI at'), some (aI n), some (aR 2 s), none, none, none], [aI (M 180 s 0)], M)
        refine hR _ (hR _ (am_brc (rg := am_in (M 180 s 0) ∧ am_in (-1)) (P := M 180 s 0 ≠ (-1)) (A := R (46, [some (aR 7 0), some (aI sa), some (aI so), some (aI at'), some (aI n), some (aR 2 s), none, none, none], [], M)) (B := R (43, [some (aR 7 0), some (aI sa), some (aI so), some (aI at'), some (aI n), some (aR 2 s), none, none, none], [], M)) (by omega) (fun c40 => ?_) (fun c40 => ?_)))
        · refine hR _ (?_)
          show R (48, [some (aR 7 0), some (aI sa), some (aI so), some (aI at'), some (aI n), some (aR 2 s), none, none, none], [aR 2 s], M)
          refine hR _ (am_ct (am_vi (by omega : s < 4)) ?_)
          show R (51, [some (aR 7 0), some (aI sa), some (aI so), some (aI at'), some (aI n), some (aR 2 s), none, none, none], [aI (M 180 s 0)], M)
          refine hR _ (hR _ (am_brc (rg := am_in (M 180 s 0) ∧ am_in so) (P := M 180 s 0 = so) (A := R (58, [some (aR 7 0), some (aI sa), some (aI so), some (aI at'), some (aI n), some (aR 2 s), none, none, none], [], M)) (B := R (55, [some (aR 7 0), some (aI sa), some (aI so), some (aI at'), some (aI n), some (aR 2 s), none, none, none], [], M)) (by omega) (fun c52 => ?_) (fun c52 => ?_)))
          · refine hR _ (hR _ (hR _ (hR _ (hR _ (hR _ (?_))))))
            show R (67, [some (aR 7 0), some (aI sa), some (aI so), some (aI at'), some (aI n), some (aR 2 s), some (aI 0), some (aI 0), some (aI at')], [], M)
            have hJc : ∀ q, q < 40 → am_in (M 21 s q) := fun q hq => (hJs.2.2 q hq).1
            have key : ∀ (k i : Nat) (c x y : Int), x = (i : Int) → y = at' + 3 * (i : Int) → i + k = n.toNat → c = jf_hc M s at'.toNat i → (∀ q : Nat, q < i → 0 ≤ at' + 3 * (q : Int) ∧ at' + 3 * (q : Int) ≤ M 181 s 0 - 3) → R (67, [some (aR 7 0), some (aI sa), some (aI so), some (aI at'), some (aI n), some (aR 2 s), some (aI c), some (aI x), some (aI y)], [], jf_hs M s at'.toNat i) := by
              intro k
              induction k with
              | zero =>
                intro i c x y hx hy hin hc hq
                subst hx hy hc
                have hin2 : i = n.toNat := by omega
                refine hR _ (hR _ (hR _ (am_brt (rg := am_in ((i : Nat) : Int) ∧ am_in n) (P := n ≤ ((i : Nat) : Int)) (A := R (137, [some (aR 7 0), some (aI sa), some (aI so), some (aI at'), some (aI n), some (aR 2 s), some (aI (jf_hc M s at'.toNat i)), some (aI ((i : Nat) : Int)), some (aI (at' + 3 * ((i : Nat) : Int)))], [], (jf_hs M s at'.toNat i))) (B := R (74, [some (aR 7 0), some (aI sa), some (aI so), some (aI at'), some (aI n), some (aR 2 s), some (aI (jf_hc M s at'.toNat i)), some (aI ((i : Nat) : Int)), some (aI (at' + 3 * ((i : Nat) : Int)))], [], (jf_hs M s at'.toNat i))) (by omega) (by omega) ?_)))
                show R (137, [some (aR 7 0), some (aI sa), some (aI so), some (aI at'), some (aI n), some (aR 2 s), some (aI (jf_hc M s at'.toNat i)), some (aI ((i : Nat) : Int)), some (aI (at' + 3 * ((i : Nat) : Int)))], [], (jf_hs M s at'.toNat i))
                refine hR _ (?_)
                show R (139, [some (aR 7 0), some (aI sa), some (aI so), some (aI at'), some (aI n), some (aR 2 s), some (aI (jf_hc M s at'.toNat i)), some (aI ((i : Nat) : Int)), some (aI (at' + 3 * ((i : Nat) : Int)))], [aI (jf_hc M s at'.toNat i)], (jf_hs M s at'.toNat i))
                refine hR _ (show K (some (aI (jf_hc M s at'.toNat i))) (jf_hs M s at'.toNat i) from ?_)
                rw [hin2]
                exact hKA s hhs hs4 (by omega) (by omega) (by omega) (fun q hq2 => hq q (by omega))
              | succ k ih =>
                intro i c x y hx hy hin hc hq
                subst hx hy hc
                have hcb := jf_hc_b M s at'.toNat i
                have hnn := jf_hs_n (s := s) (a := at'.toNat) hn i
                have e181 : jf_hs M s at'.toNat i 181 = M 181 := jf_hs_v rfl i
                have e181s : jf_hs M s at'.toNat i 181 s 0 = M 181 s 0 := by rw [e181]
                have hat0 : i = 0 ∨ 0 ≤ at' := by
                  by_cases hi0 : i = 0
                  · exact Or.inl hi0
                  · have := hq 0 (by omega)
                    exact Or.inr (by omega)
                have hyr : am_in (at' + 3 * (i : Int)) := by
                  by_cases hi0 : i = 0
                  · rw [hi0]; omega
                  · have := hq (i - 1) (by omega)
                    omega
                have e21 : jf_hs M s at'.toNat i 21 = M 21 := jf_hs_v rfl i
                refine hR _ (hR _ (hR _ (am_brf (rg := am_in ((i : Nat) : Int) ∧ am_in n) (P := n ≤ ((i : Nat) : Int)) (A := R (137, [some (aR 7 0), some (aI sa), some (aI so), some (aI at'), some (aI n), some (aR 2 s), some (aI (jf_hc M s at'.toNat i)), some (aI ((i : Nat) : Int)), some (aI (at' + 3 * ((i : Nat) : Int)))], [], (jf_hs M s at'.toNat i))) (B := R (74, [some (aR 7 0), some (aI sa), some (aI so), some (aI at'), some (aI n), some (aR 2 s), some (aI (jf_hc M s at'.toNat i)), some (aI ((i : Nat) : Int)), some (aI (at' + 3 * ((i : Nat) : Int)))], [], (jf_hs M s at'.toNat i))) (by omega) (by omega) ?_)))
                show R (74, [some (aR 7 0), some (aI sa), some (aI so), some (aI at'), some (aI n), some (aR 2 s), some (aI (jf_hc M s at'.toNat i)), some (aI ((i : Nat) : Int)), some (aI (at' + 3 * ((i : Nat) : Int)))], [], (jf_hs M s at'.toNat i))
                refine hR _ (hR _ (hR _ (?_)))
                show R (79, [some (aR 7 0), some (aI sa), some (aI so), some (aI at'), some (aI n), some (aR 2 s), some (aI (jf_hc M s at'.toNat i)), some (aI ((i : Nat) : Int)), some (aI (at' + 3 * ((i : Nat) : Int)))], [aR 2 s, aI 0, aI (at' + 3 * ((i : Nat) : Int))], (jf_hs M s at'.toNat i))
                refine hR _ (am_ct (am_vi (by omega : s < 4)) ?_)
                show R (82, [some (aR 7 0), some (aI sa), some (aI so), some (aI at'), some (aI n), some (aR 2 s), some (aI (jf_hc M s at'.toNat i)), some (aI ((i : Nat) : Int)), some (aI (at' + 3 * ((i : Nat) : Int)))], [aI ((jf_hs M s at'.toNat i) 181 s 0), aI 0, aI (at' + 3 * ((i : Nat) : Int))], (jf_hs M s at'.toNat i))
                refine hR _ (hR _ (?_))
                show R (84, [some (aR 7 0), some (aI sa), some (aI so), some (aI at'), some (aI n), some (aR 2 s), some (aI (jf_hc M s at'.toNat i)), some (aI ((i : Nat) : Int)), some (aI (at' + 3 * ((i : Nat) : Int)))], [aI ((jf_hs M s at'.toNat i) 181 s 0 - 3), aI 0, aI (at' + 3 * ((i : Nat) : Int))], (jf_hs M s at'.toNat i))
                refine hR _ (sp_within (by omega) (by omega) (fun h84 => ?_) (fun h84 => ?_))
                · show R (87, [some (aR 7 0), some (aI sa), some (aI so), some (aI at'), some (aI n), some (aR 2 s), some (aI (jf_hc M s at'.toNat i)), some (aI ((i : Nat) : Int)), some (aI (at' + 3 * ((i : Nat) : Int)))], [aI 1], (jf_hs M s at'.toNat i))
                  refine hR _ (am_brt (rg := am_in 1) (P := (1 : Int) ≠ 0) (A := R (93, [some (aR 7 0), some (aI sa), some (aI so), some (aI at'), some (aI n), some (aR 2 s), some (aI (jf_hc M s at'.toNat i)), some (aI ((i : Nat) : Int)), some (aI (at' + 3 * ((i : Nat) : Int)))], [], (jf_hs M s at'.toNat i))) (B := R (90, [some (aR 7 0), some (aI sa), some (aI so), some (aI at'), some (aI n), some (aR 2 s), some (aI (jf_hc M s at'.toNat i)), some (aI ((i : Nat) : Int)), some (aI (at' + 3 * ((i : Nat) : Int)))], [], (jf_hs M s at'.toNat i))) (by omega) (by omega) ?_)
                  show R (93, [some (aR 7 0), some (aI sa), some (aI so), some (aI at'), some (aI n), some (aR 2 s), some (aI (jf_hc M s at'.toNat i)), some (aI ((i : Nat) : Int)), some (aI (at' + 3 * ((i : Nat) : Int)))], [], (jf_hs M s at'.toNat i))
                  refine hR _ (hR _ (hR _ (?_)))
                  show R (98, [some (aR 7 0), some (aI sa), some (aI so), some (aI at'), some (aI n), some (aR 2 s), some (aI (jf_hc M s at'.toNat i)), some (aI ((i : Nat) : Int)), some (aI (at' + 3 * ((i : Nat) : Int)))], [aI (at' + 3 * ((i : Nat) : Int)), aR 2 s, aR 7 0], (jf_hs M s at'.toNat i))
                  refine hR _ (am_ct (am_vi (by omega : s < 4)) (sp_read (by omega) (by omega) (by omega) ?_))
                  show R (101, [some (aR 7 0), some (aI sa), some (aI so), some (aI at'), some (aI n), some (aR 2 s), some (aI (jf_hc M s at'.toNat i)), some (aI ((i : Nat) : Int)), some (aI (at' + 3 * ((i : Nat) : Int)))], [aI ((jf_hs M s at'.toNat i) 21 s (((at' + 3 * ((i : Nat) : Int))).toNat)), aR 7 0], (jf_hs M s at'.toNat i))
                  have hr0 := hJc (at'.toNat + 3 * i) (by omega)
                  rw [show (jf_hs M s at'.toNat i) 21 s (((at' + 3 * ((i : Nat) : Int))).toNat) = (M 21 s (at'.toNat + 3 * i)) by rw [e21, show (((at' + 3 * ((i : Nat) : Int))).toNat) = at'.toNat + 3 * i by omega]]
                  show R (101, [some (aR 7 0), some (aI sa), some (aI so), some (aI at'), some (aI n), some (aR 2 s), some (aI (jf_hc M s at'.toNat i)), some (aI ((i : Nat) : Int)), some (aI (at' + 3 * ((i : Nat) : Int)))], [aI (M 21 s (at'.toNat + 3 * i)), aR 7 0], (jf_hs M s at'.toNat i))
                  refine hR _ (hR _ (hR _ (hR _ (?_))))
                  show R (107, [some (aR 7 0), some (aI sa), some (aI so), some (aI at'), some (aI n), some (aR 2 s), some (aI (jf_hc M s at'.toNat i)), some (aI ((i : Nat) : Int)), some (aI (at' + 3 * ((i : Nat) : Int)))], [aI ((at' + 3 * ((i : Nat) : Int)) + 1), aR 2 s, aI (M 21 s (at'.toNat + 3 * i)), aR 7 0], (jf_hs M s at'.toNat i))
                  refine hR _ (am_ct (am_vi (by omega : s < 4)) (sp_read (by omega) (by omega) (by omega) ?_))
                  show R (110, [some (aR 7 0), some (aI sa), some (aI so), some (aI at'), some (aI n), some (aR 2 s), some (aI (jf_hc M s at'.toNat i)), some (aI ((i : Nat) : Int)), some (aI (at' + 3 * ((i : Nat) : Int)))], [aI ((jf_hs M s at'.toNat i) 21 s ((((at' + 3 * ((i : Nat) : Int)) + 1)).toNat)), aI (M 21 s (at'.toNat + 3 * i)), aR 7 0], (jf_hs M s at'.toNat i))
                  have hr1 := hJc (at'.toNat + 3 * i + 1) (by omega)
                  rw [show (jf_hs M s at'.toNat i) 21 s ((((at' + 3 * ((i : Nat) : Int)) + 1)).toNat) = (M 21 s (at'.toNat + 3 * i + 1)) by rw [e21, show ((((at' + 3 * ((i : Nat) : Int)) + 1)).toNat) = at'.toNat + 3 * i + 1 by omega]]
                  show R (110, [some (aR 7 0), some (aI sa), some (aI so), some (aI at'), some (aI n), some (aR 2 s), some (aI (jf_hc M s at'.toNat i)), some (aI ((i : Nat) : Int)), some (aI (at' + 3 * ((i : Nat) : Int)))], [aI (M 21 s (at'.toNat + 3 * i + 1)), aI (M 21 s (at'.toNat + 3 * i)), aR 7 0], (jf_hs M s at'.toNat i))
                  refine hR _ (hR _ (hR _ (hR _ (?_))))
                  show R (116, [some (aR 7 0), some (aI sa), some (aI so), some (aI at'), some (aI n), some (aR 2 s), some (aI (jf_hc M s at'.toNat i)), some (aI ((i : Nat) : Int)), some (aI (at' + 3 * ((i : Nat) : Int)))], [aI ((at' + 3 * ((i : Nat) : Int)) + 2), aR 2 s, aI (M 21 s (at'.toNat + 3 * i + 1)), aI (M 21 s (at'.toNat + 3 * i)), aR 7 0], (jf_hs M s at'.toNat i))
                  refine hR _ (am_ct (am_vi (by omega : s < 4)) (sp_read (by omega) (by omega) (by omega) ?_))
                  show R (119, [some (aR 7 0), some (aI sa), some (aI so), some (aI at'), some (aI n), some (aR 2 s), some (aI (jf_hc M s at'.toNat i)), some (aI ((i : Nat) : Int)), some (aI (at' + 3 * ((i : Nat) : Int)))], [aI ((jf_hs M s at'.toNat i) 21 s ((((at' + 3 * ((i : Nat) : Int)) + 2)).toNat)), aI (M 21 s (at'.toNat + 3 * i + 1)), aI (M 21 s (at'.toNat + 3 * i)), aR 7 0], (jf_hs M s at'.toNat i))
                  have hr2 := hJc (at'.toNat + 3 * i + 2) (by omega)
                  rw [show (jf_hs M s at'.toNat i) 21 s ((((at' + 3 * ((i : Nat) : Int)) + 2)).toNat) = (M 21 s (at'.toNat + 3 * i + 2)) by rw [e21, show ((((at' + 3 * ((i : Nat) : Int)) + 2)).toNat) = at'.toNat + 3 * i + 2 by omega]]
                  show R (119, [some (aR 7 0), some (aI sa), some (aI so), some (aI at'), some (aI n), some (aR 2 s), some (aI (jf_hc M s at'.toNat i)), some (aI ((i : Nat) : Int)), some (aI (at' + 3 * ((i : Nat) : Int)))], [aI (M 21 s (at'.toNat + 3 * i + 2)), aI (M 21 s (at'.toNat + 3 * i + 1)), aI (M 21 s (at'.toNat + 3 * i)), aR 7 0], (jf_hs M s at'.toNat i))
                  refine hR _ (sq_hand (by omega) (show 0 ≤ jf_hs M s at'.toNat i 227 0 0 ∧ jf_hs M s at'.toNat i 227 0 0 ≤ 5 from hnn) (by omega) (by omega) (by omega) (fun hg1 hg2 => ?_) (fun hg0 => ?_))
                  · replace hg2 : jf_hs M s at'.toNat i 227 0 0 < 5 := hg2
                    show R (122, [some (aR 7 0), some (aI sa), some (aI so), some (aI at'), some (aI n), some (aR 2 s), some (aI (jf_hc M s at'.toNat i)), some (aI ((i : Nat) : Int)), some (aI (at' + 3 * ((i : Nat) : Int)))], [aI (jf_hs M s at'.toNat i 227 0 0)], ((am_wr (am_wr (am_wr (am_wr (am_wr (jf_hs M s at'.toNat i) 140 ((jf_hs M s at'.toNat i) 227 0 0).toNat 0 (Int.tdiv (M 21 s (at'.toNat + 3 * i)) 10)) 141 ((jf_hs M s at'.toNat i) 227 0 0).toNat 0 (Int.tmod (M 21 s (at'.toNat + 3 * i)) 10)) 142 ((jf_hs M s at'.toNat i) 227 0 0).toNat 0 (M 21 s (at'.toNat + 3 * i + 1))) 143 ((jf_hs M s at'.toNat i) 227 0 0).toNat 0 (M 21 s (at'.toNat + 3 * i + 2))) 227 0 0 ((jf_hs M s at'.toNat i) 227 0 0 + 1))))
                    refine hR _ (am_brf (rg := am_in (jf_hs M s at'.toNat i 227 0 0)) (P := (jf_hs M s at'.toNat i 227 0 0) < 0) (A := R (128, [some (aR 7 0), some (aI sa), some (aI so), some (aI at'), some (aI n), some (aR 2 s), some (aI (jf_hc M s at'.toNat i)), some (aI ((i : Nat) : Int)), some (aI (at' + 3 * ((i : Nat) : Int)))], [], ((am_wr (am_wr (am_wr (am_wr (am_wr (jf_hs M s at'.toNat i) 140 ((jf_hs M s at'.toNat i) 227 0 0).toNat 0 (Int.tdiv (M 21 s (at'.toNat + 3 * i)) 10)) 141 ((jf_hs M s at'.toNat i) 227 0 0).toNat 0 (Int.tmod (M 21 s (at'.toNat + 3 * i)) 10)) 142 ((jf_hs M s at'.toNat i) 227 0 0).toNat 0 (M 21 s (at'.toNat + 3 * i + 1))) 143 ((jf_hs M s at'.toNat i) 227 0 0).toNat 0 (M 21 s (at'.toNat + 3 * i + 2))) 227 0 0 ((jf_hs M s at'.toNat i) 227 0 0 + 1))))) (B := R (125, [some (aR 7 0), some (aI sa), some (aI so), some (aI at'), some (aI n), some (aR 2 s), some (aI (jf_hc M s at'.toNat i)), some (aI ((i : Nat) : Int)), some (aI (at' + 3 * ((i : Nat) : Int)))], [], ((am_wr (am_wr (am_wr (am_wr (am_wr (jf_hs M s at'.toNat i) 140 ((jf_hs M s at'.toNat i) 227 0 0).toNat 0 (Int.tdiv (M 21 s (at'.toNat + 3 * i)) 10)) 141 ((jf_hs M s at'.toNat i) 227 0 0).toNat 0 (Int.tmod (M 21 s (at'.toNat + 3 * i)) 10)) 142 ((jf_hs M s at'.toNat i) 227 0 0).toNat 0 (M 21 s (at'.toNat + 3 * i + 1))) 143 ((jf_hs M s at'.toNat i) 227 0 0).toNat 0 (M 21 s (at'.toNat + 3 * i + 2))) 227 0 0 ((jf_hs M s at'.toNat i) 227 0 0 + 1))))) (by omega) (by omega) ?_)
                    show R (125, [some (aR 7 0), some (aI sa), some (aI so), some (aI at'), some (aI n), some (aR 2 s), some (aI (jf_hc M s at'.toNat i)), some (aI ((i : Nat) : Int)), some (aI (at' + 3 * ((i : Nat) : Int)))], [], ((am_wr (am_wr (am_wr (am_wr (am_wr (jf_hs M s at'.toNat i) 140 ((jf_hs M s at'.toNat i) 227 0 0).toNat 0 (Int.tdiv (M 21 s (at'.toNat + 3 * i)) 10)) 141 ((jf_hs M s at'.toNat i) 227 0 0).toNat 0 (Int.tmod (M 21 s (at'.toNat + 3 * i)) 10)) 142 ((jf_hs M s at'.toNat i) 227 0 0).toNat 0 (M 21 s (at'.toNat + 3 * i + 1))) 143 ((jf_hs M s at'.toNat i) 227 0 0).toNat 0 (M 21 s (at'.toNat + 3 * i + 2))) 227 0 0 ((jf_hs M s at'.toNat i) 227 0 0 + 1))))
                    refine hR _ (hR _ (hR _ (hR _ (?_))))
                    show R (67, [some (aR 7 0), some (aI sa), some (aI so), some (aI at'), some (aI n), some (aR 2 s), some (aI ((jf_hc M s at'.toNat i) + 1)), some (aI (((i : Nat) : Int) + 1)), some (aI ((at' + 3 * ((i : Nat) : Int)) + 3))], [], ((am_wr (am_wr (am_wr (am_wr (am_wr (jf_hs M s at'.toNat i) 140 ((jf_hs M s at'.toNat i) 227 0 0).toNat 0 (Int.tdiv (M 21 s (at'.toNat + 3 * i)) 10)) 141 ((jf_hs M s at'.toNat i) 227 0 0).toNat 0 (Int.tmod (M 21 s (at'.toNat + 3 * i)) 10)) 142 ((jf_hs M s at'.toNat i) 227 0 0).toNat 0 (M 21 s (at'.toNat + 3 * i + 1))) 143 ((jf_hs M s at'.toNat i) 227 0 0).toNat 0 (M 21 s (at'.toNat + 3 * i + 2))) 227 0 0 ((jf_hs M s at'.toNat i) 227 0 0 + 1))))
                    have e1 : jf_hs M s at'.toNat (i + 1) = ((am_wr (am_wr (am_wr (am_wr (am_wr (jf_hs M s at'.toNat i) 140 ((jf_hs M s at'.toNat i) 227 0 0).toNat 0 (Int.tdiv (M 21 s (at'.toNat + 3 * i)) 10)) 141 ((jf_hs M s at'.toNat i) 227 0 0).toNat 0 (Int.tmod (M 21 s (at'.toNat + 3 * i)) 10)) 142 ((jf_hs M s at'.toNat i) 227 0 0).toNat 0 (M 21 s (at'.toNat + 3 * i + 1))) 143 ((jf_hs M s at'.toNat i) 227 0 0).toNat 0 (M 21 s (at'.toNat + 3 * i + 2))) 227 0 0 ((jf_hs M s at'.toNat i) 227 0 0 + 1))) := if_pos ⟨hg1, hg2⟩
                    have e2 : jf_hc M s at'.toNat (i + 1) = ((jf_hc M s at'.toNat i) + 1) := if_pos ⟨hg1, hg2⟩
                    have hii := ih (i + 1) _ (((i : Nat) : Int) + 1) ((at' + 3 * ((i : Nat) : Int)) + 3) rfl (by omega) (by omega) e2.symm (fun q hq2 => by
                      by_cases hqi : q = i
                      · rw [hqi]; omega
                      · exact hq q (by omega))
                    rw [e1] at hii
                    exact hii
                  · replace hg0 : ¬ (((0 ≤ (M 21 s (at'.toNat + 3 * i)) ∧ (M 21 s (at'.toNat + 3 * i)) ≤ 59) ∧ (0 ≤ (M 21 s (at'.toNat + 3 * i + 1)) ∧ (M 21 s (at'.toNat + 3 * i + 1)) ≤ 99) ∧ 0 ≤ (M 21 s (at'.toNat + 3 * i + 2)) ∧ (M 21 s (at'.toNat + 3 * i + 2)) ≤ 500) ∧ jf_hs M s at'.toNat i 227 0 0 < 5) := hg0
                    show R (122, [some (aR 7 0), some (aI sa), some (aI so), some (aI at'), some (aI n), some (aR 2 s), some (aI (jf_hc M s at'.toNat i)), some (aI ((i : Nat) : Int)), some (aI (at' + 3 * ((i : Nat) : Int)))], [aI (if ((0 ≤ (M 21 s (at'.toNat + 3 * i)) ∧ (M 21 s (at'.toNat + 3 * i)) ≤ 59) ∧ (0 ≤ (M 21 s (at'.toNat + 3 * i + 1)) ∧ (M 21 s (at'.toNat + 3 * i + 1)) ≤ 99) ∧ 0 ≤ (M 21 s (at'.toNat + 3 * i + 2)) ∧ (M 21 s (at'.toNat + 3 * i + 2)) ≤ 500) then -4 else -2)], (jf_hs M s at'.toNat i))
                    refine hR _ (am_brt (rg := am_in (if ((0 ≤ (M 21 s (at'.toNat + 3 * i)) ∧ (M 21 s (at'.toNat + 3 * i)) ≤ 59) ∧ (0 ≤ (M 21 s (at'.toNat + 3 * i + 1)) ∧ (M 21 s (at'.toNat + 3 * i + 1)) ≤ 99) ∧ 0 ≤ (M 21 s (at'.toNat + 3 * i + 2)) ∧ (M 21 s (at'.toNat + 3 * i + 2)) ≤ 500) then -4 else -2)) (P := (if ((0 ≤ (M 21 s (at'.toNat + 3 * i)) ∧ (M 21 s (at'.toNat + 3 * i)) ≤ 59) ∧ (0 ≤ (M 21 s (at'.toNat + 3 * i + 1)) ∧ (M 21 s (at'.toNat + 3 * i + 1)) ≤ 99) ∧ 0 ≤ (M 21 s (at'.toNat + 3 * i + 2)) ∧ (M 21 s (at'.toNat + 3 * i + 2)) ≤ 500) then -4 else -2) < 0) (A := R (128, [some (aR 7 0), some (aI sa), some (aI so), some (aI at'), some (aI n), some (aR 2 s), some (aI (jf_hc M s at'.toNat i)), some (aI ((i : Nat) : Int)), some (aI (at' + 3 * ((i : Nat) : Int)))], [], (jf_hs M s at'.toNat i))) (B := R (125, [some (aR 7 0), some (aI sa), some (aI so), some (aI at'), some (aI n), some (aR 2 s), some (aI (jf_hc M s at'.toNat i)), some (aI ((i : Nat) : Int)), some (aI (at' + 3 * ((i : Nat) : Int)))], [], (jf_hs M s at'.toNat i))) (by omega) (by split <;> omega) ?_)
                    show R (128, [some (aR 7 0), some (aI sa), some (aI so), some (aI at'), some (aI n), some (aR 2 s), some (aI (jf_hc M s at'.toNat i)), some (aI ((i : Nat) : Int)), some (aI (at' + 3 * ((i : Nat) : Int)))], [], (jf_hs M s at'.toNat i))
                    refine hR _ (hR _ (hR _ (?_)))
                    show R (67, [some (aR 7 0), some (aI sa), some (aI so), some (aI at'), some (aI n), some (aR 2 s), some (aI (jf_hc M s at'.toNat i)), some (aI (((i : Nat) : Int) + 1)), some (aI ((at' + 3 * ((i : Nat) : Int)) + 3))], [], (jf_hs M s at'.toNat i))
                    have e1 : jf_hs M s at'.toNat (i + 1) = (jf_hs M s at'.toNat i) := if_neg hg0
                    have e2 : jf_hc M s at'.toNat (i + 1) = (jf_hc M s at'.toNat i) := if_neg hg0
                    have hii := ih (i + 1) _ (((i : Nat) : Int) + 1) ((at' + 3 * ((i : Nat) : Int)) + 3) rfl (by omega) (by omega) e2.symm (fun q hq2 => by
                      by_cases hqi : q = i
                      · rw [hqi]; omega
                      · exact hq q (by omega))
                    rw [e1] at hii
                    exact hii
                · show R (87, [some (aR 7 0), some (aI sa), some (aI so), some (aI at'), some (aI n), some (aR 2 s), some (aI (jf_hc M s at'.toNat i)), some (aI ((i : Nat) : Int)), some (aI (at' + 3 * ((i : Nat) : Int)))], [aI 0], (jf_hs M s at'.toNat i))
                  refine hR _ (am_brf (rg := am_in 0) (P := (0 : Int) ≠ 0) (A := R (93, [some (aR 7 0), some (aI sa), some (aI so), some (aI at'), some (aI n), some (aR 2 s), some (aI (jf_hc M s at'.toNat i)), some (aI ((i : Nat) : Int)), some (aI (at' + 3 * ((i : Nat) : Int)))], [], (jf_hs M s at'.toNat i))) (B := R (90, [some (aR 7 0), some (aI sa), some (aI so), some (aI at'), some (aI n), some (aR 2 s), some (aI (jf_hc M s at'.toNat i)), some (aI ((i : Nat) : Int)), some (aI (at' + 3 * ((i : Nat) : Int)))], [], (jf_hs M s at'.toNat i))) (by omega) (by omega) ?_)
                  show R (90, [some (aR 7 0), some (aI sa), some (aI so), some (aI at'), some (aI n), some (aR 2 s), some (aI (jf_hc M s at'.toNat i)), some (aI ((i : Nat) : Int)), some (aI (at' + 3 * ((i : Nat) : Int)))], [], (jf_hs M s at'.toNat i))
                  refine hR _ (?_)
                  show R (92, [some (aR 7 0), some (aI sa), some (aI so), some (aI at'), some (aI n), some (aR 2 s), some (aI (jf_hc M s at'.toNat i)), some (aI ((i : Nat) : Int)), some (aI (at' + 3 * ((i : Nat) : Int)))], [aI (-12)], (jf_hs M s at'.toNat i))
                  refine hR _ (show K (some (aI (-12))) (jf_hs M s at'.toNat i) from ?_)
                  exact hKO s hhs hs4 (by omega) (by omega) (by omega) i (by omega) hq (by omega)
            exact key n.toNat 0 0 0 at' rfl (by omega) (by omega) rfl (fun q hq => absurd hq (by omega))
          · refine hR _ (?_)
            show R (57, [some (aR 7 0), some (aI sa), some (aI so), some (aI at'), some (aI n), some (aR 2 s), none, none, none], [aI (-13)], M)
            refine hR _ (show K (some (aI (-13))) M from ?_)
            subst hhs
            simp only [Int.toNat_natCast] at hK0
            refine am_kr (hK0 (by omega)) ?_
            repeat' split
            all_goals omega
        · refine hR _ (?_)
          show R (45, [some (aR 7 0), some (aI sa), some (aI so), some (aI at'), some (aI n), some (aR 2 s), none, none, none], [aI (-11)], M)
          refine hR _ (show K (some (aI (-11))) M from ?_)
          subst hhs
          simp only [Int.toNat_natCast] at hK0
          refine am_kr (hK0 (by omega)) ?_
          repeat' split
          all_goals omega
      · show R (28, [some (aR 7 0), some (aI sa), some (aI so), some (aI at'), some (aI n), some (aR 2 s), none, none, none], [aI 0], M)
        refine hR _ (am_brf (rg := am_in 0) (P := (0 : Int) ≠ 0) (A := R (34, [some (aR 7 0), some (aI sa), some (aI so), some (aI at'), some (aI n), some (aR 2 s), none, none, none], [], M)) (B := R (31, [some (aR 7 0), some (aI sa), some (aI so), some (aI at'), some (aI n), some (aR 2 s), none, none, none], [], M)) (by omega) (by omega) ?_)
        show R (31, [some (aR 7 0), some (aI sa), some (aI so), some (aI at'), some (aI n), some (aR 2 s), none, none, none], [], M)
        refine hR _ (?_)
        show R (33, [some (aR 7 0), some (aI sa), some (aI so), some (aI at'), some (aI n), some (aR 2 s), none, none, none], [aI (-2)], M)
        refine hR _ (show K (some (aI (-2))) M from ?_)
        subst hhs
        simp only [Int.toNat_natCast] at hK0
        refine am_kr (hK0 (by omega)) ?_
        repeat' split
        all_goals omega
    · show R (18, [some (aR 7 0), some (aI sa), some (aI so), some (aI at'), some (aI n), some (aR 2 s), none, none, none], [aI 0], M)
      refine hR _ (am_brt (rg := am_in 0) (P := (0 : Int) = 0) (A := R (31, [some (aR 7 0), some (aI sa), some (aI so), some (aI at'), some (aI n), some (aR 2 s), none, none, none], [], M)) (B := R (21, [some (aR 7 0), some (aI sa), some (aI so), some (aI at'), some (aI n), some (aR 2 s), none, none, none], [], M)) (by omega) (by omega) ?_)
      show R (31, [some (aR 7 0), some (aI sa), some (aI so), some (aI at'), some (aI n), some (aR 2 s), none, none, none], [], M)
      refine hR _ (?_)
      show R (33, [some (aR 7 0), some (aI sa), some (aI so), some (aI at'), some (aI n), some (aR 2 s), none, none, none], [aI (-2)], M)
      refine hR _ (show K (some (aI (-2))) M from ?_)
      subst hhs
      simp only [Int.toNat_natCast] at hK0
      refine am_kr (hK0 (by omega)) ?_
      repeat' split
      all_goals omega
  · show R (5, [some (aR 7 0), some (aI sa), some (aI so), some (aI at'), some (aI n), none, none, none, none], [aN], M)
    refine hR _ (hR _ (hR _ (hR _ (?_))))
    show R (33, [some (aR 7 0), some (aI sa), some (aI so), some (aI at'), some (aI n), some (aN), none, none, none], [aI (-2)], M)
    refine hR _ (show K (some (aI (-2))) M from ?_)
    refine am_kr (hK0 (by omega)) ?_
    repeat' split
    all_goals omega
