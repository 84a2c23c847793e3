/-! wb -/
/-! THE REFERENCE: copy, handsBy -/

set_option maxHeartbeats 2000000 in
theorem sm_copy {d : Nat} (hd : 3 ≤ d) {sa i sb j n : Int} {M : am_M} {K : am_K} (hso : ∀ q : Nat, q < 4 → (-1 ≤ M 31 0 q ∧ M 31 0 q ≤ 2) ∧ 0 ≤ M 32 0 q ∧ M 32 0 q ≤ 40) (ha_sa : am_in sa) (ha_i : am_in i) (ha_sb : am_in sb) (ha_j : am_in j) (ha_n : am_in n) (hK1 : ∀ s s2 A F N : Nat, sa = s → sb = s2 → s < 4 → s2 < 4 → j = A → i = F → n = N → M 31 0 s ≠ -1 → M 31 0 s = M 31 0 s2 → (F : Int) + N ≤ M 32 0 s → (A : Int) + N ≤ M 32 0 s2 → ∀ g : am_M, (∀ k, k < N → g 33 0 (40 * s2 + A + k) = M 33 0 (40 * s + F + k)) → (∀ j, (∀ k, k < N → j ≠ 40 * s2 + A + k) → g 33 0 j = M 33 0 j) → K (some (aI ((N : Nat) : Int))) (am_mix [33] g M)) (hK0 : ¬ (((0 ≤ sa ∧ sa < 4) ∧ 0 ≤ sb ∧ sb < 4) ∧ M 31 0 sa.toNat ≠ -1 ∧ M 31 0 sb.toNat ≠ -1 ∧ M 31 0 sa.toNat = M 31 0 sb.toNat ∧ 0 ≤ i ∧ 0 ≤ j ∧ 0 ≤ n ∧ i + n ≤ M 32 0 sa.toNat ∧ j + n ≤ M 32 0 sb.toNat) → K (some (aI (if (0 ≤ sa ∧ sa < 4) ∧ 0 ≤ sb ∧ sb < 4 then (if M 31 0 sa.toNat = -1 ∨ M 31 0 sb.toNat = -1 then -11 else if M 31 0 sa.toNat ≠ M 31 0 sb.toNat then -13 else -12) else -2))) M) : am_Call true d 201 [aR 8 0, aI sa, aI i, aI sb, aI j, aI n] M K := by
  obtain ⟨d, rfl⟩ : ∃ e, d = e + 1 := ⟨d - 1, by omega⟩
  refine ⟨rfl, fun R hR hC => ?_⟩
  replace hR : ∀ c, am_F true tb_f201 1 (am_Call true d) K R c → R c := hR
  show R (0, [some (aR 8 0), some (aI sa), some (aI i), some (aI sb), some (aI j), some (aI n), none, none, none, none], [], M)
  refine hR _ (hR _ (hR _ (?_)))
  show R (3, [some (aR 8 0), some (aI sa), some (aI i), some (aI sb), some (aI j), some (aI n), none, none, none, none], [aI 3, aI 0, aI sa], M)
  refine hR _ (sp_in (by omega) (by omega) (fun h3 => ?_) (fun h3 => ?_))
  · show R (6, [some (aR 8 0), some (aI sa), some (aI i), some (aI sb), some (aI j), some (aI n), none, none, none, none], [aI 1], M)
    refine hR _ (am_brf (rg := am_in 1) (P := (1 : Int) = 0) (A := R (18, [some (aR 8 0), some (aI sa), some (aI i), some (aI sb), some (aI j), some (aI n), none, none, none, none], [], M)) (B := R (9, [some (aR 8 0), some (aI sa), some (aI i), some (aI sb), some (aI j), some (aI n), none, none, none, none], [], M)) (by omega) (by omega) ?_)
    show R (9, [some (aR 8 0), some (aI sa), some (aI i), some (aI sb), some (aI j), some (aI n), none, none, none, none], [], M)
    refine hR _ (hR _ (hR _ (?_)))
    show R (12, [some (aR 8 0), some (aI sa), some (aI i), some (aI sb), some (aI j), some (aI n), none, none, none, none], [aI 3, aI 0, aI sb], M)
    refine hR _ (sp_in (by omega) (by omega) (fun h12 => ?_) (fun h12 => ?_))
    · show R (15, [some (aR 8 0), some (aI sa), some (aI i), some (aI sb), some (aI j), some (aI n), none, none, none, none], [aI 1], M)
      refine hR _ (am_brt (rg := am_in 1) (P := (1 : Int) ≠ 0) (A := R (21, [some (aR 8 0), some (aI sa), some (aI i), some (aI sb), some (aI j), some (aI n), none, none, none, none], [], M)) (B := R (18, [some (aR 8 0), some (aI sa), some (aI i), some (aI sb), some (aI j), some (aI n), none, none, none, none], [], M)) (by omega) (by omega) ?_)
      show R (21, [some (aR 8 0), some (aI sa), some (aI i), some (aI sb), some (aI j), some (aI n), none, none, none, none], [], M)
      obtain ⟨s, rfl, hs4⟩ : ∃ s : Nat, sa = (s : Int) ∧ s < 4 := ⟨sa.toNat, by omega, by omega⟩
      obtain ⟨s2, rfl, hs42⟩ : ∃ s2 : Nat, sb = (s2 : Int) ∧ s2 < 4 := ⟨sb.toNat, by omega, by omega⟩
      have hss := hso s hs4
      have hss2 := hso s2 hs42
      simp only [Int.toNat_natCast] at hK0
      show R (21, [some (aR 8 0), some (aI ((s : Nat) : Int)), some (aI i), some (aI ((s2 : Nat) : Int)), some (aI j), some (aI n), none, none, none, none], [], M)
      refine hR _ (hR _ (hR _ (?_)))
      show R (26, [some (aR 8 0), some (aI ((s : Nat) : Int)), some (aI i), some (aI ((s2 : Nat) : Int)), some (aI j), some (aI n), none, none, none, none], [aI ((s : Nat) : Int), aR 31 0], M)
      refine hR _ ⟨(show 0 ≤ (((s : Nat) : Int) : Int) ∧ (((s : Nat) : Int) : Int) < 4 from (by omega)), ?_⟩
      show R (27, [some (aR 8 0), some (aI ((s : Nat) : Int)), some (aI i), some (aI ((s2 : Nat) : Int)), some (aI j), some (aI n), none, none, none, none], [aI (M 31 0 s)], M)
      refine hR _ (hR _ (am_brc (rg := am_in (M 31 0 s) ∧ am_in (-1)) (P := M 31 0 s = (-1)) (A := R (41, [some (aR 8 0), some (aI ((s : Nat) : Int)), some (aI i), some (aI ((s2 : Nat) : Int)), some (aI j), some (aI n), none, none, none, none], [], M)) (B := R (31, [some (aR 8 0), some (aI ((s : Nat) : Int)), some (aI i), some (aI ((s2 : Nat) : Int)), some (aI j), some (aI n), none, none, none, none], [], M)) (by omega) (fun c28 => ?_) (fun c28 => ?_)))
      · refine hR _ (?_)
        show R (43, [some (aR 8 0), some (aI ((s : Nat) : Int)), some (aI i), some (aI ((s2 : Nat) : Int)), some (aI j), some (aI n), none, none, none, none], [aI (-11)], M)
        refine hR _ (show K (some (aI (-11))) M from ?_)
        refine am_kr (hK0 (by omega)) ?_
        repeat' split
        all_goals omega
      · refine hR _ (hR _ (hR _ (?_)))
        show R (36, [some (aR 8 0), some (aI ((s : Nat) : Int)), some (aI i), some (aI ((s2 : Nat) : Int)), some (aI j), some (aI n), none, none, none, none], [aI ((s2 : Nat) : Int), aR 31 0], M)
        refine hR _ ⟨(show 0 ≤ (((s2 : Nat) : Int) : Int) ∧ (((s2 : Nat) : Int) : Int) < 4 from (by omega)), ?_⟩
        show R (37, [some (aR 8 0), some (aI ((s : Nat) : Int)), some (aI i), some (aI ((s2 : Nat) : Int)), some (aI j), some (aI n), none, none, none, none], [aI (M 31 0 s2)], M)
        refine hR _ (hR _ (am_brc (rg := am_in (M 31 0 s2) ∧ am_in (-1)) (P := M 31 0 s2 ≠ (-1)) (A := R (44, [some (aR 8 0), some (aI ((s : Nat) : Int)), some (aI i), some (aI ((s2 : Nat) : Int)), some (aI j), some (aI n), none, none, none, none], [], M)) (B := R (41, [some (aR 8 0), some (aI ((s : Nat) : Int)), some (aI i), some (aI ((s2 : Nat) : Int)), some (aI j), some (aI n), none, none, none, none], [], M)) (by omega) (fun c38 => ?_) (fun c38 => ?_)))
        · refine hR _ (hR _ (hR _ (?_)))
          show R (49, [some (aR 8 0), some (aI ((s : Nat) : Int)), some (aI i), some (aI ((s2 : Nat) : Int)), some (aI j), some (aI n), none, none, none, none], [aI ((s : Nat) : Int), aR 31 0], M)
          refine hR _ ⟨(show 0 ≤ (((s : Nat) : Int) : Int) ∧ (((s : Nat) : Int) : Int) < 4 from (by omega)), ?_⟩
          show R (50, [some (aR 8 0), some (aI ((s : Nat) : Int)), some (aI i), some (aI ((s2 : Nat) : Int)), some (aI j), some (aI n), none, none, none, none], [aI (M 31 0 s)], M)
          refine hR _ (hR _ (hR _ (?_)))
          show R (55, [some (aR 8 0), some (aI ((s : Nat) : Int)), some (aI i), some (aI ((s2 : Nat) : Int)), some (aI j), some (aI n), none, none, none, none], [aI ((s2 : Nat) : Int), aR 31 0, aI (M 31 0 s)], M)
          refine hR _ ⟨(show 0 ≤ (((s2 : Nat) : Int) : Int) ∧ (((s2 : Nat) : Int) : Int) < 4 from (by omega)), ?_⟩
          show R (56, [some (aR 8 0), some (aI ((s : Nat) : Int)), some (aI i), some (aI ((s2 : Nat) : Int)), some (aI j), some (aI n), none, none, none, none], [aI (M 31 0 s2), aI (M 31 0 s)], M)
          refine hR _ (am_brc (rg := am_in (M 31 0 s) ∧ am_in (M 31 0 s2)) (P := M 31 0 s = M 31 0 s2) (A := R (62, [some (aR 8 0), some (aI ((s : Nat) : Int)), some (aI i), some (aI ((s2 : Nat) : Int)), some (aI j), some (aI n), none, none, none, none], [], M)) (B := R (59, [some (aR 8 0), some (aI ((s : Nat) : Int)), some (aI i), some (aI ((s2 : Nat) : Int)), some (aI j), some (aI n), none, none, none, none], [], M)) (by omega) (fun c56 => ?_) (fun c56 => ?_))
          · refine hR _ (hR _ (am_brc (rg := am_in n) (P := n < 0) (A := R (124, [some (aR 8 0), some (aI ((s : Nat) : Int)), some (aI i), some (aI ((s2 : Nat) : Int)), some (aI j), some (aI n), none, none, none, none], [], M)) (B := R (67, [some (aR 8 0), some (aI ((s : Nat) : Int)), some (aI i), some (aI ((s2 : Nat) : Int)), some (aI j), some (aI n), none, none, none, none], [], M)) (by omega) (fun c64 => ?_) (fun c64 => ?_)))
            · refine hR _ (?_)
              show R (126, [some (aR 8 0), some (aI ((s : Nat) : Int)), some (aI i), some (aI ((s2 : Nat) : Int)), some (aI j), some (aI n), none, none, none, none], [aI (-12)], M)
              refine hR _ (show K (some (aI (-12))) M from ?_)
              refine am_kr (hK0 (by omega)) ?_
              repeat' split
              all_goals omega
            · refine hR _ (hR _ (am_brc (rg := am_in i) (P := i < 0) (A := R (124, [some (aR 8 0), some (aI ((s : Nat) : Int)), some (aI i), some (aI ((s2 : Nat) : Int)), some (aI j), some (aI n), none, none, none, none], [], M)) (B := R (71, [some (aR 8 0), some (aI ((s : Nat) : Int)), some (aI i), some (aI ((s2 : Nat) : Int)), some (aI j), some (aI n), none, none, none, none], [], M)) (by omega) (fun c68 => ?_) (fun c68 => ?_)))
              · refine hR _ (?_)
                show R (126, [some (aR 8 0), some (aI ((s : Nat) : Int)), some (aI i), some (aI ((s2 : Nat) : Int)), some (aI j), some (aI n), none, none, none, none], [aI (-12)], M)
                refine hR _ (show K (some (aI (-12))) M from ?_)
                refine am_kr (hK0 (by omega)) ?_
                repeat' split
                all_goals omega
              · refine hR _ (hR _ (am_brc (rg := am_in j) (P := j < 0) (A := R (124, [some (aR 8 0), some (aI ((s : Nat) : Int)), some (aI i), some (aI ((s2 : Nat) : Int)), some (aI j), some (aI n), none, none, none, none], [], M)) (B := R (76, [some (aR 8 0), some (aI ((s : Nat) : Int)), some (aI i), some (aI ((s2 : Nat) : Int)), some (aI j), some (aI n), none, none, none, none], [], M)) (by omega) (fun c73 => ?_) (fun c73 => ?_)))
                · refine hR _ (?_)
                  show R (126, [some (aR 8 0), some (aI ((s : Nat) : Int)), some (aI i), some (aI ((s2 : Nat) : Int)), some (aI j), some (aI n), none, none, none, none], [aI (-12)], M)
                  refine hR _ (show K (some (aI (-12))) M from ?_)
                  refine am_kr (hK0 (by omega)) ?_
                  repeat' split
                  all_goals omega
                · refine hR _ (hR _ (hR _ (hR _ (?_))))
                  show R (82, [some (aR 8 0), some (aI ((s : Nat) : Int)), some (aI i), some (aI ((s2 : Nat) : Int)), some (aI j), some (aI n), none, none, none, none], [aI ((s : Nat) : Int), aR 32 0, aI i], M)
                  refine hR _ ⟨(show 0 ≤ (((s : Nat) : Int) : Int) ∧ (((s : Nat) : Int) : Int) < 4 from (by omega)), ?_⟩
                  show R (83, [some (aR 8 0), some (aI ((s : Nat) : Int)), some (aI i), some (aI ((s2 : Nat) : Int)), some (aI j), some (aI n), none, none, none, none], [aI (M 32 0 s), aI i], M)
                  refine hR _ (am_brc (rg := am_in i ∧ am_in (M 32 0 s)) (P := M 32 0 s < i) (A := R (124, [some (aR 8 0), some (aI ((s : Nat) : Int)), some (aI i), some (aI ((s2 : Nat) : Int)), some (aI j), some (aI n), none, none, none, none], [], M)) (B := R (86, [some (aR 8 0), some (aI ((s : Nat) : Int)), some (aI i), some (aI ((s2 : Nat) : Int)), some (aI j), some (aI n), none, none, none, none], [], M)) (by omega) (fun c83 => ?_) (fun c83 => ?_))
                  · refine hR _ (?_)
                    show R (126, [some (aR 8 0), some (aI ((s : Nat) : Int)), some (aI i), some (aI ((s2 : Nat) : Int)), some (aI j), some (aI n), none, none, none, none], [aI (-12)], M)
                    refine hR _ (show K (some (aI (-12))) M from ?_)
                    refine am_kr (hK0 (by omega)) ?_
                    repeat' split
                    all_goals omega
                  · refine hR _ (hR _ (hR _ (hR _ (?_))))
                    show R (93, [some (aR 8 0), some (aI ((s : Nat) : Int)), some (aI i), some (aI ((s2 : Nat) : Int)), some (aI j), some (aI n), none, none, none, none], [aI ((s2 : Nat) : Int), aR 32 0, aI j], M)
                    refine hR _ ⟨(show 0 ≤ (((s2 : Nat) : Int) : Int) ∧ (((s2 : Nat) : Int) : Int) < 4 from (by omega)), ?_⟩
                    show R (94, [some (aR 8 0), some (aI ((s : Nat) : Int)), some (aI i), some (aI ((s2 : Nat) : Int)), some (aI j), some (aI n), none, none, none, none], [aI (M 32 0 s2), aI j], M)
                    refine hR _ (am_brc (rg := am_in j ∧ am_in (M 32 0 s2)) (P := M 32 0 s2 < j) (A := R (124, [some (aR 8 0), some (aI ((s : Nat) : Int)), some (aI i), some (aI ((s2 : Nat) : Int)), some (aI j), some (aI n), none, none, none, none], [], M)) (B := R (97, [some (aR 8 0), some (aI ((s : Nat) : Int)), some (aI i), some (aI ((s2 : Nat) : Int)), some (aI j), some (aI n), none, none, none, none], [], M)) (by omega) (fun c94 => ?_) (fun c94 => ?_))
                    · refine hR _ (?_)
                      show R (126, [some (aR 8 0), some (aI ((s : Nat) : Int)), some (aI i), some (aI ((s2 : Nat) : Int)), some (aI j), some (aI n), none, none, none, none], [aI (-12)], M)
                      refine hR _ (show K (some (aI (-12))) M from ?_)
                      refine am_kr (hK0 (by omega)) ?_
                      repeat' split
                      all_goals omega
                    · refine hR _ (hR _ (hR _ (hR _ (?_))))
                      show R (104, [some (aR 8 0), some (aI ((s : Nat) : Int)), some (aI i), some (aI ((s2 : Nat) : Int)), some (aI j), some (aI n), none, none, none, none], [aI ((s : Nat) : Int), aR 32 0, aI n], M)
                      refine hR _ ⟨(show 0 ≤ (((s : Nat) : Int) : Int) ∧ (((s : Nat) : Int) : Int) < 4 from (by omega)), ?_⟩
                      show R (105, [some (aR 8 0), some (aI ((s : Nat) : Int)), some (aI i), some (aI ((s2 : Nat) : Int)), some (aI j), some (aI n), none, none, none, none], [aI (M 32 0 s), aI n], M)
                      refine hR _ (hR _ (hR _ (am_brc (rg := am_in n ∧ am_in (M 32 0 s - i)) (P := (M 32 0 s - i) < n) (A := R (124, [some (aR 8 0), some (aI ((s : Nat) : Int)), some (aI i), some (aI ((s2 : Nat) : Int)), some (aI j), some (aI n), none, none, none, none], [], M)) (B := R (110, [some (aR 8 0), some (aI ((s : Nat) : Int)), some (aI i), some (aI ((s2 : Nat) : Int)), some (aI j), some (aI n), none, none, none, none], [], M)) (by omega) (fun c107 => ?_) (fun c107 => ?_))))
                      · refine hR _ (?_)
                        show R (126, [some (aR 8 0), some (aI ((s : Nat) : Int)), some (aI i), some (aI ((s2 : Nat) : Int)), some (aI j), some (aI n), none, none, none, none], [aI (-12)], M)
                        refine hR _ (show K (some (aI (-12))) M from ?_)
                        refine am_kr (hK0 (by omega)) ?_
                        repeat' split
                        all_goals omega
                      · refine hR _ (hR _ (hR _ (hR _ (?_))))
                        show R (117, [some (aR 8 0), some (aI ((s : Nat) : Int)), some (aI i), some (aI ((s2 : Nat) : Int)), some (aI j), some (aI n), none, none, none, none], [aI ((s2 : Nat) : Int), aR 32 0, aI n], M)
                        refine hR _ ⟨(show 0 ≤ (((s2 : Nat) : Int) : Int) ∧ (((s2 : Nat) : Int) : Int) < 4 from (by omega)), ?_⟩
                        show R (118, [some (aR 8 0), some (aI ((s : Nat) : Int)), some (aI i), some (aI ((s2 : Nat) : Int)), some (aI j), some (aI n), none, none, none, none], [aI (M 32 0 s2), aI n], M)
                        refine hR _ (hR _ (hR _ (am_brc (rg := am_in n ∧ am_in (M 32 0 s2 - j)) (P := n ≤ (M 32 0 s2 - j)) (A := R (127, [some (aR 8 0), some (aI ((s : Nat) : Int)), some (aI i), some (aI ((s2 : Nat) : Int)), some (aI j), some (aI n), none, none, none, none], [], M)) (B := R (124, [some (aR 8 0), some (aI ((s : Nat) : Int)), some (aI i), some (aI ((s2 : Nat) : Int)), some (aI j), some (aI n), none, none, none, none], [], M)) (by omega) (fun c121 => ?_) (fun c121 => ?_))))
                        · obtain ⟨A, rfl⟩ : ∃ A : Nat, j = A := ⟨j.toNat, by omega⟩
                          obtain ⟨F, rfl⟩ : ∃ F : Nat, i = F := ⟨i.toNat, by omega⟩
                          obtain ⟨N, rfl⟩ : ∃ N : Nat, n = N := ⟨n.toNat, by omega⟩
                          show R (127, [some (aR 8 0), some (aI ((s : Nat) : Int)), some (aI ((F : Nat) : Int)), some (aI ((s2 : Nat) : Int)), some (aI ((A : Nat) : Int)), some (aI ((N : Nat) : Int)), none, none, none, none], [], M)
                          refine hR _ (hR _ (hR _ (hR _ (hR _ (hR _ (hR _ (hR _ (hR _ (hR _ (hR _ (hR _ (hR _ (hR _ (?_))))))))))))))
                          show R (147, [some (aR 8 0), some (aI ((s : Nat) : Int)), some (aI ((F : Nat) : Int)), some (aI ((s2 : Nat) : Int)), some (aI ((A : Nat) : Int)), some (aI ((N : Nat) : Int)), some (aI ((40 * ((s : Nat) : Int)) + ((F : Nat) : Int))), some (aI ((40 * ((s2 : Nat) : Int)) + ((A : Nat) : Int))), some (aI 0), none], [], M)
                          obtain ⟨FF, hFF⟩ : ∃ FF : Nat, FF = 40 * s + F := ⟨_, rfl⟩
                          obtain ⟨AA, hAA⟩ : ∃ AA : Nat, AA = 40 * s2 + A := ⟨_, rfl⟩
                          have key : ∀ (f i : Nat) (x : Int) (o9 : Option am_V) (g : am_M), x = (i : Int) → i + f = N → (∀ k, k < N → jd AA FF N i k → g 33 0 (AA + k) = M 33 0 (FF + k)) → (∀ j, (∀ k, k < N → jd AA FF N i k → j ≠ AA + k) → g 33 0 j = M 33 0 j) → R (147, [some (aR 8 0), some (aI ((s : Nat) : Int)), some (aI ((F : Nat) : Int)), some (aI ((s2 : Nat) : Int)), some (aI ((A : Nat) : Int)), some (aI ((N : Nat) : Int)), some (aI ((FF : Nat) : Int)), some (aI ((AA : Nat) : Int)), some (aI x), o9], [], am_mix [33] g M) := by
                            intro f
                            induction f with
                            | zero =>
                              intro i x o9 g hx hin h1 h2
                              subst hx
                              refine hR _ (hR _ (hR _ (am_brt (rg := am_in ((i : Nat) : Int) ∧ am_in ((N : Nat) : Int)) (P := ((N : Nat) : Int) ≤ ((i : Nat) : Int)) (A := R (201, [some (aR 8 0), some (aI ((s : Nat) : Int)), some (aI ((F : Nat) : Int)), some (aI ((s2 : Nat) : Int)), some (aI ((A : Nat) : Int)), some (aI ((N : Nat) : Int)), some (aI ((FF : Nat) : Int)), some (aI ((AA : Nat) : Int)), some (aI ((i : Nat) : Int)), o9], [], am_mix [33] g M)) (B := R (154, [some (aR 8 0), some (aI ((s : Nat) : Int)), some (aI ((F : Nat) : Int)), some (aI ((s2 : Nat) : Int)), some (aI ((A : Nat) : Int)), some (aI ((N : Nat) : Int)), some (aI ((FF : Nat) : Int)), some (aI ((AA : Nat) : Int)), some (aI ((i : Nat) : Int)), o9], [], am_mix [33] g M)) (by omega) (by omega) ?_)))
                              show R (201, [some (aR 8 0), some (aI ((s : Nat) : Int)), some (aI ((F : Nat) : Int)), some (aI ((s2 : Nat) : Int)), some (aI ((A : Nat) : Int)), some (aI ((N : Nat) : Int)), some (aI ((FF : Nat) : Int)), some (aI ((AA : Nat) : Int)), some (aI ((i : Nat) : Int)), o9], [], am_mix [33] g M)
                              refine hR _ (?_)
                              show R (203, [some (aR 8 0), some (aI ((s : Nat) : Int)), some (aI ((F : Nat) : Int)), some (aI ((s2 : Nat) : Int)), some (aI ((A : Nat) : Int)), some (aI ((N : Nat) : Int)), some (aI ((FF : Nat) : Int)), some (aI ((AA : Nat) : Int)), some (aI ((i : Nat) : Int)), o9], [aI ((N : Nat) : Int)], am_mix [33] g M)
                              refine hR _ (show K (some (aI ((N : Nat) : Int))) (am_mix [33] g M) from ?_)
                              rw [hAA, hFF] at h1
                              rw [hAA] at h2
                              refine hK1 s s2 A F N rfl rfl hs4 hs42 rfl rfl rfl (by omega) (by omega) (by omega) (by omega) g (fun k hk => ?_) (fun j hj => ?_)
                              · have h3 := h1 k hk (by unfold jd; omega)
                                exact h3
                              · exact h2 j (fun k hk _ => hj k hk)
                            | succ f ih =>
                              intro i x o9 g hx hin h1 h2
                              subst hx
                              refine hR _ (hR _ (hR _ (am_brf (rg := am_in ((i : Nat) : Int) ∧ am_in ((N : Nat) : Int)) (P := ((N : Nat) : Int) ≤ ((i : Nat) : Int)) (A := R (201, [some (aR 8 0), some (aI ((s : Nat) : Int)), some (aI ((F : Nat) : Int)), some (aI ((s2 : Nat) : Int)), some (aI ((A : Nat) : Int)), some (aI ((N : Nat) : Int)), some (aI ((FF : Nat) : Int)), some (aI ((AA : Nat) : Int)), some (aI ((i : Nat) : Int)), o9], [], am_mix [33] g M)) (B := R (154, [some (aR 8 0), some (aI ((s : Nat) : Int)), some (aI ((F : Nat) : Int)), some (aI ((s2 : Nat) : Int)), some (aI ((A : Nat) : Int)), some (aI ((N : Nat) : Int)), some (aI ((FF : Nat) : Int)), some (aI ((AA : Nat) : Int)), some (aI ((i : Nat) : Int)), o9], [], am_mix [33] g M)) (by omega) (by omega) ?_)))
                              show R (154, [some (aR 8 0), some (aI ((s : Nat) : Int)), some (aI ((F : Nat) : Int)), some (aI ((s2 : Nat) : Int)), some (aI ((A : Nat) : Int)), some (aI ((N : Nat) : Int)), some (aI ((FF : Nat) : Int)), some (aI ((AA : Nat) : Int)), some (aI ((i : Nat) : Int)), o9], [], am_mix [33] g M)
                              refine hR _ (hR _ (hR _ (am_brc (rg := am_in ((FF : Nat) : Int) ∧ am_in ((AA : Nat) : Int)) (P := ((AA : Nat) : Int) ≤ ((FF : Nat) : Int)) (A := R (171, [some (aR 8 0), some (aI ((s : Nat) : Int)), some (aI ((F : Nat) : Int)), some (aI ((s2 : Nat) : Int)), some (aI ((A : Nat) : Int)), some (aI ((N : Nat) : Int)), some (aI ((FF : Nat) : Int)), some (aI ((AA : Nat) : Int)), some (aI ((i : Nat) : Int)), o9], [], am_mix [33] g M)) (B := R (161, [some (aR 8 0), some (aI ((s : Nat) : Int)), some (aI ((F : Nat) : Int)), some (aI ((s2 : Nat) : Int)), some (aI ((A : Nat) : Int)), some (aI ((N : Nat) : Int)), some (aI ((FF : Nat) : Int)), some (aI ((AA : Nat) : Int)), some (aI ((i : Nat) : Int)), o9], [], am_mix [33] g M)) (by omega) (fun c158 => ?_) (fun c158 => ?_))))
                              · refine hR _ (?_)
                                show R (173, [some (aR 8 0), some (aI ((s : Nat) : Int)), some (aI ((F : Nat) : Int)), some (aI ((s2 : Nat) : Int)), some (aI ((A : Nat) : Int)), some (aI ((N : Nat) : Int)), some (aI ((FF : Nat) : Int)), some (aI ((AA : Nat) : Int)), some (aI ((i : Nat) : Int)), o9], [aI ((i : Nat) : Int)], am_mix [33] g M)
                                refine hR _ (hR _ (hR _ (hR _ (hR _ (hR _ (hR _ (hR _ (hR _ (hR _ (hR _ (?_)))))))))))
                                show R (193, [some (aR 8 0), some (aI ((s : Nat) : Int)), some (aI ((F : Nat) : Int)), some (aI ((s2 : Nat) : Int)), some (aI ((A : Nat) : Int)), some (aI ((N : Nat) : Int)), some (aI ((FF : Nat) : Int)), some (aI ((AA : Nat) : Int)), some (aI ((i : Nat) : Int)), some (aI ((i : Nat) : Int))], [aI (((FF : Nat) : Int) + ((i : Nat) : Int)), aR 33 0, aI (((AA : Nat) : Int) + ((i : Nat) : Int)), aR 33 0], am_mix [33] g M)
                                refine hR _ ⟨(show 0 ≤ ((((FF : Nat) : Int) + ((i : Nat) : Int)) : Int) ∧ ((((FF : Nat) : Int) + ((i : Nat) : Int)) : Int) < 160 from (by omega)), ?_⟩
                                show R (194, [some (aR 8 0), some (aI ((s : Nat) : Int)), some (aI ((F : Nat) : Int)), some (aI ((s2 : Nat) : Int)), some (aI ((A : Nat) : Int)), some (aI ((N : Nat) : Int)), some (aI ((FF : Nat) : Int)), some (aI ((AA : Nat) : Int)), some (aI ((i : Nat) : Int)), some (aI ((i : Nat) : Int))], [aI (g 33 0 (((((FF : Nat) : Int) + ((i : Nat) : Int))).toNat)), aI (((AA : Nat) : Int) + ((i : Nat) : Int)), aR 33 0], am_mix [33] g M)
                                refine hR _ ⟨(show 0 ≤ ((((AA : Nat) : Int) + ((i : Nat) : Int)) : Int) ∧ ((((AA : Nat) : Int) + ((i : Nat) : Int)) : Int) < 160 from (by omega)), ?_⟩
                                show R (195, [some (aR 8 0), some (aI ((s : Nat) : Int)), some (aI ((F : Nat) : Int)), some (aI ((s2 : Nat) : Int)), some (aI ((A : Nat) : Int)), some (aI ((N : Nat) : Int)), some (aI ((FF : Nat) : Int)), some (aI ((AA : Nat) : Int)), some (aI ((i : Nat) : Int)), some (aI ((i : Nat) : Int))], [], am_wr (am_mix [33] g M) 33 0 (((((AA : Nat) : Int) + ((i : Nat) : Int))).toNat) (g 33 0 (((((FF : Nat) : Int) + ((i : Nat) : Int))).toNat)))
                                refine hR _ (hR _ (?_))
                                show R (147, [some (aR 8 0), some (aI ((s : Nat) : Int)), some (aI ((F : Nat) : Int)), some (aI ((s2 : Nat) : Int)), some (aI ((A : Nat) : Int)), some (aI ((N : Nat) : Int)), some (aI ((FF : Nat) : Int)), some (aI ((AA : Nat) : Int)), some (aI (((i : Nat) : Int) + 1)), some (aI ((i : Nat) : Int))], [], am_wr (am_mix [33] g M) 33 0 (((((AA : Nat) : Int) + ((i : Nat) : Int))).toNat) (g 33 0 (((((FF : Nat) : Int) + ((i : Nat) : Int))).toNat)))
                                have hsrc : g 33 0 (FF + i) = M 33 0 (FF + i) := h2 _ (fun k hk hd => by unfold jd at hd; omega)
                                rw [show ((((AA : Nat) : Int) + ((i : Nat) : Int))).toNat = AA + i by omega, show (((((FF : Nat) : Int) + ((i : Nat) : Int))).toNat) = FF + i by omega, hsrc]
                                have e9 : am_ag [33] M (am_wr (am_mix [33] g M) 33 0 (AA + i) (M 33 0 (FF + i))) := (am_ag.rf.mix rfl).wr rfl
                                have n1 : ∀ k, k < N → jd AA FF N (i + 1) k → (am_wr (am_mix [33] g M) 33 0 (AA + i) (M 33 0 (FF + i))) 33 0 (AA + k) = M 33 0 (FF + k) := by
                                  intro k hk hd
                                  by_cases e : k = i
                                  · rw [e]
                                    exact am_wr_eq
                                  · exact (am_wr_ne (Or.inr (Or.inr (by omega)))).trans (h1 k hk (by unfold jd at hd ⊢; omega))
                                have n2 : ∀ j, (∀ k, k < N → jd AA FF N (i + 1) k → j ≠ AA + k) → (am_wr (am_mix [33] g M) 33 0 (AA + i) (M 33 0 (FF + i))) 33 0 j = M 33 0 j := by
                                  intro j hj
                                  exact (am_wr_ne (Or.inr (Or.inr (hj i (by omega) (by unfold jd; omega))))).trans (h2 j (fun k hk hd => hj k hk (by unfold jd at hd ⊢; omega)))
                                rw [e9.eq] at n1 n2 ⊢
                                exact ih (i + 1) _ _ _ (by omega) (by omega) n1 n2
                              · refine hR _ (hR _ (hR _ (hR _ (hR _ (hR _ (?_))))))
                                show R (173, [some (aR 8 0), some (aI ((s : Nat) : Int)), some (aI ((F : Nat) : Int)), some (aI ((s2 : Nat) : Int)), some (aI ((A : Nat) : Int)), some (aI ((N : Nat) : Int)), some (aI ((FF : Nat) : Int)), some (aI ((AA : Nat) : Int)), some (aI ((i : Nat) : Int)), o9], [aI ((((N : Nat) : Int) - 1) - ((i : Nat) : Int))], am_mix [33] g M)
                                refine hR _ (hR _ (hR _ (hR _ (hR _ (hR _ (hR _ (hR _ (hR _ (hR _ (hR _ (?_)))))))))))
                                show R (193, [some (aR 8 0), some (aI ((s : Nat) : Int)), some (aI ((F : Nat) : Int)), some (aI ((s2 : Nat) : Int)), some (aI ((A : Nat) : Int)), some (aI ((N : Nat) : Int)), some (aI ((FF : Nat) : Int)), some (aI ((AA : Nat) : Int)), some (aI ((i : Nat) : Int)), some (aI ((((N : Nat) : Int) - 1) - ((i : Nat) : Int)))], [aI (((FF : Nat) : Int) + ((((N : Nat) : Int) - 1) - ((i : Nat) : Int))), aR 33 0, aI (((AA : Nat) : Int) + ((((N : Nat) : Int) - 1) - ((i : Nat) : Int))), aR 33 0], am_mix [33] g M)
                                refine hR _ ⟨(show 0 ≤ ((((FF : Nat) : Int) + ((((N : Nat) : Int) - 1) - ((i : Nat) : Int))) : Int) ∧ ((((FF : Nat) : Int) + ((((N : Nat) : Int) - 1) - ((i : Nat) : Int))) : Int) < 160 from (by omega)), ?_⟩
                                show R (194, [some (aR 8 0), some (aI ((s : Nat) : Int)), some (aI ((F : Nat) : Int)), some (aI ((s2 : Nat) : Int)), some (aI ((A : Nat) : Int)), some (aI ((N : Nat) : Int)), some (aI ((FF : Nat) : Int)), some (aI ((AA : Nat) : Int)), some (aI ((i : Nat) : Int)), some (aI ((((N : Nat) : Int) - 1) - ((i : Nat) : Int)))], [aI (g 33 0 (((((FF : Nat) : Int) + ((((N : Nat) : Int) - 1) - ((i : Nat) : Int)))).toNat)), aI (((AA : Nat) : Int) + ((((N : Nat) : Int) - 1) - ((i : Nat) : Int))), aR 33 0], am_mix [33] g M)
                                refine hR _ ⟨(show 0 ≤ ((((AA : Nat) : Int) + ((((N : Nat) : Int) - 1) - ((i : Nat) : Int))) : Int) ∧ ((((AA : Nat) : Int) + ((((N : Nat) : Int) - 1) - ((i : Nat) : Int))) : Int) < 160 from (by omega)), ?_⟩
                                show R (195, [some (aR 8 0), some (aI ((s : Nat) : Int)), some (aI ((F : Nat) : Int)), some (aI ((s2 : Nat) : Int)), some (aI ((A : Nat) : Int)), some (aI ((N : Nat) : Int)), some (aI ((FF : Nat) : Int)), some (aI ((AA : Nat) : Int)), some (aI ((i : Nat) : Int)), some (aI ((((N : Nat) : Int) - 1) - ((i : Nat) : Int)))], [], am_wr (am_mix [33] g M) 33 0 (((((AA : Nat) : Int) + ((((N : Nat) : Int) - 1) - ((i : Nat) : Int)))).toNat) (g 33 0 (((((FF : Nat) : Int) + ((((N : Nat) : Int) - 1) - ((i : Nat) : Int)))).toNat)))
                                refine hR _ (hR _ (?_))
                                show R (147, [some (aR 8 0), some (aI ((s : Nat) : Int)), some (aI ((F : Nat) : Int)), some (aI ((s2 : Nat) : Int)), some (aI ((A : Nat) : Int)), some (aI ((N : Nat) : Int)), some (aI ((FF : Nat) : Int)), some (aI ((AA : Nat) : Int)), some (aI (((i : Nat) : Int) + 1)), some (aI ((((N : Nat) : Int) - 1) - ((i : Nat) : Int)))], [], am_wr (am_mix [33] g M) 33 0 (((((AA : Nat) : Int) + ((((N : Nat) : Int) - 1) - ((i : Nat) : Int)))).toNat) (g 33 0 (((((FF : Nat) : Int) + ((((N : Nat) : Int) - 1) - ((i : Nat) : Int)))).toNat)))
                                have hsrc : g 33 0 (FF + (N - 1 - i)) = M 33 0 (FF + (N - 1 - i)) := h2 _ (fun k hk hd => by unfold jd at hd; omega)
                                rw [show ((((AA : Nat) : Int) + ((((N : Nat) : Int) - 1) - ((i : Nat) : Int)))).toNat = AA + (N - 1 - i) by omega, show (((((FF : Nat) : Int) + ((((N : Nat) : Int) - 1) - ((i : Nat) : Int)))).toNat) = FF + (N - 1 - i) by omega, hsrc]
                                have e9 : am_ag [33] M (am_wr (am_mix [33] g M) 33 0 (AA + (N - 1 - i)) (M 33 0 (FF + (N - 1 - i)))) := (am_ag.rf.mix rfl).wr rfl
                                have n1 : ∀ k, k < N → jd AA FF N (i + 1) k → (am_wr (am_mix [33] g M) 33 0 (AA + (N - 1 - i)) (M 33 0 (FF + (N - 1 - i)))) 33 0 (AA + k) = M 33 0 (FF + k) := by
                                  intro k hk hd
                                  by_cases e : k = (N - 1 - i)
                                  · rw [e]
                                    exact am_wr_eq
                                  · exact (am_wr_ne (Or.inr (Or.inr (by omega)))).trans (h1 k hk (by unfold jd at hd ⊢; omega))
                                have n2 : ∀ j, (∀ k, k < N → jd AA FF N (i + 1) k → j ≠ AA + k) → (am_wr (am_mix [33] g M) 33 0 (AA + (N - 1 - i)) (M 33 0 (FF + (N - 1 - i)))) 33 0 j = M 33 0 j := by
                                  intro j hj
                                  exact (am_wr_ne (Or.inr (Or.inr (hj (N - 1 - i) (by omega) (by unfold jd; omega))))).trans (h2 j (fun k hk hd => hj k hk (by unfold jd at hd ⊢; omega)))
                                rw [e9.eq] at n1 n2 ⊢
                                exact ih (i + 1) _ _ _ (by omega) (by omega) n1 n2
                          have e9 : am_ag [33] M M := am_ag.rf
                          suffices hR0 : R (147, [some (aR 8 0), some (aI ((s : Nat) : Int)), some (aI ((F : Nat) : Int)), some (aI ((s2 : Nat) : Int)), some (aI ((A : Nat) : Int)), some (aI ((N : Nat) : Int)), some (aI ((FF : Nat) : Int)), some (aI ((AA : Nat) : Int)), some (aI 0), none], [], M) by
                            rw [show ((FF : Nat) : Int) = ((40 * ((s : Nat) : Int)) + ((F : Nat) : Int)) by omega, show ((AA : Nat) : Int) = ((40 * ((s2 : Nat) : Int)) + ((A : Nat) : Int)) by omega] at hR0
                            exact hR0
                          rw [e9.eq]
                          exact key N 0 _ _ _ rfl (by omega) (fun k hk hd => absurd hd (by unfold jd; omega)) (fun j hj => rfl)
                        · refine hR _ (?_)
                          show R (126, [some (aR 8 0), some (aI ((s : Nat) : Int)), some (aI i), some (aI ((s2 : Nat) : Int)), some (aI j), some (aI n), none, none, none, none], [aI (-12)], M)
                          refine hR _ (show K (some (aI (-12))) M from ?_)
                          refine am_kr (hK0 (by omega)) ?_
                          repeat' split
                          all_goals omega
          · refine hR _ (?_)
            show R (61, [some (aR 8 0), some (aI ((s : Nat) : Int)), some (aI i), some (aI ((s2 : Nat) : Int)), some (aI j), some (aI n), none, none, none, none], [aI (-13)], M)
            refine hR _ (show K (some (aI (-13))) M from ?_)
            refine am_kr (hK0 (by omega)) ?_
            repeat' split
            all_goals omega
        · refine hR _ (?_)
          show R (43, [some (aR 8 0), some (aI ((s : Nat) : Int)), some (aI i), some (aI ((s2 : Nat) : Int)), some (aI j), some (aI n), none, none, none, none], [aI (-11)], M)
          refine hR _ (show K (some (aI (-11))) M from ?_)
          refine am_kr (hK0 (by omega)) ?_
          repeat' split
          all_goals omega
    · show R (15, [some (aR 8 0), some (aI sa), some (aI i), some (aI sb), some (aI j), some (aI n), none, none, none, none], [aI 0], M)
      refine hR _ (am_brf (rg := am_in 0) (P := (0 : Int) ≠ 0) (A := R (21, [some (aR 8 0), some (aI sa), some (aI i), some (aI sb), some (aI j), some (aI n), none, none, none, none], [], M)) (B := R (18, [some (aR 8 0), some (aI sa), some (aI i), some (aI sb), some (aI j), some (aI n), none, none, none, none], [], M)) (by omega) (by omega) ?_)
      show R (18, [some (aR 8 0), some (aI sa), some (aI i), some (aI sb), some (aI j), some (aI n), none, none, none, none], [], M)
      refine hR _ (?_)
      show R (20, [some (aR 8 0), some (aI sa), some (aI i), some (aI sb), some (aI j), some (aI n), none, none, none, none], [aI (-2)], M)
      refine hR _ (show K (some (aI (-2))) M from ?_)
      refine am_kr (hK0 (by omega)) ?_
      repeat' split
      all_goals omega
  · show R (6, [some (aR 8 0), some (aI sa), some (aI i), some (aI sb), some (aI j), some (aI n), none, none, none, none], [aI 0], M)
    refine hR _ (am_brt (rg := am_in 0) (P := (0 : Int) = 0) (A := R (18, [some (aR 8 0), some (aI sa), some (aI i), some (aI sb), some (aI j), some (aI n), none, none, none, none], [], M)) (B := R (9, [some (aR 8 0), some (aI sa), some (aI i), some (aI sb), some (aI j), some (aI n), none, none, none, none], [], M)) (by omega) (by omega) ?_)
    show R (18, [some (aR 8 0), some (aI sa), some (aI i), some (aI sb), some (aI j), some (aI n), none, none, none, none], [], M)
    refine hR _ (?_)
    show R (20, [some (aR 8 0), some (aI sa), some (aI i), some (aI sb), some (aI j), some (aI n), none, none, none, none], [aI (-2)], M)
    refine hR _ (show K (some (aI (-2))) M from ?_)
    refine am_kr (hK0 (by omega)) ?_
    repeat' split
    all_goals omega

set_option maxHeartbeats 2000000 in
theorem sm_handsBy {d : Nat} (hd : 4 ≤ d) {sa so at' n : Int} {M : am_M} {K : am_K} (hso : ∀ q : Nat, q < 4 → (-1 ≤ M 31 0 q ∧ M 31 0 q ≤ 2) ∧ 0 ≤ M 32 0 q ∧ M 32 0 q ≤ 40) (hcell : ∀ j, j < 160 → am_in (M 33 0 j)) (hn0 : 0 ≤ M 421 0 0 ∧ M 421 0 0 ≤ 5) (ha_s : am_in sa) (ha_o : am_in so) (ha_a : am_in at') (ha_n : am_in n) (hKA : ∀ s : Nat, sa = s → s < 4 → 0 ≤ so ∧ so ≤ 2 → 0 ≤ n ∧ n ≤ 5 → M 31 0 s = so → (∀ q : Nat, (q : Int) < n → 0 ≤ at' + 3 * (q : Int) ∧ at' + 3 * (q : Int) ≤ M 32 0 s - 3) → K (some (aI (mo_hc M (40 * s + at'.toNat) n.toNat))) (mo_hs M (40 * s + at'.toNat) n.toNat)) (hKO : ∀ s : Nat, sa = s → s < 4 → 0 ≤ so ∧ so ≤ 2 → 0 ≤ n ∧ n ≤ 5 → M 31 0 s = so → ∀ i : Nat, (i : Int) < n → (∀ q : Nat, q < i → 0 ≤ at' + 3 * (q : Int) ∧ at' + 3 * (q : Int) ≤ M 32 0 s - 3) → ¬ (0 ≤ at' + 3 * (i : Int) ∧ at' + 3 * (i : Int) ≤ M 32 0 s - 3) → K (some (aI (-12))) (mo_hs M (40 * s + at'.toNat) i)) (hK0 : ¬ (((0 ≤ sa ∧ sa < 4) ∧ (0 ≤ so ∧ so ≤ 2) ∧ 0 ≤ n ∧ n ≤ 5) ∧ M 31 0 sa.toNat = so) → K (some (aI (if ((0 ≤ sa ∧ sa < 4) ∧ (0 ≤ so ∧ so ≤ 2) ∧ 0 ≤ n ∧ n ≤ 5) then (if M 31 0 sa.toNat = -1 then -11 else -13) else -2))) M) : am_Call true d 202 [aR 8 0, aI sa, aI so, aI at', aI n] M K := by
  obtain ⟨d, rfl⟩ : ∃ e, d = e + 1 := ⟨d - 1, by omega⟩
  refine ⟨rfl, fun R hR hC => ?_⟩
  replace hR : ∀ c, am_F true tb_f202 1 (am_Call true d) K R c → R c := hR
  show R (0, [some (aR 8 0), some (aI sa), some (aI so), some (aI at'), some (aI n), none, none, none, none], [], M)
  refine hR _ (hR _ (hR _ (?_)))
  show R (3, [some (aR 8 0), some (aI sa), some (aI so), some (aI at'), some (aI n), none, none, none, none], [aI 3, aI 0, aI sa], M)
  refine hR _ (sp_in (by omega) (by omega) (fun h3 => ?_) (fun h3 => ?_))
  · show R (6, [some (aR 8 0), some (aI sa), some (aI so), some (aI at'), some (aI n), none, none, none, none], [aI 1], M)
    refine hR _ (am_brf (rg := am_in 1) (P := (1 : Int) = 0) (A := R (28, [some (aR 8 0), some (aI sa), some (aI so), some (aI at'), some (aI n), none, none, none, none], [], M)) (B := R (9, [some (aR 8 0), some (aI sa), some (aI so), some (aI at'), some (aI n), none, none, none, none], [], M)) (by omega) (by omega) ?_)
    show R (9, [some (aR 8 0), some (aI sa), some (aI so), some (aI at'), some (aI n), none, none, none, none], [], M)
    refine hR _ (hR _ (hR _ (?_)))
    show R (12, [some (aR 8 0), some (aI sa), some (aI so), some (aI at'), some (aI n), none, none, none, none], [aI 2, aI 0, aI so], M)
    refine hR _ (sp_in (by omega) (by omega) (fun h12 => ?_) (fun h12 => ?_))
    · show R (15, [some (aR 8 0), some (aI sa), some (aI so), some (aI at'), some (aI n), none, none, none, none], [aI 1], M)
      refine hR _ (am_brf (rg := am_in 1) (P := (1 : Int) = 0) (A := R (28, [some (aR 8 0), some (aI sa), some (aI so), some (aI at'), some (aI n), none, none, none, none], [], M)) (B := R (18, [some (aR 8 0), some (aI sa), some (aI so), some (aI at'), some (aI n), none, none, none, none], [], M)) (by omega) (by omega) ?_)
      show R (18, [some (aR 8 0), some (aI sa), some (aI so), some (aI at'), some (aI n), none, none, none, none], [], M)
      refine hR _ (hR _ (hR _ (?_)))
      show R (22, [some (aR 8 0), some (aI sa), some (aI so), some (aI at'), some (aI n), none, none, none, none], [aI 5, aI 0, aI n], M)
      refine hR _ (sp_in (by omega) (by omega) (fun h22 => ?_) (fun h22 => ?_))
      · show R (25, [some (aR 8 0), some (aI sa), some (aI so), some (aI at'), some (aI n), none, none, none, none], [aI 1], M)
        refine hR _ (am_brt (rg := am_in 1) (P := (1 : Int) ≠ 0) (A := R (31, [some (aR 8 0), some (aI sa), some (aI so), some (aI at'), some (aI n), none, none, none, none], [], M)) (B := R (28, [some (aR 8 0), some (aI sa), some (aI so), some (aI at'), some (aI n), none, none, none, none], [], M)) (by omega) (by omega) ?_)
        show R (31, [some (aR 8 0), some (aI sa), some (aI so), some (aI at'), some (aI n), none, none, none, none], [], M)
        obtain ⟨s, rfl, hs4⟩ : ∃ s : Nat, sa = (s : Int) ∧ s < 4 := ⟨sa.toNat, by omega, by omega⟩
        have hss := hso s hs4
        simp only [Int.toNat_natCast] at hK0
        show R (31, [some (aR 8 0), some (aI ((s : Nat) : Int)), some (aI so), some (aI at'), some (aI n), none, none, none, none], [], M)
        refine hR _ (hR _ (hR _ (?_)))
        show R (36, [some (aR 8 0), some (aI ((s : Nat) : Int)), some (aI so), some (aI at'), some (aI n), none, none, none, none], [aI ((s : Nat) : Int), aR 31 0], M)
        refine hR _ ⟨(show 0 ≤ (((s : Nat) : Int) : Int) ∧ (((s : Nat) : Int) : Int) < 4 from (by omega)), ?_⟩
        show R (37, [some (aR 8 0), some (aI ((s : Nat) : Int)), some (aI so), some (aI at'), some (aI n), none, none, none, none], [aI (M 31 0 s)], M)
        refine hR _ (hR _ (am_brc (rg := am_in (M 31 0 s) ∧ am_in (-1)) (P := M 31 0 s ≠ (-1)) (A := R (44, [some (aR 8 0), some (aI ((s : Nat) : Int)), some (aI so), some (aI at'), some (aI n), none, none, none, none], [], M)) (B := R (41, [some (aR 8 0), some (aI ((s : Nat) : Int)), some (aI so), some (aI at'), some (aI n), none, none, none, none], [], M)) (by omega) (fun c38 => ?_) (fun c38 => ?_)))
        · refine hR _ (hR _ (hR _ (?_)))
          show R (49, [some (aR 8 0), some (aI ((s : Nat) : Int)), some (aI so), some (aI at'), some (aI n), none, none, none, none], [aI ((s : Nat) : Int), aR 31 0], M)
          refine hR _ ⟨(show 0 ≤ (((s : Nat) : Int) : Int) ∧ (((s : Nat) : Int) : Int) < 4 from (by omega)), ?_⟩
          show R (50, [some (aR 8 0), some (aI ((s : Nat) : Int)), some (aI so), some (aI at'), some (aI n), none, none, none, none], [aI (M 31 0 s)], M)
          refine hR _ (hR _ (am_brc (rg := am_in (M 31 0 s) ∧ am_in so) (P := M 31 0 s = so) (A := R (57, [some (aR 8 0), some (aI ((s : Nat) : Int)), some (aI so), some (aI at'), some (aI n), none, none, none, none], [], M)) (B := R (54, [some (aR 8 0), some (aI ((s : Nat) : Int)), some (aI so), some (aI at'), some (aI n), none, none, none, none], [], M)) (by omega) (fun c51 => ?_) (fun c51 => ?_)))
          · refine hR _ (hR _ (hR _ (hR _ (?_))))
            show R (63, [some (aR 8 0), some (aI ((s : Nat) : Int)), some (aI so), some (aI at'), some (aI n), some (aI 0), some (aI 0), none, none], [], M)
            have key : ∀ (f i : Nat) (x c : Int) (o7 o8 : Option am_V), x = (i : Int) → (i : Int) + f = n → c = (mo_hc M (40 * s + at'.toNat) i) → (∀ q : Nat, q < i → 0 ≤ at' + 3 * (q : Int) ∧ at' + 3 * (q : Int) ≤ M 32 0 s - 3) → R (63, [some (aR 8 0), some (aI ((s : Nat) : Int)), some (aI so), some (aI at'), some (aI n), some (aI c), some (aI x), o7, o8], [], (mo_hs M (40 * s + at'.toNat) i)) := by
              intro f
              induction f with
              | zero =>
                intro i x c o7 o8 hx hin hc hq
                subst hx
                have hcb := mo_hc_b M (40 * s + at'.toNat) i
                refine hR _ (hR _ (hR _ (am_brt (rg := am_in ((i : Nat) : Int) ∧ am_in n) (P := n ≤ ((i : Nat) : Int)) (A := R (161, [some (aR 8 0), some (aI ((s : Nat) : Int)), some (aI so), some (aI at'), some (aI n), some (aI c), some (aI ((i : Nat) : Int)), o7, o8], [], (mo_hs M (40 * s + at'.toNat) i))) (B := R (70, [some (aR 8 0), some (aI ((s : Nat) : Int)), some (aI so), some (aI at'), some (aI n), some (aI c), some (aI ((i : Nat) : Int)), o7, o8], [], (mo_hs M (40 * s + at'.toNat) i))) (by omega) (by omega) ?_)))
                show R (161, [some (aR 8 0), some (aI ((s : Nat) : Int)), some (aI so), some (aI at'), some (aI n), some (aI c), some (aI ((i : Nat) : Int)), o7, o8], [], (mo_hs M (40 * s + at'.toNat) i))
                refine hR _ (?_)
                show R (163, [some (aR 8 0), some (aI ((s : Nat) : Int)), some (aI so), some (aI at'), some (aI n), some (aI c), some (aI ((i : Nat) : Int)), o7, o8], [aI c], (mo_hs M (40 * s + at'.toNat) i))
                refine hR _ (show K (some (aI c)) (mo_hs M (40 * s + at'.toNat) i) from ?_)
                rw [hc, show i = n.toNat by omega]
                exact hKA s rfl hs4 (by omega) (by omega) (by omega) (fun q hq2 => hq q (by omega))
              | succ f ih =>
                intro i x c o7 o8 hx hin hc hq
                subst hx
                have hcb := mo_hc_b M (40 * s + at'.toNat) i
                have hnn := mo_hs_n (b := 40 * s + at'.toNat) hn0 i
                have e32 : mo_hs M (40 * s + at'.toNat) i 32 = M 32 := mo_hs_v rfl i
                have e33 : mo_hs M (40 * s + at'.toNat) i 33 = M 33 := mo_hs_v rfl i
                have hat0 : i = 0 ∨ 0 ≤ at' := by
                  by_cases hi0 : i = 0
                  · exact Or.inl hi0
                  · have := hq 0 (by omega)
                    exact Or.inr (by omega)
                have hyr : am_in (at' + 3 * (i : Int)) := by
                  by_cases hi0 : i = 0
                  · rw [hi0]; omega
                  · have := hq (i - 1) (by omega)
                    omega
                refine hR _ (hR _ (hR _ (am_brf (rg := am_in ((i : Nat) : Int) ∧ am_in n) (P := n ≤ ((i : Nat) : Int)) (A := R (161, [some (aR 8 0), some (aI ((s : Nat) : Int)), some (aI so), some (aI at'), some (aI n), some (aI c), some (aI ((i : Nat) : Int)), o7, o8], [], (mo_hs M (40 * s + at'.toNat) i))) (B := R (70, [some (aR 8 0), some (aI ((s : Nat) : Int)), some (aI so), some (aI at'), some (aI n), some (aI c), some (aI ((i : Nat) : Int)), o7, o8], [], (mo_hs M (40 * s + at'.toNat) i))) (by omega) (by omega) ?_)))
                show R (70, [some (aR 8 0), some (aI ((s : Nat) : Int)), some (aI so), some (aI at'), some (aI n), some (aI c), some (aI ((i : Nat) : Int)), o7, o8], [], (mo_hs M (40 * s + at'.toNat) i))
                refine hR _ (hR _ (hR _ (hR _ (hR _ (hR _ (hR _ (hR _ (am_brc (rg := am_in at') (P := at' < 0) (A := R (101, [some (aR 8 0), some (aI ((s : Nat) : Int)), some (aI so), some (aI at'), some (aI n), some (aI c), some (aI ((i : Nat) : Int)), some (aI (at' + (3 * ((i : Nat) : Int)))), o8], [], (mo_hs M (40 * s + at'.toNat) i))) (B := R (82, [some (aR 8 0), some (aI ((s : Nat) : Int)), some (aI so), some (aI at'), some (aI n), some (aI c), some (aI ((i : Nat) : Int)), some (aI (at' + (3 * ((i : Nat) : Int)))), o8], [], (mo_hs M (40 * s + at'.toNat) i))) (by omega) (fun c79 => ?_) (fun c79 => ?_)))))))))
                · refine hR _ (?_)
                  show R (103, [some (aR 8 0), some (aI ((s : Nat) : Int)), some (aI so), some (aI at'), some (aI n), some (aI c), some (aI ((i : Nat) : Int)), some (aI (at' + (3 * ((i : Nat) : Int)))), o8], [aI (-12)], (mo_hs M (40 * s + at'.toNat) i))
                  refine hR _ (show K (some (aI (-12))) (mo_hs M (40 * s + at'.toNat) i) from ?_)
                  exact hKO s rfl hs4 (by omega) (by omega) (by omega) i (by omega) hq (by omega)
                · refine hR _ (hR _ (hR _ (am_brc (rg := am_in (at' + (3 * ((i : Nat) : Int))) ∧ am_in at') (P := (at' + (3 * ((i : Nat) : Int))) < at') (A := R (101, [some (aR 8 0), some (aI ((s : Nat) : Int)), some (aI so), some (aI at'), some (aI n), some (aI c), some (aI ((i : Nat) : Int)), some (aI (at' + (3 * ((i : Nat) : Int)))), o8], [], (mo_hs M (40 * s + at'.toNat) i))) (B := R (88, [some (aR 8 0), some (aI ((s : Nat) : Int)), some (aI so), some (aI at'), some (aI n), some (aI c), some (aI ((i : Nat) : Int)), some (aI (at' + (3 * ((i : Nat) : Int)))), o8], [], (mo_hs M (40 * s + at'.toNat) i))) (by omega) (fun c85 => ?_) (fun c85 => ?_))))
                  · refine hR _ (?_)
                    show R (103, [some (aR 8 0), some (aI ((s : Nat) : Int)), some (aI so), some (aI at'), some (aI n), some (aI c), some (aI ((i : Nat) : Int)), some (aI (at' + (3 * ((i : Nat) : Int)))), o8], [aI (-12)], (mo_hs M (40 * s + at'.toNat) i))
                    refine hR _ (show K (some (aI (-12))) (mo_hs M (40 * s + at'.toNat) i) from ?_)
                    exact hKO s rfl hs4 (by omega) (by omega) (by omega) i (by omega) hq (by omega)
                  · refine hR _ (hR _ (hR _ (hR _ (?_))))
                    show R (95, [some (aR 8 0), some (aI ((s : Nat) : Int)), some (aI so), some (aI at'), some (aI n), some (aI c), some (aI ((i : Nat) : Int)), some (aI (at' + (3 * ((i : Nat) : Int)))), o8], [aI ((s : Nat) : Int), aR 32 0, aI (at' + (3 * ((i : Nat) : Int)))], (mo_hs M (40 * s + at'.toNat) i))
                    refine hR _ ⟨(show 0 ≤ (((s : Nat) : Int) : Int) ∧ (((s : Nat) : Int) : Int) < 4 from (by omega)), ?_⟩
                    show R (96, [some (aR 8 0), some (aI ((s : Nat) : Int)), some (aI so), some (aI at'), some (aI n), some (aI c), some (aI ((i : Nat) : Int)), some (aI (at' + (3 * ((i : Nat) : Int)))), o8], [aI ((mo_hs M (40 * s + at'.toNat) i) 32 0 s), aI (at' + (3 * ((i : Nat) : Int)))], (mo_hs M (40 * s + at'.toNat) i))
                    rw [(show (mo_hs M (40 * s + at'.toNat) i) 32 0 s = M 32 0 s by rw [e32])]
                    show R (96, [some (aR 8 0), some (aI ((s : Nat) : Int)), some (aI so), some (aI at'), some (aI n), some (aI c), some (aI ((i : Nat) : Int)), some (aI (at' + (3 * ((i : Nat) : Int)))), o8], [aI (M 32 0 s), aI (at' + (3 * ((i : Nat) : Int)))], (mo_hs M (40 * s + at'.toNat) i))
                    refine hR _ (hR _ (hR _ (am_brc (rg := am_in (at' + (3 * ((i : Nat) : Int))) ∧ am_in ((M 32 0 s) - 3)) (P := (at' + (3 * ((i : Nat) : Int))) ≤ ((M 32 0 s) - 3)) (A := R (104, [some (aR 8 0), some (aI ((s : Nat) : Int)), some (aI so), some (aI at'), some (aI n), some (aI c), some (aI ((i : Nat) : Int)), some (aI (at' + (3 * ((i : Nat) : Int)))), o8], [], (mo_hs M (40 * s + at'.toNat) i))) (B := R (101, [some (aR 8 0), some (aI ((s : Nat) : Int)), some (aI so), some (aI at'), some (aI n), some (aI c), some (aI ((i : Nat) : Int)), some (aI (at' + (3 * ((i : Nat) : Int)))), o8], [], (mo_hs M (40 * s + at'.toNat) i))) (by omega) (fun c98 => ?_) (fun c98 => ?_))))
                    · refine hR _ (hR _ (hR _ (hR _ (hR _ (hR _ (hR _ (hR _ (hR _ (hR _ (hR _ (?_)))))))))))
                      show R (122, [some (aR 8 0), some (aI ((s : Nat) : Int)), some (aI so), some (aI at'), some (aI n), some (aI c), some (aI ((i : Nat) : Int)), some (aI (at' + (3 * ((i : Nat) : Int)))), some (aI ((40 * ((s : Nat) : Int)) + (at' + (3 * ((i : Nat) : Int)))))], [aI ((40 * ((s : Nat) : Int)) + (at' + (3 * ((i : Nat) : Int)))), aR 33 0, aR 8 0, aI c], (mo_hs M (40 * s + at'.toNat) i))
                      refine hR _ ⟨(show 0 ≤ (((40 * ((s : Nat) : Int)) + (at' + (3 * ((i : Nat) : Int)))) : Int) ∧ (((40 * ((s : Nat) : Int)) + (at' + (3 * ((i : Nat) : Int)))) : Int) < 160 from (by omega)), ?_⟩
                      show R (123, [some (aR 8 0), some (aI ((s : Nat) : Int)), some (aI so), some (aI at'), some (aI n), some (aI c), some (aI ((i : Nat) : Int)), some (aI (at' + (3 * ((i : Nat) : Int)))), some (aI ((40 * ((s : Nat) : Int)) + (at' + (3 * ((i : Nat) : Int)))))], [aI ((mo_hs M (40 * s + at'.toNat) i) 33 0 ((((40 * ((s : Nat) : Int)) + (at' + (3 * ((i : Nat) : Int))))).toNat)), aR 8 0, aI c], (mo_hs M (40 * s + at'.toNat) i))
                      rw [(show (mo_hs M (40 * s + at'.toNat) i) 33 0 ((((40 * ((s : Nat) : Int)) + (at' + (3 * ((i : Nat) : Int))))).toNat) = (M 33 0 (40 * s + at'.toNat + 3 * i)) by rw [e33, show (((40 * ((s : Nat) : Int)) + (at' + (3 * ((i : Nat) : Int))))).toNat = 40 * s + at'.toNat + 3 * i by omega])]
                      show R (123, [some (aR 8 0), some (aI ((s : Nat) : Int)), some (aI so), some (aI at'), some (aI n), some (aI c), some (aI ((i : Nat) : Int)), some (aI (at' + (3 * ((i : Nat) : Int)))), some (aI ((40 * ((s : Nat) : Int)) + (at' + (3 * ((i : Nat) : Int)))))], [aI (M 33 0 (40 * s + at'.toNat + 3 * i)), aR 8 0, aI c], (mo_hs M (40 * s + at'.toNat) i))
                      refine hR _ (hR _ (hR _ (hR _ (hR _ (?_)))))
                      show R (131, [some (aR 8 0), some (aI ((s : Nat) : Int)), some (aI so), some (aI at'), some (aI n), some (aI c), some (aI ((i : Nat) : Int)), some (aI (at' + (3 * ((i : Nat) : Int)))), some (aI ((40 * ((s : Nat) : Int)) + (at' + (3 * ((i : Nat) : Int)))))], [aI (((40 * ((s : Nat) : Int)) + (at' + (3 * ((i : Nat) : Int)))) + 1), aR 33 0, aI (M 33 0 (40 * s + at'.toNat + 3 * i)), aR 8 0, aI c], (mo_hs M (40 * s + at'.toNat) i))
                      refine hR _ ⟨(show 0 ≤ ((((40 * ((s : Nat) : Int)) + (at' + (3 * ((i : Nat) : Int)))) + 1) : Int) ∧ ((((40 * ((s : Nat) : Int)) + (at' + (3 * ((i : Nat) : Int)))) + 1) : Int) < 160 from (by omega)), ?_⟩
                      show R (132, [some (aR 8 0), some (aI ((s : Nat) : Int)), some (aI so), some (aI at'), some (aI n), some (aI c), some (aI ((i : Nat) : Int)), some (aI (at' + (3 * ((i : Nat) : Int)))), some (aI ((40 * ((s : Nat) : Int)) + (at' + (3 * ((i : Nat) : Int)))))], [aI ((mo_hs M (40 * s + at'.toNat) i) 33 0 (((((40 * ((s : Nat) : Int)) + (at' + (3 * ((i : Nat) : Int)))) + 1)).toNat)), aI (M 33 0 (40 * s + at'.toNat + 3 * i)), aR 8 0, aI c], (mo_hs M (40 * s + at'.toNat) i))
                      rw [(show (mo_hs M (40 * s + at'.toNat) i) 33 0 (((((40 * ((s : Nat) : Int)) + (at' + (3 * ((i : Nat) : Int)))) + 1)).toNat) = (M 33 0 (40 * s + at'.toNat + 3 * i + 1)) by rw [e33, show ((((40 * ((s : Nat) : Int)) + (at' + (3 * ((i : Nat) : Int)))) + 1)).toNat = 40 * s + at'.toNat + 3 * i + 1 by omega])]
                      show R (132, [some (aR 8 0), some (aI ((s : Nat) : Int)), some (aI so), some (aI at'), some (aI n), some (aI c), some (aI ((i : Nat) : Int)), some (aI (at' + (3 * ((i : Nat) : Int)))), some (aI ((40 * ((s : Nat) : Int)) + (at' + (3 * ((i : Nat) : Int)))))], [aI (M 33 0 (40 * s + at'.toNat + 3 * i + 1)), aI (M 33 0 (40 * s + at'.toNat + 3 * i)), aR 8 0, aI c], (mo_hs M (40 * s + at'.toNat) i))
                      refine hR _ (hR _ (hR _ (hR _ (hR _ (?_)))))
                      show R (140, [some (aR 8 0), some (aI ((s : Nat) : Int)), some (aI so), some (aI at'), some (aI n), some (aI c), some (aI ((i : Nat) : Int)), some (aI (at' + (3 * ((i : Nat) : Int)))), some (aI ((40 * ((s : Nat) : Int)) + (at' + (3 * ((i : Nat) : Int)))))], [aI (((40 * ((s : Nat) : Int)) + (at' + (3 * ((i : Nat) : Int)))) + 2), aR 33 0, aI (M 33 0 (40 * s + at'.toNat + 3 * i + 1)), aI (M 33 0 (40 * s + at'.toNat + 3 * i)), aR 8 0, aI c], (mo_hs M (40 * s + at'.toNat) i))
                      refine hR _ ⟨(show 0 ≤ ((((40 * ((s : Nat) : Int)) + (at' + (3 * ((i : Nat) : Int)))) + 2) : Int) ∧ ((((40 * ((s : Nat) : Int)) + (at' + (3 * ((i : Nat) : Int)))) + 2) : Int) < 160 from (by omega)), ?_⟩
                      show R (141, [some (aR 8 0), some (aI ((s : Nat) : Int)), some (aI so), some (aI at'), some (aI n), some (aI c), some (aI ((i : Nat) : Int)), some (aI (at' + (3 * ((i : Nat) : Int)))), some (aI ((40 * ((s : Nat) : Int)) + (at' + (3 * ((i : Nat) : Int)))))], [aI ((mo_hs M (40 * s + at'.toNat) i) 33 0 (((((40 * ((s : Nat) : Int)) + (at' + (3 * ((i : Nat) : Int)))) + 2)).toNat)), aI (M 33 0 (40 * s + at'.toNat + 3 * i + 1)), aI (M 33 0 (40 * s + at'.toNat + 3 * i)), aR 8 0, aI c], (mo_hs M (40 * s + at'.toNat) i))
                      rw [(show (mo_hs M (40 * s + at'.toNat) i) 33 0 (((((40 * ((s : Nat) : Int)) + (at' + (3 * ((i : Nat) : Int)))) + 2)).toNat) = (M 33 0 (40 * s + at'.toNat + 3 * i + 2)) by rw [e33, show ((((40 * ((s : Nat) : Int)) + (at' + (3 * ((i : Nat) : Int)))) + 2)).toNat = 40 * s + at'.toNat + 3 * i + 2 by omega])]
                      show R (141, [some (aR 8 0), some (aI ((s : Nat) : Int)), some (aI so), some (aI at'), some (aI n), some (aI c), some (aI ((i : Nat) : Int)), some (aI (at' + (3 * ((i : Nat) : Int)))), some (aI ((40 * ((s : Nat) : Int)) + (at' + (3 * ((i : Nat) : Int)))))], [aI (M 33 0 (40 * s + at'.toNat + 3 * i + 2)), aI (M 33 0 (40 * s + at'.toNat + 3 * i + 1)), aI (M 33 0 (40 * s + at'.toNat + 3 * i)), aR 8 0, aI c], (mo_hs M (40 * s + at'.toNat) i))
                      refine hR _ (sm_hand (N := (mo_hs M (40 * s + at'.toNat) i 421 0 0).toNat) (by omega) (show mo_hs M (40 * s + at'.toNat) i 421 0 0 = (((mo_hs M (40 * s + at'.toNat) i 421 0 0).toNat : Nat) : Int) by omega) (by omega) (hcell _ (by omega)) (hcell _ (by omega)) (hcell _ (by omega)) (fun hg1 hg2 => ?_) (fun hg0 => ?_))
                      · replace hg2 : (mo_hs M (40 * s + at'.toNat) i 421 0 0).toNat < 5 := hg2
                        show R (144, [some (aR 8 0), some (aI ((s : Nat) : Int)), some (aI so), some (aI at'), some (aI n), some (aI c), some (aI ((i : Nat) : Int)), some (aI (at' + (3 * ((i : Nat) : Int)))), some (aI ((40 * ((s : Nat) : Int)) + (at' + (3 * ((i : Nat) : Int)))))], [aI (((mo_hs M (40 * s + at'.toNat) i 421 0 0).toNat : Nat) : Int), aI c], (am_wr (am_wr (am_wr (am_wr (am_wr (mo_hs M (40 * s + at'.toNat) i) 23 0 ((mo_hs M (40 * s + at'.toNat) i 421 0 0).toNat) (Int.tdiv (M 33 0 (40 * s + at'.toNat + 3 * i)) 10)) 24 0 ((mo_hs M (40 * s + at'.toNat) i 421 0 0).toNat) (Int.tmod (M 33 0 (40 * s + at'.toNat + 3 * i)) 10)) 25 0 (2 * ((mo_hs M (40 * s + at'.toNat) i 421 0 0).toNat)) (M 33 0 (40 * s + at'.toNat + 3 * i + 1))) 25 0 (2 * ((mo_hs M (40 * s + at'.toNat) i 421 0 0).toNat) + 1) (M 33 0 (40 * s + at'.toNat + 3 * i + 2))) 421 0 0 ((((mo_hs M (40 * s + at'.toNat) i 421 0 0).toNat : Nat) : Int) + 1)))
                        refine hR _ (am_brf (rg := am_in (((mo_hs M (40 * s + at'.toNat) i 421 0 0).toNat : Nat) : Int)) (P := (((mo_hs M (40 * s + at'.toNat) i 421 0 0).toNat : Nat) : Int) < 0) (A := R (151, [some (aR 8 0), some (aI ((s : Nat) : Int)), some (aI so), some (aI at'), some (aI n), some (aI c), some (aI ((i : Nat) : Int)), some (aI (at' + (3 * ((i : Nat) : Int)))), some (aI ((40 * ((s : Nat) : Int)) + (at' + (3 * ((i : Nat) : Int)))))], [aI c], (am_wr (am_wr (am_wr (am_wr (am_wr (mo_hs M (40 * s + at'.toNat) i) 23 0 ((mo_hs M (40 * s + at'.toNat) i 421 0 0).toNat) (Int.tdiv (M 33 0 (40 * s + at'.toNat + 3 * i)) 10)) 24 0 ((mo_hs M (40 * s + at'.toNat) i 421 0 0).toNat) (Int.tmod (M 33 0 (40 * s + at'.toNat + 3 * i)) 10)) 25 0 (2 * ((mo_hs M (40 * s + at'.toNat) i 421 0 0).toNat)) (M 33 0 (40 * s + at'.toNat + 3 * i + 1))) 25 0 (2 * ((mo_hs M (40 * s + at'.toNat) i 421 0 0).toNat) + 1) (M 33 0 (40 * s + at'.toNat + 3 * i + 2))) 421 0 0 ((((mo_hs M (40 * s + at'.toNat) i 421 0 0).toNat : Nat) : Int) + 1)))) (B := R (147, [some (aR 8 0), some (aI ((s : Nat) : Int)), some (aI so), some (aI at'), some (aI n), some (aI c), some (aI ((i : Nat) : Int)), some (aI (at' + (3 * ((i : Nat) : Int)))), some (aI ((40 * ((s : Nat) : Int)) + (at' + (3 * ((i : Nat) : Int)))))], [aI c], (am_wr (am_wr (am_wr (am_wr (am_wr (mo_hs M (40 * s + at'.toNat) i) 23 0 ((mo_hs M (40 * s + at'.toNat) i 421 0 0).toNat) (Int.tdiv (M 33 0 (40 * s + at'.toNat + 3 * i)) 10)) 24 0 ((mo_hs M (40 * s + at'.toNat) i 421 0 0).toNat) (Int.tmod (M 33 0 (40 * s + at'.toNat + 3 * i)) 10)) 25 0 (2 * ((mo_hs M (40 * s + at'.toNat) i 421 0 0).toNat)) (M 33 0 (40 * s + at'.toNat + 3 * i + 1))) 25 0 (2 * ((mo_hs M (40 * s + at'.toNat) i 421 0 0).toNat) + 1) (M 33 0 (40 * s + at'.toNat + 3 * i + 2))) 421 0 0 ((((mo_hs M (40 * s + at'.toNat) i 421 0 0).toNat : Nat) : Int) + 1)))) (by omega) (by omega) ?_)
                        show R (147, [some (aR 8 0), some (aI ((s : Nat) : Int)), some (aI so), some (aI at'), some (aI n), some (aI c), some (aI ((i : Nat) : Int)), some (aI (at' + (3 * ((i : Nat) : Int)))), some (aI ((40 * ((s : Nat) : Int)) + (at' + (3 * ((i : Nat) : Int)))))], [aI c], (am_wr (am_wr (am_wr (am_wr (am_wr (mo_hs M (40 * s + at'.toNat) i) 23 0 ((mo_hs M (40 * s + at'.toNat) i 421 0 0).toNat) (Int.tdiv (M 33 0 (40 * s + at'.toNat + 3 * i)) 10)) 24 0 ((mo_hs M (40 * s + at'.toNat) i 421 0 0).toNat) (Int.tmod (M 33 0 (40 * s + at'.toNat + 3 * i)) 10)) 25 0 (2 * ((mo_hs M (40 * s + at'.toNat) i 421 0 0).toNat)) (M 33 0 (40 * s + at'.toNat + 3 * i + 1))) 25 0 (2 * ((mo_hs M (40 * s + at'.toNat) i 421 0 0).toNat) + 1) (M 33 0 (40 * s + at'.toNat + 3 * i + 2))) 421 0 0 ((((mo_hs M (40 * s + at'.toNat) i 421 0 0).toNat : Nat) : Int) + 1)))
                        refine hR _ (hR _ (hR _ (hR _ (hR _ (hR _ (?_))))))
                        show R (63, [some (aR 8 0), some (aI ((s : Nat) : Int)), some (aI so), some (aI at'), some (aI n), some (aI (c + 1)), some (aI (((i : Nat) : Int) + 1)), some (aI (at' + (3 * ((i : Nat) : Int)))), some (aI ((40 * ((s : Nat) : Int)) + (at' + (3 * ((i : Nat) : Int)))))], [], (am_wr (am_wr (am_wr (am_wr (am_wr (mo_hs M (40 * s + at'.toNat) i) 23 0 ((mo_hs M (40 * s + at'.toNat) i 421 0 0).toNat) (Int.tdiv (M 33 0 (40 * s + at'.toNat + 3 * i)) 10)) 24 0 ((mo_hs M (40 * s + at'.toNat) i 421 0 0).toNat) (Int.tmod (M 33 0 (40 * s + at'.toNat + 3 * i)) 10)) 25 0 (2 * ((mo_hs M (40 * s + at'.toNat) i 421 0 0).toNat)) (M 33 0 (40 * s + at'.toNat + 3 * i + 1))) 25 0 (2 * ((mo_hs M (40 * s + at'.toNat) i 421 0 0).toNat) + 1) (M 33 0 (40 * s + at'.toNat + 3 * i + 2))) 421 0 0 ((((mo_hs M (40 * s + at'.toNat) i 421 0 0).toNat : Nat) : Int) + 1)))
                        have e1 : mo_hs M (40 * s + at'.toNat) (i + 1) = _ := if_pos ⟨hg1, hg2⟩
                        have e2 : mo_hc M (40 * s + at'.toNat) (i + 1) = _ := if_pos ⟨hg1, hg2⟩
                        rw [show (((mo_hs M (40 * s + at'.toNat) i 421 0 0).toNat : Nat) : Int) = mo_hs M (40 * s + at'.toNat) i 421 0 0 by omega]
                        rw [← e1]
                        refine ih (i + 1) _ _ _ _ (by omega) (by omega) ?_ (fun q hq2 => ?_)
                        · rw [e2]
                          omega
                        · by_cases hqi : q = i
                          · rw [hqi]; omega
                          · exact hq q (by omega)
                      · replace hg0 : ¬ (((0 ≤ (M 33 0 (40 * s + at'.toNat + 3 * i)) ∧ (M 33 0 (40 * s + at'.toNat + 3 * i)) ≤ 59) ∧ (0 ≤ (M 33 0 (40 * s + at'.toNat + 3 * i + 1)) ∧ (M 33 0 (40 * s + at'.toNat + 3 * i + 1)) ≤ 99) ∧ 0 ≤ (M 33 0 (40 * s + at'.toNat + 3 * i + 2)) ∧ (M 33 0 (40 * s + at'.toNat + 3 * i + 2)) ≤ 500) ∧ (mo_hs M (40 * s + at'.toNat) i 421 0 0).toNat < 5) := hg0
                        show R (144, [some (aR 8 0), some (aI ((s : Nat) : Int)), some (aI so), some (aI at'), some (aI n), some (aI c), some (aI ((i : Nat) : Int)), some (aI (at' + (3 * ((i : Nat) : Int)))), some (aI ((40 * ((s : Nat) : Int)) + (at' + (3 * ((i : Nat) : Int)))))], [aI (if ((0 ≤ (M 33 0 (40 * s + at'.toNat + 3 * i)) ∧ (M 33 0 (40 * s + at'.toNat + 3 * i)) ≤ 59) ∧ (0 ≤ (M 33 0 (40 * s + at'.toNat + 3 * i + 1)) ∧ (M 33 0 (40 * s + at'.toNat + 3 * i + 1)) ≤ 99) ∧ 0 ≤ (M 33 0 (40 * s + at'.toNat + 3 * i + 2)) ∧ (M 33 0 (40 * s + at'.toNat + 3 * i + 2)) ≤ 500) then -4 else -2), aI c], (mo_hs M (40 * s + at'.toNat) i))
                        refine hR _ (am_brt (rg := am_in (if ((0 ≤ (M 33 0 (40 * s + at'.toNat + 3 * i)) ∧ (M 33 0 (40 * s + at'.toNat + 3 * i)) ≤ 59) ∧ (0 ≤ (M 33 0 (40 * s + at'.toNat + 3 * i + 1)) ∧ (M 33 0 (40 * s + at'.toNat + 3 * i + 1)) ≤ 99) ∧ 0 ≤ (M 33 0 (40 * s + at'.toNat + 3 * i + 2)) ∧ (M 33 0 (40 * s + at'.toNat + 3 * i + 2)) ≤ 500) then -4 else -2)) (P := (if ((0 ≤ (M 33 0 (40 * s + at'.toNat + 3 * i)) ∧ (M 33 0 (40 * s + at'.toNat + 3 * i)) ≤ 59) ∧ (0 ≤ (M 33 0 (40 * s + at'.toNat + 3 * i + 1)) ∧ (M 33 0 (40 * s + at'.toNat + 3 * i + 1)) ≤ 99) ∧ 0 ≤ (M 33 0 (40 * s + at'.toNat + 3 * i + 2)) ∧ (M 33 0 (40 * s + at'.toNat + 3 * i + 2)) ≤ 500) then -4 else -2) < 0) (A := R (151, [some (aR 8 0), some (aI ((s : Nat) : Int)), some (aI so), some (aI at'), some (aI n), some (aI c), some (aI ((i : Nat) : Int)), some (aI (at' + (3 * ((i : Nat) : Int)))), some (aI ((40 * ((s : Nat) : Int)) + (at' + (3 * ((i : Nat) : Int)))))], [aI c], (mo_hs M (40 * s + at'.toNat) i))) (B := R (147, [some (aR 8 0), some (aI ((s : Nat) : Int)), some (aI so), some (aI at'), some (aI n), some (aI c), some (aI ((i : Nat) : Int)), some (aI (at' + (3 * ((i : Nat) : Int)))), some (aI ((40 * ((s : Nat) : Int)) + (at' + (3 * ((i : Nat) : Int)))))], [aI c], (mo_hs M (40 * s + at'.toNat) i))) (by omega) (by split <;> omega) ?_)
                        show R (151, [some (aR 8 0), some (aI ((s : Nat) : Int)), some (aI so), some (aI at'), some (aI n), some (aI c), some (aI ((i : Nat) : Int)), some (aI (at' + (3 * ((i : Nat) : Int)))), some (aI ((40 * ((s : Nat) : Int)) + (at' + (3 * ((i : Nat) : Int)))))], [aI c], (mo_hs M (40 * s + at'.toNat) i))
                        refine hR _ (hR _ (hR _ (hR _ (hR _ (?_)))))
                        show R (63, [some (aR 8 0), some (aI ((s : Nat) : Int)), some (aI so), some (aI at'), some (aI n), some (aI (c + 0)), some (aI (((i : Nat) : Int) + 1)), some (aI (at' + (3 * ((i : Nat) : Int)))), some (aI ((40 * ((s : Nat) : Int)) + (at' + (3 * ((i : Nat) : Int)))))], [], (mo_hs M (40 * s + at'.toNat) i))
                        have e1 : mo_hs M (40 * s + at'.toNat) (i + 1) = _ := if_neg hg0
                        have e2 : mo_hc M (40 * s + at'.toNat) (i + 1) = _ := if_neg hg0
                        rw [← e1]
                        refine ih (i + 1) _ _ _ _ (by omega) (by omega) ?_ (fun q hq2 => ?_)
                        · rw [e2]
                          omega
                        · by_cases hqi : q = i
                          · rw [hqi]; omega
                          · exact hq q (by omega)
                    · refine hR _ (?_)
                      show R (103, [some (aR 8 0), some (aI ((s : Nat) : Int)), some (aI so), some (aI at'), some (aI n), some (aI c), some (aI ((i : Nat) : Int)), some (aI (at' + (3 * ((i : Nat) : Int)))), o8], [aI (-12)], (mo_hs M (40 * s + at'.toNat) i))
                      refine hR _ (show K (some (aI (-12))) (mo_hs M (40 * s + at'.toNat) i) from ?_)
                      exact hKO s rfl hs4 (by omega) (by omega) (by omega) i (by omega) hq (by omega)
            exact key n.toNat 0 _ _ _ _ rfl (show ((0 : Nat) : Int) + ((n.toNat : Nat) : Int) = n by omega) rfl (fun q hq => absurd hq (Nat.not_lt_zero q))
          · refine hR _ (?_)
            show R (56, [some (aR 8 0), some (aI ((s : Nat) : Int)), some (aI so), some (aI at'), some (aI n), none, none, none, none], [aI (-13)], M)
            refine hR _ (show K (some (aI (-13))) M from ?_)
            refine am_kr (hK0 (by omega)) ?_
            repeat' split
            all_goals omega
        · refine hR _ (?_)
          show R (43, [some (aR 8 0), some (aI ((s : Nat) : Int)), some (aI so), some (aI at'), some (aI n), none, none, none, none], [aI (-11)], M)
          refine hR _ (show K (some (aI (-11))) M from ?_)
          refine am_kr (hK0 (by omega)) ?_
          repeat' split
          all_goals omega
      · show R (25, [some (aR 8 0), some (aI sa), some (aI so), some (aI at'), some (aI n), none, none, none, none], [aI 0], M)
        refine hR _ (am_brf (rg := am_in 0) (P := (0 : Int) ≠ 0) (A := R (31, [some (aR 8 0), some (aI sa), some (aI so), some (aI at'), some (aI n), none, none, none, none], [], M)) (B := R (28, [some (aR 8 0), some (aI sa), some (aI so), some (aI at'), some (aI n), none, none, none, none], [], M)) (by omega) (by omega) ?_)
        show R (28, [some (aR 8 0), some (aI sa), some (aI so), some (aI at'), some (aI n), none, none, none, none], [], M)
        refine hR _ (?_)
        show R (30, [some (aR 8 0), some (aI sa), some (aI so), some (aI at'), some (aI n), none, none, none, none], [aI (-2)], M)
        refine hR _ (show K (some (aI (-2))) M from ?_)
        refine am_kr (hK0 (by omega)) ?_
        repeat' split
        all_goals omega
    · show R (15, [some (aR 8 0), some (aI sa), some (aI so), some (aI at'), some (aI n), none, none, none, none], [aI 0], M)
      refine hR _ (am_brt (rg := am_in 0) (P := (0 : Int) = 0) (A := R (28, [some (aR 8 0), some (aI sa), some (aI so), some (aI at'), some (aI n), none, none, none, none], [], M)) (B := R (18, [some (aR 8 0), some (aI sa), some (aI so), some (aI at'), some (aI n), none, none, none, none], [], M)) (by omega) (by omega) ?_)
      show R (28, [some (aR 8 0), some (aI sa), some (aI so), some (aI at'), some (aI n), none, none, none, none], [], M)
      refine hR _ (?_)
      show R (30, [some (aR 8 0), some (aI sa), some (aI so), some (aI at'), some (aI n), none, none, none, none], [aI (-2)], M)
      refine hR _ (show K (some (aI (-2))) M from ?_)
      refine am_kr (hK0 (by omega)) ?_
      repeat' split
      all_goals omega
  · show R (6, [some (aR 8 0), some (aI sa), some (aI so), some (aI at'), some (aI n), none, none, none, none], [aI 0], M)
    refine hR _ (am_brt (rg := am_in 0) (P := (0 : Int) = 0) (A := R (28, [some (aR 8 0), some (aI sa), some (aI so), some (aI at'), some (aI n), none, none, none, none], [], M)) (B := R (9, [some (aR 8 0), some (aI sa), some (aI so), some (aI at'), some (aI n), none, none, none, none], [], M)) (by omega) (by omega) ?_)
    show R (28, [some (aR 8 0), some (aI sa), some (aI so), some (aI at'), some (aI n), none, none, none, none], [], M)
    refine hR _ (?_)
    show R (30, [some (aR 8 0), some (aI sa), some (aI so), some (aI at'), some (aI n), none, none, none, none], [aI (-2)], M)
    refine hR _ (show K (some (aI (-2))) M from ?_)
    refine am_kr (hK0 (by omega)) ?_
    repeat' split
    all_goals omega
