/-! wb -/
variable {wb : Bool}
theorem sp_costOf {d : Nat} (hd : 4 ≤ d) {t : Nat} {more price s mk : Int} {M : am_M} {K : am_K} (ht : t < 6) (hwt : jf_wt M t) (hmo : 0 ≤ more ∧ more ≤ 9) (hpr : 1 ≤ price ∧ price ≤ 99) (hs : 0 ≤ s ∧ s ≤ 6000) (hmk : 0 ≤ mk ∧ mk ≤ 6000) (h : ∀ g, K (some (aI (jf_cs more price (jf_tk M t 2) (min 999 (if 0 ≤ s - mk then s - mk else -(s - mk))) (if s ≤ mk then 0 else 1)))) (am_mix [346, 17, 19] g M)) : am_Call wb d 71 [aR 6 t, aI more, aI price, aI s, aI mk] M K := by
  obtain ⟨d, rfl⟩ : ∃ e, d = e + 1 := ⟨d - 1, by omega⟩
  refine ⟨rfl, fun R hR hC => ?_⟩
  replace hR : ∀ c, am_F wb tb_f71 1 (am_Call wb d) K R c → R c := hR
  show R (0, [some (aR 6 t), some (aI more), some (aI price), some (aI s), some (aI mk), none], [], M)
  refine hR _ (hR _ (hR _ (hR _ (?_))))
  show R (7, [some (aR 6 t), some (aI more), some (aI price), some (aI s), some (aI mk), none], [aI (s - mk), aI 999], M)
  refine hR _ ⟨(by omega), ?_⟩
  show R (10, [some (aR 6 t), some (aI more), some (aI price), some (aI s), some (aI mk), none], [aI (if 0 ≤ (s - mk) then (s - mk) else -(s - mk)), aI 999], M)
  refine hR _ ⟨(by omega), ?_⟩
  show R (13, [some (aR 6 t), some (aI more), some (aI price), some (aI s), some (aI mk), none], [aI (min 999 (if 0 ≤ (s - mk) then (s - mk) else -(s - mk)))], M)
  refine hR _ (hR _ (hR _ (hR _ (hR _ (hR _ (hR _ (hR _ (?_))))))))
  show R (24, [some (aR 6 t), some (aI more), some (aI price), some (aI s), some (aI mk), some (aI (min 999 (if 0 ≤ (s - mk) then (s - mk) else -(s - mk))))], [aI mk, aI s, aI (min 999 (if 0 ≤ (s - mk) then (s - mk) else -(s - mk))), aI 0, aI 0, aI 2, aR 6 t], M)
  suffices hJ : R (32, [some (aR 6 t), some (aI more), some (aI price), some (aI s), some (aI mk), some (aI (min 999 (if 0 ≤ (s - mk) then (s - mk) else -(s - mk))))], [aI (if s ≤ mk then 0 else 1), aI (min 999 (if 0 ≤ (s - mk) then (s - mk) else -(s - mk))), aI 0, aI 0, aI 2, aR 6 t], M) by
    refine hR _ (am_brc (rg := am_in s ∧ am_in mk) (P := s ≤ mk) (A := R (31, [some (aR 6 t), some (aI more), some (aI price), some (aI s), some (aI mk), some (aI (min 999 (if 0 ≤ (s - mk) then (s - mk) else -(s - mk))))], [aI (min 999 (if 0 ≤ (s - mk) then (s - mk) else -(s - mk))), aI 0, aI 0, aI 2, aR 6 t], M)) (B := R (27, [some (aR 6 t), some (aI more), some (aI price), some (aI s), some (aI mk), some (aI (min 999 (if 0 ≤ (s - mk) then (s - mk) else -(s - mk))))], [aI (min 999 (if 0 ≤ (s - mk) then (s - mk) else -(s - mk))), aI 0, aI 0, aI 2, aR 6 t], M)) (by omega) (fun c24 => ?_) (fun c24 => ?_))
    · refine hR _ (?_)
      show R (32, [some (aR 6 t), some (aI more), some (aI price), some (aI s), some (aI mk), some (aI (min 999 (if 0 ≤ (s - mk) then (s - mk) else -(s - mk))))], [aI 0, aI (min 999 (if 0 ≤ (s - mk) then (s - mk) else -(s - mk))), aI 0, aI 0, aI 2, aR 6 t], M)
      rw [if_pos (show s ≤ mk by omega)] at hJ
      exact hJ
    · refine hR _ (hR _ (?_))
      show R (32, [some (aR 6 t), some (aI more), some (aI price), some (aI s), some (aI mk), some (aI (min 999 (if 0 ≤ (s - mk) then (s - mk) else -(s - mk))))], [aI 1, aI (min 999 (if 0 ≤ (s - mk) then (s - mk) else -(s - mk))), aI 0, aI 0, aI 2, aR 6 t], M)
      rw [if_neg (show ¬ (s ≤ mk) by omega)] at hJ
      exact hJ
  show R (32, [some (aR 6 t), some (aI more), some (aI price), some (aI s), some (aI mk), some (aI (min 999 (if 0 ≤ (s - mk) then (s - mk) else -(s - mk))))], [aI (if s ≤ mk then 0 else 1), aI (min 999 (if 0 ≤ (s - mk) then (s - mk) else -(s - mk))), aI 0, aI 0, aI 2, aR 6 t], M)
  refine hR _ (hR _ (?_))
  show R (34, [some (aR 6 t), some (aI more), some (aI price), some (aI s), some (aI mk), some (aI (min 999 (if 0 ≤ (s - mk) then (s - mk) else -(s - mk))))], [aI price, aI more, aI (if s ≤ mk then 0 else 1), aI (min 999 (if 0 ≤ (s - mk) then (s - mk) else -(s - mk))), aI 0, aI 0, aI 2, aR 6 t], M)
  refine hR _ (am_ct (am_vi (by omega : t < 6)) (sp_says_2 (by omega) (by omega) hwt ⟨by omega, by omega, by omega, by omega, by omega, by omega⟩ (fun g48 => ?_)))
  have hs34 : 0 ≤ (jf_cs more price (jf_tk M t 2) (min 999 (if 0 ≤ (s - mk) then (s - mk) else -(s - mk))) (if s ≤ mk then 0 else 1)) ∧ (jf_cs more price (jf_tk M t 2) (min 999 (if 0 ≤ (s - mk) then (s - mk) else -(s - mk))) (if s ≤ mk then 0 else 1)) ≤ 999 := jf_cl2 _
  show R (37, [some (aR 6 t), some (aI more), some (aI price), some (aI s), some (aI mk), some (aI (min 999 (if 0 ≤ (s - mk) then (s - mk) else -(s - mk))))], [aI (jf_cs more price (jf_tk M t 2) (min 999 (if 0 ≤ (s - mk) then (s - mk) else -(s - mk))) (if s ≤ mk then 0 else 1))], am_mix [346, 17, 19] g48 M)
  refine hR _ (show K (some (aI (jf_cs more price (jf_tk M t 2) (min 999 (if 0 ≤ (s - mk) then (s - mk) else -(s - mk))) (if s ≤ mk then 0 else 1)))) (am_mix [346, 17, 19] g48 M) from ?_)
  exact h _

set_option maxHeartbeats 1000000 in
theorem sp_costsOf {d : Nat} (hd : 5 ≤ d) {k : Nat} {p : jf_par} {mk m0 s0 : Int} {M : am_M} {K : am_K} (hp : p = jf_xp M k (M 228 0 0).toNat m0 s0) (hkw : jf_wk M k (M 228 0 0).toNat) (hlt : 0 ≤ M 228 0 0 ∧ M 228 0 0 < 6) (hok : jf_ok p) (hth : jf_th M p) (hmk : 0 ≤ mk ∧ mk ≤ 6000) (h : ∀ g, K (some (aL (jf_cc p mk))) (am_mix [346, 17, 19] g M)) : am_Call wb d 70 [aR 7 0, aR 1 k, aI mk] M K := by
  obtain ⟨d, rfl⟩ : ∃ e, d = e + 1 := ⟨d - 1, by omega⟩
  refine ⟨rfl, fun R hR hC => ?_⟩
  replace hR : ∀ c, am_F wb tb_f70 5 (am_Call wb d) K R c → R c := hR
  obtain ⟨hk, _, hwt⟩ := hkw
  have hmo : 0 ≤ M 141 k 0 ∧ M 141 k 0 ≤ 9 := by
    have := hok.2.1
    rw [hp] at this
    exact this
  have hpr : 1 ≤ M 222 0 0 ∧ M 222 0 0 ≤ 99 := by
    have := hok.2.2.2.2.2.1
    rw [hp] at this
    exact this
  show R (0, [some (aR 7 0), some (aR 1 k), some (aI mk), none, none, none], [], M)
  refine hR _ (hR _ (hR _ (hR _ (hR _ (hR _ (hR _ (am_brf (rg := am_in 0 ∧ am_in 5) (P := 5 ≤ 0) (A := R (60, [some (aR 7 0), some (aR 1 k), some (aI mk), some (aL 0), none, some (aI 0)], [], M)) (B := R (11, [some (aR 7 0), some (aR 1 k), some (aI mk), some (aL 0), none, some (aI 0)], [], M)) (by omega) (by omega) ?_)))))))
  show R (11, [some (aR 7 0), some (aR 1 k), some (aI mk), some (aL 0), none, some (aI 0)], [], M)
  refine hR _ (hR _ (hR _ (hR _ (?_))))
  show R (18, [some (aR 7 0), some (aR 1 k), some (aI mk), some (aL 0), none, some (aI 0)], [aI 0, aR 4 0, aL 0], M)
  refine hR _ (sp_oftenOf (by omega) hok hth (by omega) ?_)
  have hx18 := jf_O_b hok (a := 0) (by omega)
  show R (21, [some (aR 7 0), some (aR 1 k), some (aI mk), some (aL 0), none, some (aI 0)], [aI (jf_O p 0), aL 0], M)
  refine hR _ ⟨(by omega), ?_⟩
  show R (22, [some (aR 7 0), some (aR 1 k), some (aI mk), some (aL 0), none, some (aI 0)], [aL (jf_O p 0), aL 0], M)
  refine hR _ (?_)
  show R (23, [some (aR 7 0), some (aR 1 k), some (aI mk), some (aL 0), none, some (aI 0)], [aR 7 0, aL (jf_O p 0), aL 0], M)
  refine hR _ (sp_lawText (by omega) hlt ?_)
  show R (26, [some (aR 7 0), some (aR 1 k), some (aI mk), some (aL 0), none, some (aI 0)], [aR 6 ((M 228 0 0).toNat), aL (jf_O p 0), aL 0], M)
  refine hR _ (?_)
  show R (27, [some (aR 7 0), some (aR 1 k), some (aI mk), some (aL 0), none, some (aI 0)], [aR 1 k, aR 6 ((M 228 0 0).toNat), aL (jf_O p 0), aL 0], M)
  refine hR _ (am_ct (am_vi (by omega : k < 6)) ?_)
  show R (30, [some (aR 7 0), some (aR 1 k), some (aI mk), some (aL 0), none, some (aI 0)], [aI (M 141 k 0), aR 6 ((M 228 0 0).toNat), aL (jf_O p 0), aL 0], M)
  refine hR _ (hR _ (hR _ (hR _ (hR _ (hR _ (?_))))))
  show R (43, [some (aR 7 0), some (aR 1 k), some (aI mk), some (aL 0), none, some (aI 0)], [aI 0, aR 4 0, aI (M 222 0 0), aI (M 141 k 0), aR 6 ((M 228 0 0).toNat), aL (jf_O p 0), aL 0], M)
  refine hR _ (sp_endOf (by omega) hok hth (by omega) ?_)
  have hx43 := jf_E_b hok (a := 0) (by omega)
  show R (46, [some (aR 7 0), some (aR 1 k), some (aI mk), some (aL 0), none, some (aI 0)], [aI (jf_E p 0), aI (M 222 0 0), aI (M 141 k 0), aR 6 ((M 228 0 0).toNat), aL (jf_O p 0), aL 0], M)
  refine hR _ (?_)
  show R (47, [some (aR 7 0), some (aR 1 k), some (aI mk), some (aL 0), none, some (aI 0)], [aI mk, aI (jf_E p 0), aI (M 222 0 0), aI (M 141 k 0), aR 6 ((M 228 0 0).toNat), aL (jf_O p 0), aL 0], M)
  refine hR _ (sp_costOf (by omega) (by omega) hwt (by omega) (by omega) (by omega) (by omega) (fun g49 => ?_))
  have hc47 := jf_cl2 (jf_val (jf_nm 0 0 (min 999 (if 0 ≤ (jf_E p 0) - mk then (jf_E p 0) - mk else -((jf_E p 0) - mk))) (if (jf_E p 0) ≤ mk then 0 else 1) (M 141 k 0) (M 222 0 0)) (jf_tk M ((M 228 0 0).toNat) 2))
  show R (50, [some (aR 7 0), some (aR 1 k), some (aI mk), some (aL 0), none, some (aI 0)], [aI (jf_cs (M 141 k 0) (M 222 0 0) (jf_tk M ((M 228 0 0).toNat) 2) (min 999 (if 0 ≤ (jf_E p 0) - mk then (jf_E p 0) - mk else -((jf_E p 0) - mk))) (if (jf_E p 0) ≤ mk then 0 else 1)), aL (jf_O p 0), aL 0], am_mix [346, 17, 19] g49 M)
  rw [show (jf_cs (M 141 k 0) (M 222 0 0) (jf_tk M ((M 228 0 0).toNat) 2) (min 999 (if 0 ≤ (jf_E p 0) - mk then (jf_E p 0) - mk else -((jf_E p 0) - mk))) (if (jf_E p 0) ≤ mk then 0 else 1)) = jf_co p mk (jf_E p 0) by rw [hp]; rfl]
  show R (50, [some (aR 7 0), some (aR 1 k), some (aI mk), some (aL 0), none, some (aI 0)], [aI (jf_co p mk (jf_E p 0)), aL (jf_O p 0), aL 0], am_mix [346, 17, 19] g49 M)
  have hco0 := jf_co_b p mk (jf_E p 0)
  refine hR _ ⟨(by omega), ?_⟩
  show R (51, [some (aR 7 0), some (aR 1 k), some (aI mk), some (aL 0), none, some (aI 0)], [aL (jf_co p mk (jf_E p 0)), aL (jf_O p 0), aL 0], am_mix [346, 17, 19] g49 M)
  refine hR _ (hR _ (hR _ (hR _ (hR _ (hR _ (hR _ (hR _ (am_brf (rg := am_in 1 ∧ am_in 5) (P := 5 ≤ 1) (A := R (60, [some (aR 7 0), some (aR 1 k), some (aI mk), some (aL (0 + ((jf_O p 0) * (jf_co p mk (jf_E p 0))))), none, some (aI 1)], [], am_mix [346, 17, 19] g49 M)) (B := R (11, [some (aR 7 0), some (aR 1 k), some (aI mk), some (aL (0 + ((jf_O p 0) * (jf_co p mk (jf_E p 0))))), none, some (aI 1)], [], am_mix [346, 17, 19] g49 M)) (by omega) (by omega) ?_))))))))
  show R (11, [some (aR 7 0), some (aR 1 k), some (aI mk), some (aL (0 + ((jf_O p 0) * (jf_co p mk (jf_E p 0))))), none, some (aI 1)], [], am_mix [346, 17, 19] g49 M)
  refine hR _ (hR _ (hR _ (hR _ (?_))))
  show R (18, [some (aR 7 0), some (aR 1 k), some (aI mk), some (aL (0 + ((jf_O p 0) * (jf_co p mk (jf_E p 0))))), none, some (aI 1)], [aI 1, aR 4 0, aL (0 + ((jf_O p 0) * (jf_co p mk (jf_E p 0))))], am_mix [346, 17, 19] g49 M)
  refine hR _ (sp_oftenOf (by omega) hok hth (by omega) ?_)
  have hx18 := jf_O_b hok (a := 1) (by omega)
  show R (21, [some (aR 7 0), some (aR 1 k), some (aI mk), some (aL (0 + ((jf_O p 0) * (jf_co p mk (jf_E p 0))))), none, some (aI 1)], [aI (jf_O p 1), aL (0 + ((jf_O p 0) * (jf_co p mk (jf_E p 0))))], am_mix [346, 17, 19] g49 M)
  refine hR _ ⟨(by omega), ?_⟩
  show R (22, [some (aR 7 0), some (aR 1 k), some (aI mk), some (aL (0 + ((jf_O p 0) * (jf_co p mk (jf_E p 0))))), none, some (aI 1)], [aL (jf_O p 1), aL (0 + ((jf_O p 0) * (jf_co p mk (jf_E p 0))))], am_mix [346, 17, 19] g49 M)
  refine hR _ (?_)
  show R (23, [some (aR 7 0), some (aR 1 k), some (aI mk), some (aL (0 + ((jf_O p 0) * (jf_co p mk (jf_E p 0))))), none, some (aI 1)], [aR 7 0, aL (jf_O p 1), aL (0 + ((jf_O p 0) * (jf_co p mk (jf_E p 0))))], am_mix [346, 17, 19] g49 M)
  refine hR _ (sp_lawText (by omega) hlt ?_)
  show R (26, [some (aR 7 0), some (aR 1 k), some (aI mk), some (aL (0 + ((jf_O p 0) * (jf_co p mk (jf_E p 0))))), none, some (aI 1)], [aR 6 ((M 228 0 0).toNat), aL (jf_O p 1), aL (0 + ((jf_O p 0) * (jf_co p mk (jf_E p 0))))], am_mix [346, 17, 19] g49 M)
  refine hR _ (?_)
  show R (27, [some (aR 7 0), some (aR 1 k), some (aI mk), some (aL (0 + ((jf_O p 0) * (jf_co p mk (jf_E p 0))))), none, some (aI 1)], [aR 1 k, aR 6 ((M 228 0 0).toNat), aL (jf_O p 1), aL (0 + ((jf_O p 0) * (jf_co p mk (jf_E p 0))))], am_mix [346, 17, 19] g49 M)
  refine hR _ (am_ct (am_vi (by omega : k < 6)) ?_)
  show R (30, [some (aR 7 0), some (aR 1 k), some (aI mk), some (aL (0 + ((jf_O p 0) * (jf_co p mk (jf_E p 0))))), none, some (aI 1)], [aI (M 141 k 0), aR 6 ((M 228 0 0).toNat), aL (jf_O p 1), aL (0 + ((jf_O p 0) * (jf_co p mk (jf_E p 0))))], am_mix [346, 17, 19] g49 M)
  refine hR _ (hR _ (hR _ (hR _ (hR _ (hR _ (?_))))))
  show R (43, [some (aR 7 0), some (aR 1 k), some (aI mk), some (aL (0 + ((jf_O p 0) * (jf_co p mk (jf_E p 0))))), none, some (aI 1)], [aI 1, aR 4 0, aI (M 222 0 0), aI (M 141 k 0), aR 6 ((M 228 0 0).toNat), aL (jf_O p 1), aL (0 + ((jf_O p 0) * (jf_co p mk (jf_E p 0))))], am_mix [346, 17, 19] g49 M)
  refine hR _ (sp_endOf (by omega) hok hth (by omega) ?_)
  have hx43 := jf_E_b hok (a := 1) (by omega)
  show R (46, [some (aR 7 0), some (aR 1 k), some (aI mk), some (aL (0 + ((jf_O p 0) * (jf_co p mk (jf_E p 0))))), none, some (aI 1)], [aI (jf_E p 1), aI (M 222 0 0), aI (M 141 k 0), aR 6 ((M 228 0 0).toNat), aL (jf_O p 1), aL (0 + ((jf_O p 0) * (jf_co p mk (jf_E p 0))))], am_mix [346, 17, 19] g49 M)
  refine hR _ (?_)
  show R (47, [some (aR 7 0), some (aR 1 k), some (aI mk), some (aL (0 + ((jf_O p 0) * (jf_co p mk (jf_E p 0))))), none, some (aI 1)], [aI mk, aI (jf_E p 1), aI (M 222 0 0), aI (M 141 k 0), aR 6 ((M 228 0 0).toNat), aL (jf_O p 1), aL (0 + ((jf_O p 0) * (jf_co p mk (jf_E p 0))))], am_mix [346, 17, 19] g49 M)
  refine hR _ (sp_costOf (by omega) (by omega) hwt (by omega) (by omega) (by omega) (by omega) (fun g50 => ?_))
  have hc47 := jf_cl2 (jf_val (jf_nm 0 0 (min 999 (if 0 ≤ (jf_E p 1) - mk then (jf_E p 1) - mk else -((jf_E p 1) - mk))) (if (jf_E p 1) ≤ mk then 0 else 1) (M 141 k 0) (M 222 0 0)) (jf_tk M ((M 228 0 0).toNat) 2))
  show R (50, [some (aR 7 0), some (aR 1 k), some (aI mk), some (aL (0 + ((jf_O p 0) * (jf_co p mk (jf_E p 0))))), none, some (aI 1)], [aI (jf_cs (M 141 k 0) (M 222 0 0) (jf_tk M ((M 228 0 0).toNat) 2) (min 999 (if 0 ≤ (jf_E p 1) - mk then (jf_E p 1) - mk else -((jf_E p 1) - mk))) (if (jf_E p 1) ≤ mk then 0 else 1)), aL (jf_O p 1), aL (0 + ((jf_O p 0) * (jf_co p mk (jf_E p 0))))], am_mix [346, 17, 19] g50 (am_mix [346, 17, 19] g49 M))
  rw [show (jf_cs (M 141 k 0) (M 222 0 0) (jf_tk M ((M 228 0 0).toNat) 2) (min 999 (if 0 ≤ (jf_E p 1) - mk then (jf_E p 1) - mk else -((jf_E p 1) - mk))) (if (jf_E p 1) ≤ mk then 0 else 1)) = jf_co p mk (jf_E p 1) by rw [hp]; rfl]
  show R (50, [some (aR 7 0), some (aR 1 k), some (aI mk), some (aL (0 + ((jf_O p 0) * (jf_co p mk (jf_E p 0))))), none, some (aI 1)], [aI (jf_co p mk (jf_E p 1)), aL (jf_O p 1), aL (0 + ((jf_O p 0) * (jf_co p mk (jf_E p 0))))], am_mix [346, 17, 19] g50 (am_mix [346, 17, 19] g49 M))
  have hco1 := jf_co_b p mk (jf_E p 1)
  refine hR _ ⟨(by omega), ?_⟩
  show R (51, [some (aR 7 0), some (aR 1 k), some (aI mk), some (aL (0 + ((jf_O p 0) * (jf_co p mk (jf_E p 0))))), none, some (aI 1)], [aL (jf_co p mk (jf_E p 1)), aL (jf_O p 1), aL (0 + ((jf_O p 0) * (jf_co p mk (jf_E p 0))))], am_mix [346, 17, 19] g50 (am_mix [346, 17, 19] g49 M))
  refine hR _ (hR _ (hR _ (hR _ (hR _ (hR _ (hR _ (hR _ (am_brf (rg := am_in 2 ∧ am_in 5) (P := 5 ≤ 2) (A := R (60, [some (aR 7 0), some (aR 1 k), some (aI mk), some (aL ((0 + ((jf_O p 0) * (jf_co p mk (jf_E p 0)))) + ((jf_O p 1) * (jf_co p mk (jf_E p 1))))), none, some (aI 2)], [], am_mix [346, 17, 19] g50 (am_mix [346, 17, 19] g49 M))) (B := R (11, [some (aR 7 0), some (aR 1 k), some (aI mk), some (aL ((0 + ((jf_O p 0) * (jf_co p mk (jf_E p 0)))) + ((jf_O p 1) * (jf_co p mk (jf_E p 1))))), none, some (aI 2)], [], am_mix [346, 17, 19] g50 (am_mix [346, 17, 19] g49 M))) (by omega) (by omega) ?_))))))))
  show R (11, [some (aR 7 0), some (aR 1 k), some (aI mk), some (aL ((0 + ((jf_O p 0) * (jf_co p mk (jf_E p 0)))) + ((jf_O p 1) * (jf_co p mk (jf_E p 1))))), none, some (aI 2)], [], am_mix [346, 17, 19] g50 (am_mix [346, 17, 19] g49 M))
  refine hR _ (hR _ (hR _ (hR _ (?_))))
  show R (18, [some (aR 7 0), some (aR 1 k), some (aI mk), some (aL ((0 + ((jf_O p 0) * (jf_co p mk (jf_E p 0)))) + ((jf_O p 1) * (jf_co p mk (jf_E p 1))))), none, some (aI 2)], [aI 2, aR 4 0, aL ((0 + ((jf_O p 0) * (jf_co p mk (jf_E p 0)))) + ((jf_O p 1) * (jf_co p mk (jf_E p 1))))], am_mix [346, 17, 19] g50 (am_mix [346, 17, 19] g49 M))
  refine hR _ (sp_oftenOf (by omega) hok hth (by omega) ?_)
  have hx18 := jf_O_b hok (a := 2) (by omega)
  show R (21, [some (aR 7 0), some (aR 1 k), some (aI mk), some (aL ((0 + ((jf_O p 0) * (jf_co p mk (jf_E p 0)))) + ((jf_O p 1) * (jf_co p mk (jf_E p 1))))), none, some (aI 2)], [aI (jf_O p 2), aL ((0 + ((jf_O p 0) * (jf_co p mk (jf_E p 0)))) + ((jf_O p 1) * (jf_co p mk (jf_E p 1))))], am_mix [346, 17, 19] g50 (am_mix [346, 17, 19] g49 M))
  refine hR _ ⟨(by omega), ?_⟩
  show R (22, [some (aR 7 0), some (aR 1 k), some (aI mk), some (aL ((0 + ((jf_O p 0) * (jf_co p mk (jf_E p 0)))) + ((jf_O p 1) * (jf_co p mk (jf_E p 1))))), none, some (aI 2)], [aL (jf_O p 2), aL ((0 + ((jf_O p 0) * (jf_co p mk (jf_E p 0)))) + ((jf_O p 1) * (jf_co p mk (jf_E p 1))))], am_mix [346, 17, 19] g50 (am_mix [346, 17, 19] g49 M))
  refine hR _ (?_)
  show R (23, [some (aR 7 0), some (aR 1 k), some (aI mk), some (aL ((0 + ((jf_O p 0) * (jf_co p mk (jf_E p 0)))) + ((jf_O p 1) * (jf_co p mk (jf_E p 1))))), none, some (aI 2)], [aR 7 0, aL (jf_O p 2), aL ((0 + ((jf_O p 0) * (jf_co p mk (jf_E p 0)))) + ((jf_O p 1) * (jf_co p mk (jf_E p 1))))], am_mix [346, 17, 19] g50 (am_mix [346, 17, 19] g49 M))
  refine hR _ (sp_lawText (by omega) hlt ?_)
  show R (26, [some (aR 7 0), some (aR 1 k), some (aI mk), some (aL ((0 + ((jf_O p 0) * (jf_co p mk (jf_E p 0)))) + ((jf_O p 1) * (jf_co p mk (jf_E p 1))))), none, some (aI 2)], [aR 6 ((M 228 0 0).toNat), aL (jf_O p 2), aL ((0 + ((jf_O p 0) * (jf_co p mk (jf_E p 0)))) + ((jf_O p 1) * (jf_co p mk (jf_E p 1))))], am_mix [346, 17, 19] g50 (am_mix [346, 17, 19] g49 M))
  refine hR _ (?_)
  show R (27, [some (aR 7 0), some (aR 1 k), some (aI mk), some (aL ((0 + ((jf_O p 0) * (jf_co p mk (jf_E p 0)))) + ((jf_O p 1) * (jf_co p mk (jf_E p 1))))), none, some (aI 2)], [aR 1 k, aR 6 ((M 228 0 0).toNat), aL (jf_O p 2), aL ((0 + ((jf_O p 0) * (jf_co p mk (jf_E p 0)))) + ((jf_O p 1) * (jf_co p mk (jf_E p 1))))], am_mix [346, 17, 19] g50 (am_mix [346, 17, 19] g49 M))
  refine hR _ (am_ct (am_vi (by omega : k < 6)) ?_)
  show R (30, [some (aR 7 0), some (aR 1 k), some (aI mk), some (aL ((0 + ((jf_O p 0) * (jf_co p mk (jf_E p 0)))) + ((jf_O p 1) * (jf_co p mk (jf_E p 1))))), none, some (aI 2)], [aI (M 141 k 0), aR 6 ((M 228 0 0).toNat), aL (jf_O p 2), aL ((0 + ((jf_O p 0) * (jf_co p mk (jf_E p 0)))) + ((jf_O p 1) * (jf_co p mk (jf_E p 1))))], am_mix [346, 17, 19] g50 (am_mix [346, 17, 19] g49 M))
  refine hR _ (hR _ (hR _ (hR _ (hR _ (hR _ (?_))))))
  show R (43, [some (aR 7 0), some (aR 1 k), some (aI mk), some (aL ((0 + ((jf_O p 0) * (jf_co p mk (jf_E p 0)))) + ((jf_O p 1) * (jf_co p mk (jf_E p 1))))), none, some (aI 2)], [aI 2, aR 4 0, aI (M 222 0 0), aI (M 141 k 0), aR 6 ((M 228 0 0).toNat), aL (jf_O p 2), aL ((0 + ((jf_O p 0) * (jf_co p mk (jf_E p 0)))) + ((jf_O p 1) * (jf_co p mk (jf_E p 1))))], am_mix [346, 17, 19] g50 (am_mix [346, 17, 19] g49 M))
  refine hR _ (sp_endOf (by omega) hok hth (by omega) ?_)
  have hx43 := jf_E_b hok (a := 2) (by omega)
  show R (46, [some (aR 7 0), some (aR 1 k), some (aI mk), some (aL ((0 + ((jf_O p 0) * (jf_co p mk (jf_E p 0)))) + ((jf_O p 1) * (jf_co p mk (jf_E p 1))))), none, some (aI 2)], [aI (jf_E p 2), aI (M 222 0 0), aI (M 141 k 0), aR 6 ((M 228 0 0).toNat), aL (jf_O p 2), aL ((0 + ((jf_O p 0) * (jf_co p mk (jf_E p 0)))) + ((jf_O p 1) * (jf_co p mk (jf_E p 1))))], am_mix [346, 17, 19] g50 (am_mix [346, 17, 19] g49 M))
  refine hR _ (?_)
  show R (47, [some (aR 7 0), some (aR 1 k), some (aI mk), some (aL ((0 + ((jf_O p 0) * (jf_co p mk (jf_E p 0)))) + ((jf_O p 1) * (jf_co p mk (jf_E p 1))))), none, some (aI 2)], [aI mk, aI (jf_E p 2), aI (M 222 0 0), aI (M 141 k 0), aR 6 ((M 228 0 0).toNat), aL (jf_O p 2), aL ((0 + ((jf_O p 0) * (jf_co p mk (jf_E p 0)))) + ((jf_O p 1) * (jf_co p mk (jf_E p 1))))], am_mix [346, 17, 19] g50 (am_mix [346, 17, 19] g49 M))
  refine hR _ (sp_costOf (by omega) (by omega) hwt (by omega) (by omega) (by omega) (by omega) (fun g51 => ?_))
  have hc47 := jf_cl2 (jf_val (jf_nm 0 0 (min 999 (if 0 ≤ (jf_E p 2) - mk then (jf_E p 2) - mk else -((jf_E p 2) - mk))) (if (jf_E p 2) ≤ mk then 0 else 1) (M 141 k 0) (M 222 0 0)) (jf_tk M ((M 228 0 0).toNat) 2))
  show R (50, [some (aR 7 0), some (aR 1 k), some (aI mk), some (aL ((0 + ((jf_O p 0) * (jf_co p mk (jf_E p 0)))) + ((jf_O p 1) * (jf_co p mk (jf_E p 1))))), none, some (aI 2)], [aI (jf_cs (M 141 k 0) (M 222 0 0) (jf_tk M ((M 228 0 0).toNat) 2) (min 999 (if 0 ≤ (jf_E p 2) - mk then (jf_E p 2) - mk else -((jf_E p 2) - mk))) (if (jf_E p 2) ≤ mk then 0 else 1)), aL (jf_O p 2), aL ((0 + ((jf_O p 0) * (jf_co p mk (jf_E p 0)))) + ((jf_O p 1) * (jf_co p mk (jf_E p 1))))], am_mix [346, 17, 19] g51 (am_mix [346, 17, 19] g50 (am_mix [346, 17, 19] g49 M)))
  rw [show (jf_cs (M 141 k 0) (M 222 0 0) (jf_tk M ((M 228 0 0).toNat) 2) (min 999 (if 0 ≤ (jf_E p 2) - mk then (jf_E p 2) - mk else -((jf_E p 2) - mk))) (if (jf_E p 2) ≤ mk then 0 else 1)) = jf_co p mk (jf_E p 2) by rw [hp]; rfl]
  show R (50, [some (aR 7 0), some (aR 1 k), some (aI mk), some (aL ((0 + ((jf_O p 0) * (jf_co p mk (jf_E p 0)))) + ((jf_O p 1) * (jf_co p mk (jf_E p 1))))), none, some (aI 2)], [aI (jf_co p mk (jf_E p 2)), aL (jf_O p 2), aL ((0 + ((jf_O p 0) * (jf_co p mk (jf_E p 0)))) + ((jf_O p 1) * (jf_co p mk (jf_E p 1))))], am_mix [346, 17, 19] g51 (am_mix [346, 17, 19] g50 (am_mix [346, 17, 19] g49 M)))
  have hco2 := jf_co_b p mk (jf_E p 2)
  refine hR _ ⟨(by omega), ?_⟩
  show R (51, [some (aR 7 0), some (aR 1 k), some (aI mk), some (aL ((0 + ((jf_O p 0) * (jf_co p mk (jf_E p 0)))) + ((jf_O p 1) * (jf_co p mk (jf_E p 1))))), none, some (aI 2)], [aL (jf_co p mk (jf_E p 2)), aL (jf_O p 2), aL ((0 + ((jf_O p 0) * (jf_co p mk (jf_E p 0)))) + ((jf_O p 1) * (jf_co p mk (jf_E p 1))))], am_mix [346, 17, 19] g51 (am_mix [346, 17, 19] g50 (am_mix [346, 17, 19] g49 M)))
  refine hR _ (hR _ (hR _ (hR _ (hR _ (hR _ (hR _ (hR _ (am_brf (rg := am_in 3 ∧ am_in 5) (P := 5 ≤ 3) (A := R (60, [some (aR 7 0), some (aR 1 k), some (aI mk), some (aL (((0 + ((jf_O p 0) * (jf_co p mk (jf_E p 0)))) + ((jf_O p 1) * (jf_co p mk (jf_E p 1)))) + ((jf_O p 2) * (jf_co p mk (jf_E p 2))))), none, some (aI 3)], [], am_mix [346, 17, 19] g51 (am_mix [346, 17, 19] g50 (am_mix [346, 17, 19] g49 M)))) (B := R (11, [some (aR 7 0), some (aR 1 k), some (aI mk), some (aL (((0 + ((jf_O p 0) * (jf_co p mk (jf_E p 0)))) + ((jf_O p 1) * (jf_co p mk (jf_E p 1)))) + ((jf_O p 2) * (jf_co p mk (jf_E p 2))))), none, some (aI 3)], [], am_mix [346, 17, 19] g51 (am_mix [346, 17, 19] g50 (am_mix [346, 17, 19] g49 M)))) (by omega) (by omega) ?_))))))))
  show R (11, [some (aR 7 0), some (aR 1 k), some (aI mk), some (aL (((0 + ((jf_O p 0) * (jf_co p mk (jf_E p 0)))) + ((jf_O p 1) * (jf_co p mk (jf_E p 1)))) + ((jf_O p 2) * (jf_co p mk (jf_E p 2))))), none, some (aI 3)], [], am_mix [346, 17, 19] g51 (am_mix [346, 17, 19] g50 (am_mix [346, 17, 19] g49 M)))
  refine hR _ (hR _ (hR _ (hR _ (?_))))
  show R (18, [some (aR 7 0), some (aR 1 k), some (aI mk), some (aL (((0 + ((jf_O p 0) * (jf_co p mk (jf_E p 0)))) + ((jf_O p 1) * (jf_co p mk (jf_E p 1)))) + ((jf_O p 2) * (jf_co p mk (jf_E p 2))))), none, some (aI 3)], [aI 3, aR 4 0, aL (((0 + ((jf_O p 0) * (jf_co p mk (jf_E p 0)))) + ((jf_O p 1) * (jf_co p mk (jf_E p 1)))) + ((jf_O p 2) * (jf_co p mk (jf_E p 2))))], am_mix [346, 17, 19] g51 (am_mix [346, 17, 19] g50 (am_mix [346, 17, 19] g49 M)))
  refine hR _ (sp_oftenOf (by omega) hok hth (by omega) ?_)
  have hx18 := jf_O_b hok (a := 3) (by omega)
  show R (21, [some (aR 7 0), some (aR 1 k), some (aI mk), some (aL (((0 + ((jf_O p 0) * (jf_co p mk (jf_E p 0)))) + ((jf_O p 1) * (jf_co p mk (jf_E p 1)))) + ((jf_O p 2) * (jf_co p mk (jf_E p 2))))), none, some (aI 3)], [aI (jf_O p 3), aL (((0 + ((jf_O p 0) * (jf_co p mk (jf_E p 0)))) + ((jf_O p 1) * (jf_co p mk (jf_E p 1)))) + ((jf_O p 2) * (jf_co p mk (jf_E p 2))))], am_mix [346, 17, 19] g51 (am_mix [346, 17, 19] g50 (am_mix [346, 17, 19] g49 M)))
  refine hR _ ⟨(by omega), ?_⟩
  show R (22, [some (aR 7 0), some (aR 1 k), some (aI mk), some (aL (((0 + ((jf_O p 0) * (jf_co p mk (jf_E p 0)))) + ((jf_O p 1) * (jf_co p mk (jf_E p 1)))) + ((jf_O p 2) * (jf_co p mk (jf_E p 2))))), none, some (aI 3)], [aL (jf_O p 3), aL (((0 + ((jf_O p 0) * (jf_co p mk (jf_E p 0)))) + ((jf_O p 1) * (jf_co p mk (jf_E p 1)))) + ((jf_O p 2) * (jf_co p mk (jf_E p 2))))], am_mix [346, 17, 19] g51 (am_mix [346, 17, 19] g50 (am_mix [346, 17, 19] g49 M)))
  refine hR _ (?_)
  show R (23, [some (aR 7 0), some (aR 1 k), some (aI mk), some (aL (((0 + ((jf_O p 0) * (jf_co p mk (jf_E p 0)))) + ((jf_O p 1) * (jf_co p mk (jf_E p 1)))) + ((jf_O p 2) * (jf_co p mk (jf_E p 2))))), none, some (aI 3)], [aR 7 0, aL (jf_O p 3), aL (((0 + ((jf_O p 0) * (jf_co p mk (jf_E p 0)))) + ((jf_O p 1) * (jf_co p mk (jf_E p 1)))) + ((jf_O p 2) * (jf_co p mk (jf_E p 2))))], am_mix [346, 17, 19] g51 (am_mix [346, 17, 19] g50 (am_mix [346, 17, 19] g49 M)))
  refine hR _ (sp_lawText (by omega) hlt ?_)
  show R (26, [some (aR 7 0), some (aR 1 k), some (aI mk), some (aL (((0 + ((jf_O p 0) * (jf_co p mk (jf_E p 0)))) + ((jf_O p 1) * (jf_co p mk (jf_E p 1)))) + ((jf_O p 2) * (jf_co p mk (jf_E p 2))))), none, some (aI 3)], [aR 6 ((M 228 0 0).toNat), aL (jf_O p 3), aL (((0 + ((jf_O p 0) * (jf_co p mk (jf_E p 0)))) + ((jf_O p 1) * (jf_co p mk (jf_E p 1)))) + ((jf_O p 2) * (jf_co p mk (jf_E p 2))))], am_mix [346, 17, 19] g51 (am_mix [346, 17, 19] g50 (am_mix [346, 17, 19] g49 M)))
  refine hR _ (?_)
  show R (27, [some (aR 7 0), some (aR 1 k), some (aI mk), some (aL (((0 + ((jf_O p 0) * (jf_co p mk (jf_E p 0)))) + ((jf_O p 1) * (jf_co p mk (jf_E p 1)))) + ((jf_O p 2) * (jf_co p mk (jf_E p 2))))), none, some (aI 3)], [aR 1 k, aR 6 ((M 228 0 0).toNat), aL (jf_O p 3), aL (((0 + ((jf_O p 0) * (jf_co p mk (jf_E p 0)))) + ((jf_O p 1) * (jf_co p mk (jf_E p 1)))) + ((jf_O p 2) * (jf_co p mk (jf_E p 2))))], am_mix [346, 17, 19] g51 (am_mix [346, 17, 19] g50 (am_mix [346, 17, 19] g49 M)))
  refine hR _ (am_ct (am_vi (by omega : k < 6)) ?_)
  show R (30, [some (aR 7 0), some (aR 1 k), some (aI mk), some (aL (((0 + ((jf_O p 0) * (jf_co p mk (jf_E p 0)))) + ((jf_O p 1) * (jf_co p mk (jf_E p 1)))) + ((jf_O p 2) * (jf_co p mk (jf_E p 2))))), none, some (aI 3)], [aI (M 141 k 0), aR 6 ((M 228 0 0).toNat), aL (jf_O p 3), aL (((0 + ((jf_O p 0) * (jf_co p mk (jf_E p 0)))) + ((jf_O p 1) * (jf_co p mk (jf_E p 1)))) + ((jf_O p 2) * (jf_co p mk (jf_E p 2))))], am_mix [346, 17, 19] g51 (am_mix [346, 17, 19] g50 (am_mix [346, 17, 19] g49 M)))
  refine hR _ (hR _ (hR _ (hR _ (hR _ (hR _ (?_))))))
  show R (43, [some (aR 7 0), some (aR 1 k), some (aI mk), some (aL (((0 + ((jf_O p 0) * (jf_co p mk (jf_E p 0)))) + ((jf_O p 1) * (jf_co p mk (jf_E p 1)))) + ((jf_O p 2) * (jf_co p mk (jf_E p 2))))), none, some (aI 3)], [aI 3, aR 4 0, aI (M 222 0 0), aI (M 141 k 0), aR 6 ((M 228 0 0).toNat), aL (jf_O p 3), aL (((0 + ((jf_O p 0) * (jf_co p mk (jf_E p 0)))) + ((jf_O p 1) * (jf_co p mk (jf_E p 1)))) + ((jf_O p 2) * (jf_co p mk (jf_E p 2))))], am_mix [346, 17, 19] g51 (am_mix [346, 17, 19] g50 (am_mix [346, 17, 19] g49 M)))
  refine hR _ (sp_endOf (by omega) hok hth (by omega) ?_)
  have hx43 := jf_E_b hok (a := 3) (by omega)
  show R (46, [some (aR 7 0), some (aR 1 k), some (aI mk), some (aL (((0 + ((jf_O p 0) * (jf_co p mk (jf_E p 0)))) + ((jf_O p 1) * (jf_co p mk (jf_E p 1)))) + ((jf_O p 2) * (jf_co p mk (jf_E p 2))))), none, some (aI 3)], [aI (jf_E p 3), aI (M 222 0 0), aI (M 141 k 0), aR 6 ((M 228 0 0).toNat), aL (jf_O p 3), aL (((0 + ((jf_O p 0) * (jf_co p mk (jf_E p 0)))) + ((jf_O p 1) * (jf_co p mk (jf_E p 1)))) + ((jf_O p 2) * (jf_co p mk (jf_E p 2))))], am_mix [346, 17, 19] g51 (am_mix [346, 17, 19] g50 (am_mix [346, 17, 19] g49 M)))
  refine hR _ (?_)
  show R (47, [some (aR 7 0), some (aR 1 k), some (aI mk), some (aL (((0 + ((jf_O p 0) * (jf_co p mk (jf_E p 0)))) + ((jf_O p 1) * (jf_co p mk (jf_E p 1)))) + ((jf_O p 2) * (jf_co p mk (jf_E p 2))))), none, some (aI 3)], [aI mk, aI (jf_E p 3), aI (M 222 0 0), aI (M 141 k 0), aR 6 ((M 228 0 0).toNat), aL (jf_O p 3), aL (((0 + ((jf_O p 0) * (jf_co p mk (jf_E p 0)))) + ((jf_O p 1) * (jf_co p mk (jf_E p 1)))) + ((jf_O p 2) * (jf_co p mk (jf_E p 2))))], am_mix [346, 17, 19] g51 (am_mix [346, 17, 19] g50 (am_mix [346, 17, 19] g49 M)))
  refine hR _ (sp_costOf (by omega) (by omega) hwt (by omega) (by omega) (by omega) (by omega) (fun g52 => ?_))
  have hc47 := jf_cl2 (jf_val (jf_nm 0 0 (min 999 (if 0 ≤ (jf_E p 3) - mk then (jf_E p 3) - mk else -((jf_E p 3) - mk))) (if (jf_E p 3) ≤ mk then 0 else 1) (M 141 k 0) (M 222 0 0)) (jf_tk M ((M 228 0 0).toNat) 2))
  show R (50, [some (aR 7 0), some (aR 1 k), some (aI mk), some (aL (((0 + ((jf_O p 0) * (jf_co p mk (jf_E p 0)))) + ((jf_O p 1) * (jf_co p mk (jf_E p 1)))) + ((jf_O p 2) * (jf_co p mk (jf_E p 2))))), none, some (aI 3)], [aI (jf_cs (M 141 k 0) (M 222 0 0) (jf_tk M ((M 228 0 0).toNat) 2) (min 999 (if 0 ≤ (jf_E p 3) - mk then (jf_E p 3) - mk else -((jf_E p 3) - mk))) (if (jf_E p 3) ≤ mk then 0 else 1)), aL (jf_O p 3), aL (((0 + ((jf_O p 0) * (jf_co p mk (jf_E p 0)))) + ((jf_O p 1) * (jf_co p mk (jf_E p 1)))) + ((jf_O p 2) * (jf_co p mk (jf_E p 2))))], am_mix [346, 17, 19] g52 (am_mix [346, 17, 19] g51 (am_mix [346, 17, 19] g50 (am_mix [346, 17, 19] g49 M))))
  rw [show (jf_cs (M 141 k 0) (M 222 0 0) (jf_tk M ((M 228 0 0).toNat) 2) (min 999 (if 0 ≤ (jf_E p 3) - mk then (jf_E p 3) - mk else -((jf_E p 3) - mk))) (if (jf_E p 3) ≤ mk then 0 else 1)) = jf_co p mk (jf_E p 3) by rw [hp]; rfl]
  show R (50, [some (aR 7 0), some (aR 1 k), some (aI mk), some (aL (((0 + ((jf_O p 0) * (jf_co p mk (jf_E p 0)))) + ((jf_O p 1) * (jf_co p mk (jf_E p 1)))) + ((jf_O p 2) * (jf_co p mk (jf_E p 2))))), none, some (aI 3)], [aI (jf_co p mk (jf_E p 3)), aL (jf_O p 3), aL (((0 + ((jf_O p 0) * (jf_co p mk (jf_E p 0)))) + ((jf_O p 1) * (jf_co p mk (jf_E p 1)))) + ((jf_O p 2) * (jf_co p mk (jf_E p 2))))], am_mix [346, 17, 19] g52 (am_mix [346, 17, 19] g51 (am_mix [346, 17, 19] g50 (am_mix [346, 17, 19] g49 M))))
  have hco3 := jf_co_b p mk (jf_E p 3)
  refine hR _ ⟨(by omega), ?_⟩
  show R (51, [some (aR 7 0), some (aR 1 k), some (aI mk), some (aL (((0 + ((jf_O p 0) * (jf_co p mk (jf_E p 0)))) + ((jf_O p 1) * (jf_co p mk (jf_E p 1)))) + ((jf_O p 2) * (jf_co p mk (jf_E p 2))))), none, some (aI 3)], [aL (jf_co p mk (jf_E p 3)), aL (jf_O p 3), aL (((0 + ((jf_O p 0) * (jf_co p mk (jf_E p 0)))) + ((jf_O p 1) * (jf_co p mk (jf_E p 1)))) + ((jf_O p 2) * (jf_co p mk (jf_E p 2))))], am_mix [346, 17, 19] g52 (am_mix [346, 17, 19] g51 (am_mix [346, 17, 19] g50 (am_mix [346, 17, 19] g49 M))))
  refine hR _ (hR _ (hR _ (hR _ (hR _ (hR _ (hR _ (hR _ (am_brf (rg := am_in 4 ∧ am_in 5) (P := 5 ≤ 4) (A := R (60, [some (aR 7 0), some (aR 1 k), some (aI mk), some (aL ((((0 + ((jf_O p 0) * (jf_co p mk (jf_E p 0)))) + ((jf_O p 1) * (jf_co p mk (jf_E p 1)))) + ((jf_O p 2) * (jf_co p mk (jf_E p 2)))) + ((jf_O p 3) * (jf_co p mk (jf_E p 3))))), none, some (aI 4)], [], am_mix [346, 17, 19] g52 (am_mix [346, 17, 19] g51 (am_mix [346, 17, 19] g50 (am_mix [346, 17, 19] g49 M))))) (B := R (11, [some (aR 7 0), some (aR 1 k), some (aI mk), some (aL ((((0 + ((jf_O p 0) * (jf_co p mk (jf_E p 0)))) + ((jf_O p 1) * (jf_co p mk (jf_E p 1)))) + ((jf_O p 2) * (jf_co p mk (jf_E p 2)))) + ((jf_O p 3) * (jf_co p mk (jf_E p 3))))), none, some (aI 4)], [], am_mix [346, 17, 19] g52 (am_mix [346, 17, 19] g51 (am_mix [346, 17, 19] g50 (am_mix [346, 17, 19] g49 M))))) (by omega) (by omega) ?_))))))))
  show R (11, [some (aR 7 0), some (aR 1 k), some (aI mk), some (aL ((((0 + ((jf_O p 0) * (jf_co p mk (jf_E p 0)))) + ((jf_O p 1) * (jf_co p mk (jf_E p 1)))) + ((jf_O p 2) * (jf_co p mk (jf_E p 2)))) + ((jf_O p 3) * (jf_co p mk (jf_E p 3))))), none, some (aI 4)], [], am_mix [346, 17, 19] g52 (am_mix [346, 17, 19] g51 (am_mix [346, 17, 19] g50 (am_mix [346, 17, 19] g49 M))))
  refine hR _ (hR _ (hR _ (hR _ (?_))))
  show R (18, [some (aR 7 0), some (aR 1 k), some (aI mk), some (aL ((((0 + ((jf_O p 0) * (jf_co p mk (jf_E p 0)))) + ((jf_O p 1) * (jf_co p mk (jf_E p 1)))) + ((jf_O p 2) * (jf_co p mk (jf_E p 2)))) + ((jf_O p 3) * (jf_co p mk (jf_E p 3))))), none, some (aI 4)], [aI 4, aR 4 0, aL ((((0 + ((jf_O p 0) * (jf_co p mk (jf_E p 0)))) + ((jf_O p 1) * (jf_co p mk (jf_E p 1)))) + ((jf_O p 2) * (jf_co p mk (jf_E p 2)))) + ((jf_O p 3) * (jf_co p mk (jf_E p 3))))], am_mix [346, 17, 19] g52 (am_mix [346, 17, 19] g51 (am_mix [346, 17, 19] g50 (am_mix [346, 17, 19] g49 M))))
  refine hR _ (sp_oftenOf (by omega) hok hth (by omega) ?_)
  have hx18 := jf_O_b hok (a := 4) (by omega)
  show R (21, [some (aR 7 0), some (aR 1 k), some (aI mk), some (aL ((((0 + ((jf_O p 0) * (jf_co p mk (jf_E p 0)))) + ((jf_O p 1) * (jf_co p mk (jf_E p 1)))) + ((jf_O p 2) * (jf_co p mk (jf_E p 2)))) + ((jf_O p 3) * (jf_co p mk (jf_E p 3))))), none, some (aI 4)], [aI (jf_O p 4), aL ((((0 + ((jf_O p 0) * (jf_co p mk (jf_E p 0)))) + ((jf_O p 1) * (jf_co p mk (jf_E p 1)))) + ((jf_O p 2) * (jf_co p mk (jf_E p 2)))) + ((jf_O p 3) * (jf_co p mk (jf_E p 3))))], am_mix [346, 17, 19] g52 (am_mix [346, 17, 19] g51 (am_mix [346, 17, 19] g50 (am_mix [346, 17, 19] g49 M))))
  refine hR _ ⟨(by omega), ?_⟩
  show R (22, [some (aR 7 0), some (aR 1 k), some (aI mk), some (aL ((((0 + ((jf_O p 0) * (jf_co p mk (jf_E p 0)))) + ((jf_O p 1) * (jf_co p mk (jf_E p 1)))) + ((jf_O p 2) * (jf_co p mk (jf_E p 2)))) + ((jf_O p 3) * (jf_co p mk (jf_E p 3))))), none, some (aI 4)], [aL (jf_O p 4), aL ((((0 + ((jf_O p 0) * (jf_co p mk (jf_E p 0)))) + ((jf_O p 1) * (jf_co p mk (jf_E p 1)))) + ((jf_O p 2) * (jf_co p mk (jf_E p 2)))) + ((jf_O p 3) * (jf_co p mk (jf_E p 3))))], am_mix [346, 17, 19] g52 (am_mix [346, 17, 19] g51 (am_mix [346, 17, 19] g50 (am_mix [346, 17, 19] g49 M))))
  refine hR _ (?_)
  show R (23, [some (aR 7 0), some (aR 1 k), some (aI mk), some (aL ((((0 + ((jf_O p 0) * (jf_co p mk (jf_E p 0)))) + ((jf_O p 1) * (jf_co p mk (jf_E p 1)))) + ((jf_O p 2) * (jf_co p mk (jf_E p 2)))) + ((jf_O p 3) * (jf_co p mk (jf_E p 3))))), none, some (aI 4)], [aR 7 0, aL (jf_O p 4), aL ((((0 + ((jf_O p 0) * (jf_co p mk (jf_E p 0)))) + ((jf_O p 1) * (jf_co p mk (jf_E p 1)))) + ((jf_O p 2) * (jf_co p mk (jf_E p 2)))) + ((jf_O p 3) * (jf_co p mk (jf_E p 3))))], am_mix [346, 17, 19] g52 (am_mix [346, 17, 19] g51 (am_mix [346, 17, 19] g50 (am_mix [346, 17, 19] g49 M))))
  refine hR _ (sp_lawText (by omega) hlt ?_)
  show R (26, [some (aR 7 0), some (aR 1 k), some (aI mk), some (aL ((((0 + ((jf_O p 0) * (jf_co p mk (jf_E p 0)))) + ((jf_O p 1) * (jf_co p mk (jf_E p 1)))) + ((jf_O p 2) * (jf_co p mk (jf_E p 2)))) + ((jf_O p 3) * (jf_co p mk (jf_E p 3))))), none, some (aI 4)], [aR 6 ((M 228 0 0).toNat), aL (jf_O p 4), aL ((((0 + ((jf_O p 0) * (jf_co p mk (jf_E p 0)))) + ((jf_O p 1) * (jf_co p mk (jf_E p 1)))) + ((jf_O p 2) * (jf_co p mk (jf_E p 2)))) + ((jf_O p 3) * (jf_co p mk (jf_E p 3))))], am_mix [346, 17, 19] g52 (am_mix [346, 17, 19] g51 (am_mix [346, 17, 19] g50 (am_mix [346, 17, 19] g49 M))))
  refine hR _ (?_)
  show R (27, [some (aR 7 0), some (aR 1 k), some (aI mk), some (aL ((((0 + ((jf_O p 0) * (jf_co p mk (jf_E p 0)))) + ((jf_O p 1) * (jf_co p mk (jf_E p 1)))) + ((jf_O p 2) * (jf_co p mk (jf_E p 2)))) + ((jf_O p 3) * (jf_co p mk (jf_E p 3))))), none, some (aI 4)], [aR 1 k, aR 6 ((M 228 0 0).toNat), aL (jf_O p 4), aL ((((0 + ((jf_O p 0) * (jf_co p mk (jf_E p 0)))) + ((jf_O p 1) * (jf_co p mk (jf_E p 1)))) + ((jf_O p 2) * (jf_co p mk (jf_E p 2)))) + ((jf_O p 3) * (jf_co p mk (jf_E p 3))))], am_mix [346, 17, 19] g52 (am_mix [346, 17, 19] g51 (am_mix [346, 17, 19] g50 (am_mix [346, 17, 19] g49 M))))
  refine hR _ (am_ct (am_vi (by omega : k < 6)) ?_)
  show R (30, [some (aR 7 0), some (aR 1 k), some (aI mk), some (aL ((((0 + ((jf_O p 0) * (jf_co p mk (jf_E p 0)))) + ((jf_O p 1) * (jf_co p mk (jf_E p 1)))) + ((jf_O p 2) * (jf_co p mk (jf_E p 2)))) + ((jf_O p 3) * (jf_co p mk (jf_E p 3))))), none, some (aI 4)], [aI (M 141 k 0), aR 6 ((M 228 0 0).toNat), aL (jf_O p 4), aL ((((0 + ((jf_O p 0) * (jf_co p mk (jf_E p 0)))) + ((jf_O p 1) * (jf_co p mk (jf_E p 1)))) + ((jf_O p 2) * (jf_co p mk (jf_E p 2)))) + ((jf_O p 3) * (jf_co p mk (jf_E p 3))))], am_mix [346, 17, 19] g52 (am_mix [346, 17, 19] g51 (am_mix [346, 17, 19] g50 (am_mix [346, 17, 19] g49 M))))
  refine hR _ (hR _ (hR _ (hR _ (hR _ (hR _ (?_))))))
  show R (43, [some (aR 7 0), some (aR 1 k), some (aI mk), some (aL ((((0 + ((jf_O p 0) * (jf_co p mk (jf_E p 0)))) + ((jf_O p 1) * (jf_co p mk (jf_E p 1)))) + ((jf_O p 2) * (jf_co p mk (jf_E p 2)))) + ((jf_O p 3) * (jf_co p mk (jf_E p 3))))), none, some (aI 4)], [aI 4, aR 4 0, aI (M 222 0 0), aI (M 141 k 0), aR 6 ((M 228 0 0).toNat), aL (jf_O p 4), aL ((((0 + ((jf_O p 0) * (jf_co p mk (jf_E p 0)))) + ((jf_O p 1) * (jf_co p mk (jf_E p 1)))) + ((jf_O p 2) * (jf_co p mk (jf_E p 2)))) + ((jf_O p 3) * (jf_co p mk (jf_E p 3))))], am_mix [346, 17, 19] g52 (am_mix [346, 17, 19] g51 (am_mix [346, 17, 19] g50 (am_mix [346, 17, 19] g49 M))))
  refine hR _ (sp_endOf (by omega) hok hth (by omega) ?_)
  have hx43 := jf_E_b hok (a := 4) (by omega)
  show R (46, [some (aR 7 0), some (aR 1 k), some (aI mk), some (aL ((((0 + ((jf_O p 0) * (jf_co p mk (jf_E p 0)))) + ((jf_O p 1) * (jf_co p mk (jf_E p 1)))) + ((jf_O p 2) * (jf_co p mk (jf_E p 2)))) + ((jf_O p 3) * (jf_co p mk (jf_E p 3))))), none, some (aI 4)], [aI (jf_E p 4), aI (M 222 0 0), aI (M 141 k 0), aR 6 ((M 228 0 0).toNat), aL (jf_O p 4), aL ((((0 + ((jf_O p 0) * (jf_co p mk (jf_E p 0)))) + ((jf_O p 1) * (jf_co p mk (jf_E p 1)))) + ((jf_O p 2) * (jf_co p mk (jf_E p 2)))) + ((jf_O p 3) * (jf_co p mk (jf_E p 3))))], am_mix [346, 17, 19] g52 (am_mix [346, 17, 19] g51 (am_mix [346, 17, 19] g50 (am_mix [346, 17, 19] g49 M))))
  refine hR _ (?_)
  show R (47, [some (aR 7 0), some (aR 1 k), some (aI mk), some (aL ((((0 + ((jf_O p 0) * (jf_co p mk (jf_E p 0)))) + ((jf_O p 1) * (jf_co p mk (jf_E p 1)))) + ((jf_O p 2) * (jf_co p mk (jf_E p 2)))) + ((jf_O p 3) * (jf_co p mk (jf_E p 3))))), none, some (aI 4)], [aI mk, aI (jf_E p 4), aI (M 222 0 0), aI (M 141 k 0), aR 6 ((M 228 0 0).toNat), aL (jf_O p 4), aL ((((0 + ((jf_O p 0) * (jf_co p mk (jf_E p 0)))) + ((jf_O p 1) * (jf_co p mk (jf_E p 1)))) + ((jf_O p 2) * (jf_co p mk (jf_E p 2)))) + ((jf_O p 3) * (jf_co p mk (jf_E p 3))))], am_mix [346, 17, 19] g52 (am_mix [346, 17, 19] g51 (am_mix [346, 17, 19] g50 (am_mix [346, 17, 19] g49 M))))
  refine hR _ (sp_costOf (by omega) (by omega) hwt (by omega) (by omega) (by omega) (by omega) (fun g53 => ?_))
  have hc47 := jf_cl2 (jf_val (jf_nm 0 0 (min 999 (if 0 ≤ (jf_E p 4) - mk then (jf_E p 4) - mk else -((jf_E p 4) - mk))) (if (jf_E p 4) ≤ mk then 0 else 1) (M 141 k 0) (M 222 0 0)) (jf_tk M ((M 228 0 0).toNat) 2))
  show R (50, [some (aR 7 0), some (aR 1 k), some (aI mk), some (aL ((((0 + ((jf_O p 0) * (jf_co p mk (jf_E p 0)))) + ((jf_O p 1) * (jf_co p mk (jf_E p 1)))) + ((jf_O p 2) * (jf_co p mk (jf_E p 2)))) + ((jf_O p 3) * (jf_co p mk (jf_E p 3))))), none, some (aI 4)], [aI (jf_cs (M 141 k 0) (M 222 0 0) (jf_tk M ((M 228 0 0).toNat) 2) (min 999 (if 0 ≤ (jf_E p 4) - mk then (jf_E p 4) - mk else -((jf_E p 4) - mk))) (if (jf_E p 4) ≤ mk then 0 else 1)), aL (jf_O p 4), aL ((((0 + ((jf_O p 0) * (jf_co p mk (jf_E p 0)))) + ((jf_O p 1) * (jf_co p mk (jf_E p 1)))) + ((jf_O p 2) * (jf_co p mk (jf_E p 2)))) + ((jf_O p 3) * (jf_co p mk (jf_E p 3))))], am_mix [346, 17, 19] g53 (am_mix [346, 17, 19] g52 (am_mix [346, 17, 19] g51 (am_mix [346, 17, 19] g50 (am_mix [346, 17, 19] g49 M)))))
  rw [show (jf_cs (M 141 k 0) (M 222 0 0) (jf_tk M ((M 228 0 0).toNat) 2) (min 999 (if 0 ≤ (jf_E p 4) - mk then (jf_E p 4) - mk else -((jf_E p 4) - mk))) (if (jf_E p 4) ≤ mk then 0 else 1)) = jf_co p mk (jf_E p 4) by rw [hp]; rfl]
  show R (50, [some (aR 7 0), some (aR 1 k), some (aI mk), some (aL ((((0 + ((jf_O p 0) * (jf_co p mk (jf_E p 0)))) + ((jf_O p 1) * (jf_co p mk (jf_E p 1)))) + ((jf_O p 2) * (jf_co p mk (jf_E p 2)))) + ((jf_O p 3) * (jf_co p mk (jf_E p 3))))), none, some (aI 4)], [aI (jf_co p mk (jf_E p 4)), aL (jf_O p 4), aL ((((0 + ((jf_O p 0) * (jf_co p mk (jf_E p 0)))) + ((jf_O p 1) * (jf_co p mk (jf_E p 1)))) + ((jf_O p 2) * (jf_co p mk (jf_E p 2)))) + ((jf_O p 3) * (jf_co p mk (jf_E p 3))))], am_mix [346, 17, 19] g53 (am_mix [346, 17, 19] g52 (am_mix [346, 17, 19] g51 (am_mix [346, 17, 19] g50 (am_mix [346, 17, 19] g49 M)))))
  have hco4 := jf_co_b p mk (jf_E p 4)
  refine hR _ ⟨(by omega), ?_⟩
  show R (51, [some (aR 7 0), some (aR 1 k), some (aI mk), some (aL ((((0 + ((jf_O p 0) * (jf_co p mk (jf_E p 0)))) + ((jf_O p 1) * (jf_co p mk (jf_E p 1)))) + ((jf_O p 2) * (jf_co p mk (jf_E p 2)))) + ((jf_O p 3) * (jf_co p mk (jf_E p 3))))), none, some (aI 4)], [aL (jf_co p mk (jf_E p 4)), aL (jf_O p 4), aL ((((0 + ((jf_O p 0) * (jf_co p mk (jf_E p 0)))) + ((jf_O p 1) * (jf_co p mk (jf_E p 1)))) + ((jf_O p 2) * (jf_co p mk (jf_E p 2)))) + ((jf_O p 3) * (jf_co p mk (jf_E p 3))))], am_mix [346, 17, 19] g53 (am_mix [346, 17, 19] g52 (am_mix [346, 17, 19] g51 (am_mix [346, 17, 19] g50 (am_mix [346, 17, 19] g49 M)))))
  refine hR _ (hR _ (hR _ (hR _ (hR _ (hR _ (hR _ (hR _ (am_brt (rg := am_in 5 ∧ am_in 5) (P := (5 : Int) ≤ 5) (A := R (60, [some (aR 7 0), some (aR 1 k), some (aI mk), some (aL (((((0 + ((jf_O p 0) * (jf_co p mk (jf_E p 0)))) + ((jf_O p 1) * (jf_co p mk (jf_E p 1)))) + ((jf_O p 2) * (jf_co p mk (jf_E p 2)))) + ((jf_O p 3) * (jf_co p mk (jf_E p 3)))) + ((jf_O p 4) * (jf_co p mk (jf_E p 4))))), none, some (aI 5)], [], am_mix [346, 17, 19] g53 (am_mix [346, 17, 19] g52 (am_mix [346, 17, 19] g51 (am_mix [346, 17, 19] g50 (am_mix [346, 17, 19] g49 M)))))) (B := R (11, [some (aR 7 0), some (aR 1 k), some (aI mk), some (aL (((((0 + ((jf_O p 0) * (jf_co p mk (jf_E p 0)))) + ((jf_O p 1) * (jf_co p mk (jf_E p 1)))) + ((jf_O p 2) * (jf_co p mk (jf_E p 2)))) + ((jf_O p 3) * (jf_co p mk (jf_E p 3)))) + ((jf_O p 4) * (jf_co p mk (jf_E p 4))))), none, some (aI 5)], [], am_mix [346, 17, 19] g53 (am_mix [346, 17, 19] g52 (am_mix [346, 17, 19] g51 (am_mix [346, 17, 19] g50 (am_mix [346, 17, 19] g49 M)))))) (by omega) (by omega) ?_))))))))
  show R (60, [some (aR 7 0), some (aR 1 k), some (aI mk), some (aL (((((0 + ((jf_O p 0) * (jf_co p mk (jf_E p 0)))) + ((jf_O p 1) * (jf_co p mk (jf_E p 1)))) + ((jf_O p 2) * (jf_co p mk (jf_E p 2)))) + ((jf_O p 3) * (jf_co p mk (jf_E p 3)))) + ((jf_O p 4) * (jf_co p mk (jf_E p 4))))), none, some (aI 5)], [], am_mix [346, 17, 19] g53 (am_mix [346, 17, 19] g52 (am_mix [346, 17, 19] g51 (am_mix [346, 17, 19] g50 (am_mix [346, 17, 19] g49 M)))))
  refine hR _ (?_)
  show R (61, [some (aR 7 0), some (aR 1 k), some (aI mk), some (aL (((((0 + ((jf_O p 0) * (jf_co p mk (jf_E p 0)))) + ((jf_O p 1) * (jf_co p mk (jf_E p 1)))) + ((jf_O p 2) * (jf_co p mk (jf_E p 2)))) + ((jf_O p 3) * (jf_co p mk (jf_E p 3)))) + ((jf_O p 4) * (jf_co p mk (jf_E p 4))))), none, some (aI 5)], [aL (((((0 + ((jf_O p 0) * (jf_co p mk (jf_E p 0)))) + ((jf_O p 1) * (jf_co p mk (jf_E p 1)))) + ((jf_O p 2) * (jf_co p mk (jf_E p 2)))) + ((jf_O p 3) * (jf_co p mk (jf_E p 3)))) + ((jf_O p 4) * (jf_co p mk (jf_E p 4))))], am_mix [346, 17, 19] g53 (am_mix [346, 17, 19] g52 (am_mix [346, 17, 19] g51 (am_mix [346, 17, 19] g50 (am_mix [346, 17, 19] g49 M)))))
  refine hR _ (show K (some (aL (((((0 + ((jf_O p 0) * (jf_co p mk (jf_E p 0)))) + ((jf_O p 1) * (jf_co p mk (jf_E p 1)))) + ((jf_O p 2) * (jf_co p mk (jf_E p 2)))) + ((jf_O p 3) * (jf_co p mk (jf_E p 3)))) + ((jf_O p 4) * (jf_co p mk (jf_E p 4)))))) (am_mix [346, 17, 19] g53 (am_mix [346, 17, 19] g52 (am_mix [346, 17, 19] g51 (am_mix [346, 17, 19] g50 (am_mix [346, 17, 19] g49 M))))) from ?_)
  have e9 : am_ag [346, 17, 19] M (am_mix [346, 17, 19] g53 (am_mix [346, 17, 19] g52 (am_mix [346, 17, 19] g51 (am_mix [346, 17, 19] g50 (am_mix [346, 17, 19] g49 M))))) := (((((am_ag.rf).mix rfl).mix rfl).mix rfl).mix rfl).mix rfl
  rw [e9.eq]
  exact h _

theorem sp_worth {d : Nat} (hd : 6 ≤ d) {k : Nat} {p : jf_par} {b s0 : Int} {M : am_M} {K : am_K} (hp : p = jf_xp M k (M 228 0 0).toNat (M 220 0 0) s0) (hkw : jf_wk M k (M 228 0 0).toNat) (hlt : 0 ≤ M 228 0 0 ∧ M 228 0 0 < 6) (hok : jf_ok p) (hth : jf_th M p) (hb : 0 ≤ b ∧ b ≤ 2) (h : ∀ g, K (some (aL (jf_wo p b))) (am_mix [346, 17, 19] g M)) : am_Call wb d 78 [aR 7 0, aR 1 k, aI b] M K := by
  obtain ⟨d, rfl⟩ : ∃ e, d = e + 1 := ⟨d - 1, by omega⟩
  refine ⟨rfl, fun R hR hC => ?_⟩
  replace hR : ∀ c, am_F wb tb_f78 5 (am_Call wb d) K R c → R c := hR
  have hpm : p.mk = M 220 0 0 := by rw [hp]
  have hmk : 1 ≤ M 220 0 0 ∧ M 220 0 0 ≤ 5100 := by
    have := hok.2.2.2.2.2.2.2.1
    rw [hpm] at this
    exact this
  show R (0, [some (aR 7 0), some (aR 1 k), some (aI b)], [], M)
  refine hR _ (hR _ (am_brc (rg := am_in b) (P := b ≠ 0) (A := R (18, [some (aR 7 0), some (aR 1 k), some (aI b)], [], M)) (B := R (4, [some (aR 7 0), some (aR 1 k), some (aI b)], [], M)) (by omega) (fun c1 => ?_) (fun c1 => ?_)))
  · refine hR _ (hR _ (hR _ (am_brc (rg := am_in b ∧ am_in 1) (P := b ≠ 1) (A := R (34, [some (aR 7 0), some (aR 1 k), some (aI b)], [], M)) (B := R (23, [some (aR 7 0), some (aR 1 k), some (aI b)], [], M)) (by omega) (fun c20 => ?_) (fun c20 => ?_))))
    · refine hR _ (hR _ (hR _ (hR _ (hR _ (?_)))))
      show R (45, [some (aR 7 0), some (aR 1 k), some (aI b)], [aI (M 220 0 0), aR 4 0], M)
      refine hR _ (sp_oftenAt (by omega) hok hth (by omega) ?_)
      have hat45 := jf_at_b hok (M 220 0 0)
      show R (48, [some (aR 7 0), some (aR 1 k), some (aI b)], [aL (jf_at p (M 220 0 0))], M)
      refine hR _ (show K (some (aL (jf_at p (M 220 0 0)))) M from ?_)
      rw [show jf_wo p b = (jf_at p (M 220 0 0)) by unfold jf_wo; rw [if_neg (by omega), if_neg (by omega), hpm]] at h
      have e9 : am_ag [346, 17, 19] M M := am_ag.rf
      rw [e9.eq]
      exact h _
    · refine hR _ (hR _ (?_))
      show R (27, [some (aR 7 0), some (aR 1 k), some (aI b)], [aR 4 0], M)
      refine hR _ (sp_allTenths (by omega) hok hth ?_)
      have htt27 := jf_tt_b hok
      show R (30, [some (aR 7 0), some (aR 1 k), some (aI b)], [aL (jf_tt p)], M)
      refine hR _ (hR _ (?_))
      show R (48, [some (aR 7 0), some (aR 1 k), some (aI b)], [aL (-(jf_tt p))], M)
      refine hR _ (show K (some (aL (-(jf_tt p)))) M from ?_)
      rw [show jf_wo p b = (-(jf_tt p)) by unfold jf_wo; rw [if_neg (by omega), if_pos (by omega)]] at h
      have e9 : am_ag [346, 17, 19] M M := am_ag.rf
      rw [e9.eq]
      exact h _
  · refine hR _ (hR _ (hR _ (hR _ (hR _ (?_)))))
    show R (13, [some (aR 7 0), some (aR 1 k), some (aI b)], [aI (M 220 0 0), aR 1 k, aR 7 0], M)
    refine hR _ (sp_costsOf (by omega) hp hkw hlt hok hth (by omega) (fun g54 => ?_))
    have hcc13 := jf_cc_b hok (M 220 0 0)
    show R (16, [some (aR 7 0), some (aR 1 k), some (aI b)], [aL (jf_cc p (M 220 0 0))], am_mix [346, 17, 19] g54 M)
    refine hR _ (?_)
    show R (17, [some (aR 7 0), some (aR 1 k), some (aI b)], [aL (-(jf_cc p (M 220 0 0)))], am_mix [346, 17, 19] g54 M)
    refine hR _ (show K (some (aL (-(jf_cc p (M 220 0 0))))) (am_mix [346, 17, 19] g54 M) from ?_)
    rw [show jf_wo p b = (-(jf_cc p (M 220 0 0))) by unfold jf_wo; rw [if_pos (by omega), hpm]] at h
    have e9 : am_ag [346, 17, 19] M (am_mix [346, 17, 19] g54 M) := (am_ag.rf).mix rfl
    rw [e9.eq]
    exact h _

theorem sp_Xthink {d : Nat} (hd : 6 ≤ d) {k : Nat} {M : am_M} {K : am_K} (hkw : jf_wk M k (M 228 0 0).toNat) (hlt : 0 ≤ M 228 0 0 ∧ M 228 0 0 < 6) (hok : jf_ok (jf_px M k)) (h : ∀ g : am_M, jf_th (am_mix [12, 13, 14, 263, 264, 265, 266, 346, 17, 19] g M) (jf_px M k) → K none (am_mix [12, 13, 14, 263, 264, 265, 266, 346, 17, 19] g M)) : am_Call wb d 50 [aR 7 0, aR 1 k] M K := by
  obtain ⟨d, rfl⟩ : ∃ e, d = e + 1 := ⟨d - 1, by omega⟩
  refine ⟨rfl, fun R hR hC => ?_⟩
  replace hR : ∀ c, am_F wb tb_f50 0 (am_Call wb d) K R c → R c := hR
  show R (0, [some (aR 7 0), some (aR 1 k)], [], M)
  refine hR _ (hR _ (hR _ (hR _ (?_))))
  show R (6, [some (aR 7 0), some (aR 1 k)], [aR 7 0, aR 1 k, aR 4 0], M)
  refine hR _ (sp_lawText (by omega) hlt ?_)
  show R (9, [some (aR 7 0), some (aR 1 k)], [aR 6 ((M 228 0 0).toNat), aR 1 k, aR 4 0], M)
  refine hR _ (hR _ (hR _ (hR _ (hR _ (hR _ (?_))))))
  show R (21, [some (aR 7 0), some (aR 1 k)], [aI 0, aI (M 220 0 0), aR 3 0, aR 6 ((M 228 0 0).toNat), aR 1 k, aR 4 0], M)
  refine hR _ (sp_think (by omega) hkw hok (fun g55 hth => ?_))
  show R (24, [some (aR 7 0), some (aR 1 k)], [], am_mix [12, 13, 14, 263, 264, 265, 266, 346, 17, 19] g55 M)
  refine hR _ (show K none (am_mix [12, 13, 14, 263, 264, 265, 266, 346, 17, 19] g55 M) from ?_)
  exact h _ hth
