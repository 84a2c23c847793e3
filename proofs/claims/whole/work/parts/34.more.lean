/-! wb -/
variable {wb : Bool}
/-! The class's calls that change more -/
def jx_serve0 (M : am_M) (sd h : Int) : Int := if 0 ≤ h ∧ h < M 227 0 0 then (if 0 ≤ sd ∧ sd ≤ 99999 then -4 else -7) else -5
/-- sheets but s are as they were -/
def jf_os (g M : am_M) (s : Nat) : Prop := ∀ s2, s2 ≠ s → g 180 s2 0 = M 180 s2 0 ∧ g 181 s2 0 = M 181 s2 0 ∧ ∀ j, g 21 s2 j = M 21 s2 j

theorem sq_film {d : Nat} (hd : 8 ≤ d) {sa h : Int} {M : am_M} {K : am_K} (hJ : jf_J M) (ha_s : am_in sa) (ha_h : am_in h) (hK1 : ∀ s k : Nat, sa = s → h = k → s < 4 → k < M 227 0 0 → ∀ g : am_M, g 180 s 0 = 2 → g 181 s 0 = ((jf_fl (jf_px M k) 5).length : Int) → (∀ j, j < 40 → g 21 s j = (jf_fl (jf_px M k) 5).getD j 0) → jf_os g M s → K (some (aI ((jf_fl (jf_px M k) 5).length : Int))) (am_mix [12, 13, 14, 263, 264, 265, 266, 346, 17, 19, 180, 181, 21] g M)) (hK0 : ¬ ((0 ≤ sa ∧ sa < 4) ∧ 0 ≤ h ∧ h < M 227 0 0) → K (some (aI (if 0 ≤ sa ∧ sa < 4 then -5 else -2))) M) : am_Call wb d 102 [aR 7 0, aI sa, aI h] M K := by
  obtain ⟨d, rfl⟩ : ∃ e, d = e + 1 := ⟨d - 1, by omega⟩
  refine ⟨rfl, fun R hR hC => ?_⟩
  replace hR : ∀ c, am_F wb tb_f102 1 (am_Call wb d) K R c → R c := hR
  have hn := hJ.1.1.2.2.2.2.2.2.2.1
  have hl0 := hJ.1.1.2.2.2.2.2.2.2.2
  have htc := hJ.2.2.1.1
  have hlt : 0 ≤ M 228 0 0 ∧ M 228 0 0 < 6 := by omega
  have hmk := hJ.1.1.1
  have hdr := hJ.1.1.2.1
  have hpr := hJ.1.1.2.2.1
  have hfu := hJ.1.1.2.2.2.1
  show R (0, [some (aR 7 0), some (aI sa), some (aI h), none, none, none], [], M)
  refine hR _ (hR _ (?_))
  show R (2, [some (aR 7 0), some (aI sa), some (aI h), none, none, none], [aI sa, aR 7 0], M)
  refine hR _ (sp_sheetAt (by omega) (by omega) (fun s hhs hs4 => ?_) (fun hns => ?_))
  · have hJs := hJ.2.2.2.1 s hs4
    have hJs1 := hJs.1
    have hJs2 := hJs.2.1
    show R (5, [some (aR 7 0), some (aI sa), some (aI h), none, none, none], [aR 2 s], M)
    refine hR _ (hR _ (hR _ (hR _ (hR _ (?_)))))
    show R (15, [some (aR 7 0), some (aI sa), some (aI h), some (aR 2 s), none, none], [aI h, aR 7 0], M)
    refine hR _ (sp_handAt (by omega) hn (by omega) (fun k hhk hk5 => ?_) (fun hno => ?_))
    · replace hk5 : (k : Int) < M 227 0 0 := hk5
      have hkw := hJ.wk (k := k) (by omega)
      have hok := hJ.px (k := k) (by omega)
      have hJh := hJ.2.1 k (by omega)
      have hJh1 := hJh.1
      have hJh2 := hJh.2.1
      have hJh3 := hJh.2.2.1
      have hJh4 := hJh.2.2.2.1
      show R (18, [some (aR 7 0), some (aI sa), some (aI h), some (aR 2 s), none, none], [aR 1 k], M)
      refine hR _ (hR _ (hR _ (hR _ (hR _ (?_)))))
      show R (31, [some (aR 7 0), some (aI sa), some (aI h), some (aR 2 s), some (aR 1 k), none], [aR 1 k, aR 7 0], M)
      refine hR _ (sp_Xthink (by omega) hkw hlt hok (fun g121 hth => ?_))
      obtain ⟨p, hp⟩ : ∃ p, p = jf_px M k := ⟨_, rfl⟩
      replace hth : jf_th (am_mix [12, 13, 14, 263, 264, 265, 266, 346, 17, 19] g121 M) (jf_px M k) := hth
      rw [← hp] at hth hok
      have hthA : g121 263 0 0 = jf_A p := hth.2.1
      have hthN : g121 264 0 0 = (jf_P p).2.2 := hth.2.2
      have hA := jf_A_b hok
      have hPb := jf_P_b hok
      show R (34, [some (aR 7 0), some (aI sa), some (aI h), some (aR 2 s), some (aR 1 k), none], [], am_mix [12, 13, 14, 263, 264, 265, 266, 346, 17, 19] g121 M)
      refine hR _ (hR _ (hR _ (?_)))
      show R (37, [some (aR 7 0), some (aI sa), some (aI h), some (aR 2 s), some (aR 1 k), none], [aI 0, aI 2, aR 2 s], am_mix [12, 13, 14, 263, 264, 265, 266, 346, 17, 19] g121 M)
      refine hR _ (am_ct (am_vi (by omega : s < 4)) (sp_become (by omega) (by omega) (by omega) (by omega) (fun g122 hb1 hb2 hb3 hb4 => ?_)))
      replace hb1 : g122 180 s 0 = 2 := hb1
      replace hb2 : g122 181 s 0 = max 0 (min 40 0) := hb2
      replace hb3 : ∀ j, j < 40 → g122 21 s j = 0 := hb3
      replace hb4 : jf_os g122 (am_mix [12, 13, 14, 263, 264, 265, 266, 346, 17, 19] g121 M) s := hb4
      show R (40, [some (aR 7 0), some (aI sa), some (aI h), some (aR 2 s), some (aR 1 k), none], [], am_mix [180, 181, 21] g122 (am_mix [12, 13, 14, 263, 264, 265, 266, 346, 17, 19] g121 M))
      refine hR _ (hR _ (?_))
      show R (43, [some (aR 7 0), some (aI sa), some (aI h), some (aR 2 s), some (aR 1 k), some (aI 0)], [], am_mix [180, 181, 21] g122 (am_mix [12, 13, 14, 263, 264, 265, 266, 346, 17, 19] g121 M))
      have key : ∀ (n a : Nat) (x : Int) (g3 : am_M), x = (a : Int) → a + n = 5 → g3 180 s 0 = 2 → g3 181 s 0 = ((jf_fl p a).length : Int) → (∀ j, j < 40 → g3 21 s j = (jf_fl p a).getD j 0) → jf_os g3 M s → R (43, [some (aR 7 0), some (aI sa), some (aI h), some (aR 2 s), some (aR 1 k), some (aI x)], [], am_mix [180, 181, 21] g3 (am_mix [12, 13, 14, 263, 264, 265, 266, 346, 17, 19] g121 M)) := by
        intro n
        induction n with
        | zero =>
          intro a x g3 hx hin h1 h2 h3 h4
          subst hx
          have ha5 : a = 5 := by omega
          subst ha5
          refine hR _ (hR _ (hR _ (am_brt (rg := am_in ((5 : Nat) : Int) ∧ am_in 5) (P := 5 ≤ ((5 : Nat) : Int)) (A := R (80, [some (aR 7 0), some (aI sa), some (aI h), some (aR 2 s), some (aR 1 k), some (aI ((5 : Nat) : Int))], [], am_mix [180, 181, 21] g3 (am_mix [12, 13, 14, 263, 264, 265, 266, 346, 17, 19] g121 M))) (B := R (49, [some (aR 7 0), some (aI sa), some (aI h), some (aR 2 s), some (aR 1 k), some (aI ((5 : Nat) : Int))], [], am_mix [180, 181, 21] g3 (am_mix [12, 13, 14, 263, 264, 265, 266, 346, 17, 19] g121 M))) (by omega) (by omega) ?_)))
          show R (80, [some (aR 7 0), some (aI sa), some (aI h), some (aR 2 s), some (aR 1 k), some (aI ((5 : Nat) : Int))], [], am_mix [180, 181, 21] g3 (am_mix [12, 13, 14, 263, 264, 265, 266, 346, 17, 19] g121 M))
          refine hR _ (?_)
          show R (81, [some (aR 7 0), some (aI sa), some (aI h), some (aR 2 s), some (aR 1 k), some (aI ((5 : Nat) : Int))], [aR 2 s], am_mix [180, 181, 21] g3 (am_mix [12, 13, 14, 263, 264, 265, 266, 346, 17, 19] g121 M))
          refine hR _ (am_ct (am_vi (by omega : s < 4)) ?_)
          show R (84, [some (aR 7 0), some (aI sa), some (aI h), some (aR 2 s), some (aR 1 k), some (aI ((5 : Nat) : Int))], [aI (g3 181 s 0)], am_mix [180, 181, 21] g3 (am_mix [12, 13, 14, 263, 264, 265, 266, 346, 17, 19] g121 M))
          refine hR _ (show K (some (aI (g3 181 s 0))) (am_mix [180, 181, 21] g3 (am_mix [12, 13, 14, 263, 264, 265, 266, 346, 17, 19] g121 M)) from ?_)
          rw [h2]
          have e9 : am_ag [12, 13, 14, 263, 264, 265, 266, 346, 17, 19, 180, 181, 21] M (am_mix [180, 181, 21] g3 (am_mix [12, 13, 14, 263, 264, 265, 266, 346, 17, 19] g121 M)) := ((am_ag.rf).mix rfl).mix rfl
          rw [e9.eq]
          rw [hp] at h2 h3 ⊢
          exact hK1 s k hhs hhk hs4 hk5 _ h1 h2 h3 h4
        | succ n ih =>
          intro a x g3 hx hin h1 h2 h3 h4
          subst hx
          have hfb := jf_fl_b p a
          refine hR _ (hR _ (hR _ (am_brf (rg := am_in ((a : Nat) : Int) ∧ am_in 5) (P := 5 ≤ ((a : Nat) : Int)) (A := R (80, [some (aR 7 0), some (aI sa), some (aI h), some (aR 2 s), some (aR 1 k), some (aI ((a : Nat) : Int))], [], am_mix [180, 181, 21] g3 (am_mix [12, 13, 14, 263, 264, 265, 266, 346, 17, 19] g121 M))) (B := R (49, [some (aR 7 0), some (aI sa), some (aI h), some (aR 2 s), some (aR 1 k), some (aI ((a : Nat) : Int))], [], am_mix [180, 181, 21] g3 (am_mix [12, 13, 14, 263, 264, 265, 266, 346, 17, 19] g121 M))) (by omega) (by omega) ?_)))
          show R (49, [some (aR 7 0), some (aI sa), some (aI h), some (aR 2 s), some (aR 1 k), some (aI ((a : Nat) : Int))], [], am_mix [180, 181, 21] g3 (am_mix [12, 13, 14, 263, 264, 265, 266, 346, 17, 19] g121 M))
          refine hR _ (hR _ (hR _ (?_)))
          show R (55, [some (aR 7 0), some (aI sa), some (aI h), some (aR 2 s), some (aR 1 k), some (aI ((a : Nat) : Int))], [aI ((a : Nat) : Int), aR 4 0], am_mix [180, 181, 21] g3 (am_mix [12, 13, 14, 263, 264, 265, 266, 346, 17, 19] g121 M))
          refine hR _ (sp_oftenOf (by omega) hok hth (by omega) ?_)
          have hx55 := jf_O_b hok (a := (a)) (by omega)
          show R (58, [some (aR 7 0), some (aI sa), some (aI h), some (aR 2 s), some (aR 1 k), some (aI ((a : Nat) : Int))], [aI (jf_O p (a))], am_mix [180, 181, 21] g3 (am_mix [12, 13, 14, 263, 264, 265, 266, 346, 17, 19] g121 M))
          refine hR _ (am_brc (rg := am_in (jf_O p (a))) (P := (jf_O p (a)) ≤ 0) (A := R (74, [some (aR 7 0), some (aI sa), some (aI h), some (aR 2 s), some (aR 1 k), some (aI ((a : Nat) : Int))], [], am_mix [180, 181, 21] g3 (am_mix [12, 13, 14, 263, 264, 265, 266, 346, 17, 19] g121 M))) (B := R (61, [some (aR 7 0), some (aI sa), some (aI h), some (aR 2 s), some (aR 1 k), some (aI ((a : Nat) : Int))], [], am_mix [180, 181, 21] g3 (am_mix [12, 13, 14, 263, 264, 265, 266, 346, 17, 19] g121 M))) (by omega) (fun c58 => ?_) (fun c58 => ?_))
          · refine hR _ (hR _ (?_))
            show R (43, [some (aR 7 0), some (aI sa), some (aI h), some (aR 2 s), some (aR 1 k), some (aI (((a : Nat) : Int) + 1))], [], am_mix [180, 181, 21] g3 (am_mix [12, 13, 14, 263, 264, 265, 266, 346, 17, 19] g121 M))
            refine ih (a + 1) _ _ rfl (by omega) h1 ?_ ?_ h4
            · rw [jf_fl_0 (by omega)]
              exact h2
            · rw [jf_fl_0 (by omega)]
              exact h3
          · refine hR _ (hR _ (hR _ (hR _ (?_))))
            show R (68, [some (aR 7 0), some (aI sa), some (aI h), some (aR 2 s), some (aR 1 k), some (aI ((a : Nat) : Int))], [aI ((a : Nat) : Int), aR 4 0, aR 2 s], am_mix [180, 181, 21] g3 (am_mix [12, 13, 14, 263, 264, 265, 266, 346, 17, 19] g121 M))
            refine hR _ (sp_endOf (by omega) hok hth (by omega) ?_)
            have hx68 := jf_E_b hok (a := (a)) (by omega)
            show R (71, [some (aR 7 0), some (aI sa), some (aI h), some (aR 2 s), some (aR 1 k), some (aI ((a : Nat) : Int))], [aI (jf_E p (a)), aR 2 s], am_mix [180, 181, 21] g3 (am_mix [12, 13, 14, 263, 264, 265, 266, 346, 17, 19] g121 M))
            refine hR _ (am_ct (am_vi (by omega : s < 4)) (sp_append (by omega) (by omega) (show 0 ≤ g3 181 s 0 ∧ g3 181 s 0 ≤ 39 from by omega) (show am_in (g3 180 s 0) from by omega) (by omega) ?_))
            show R (74, [some (aR 7 0), some (aI sa), some (aI h), some (aR 2 s), some (aR 1 k), some (aI ((a : Nat) : Int))], [], am_wr (am_wr (am_mix [180, 181, 21] g3 (am_mix [12, 13, 14, 263, 264, 265, 266, 346, 17, 19] g121 M)) 181 s 0 (g3 181 s 0 + 1)) 21 s ((g3 181 s 0).toNat) (jf_put (g3 180 s 0) (jf_E p (a))))
            refine hR _ (hR _ (?_))
            show R (43, [some (aR 7 0), some (aI sa), some (aI h), some (aR 2 s), some (aR 1 k), some (aI (((a : Nat) : Int) + 1))], [], am_wr (am_wr (am_mix [180, 181, 21] g3 (am_mix [12, 13, 14, 263, 264, 265, 266, 346, 17, 19] g121 M)) 181 s 0 (g3 181 s 0 + 1)) 21 s ((g3 181 s 0).toNat) (jf_put (g3 180 s 0) (jf_E p (a))))
            have e9 : am_ag [180, 181, 21] (am_mix [12, 13, 14, 263, 264, 265, 266, 346, 17, 19] g121 M) (am_wr (am_wr (am_mix [180, 181, 21] g3 (am_mix [12, 13, 14, 263, 264, 265, 266, 346, 17, 19] g121 M)) 181 s 0 (g3 181 s 0 + 1)) 21 s ((g3 181 s 0).toNat) (jf_put (g3 180 s 0) (jf_E p (a)))) := (((am_ag.rf).mix rfl).wr rfl).wr rfl
            rw [e9.eq]
            have hlen : (g3 181 s 0).toNat = (jf_fl p a).length := by omega
            refine ih (a + 1) _ _ rfl (by omega) ?_ ?_ ?_ ?_
            · exact h1
            · refine ((am_wr_ne (Or.inl (by decide))).trans am_wr_eq).trans ?_
              rw [jf_fl_1 (by omega), List.length_append, List.length_singleton]
              omega
            · intro j hj
              rw [jf_fl_1 (by omega), jf_app, hlen, h1]
              by_cases hje : j = (jf_fl p a).length
              · rw [if_pos hje, hje]
                exact am_wr_eq
              · rw [if_neg hje, ← h3 j hj]
                exact am_wr_ne (Or.inr (Or.inr hje))
            · intro s2 hs2
              exact ⟨(h4 s2 hs2).1, ((am_wr_ne (Or.inl (by decide))).trans (am_wr_ne (Or.inr (Or.inl hs2)))).trans (h4 s2 hs2).2.1, fun j => (am_wr_ne (Or.inr (Or.inl hs2))).trans ((h4 s2 hs2).2.2 j)⟩
      exact key 5 0 _ _ rfl rfl hb1 (by rw [hb2]; rfl) (fun j hj => (hb3 j hj)) hb4
    · replace hno : ¬ (0 ≤ h ∧ h < M 227 0 0) := hno
      show R (18, [some (aR 7 0), some (aI sa), some (aI h), some (aR 2 s), none, none], [aN], M)
      refine hR _ (hR _ (hR _ (hR _ (?_))))
      show R (27, [some (aR 7 0), some (aI sa), some (aI h), some (aR 2 s), some (aN), none], [aI (-5)], M)
      refine hR _ (show K (some (aI (-5))) M from ?_)
      refine am_kr (hK0 (by omega)) ?_
      split
      all_goals omega
  · show R (5, [some (aR 7 0), some (aI sa), some (aI h), none, none, none], [aN], M)
    refine hR _ (hR _ (hR _ (hR _ (?_))))
    show R (12, [some (aR 7 0), some (aI sa), some (aI h), some (aN), none, none], [aI (-2)], M)
    refine hR _ (show K (some (aI (-2))) M from ?_)
    refine am_kr (hK0 (by omega)) ?_
    split
    all_goals omega

set_option maxHeartbeats 1000000 in
theorem sq_serve {d : Nat} (hd : 8 ≤ d) {sd h : Int} {M : am_M} {K : am_K} (hJ : jf_J M) (ha_s : am_in sd) (ha_h : am_in h) (hK1 : ∀ k : Nat, h = k → k < M 227 0 0 → 0 ≤ sd ∧ sd ≤ 99999 → M 224 0 0 < 999 → ∀ g : am_M, (g 224 0 0 = M 224 0 0 + 1 ∧ g 225 0 0 = M 225 0 0 + (if jf_E (jf_px M k) (jf_lb (jf_px M k) sd) = M 220 0 0 then 1 else 0) ∧ g 226 0 0 = M 226 0 0 + jf_co (jf_px M k) (M 220 0 0) (jf_E (jf_px M k) (jf_lb (jf_px M k) sd))) → (∀ i, i ≠ 0 → g 224 i 0 = M 224 i 0 ∧ g 225 i 0 = M 225 i 0 ∧ g 226 i 0 = M 226 i 0) → K (some (aI (jf_E (jf_px M k) (jf_lb (jf_px M k) sd)))) (am_mix [12, 13, 14, 263, 264, 265, 266, 346, 17, 19, 100, 101, 102, 224, 225, 226] g M)) (hK0 : ¬ ((0 ≤ h ∧ h < M 227 0 0) ∧ (0 ≤ sd ∧ sd ≤ 99999) ∧ M 224 0 0 < 999) → K (some (aI (jx_serve0 M sd h))) M) : am_Call wb d 109 [aR 7 0, aI sd, aI h] M K := by
  obtain ⟨d, rfl⟩ : ∃ e, d = e + 1 := ⟨d - 1, by omega⟩
  refine ⟨rfl, fun R hR hC => ?_⟩
  replace hR : ∀ c, am_F wb tb_f109 1 (am_Call wb d) K R c → R c := hR
  have hn := hJ.1.1.2.2.2.2.2.2.2.1
  have hl0 := hJ.1.1.2.2.2.2.2.2.2.2
  have htc := hJ.2.2.1.1
  have hlt : 0 ≤ M 228 0 0 ∧ M 228 0 0 < 6 := by omega
  have hmk := hJ.1.1.1
  have hdr := hJ.1.1.2.1
  have hpr := hJ.1.1.2.2.1
  have hfu := hJ.1.1.2.2.2.1
  have hsl := hJ.1.1.2.2.2.2.1
  show R (0, [some (aR 7 0), some (aI sd), some (aI h), none, none], [], M)
  refine hR _ (hR _ (?_))
  show R (2, [some (aR 7 0), some (aI sd), some (aI h), none, none], [aI h, aR 7 0], M)
  refine hR _ (sp_handAt (by omega) hn (by omega) (fun k hhk hk5 => ?_) (fun hno => ?_))
  · replace hk5 : (k : Int) < M 227 0 0 := hk5
    have hkw := hJ.wk (k := k) (by omega)
    have hok := hJ.px (k := k) (by omega)
    have hJh := hJ.2.1 k (by omega)
    have hJh1 := hJh.1
    have hJh2 := hJh.2.1
    have hJh3 := hJh.2.2.1
    have hJh4 := hJh.2.2.2.1
    show R (5, [some (aR 7 0), some (aI sd), some (aI h), none, none], [aR 1 k], M)
    refine hR _ (hR _ (hR _ (hR _ (hR _ (hR _ (?_))))))
    show R (18, [some (aR 7 0), some (aI sd), some (aI h), some (aR 1 k), none], [aI 99999, aI 0, aI sd], M)
    refine hR _ (sp_within (by omega) (by omega) (fun h18 => ?_) (fun h18 => ?_))
    · show R (21, [some (aR 7 0), some (aI sd), some (aI h), some (aR 1 k), none], [aI 1], M)
      refine hR _ (am_brt (rg := am_in 1) (P := (1 : Int) ≠ 0) (A := R (27, [some (aR 7 0), some (aI sd), some (aI h), some (aR 1 k), none], [], M)) (B := R (24, [some (aR 7 0), some (aI sd), some (aI h), some (aR 1 k), none], [], M)) (by omega) (by omega) ?_)
      show R (27, [some (aR 7 0), some (aI sd), some (aI h), some (aR 1 k), none], [], M)
      refine hR _ (hR _ (hR _ (hR _ (hR _ (am_brc (rg := am_in (M 224 0 0) ∧ am_in 999) (P := M 224 0 0 < 999) (A := R (43, [some (aR 7 0), some (aI sd), some (aI h), some (aR 1 k), none], [], M)) (B := R (40, [some (aR 7 0), some (aI sd), some (aI h), some (aR 1 k), none], [], M)) (by omega) (fun c37 => ?_) (fun c37 => ?_))))))
      · refine hR _ (hR _ (?_))
        show R (45, [some (aR 7 0), some (aI sd), some (aI h), some (aR 1 k), none], [aR 1 k, aR 7 0], M)
        refine hR _ (sp_Xthink (by omega) hkw hlt hok (fun g123 hth => ?_))
        obtain ⟨p, hp⟩ : ∃ p, p = jf_px M k := ⟨_, rfl⟩
        replace hth : jf_th (am_mix [12, 13, 14, 263, 264, 265, 266, 346, 17, 19] g123 M) (jf_px M k) := hth
        rw [← hp] at hth hok
        have hthA : g123 263 0 0 = jf_A p := hth.2.1
        have hthN : g123 264 0 0 = (jf_P p).2.2 := hth.2.2
        have hA := jf_A_b hok
        have hPb := jf_P_b hok
        show R (48, [some (aR 7 0), some (aI sd), some (aI h), some (aR 1 k), none], [], am_mix [12, 13, 14, 263, 264, 265, 266, 346, 17, 19] g123 M)
        refine hR _ (hR _ (hR _ (hR _ (hR _ (?_)))))
        show R (57, [some (aR 7 0), some (aI sd), some (aI h), some (aR 1 k), none], [aI sd, aR 4 0, aR 4 0], am_mix [12, 13, 14, 263, 264, 265, 266, 346, 17, 19] g123 M)
        refine hR _ (sp_lateBy (by omega) hok hth (by omega) ?_)
        have hlb57 := jf_lb_b p (sd)
        show R (60, [some (aR 7 0), some (aI sd), some (aI h), some (aR 1 k), none], [aI ((jf_lb p sd : Nat) : Int), aR 4 0], am_mix [12, 13, 14, 263, 264, 265, 266, 346, 17, 19] g123 M)
        refine hR _ (sp_endOf (by omega) hok hth (by omega) ?_)
        have hx60 := jf_E_b hok (a := (jf_lb p sd)) (by omega)
        show R (63, [some (aR 7 0), some (aI sd), some (aI h), some (aR 1 k), none], [aI (jf_E p (jf_lb p sd))], am_mix [12, 13, 14, 263, 264, 265, 266, 346, 17, 19] g123 M)
        refine hR _ (hR _ (hR _ (hR _ (hR _ (hR _ (hR _ (hR _ (hR _ (hR _ (hR _ (hR _ (hR _ (am_brc (rg := am_in (jf_E p (jf_lb p sd)) ∧ am_in (M 220 0 0)) (P := (jf_E p (jf_lb p sd)) ≠ M 220 0 0) (A := R (103, [some (aR 7 0), some (aI sd), some (aI h), some (aR 1 k), some (aI (jf_E p (jf_lb p sd)))], [], am_wr (am_mix [12, 13, 14, 263, 264, 265, 266, 346, 17, 19] g123 M) 224 0 0 (M 224 0 0 + 1))) (B := R (90, [some (aR 7 0), some (aI sd), some (aI h), some (aR 1 k), some (aI (jf_E p (jf_lb p sd)))], [], am_wr (am_mix [12, 13, 14, 263, 264, 265, 266, 346, 17, 19] g123 M) 224 0 0 (M 224 0 0 + 1))) (by omega) (fun c87 => ?_) (fun c87 => ?_))))))))))))))
        · refine hR _ (hR _ (hR _ (hR _ (hR _ (?_)))))
          show R (112, [some (aR 7 0), some (aI sd), some (aI h), some (aR 1 k), some (aI (jf_E p (jf_lb p sd)))], [aR 7 0, aI (M 226 0 0), aR 3 0], am_wr (am_mix [12, 13, 14, 263, 264, 265, 266, 346, 17, 19] g123 M) 224 0 0 (M 224 0 0 + 1))
          refine hR _ (sp_lawText (by omega) hlt ?_)
          show R (115, [some (aR 7 0), some (aI sd), some (aI h), some (aR 1 k), some (aI (jf_E p (jf_lb p sd)))], [aR 6 ((M 228 0 0).toNat), aI (M 226 0 0), aR 3 0], am_wr (am_mix [12, 13, 14, 263, 264, 265, 266, 346, 17, 19] g123 M) 224 0 0 (M 224 0 0 + 1))
          refine hR _ (?_)
          show R (116, [some (aR 7 0), some (aI sd), some (aI h), some (aR 1 k), some (aI (jf_E p (jf_lb p sd)))], [aR 1 k, aR 6 ((M 228 0 0).toNat), aI (M 226 0 0), aR 3 0], am_wr (am_mix [12, 13, 14, 263, 264, 265, 266, 346, 17, 19] g123 M) 224 0 0 (M 224 0 0 + 1))
          refine hR _ (am_ct (am_vi (by omega : k < 6)) ?_)
          show R (119, [some (aR 7 0), some (aI sd), some (aI h), some (aR 1 k), some (aI (jf_E p (jf_lb p sd)))], [aI (M 141 k 0), aR 6 ((M 228 0 0).toNat), aI (M 226 0 0), aR 3 0], am_wr (am_mix [12, 13, 14, 263, 264, 265, 266, 346, 17, 19] g123 M) 224 0 0 (M 224 0 0 + 1))
          refine hR _ (hR _ (hR _ (hR _ (hR _ (hR _ (hR _ (?_)))))))
          show R (135, [some (aR 7 0), some (aI sd), some (aI h), some (aR 1 k), some (aI (jf_E p (jf_lb p sd)))], [aI (M 220 0 0), aI (jf_E p (jf_lb p sd)), aI (M 222 0 0), aI (M 141 k 0), aR 6 ((M 228 0 0).toNat), aI (M 226 0 0), aR 3 0], am_wr (am_mix [12, 13, 14, 263, 264, 265, 266, 346, 17, 19] g123 M) 224 0 0 (M 224 0 0 + 1))
          refine hR _ (sp_costOf (by omega) (by omega) hkw.2.2 (by omega) (by omega) (by omega) (by omega) (fun g124 => ?_))
          have hc135 := jf_cl2 (jf_val (jf_nm 0 0 (min 999 (if 0 ≤ (jf_E p (jf_lb p sd)) - (M 220 0 0) then (jf_E p (jf_lb p sd)) - (M 220 0 0) else -((jf_E p (jf_lb p sd)) - (M 220 0 0)))) (if (jf_E p (jf_lb p sd)) ≤ (M 220 0 0) then 0 else 1) (M 141 k 0) (M 222 0 0)) (jf_tk M ((M 228 0 0).toNat) 2))
          show R (138, [some (aR 7 0), some (aI sd), some (aI h), some (aR 1 k), some (aI (jf_E p (jf_lb p sd)))], [aI (jf_cs (M 141 k 0) (M 222 0 0) (jf_tk M ((M 228 0 0).toNat) 2) (min 999 (if 0 ≤ (jf_E p (jf_lb p sd)) - (M 220 0 0) then (jf_E p (jf_lb p sd)) - (M 220 0 0) else -((jf_E p (jf_lb p sd)) - (M 220 0 0)))) (if (jf_E p (jf_lb p sd)) ≤ (M 220 0 0) then 0 else 1)), aI (M 226 0 0), aR 3 0], am_mix [346, 17, 19] g124 (am_wr (am_mix [12, 13, 14, 263, 264, 265, 266, 346, 17, 19] g123 M) 224 0 0 (M 224 0 0 + 1)))
          rw [show (jf_cs (M 141 k 0) (M 222 0 0) (jf_tk M ((M 228 0 0).toNat) 2) (min 999 (if 0 ≤ (jf_E p (jf_lb p sd)) - (M 220 0 0) then (jf_E p (jf_lb p sd)) - (M 220 0 0) else -((jf_E p (jf_lb p sd)) - (M 220 0 0)))) (if (jf_E p (jf_lb p sd)) ≤ (M 220 0 0) then 0 else 1)) = jf_co p (M 220 0 0) (jf_E p (jf_lb p sd)) by rw [hp]; rfl]
          show R (138, [some (aR 7 0), some (aI sd), some (aI h), some (aR 1 k), some (aI (jf_E p (jf_lb p sd)))], [aI (jf_co p (M 220 0 0) (jf_E p (jf_lb p sd))), aI (M 226 0 0), aR 3 0], am_mix [346, 17, 19] g124 (am_wr (am_mix [12, 13, 14, 263, 264, 265, 266, 346, 17, 19] g123 M) 224 0 0 (M 224 0 0 + 1)))
          have hco := jf_co_b p (M 220 0 0) (jf_E p (jf_lb p sd))
          refine hR _ (hR _ (hR _ (?_)))
          show R (144, [some (aR 7 0), some (aI sd), some (aI h), some (aR 1 k), some (aI (jf_E p (jf_lb p sd)))], [aI (jf_E p (jf_lb p sd))], am_wr (am_mix [346, 17, 19] g124 (am_wr (am_mix [12, 13, 14, 263, 264, 265, 266, 346, 17, 19] g123 M) 224 0 0 (M 224 0 0 + 1))) 226 0 0 (M 226 0 0 + (jf_co p (M 220 0 0) (jf_E p (jf_lb p sd)))))
          refine hR _ (show K (some (aI (jf_E p (jf_lb p sd)))) (am_wr (am_mix [346, 17, 19] g124 (am_wr (am_mix [12, 13, 14, 263, 264, 265, 266, 346, 17, 19] g123 M) 224 0 0 (M 224 0 0 + 1))) 226 0 0 (M 226 0 0 + (jf_co p (M 220 0 0) (jf_E p (jf_lb p sd))))) from ?_)
          refine am_fin (S := [12, 13, 14, 263, 264, 265, 266, 346, 17, 19, 100, 101, 102, 224, 225, 226]) (F := fun m => (m 224 0 0 = M 224 0 0 + 1 ∧ m 225 0 0 = M 225 0 0 + (if jf_E p (jf_lb p sd) = M 220 0 0 then 1 else 0) ∧ m 226 0 0 = M 226 0 0 + jf_co p (M 220 0 0) (jf_E p (jf_lb p sd))) ∧ ∀ i, i ≠ 0 → m 224 i 0 = M 224 i 0 ∧ m 225 i 0 = M 225 i 0 ∧ m 226 i 0 = M 226 i 0) (((((am_ag.rf).mix rfl).wr rfl).mix rfl).wr rfl) ⟨⟨?_, ?_, ?_⟩, ?_⟩ ?_
          · rfl
          · show M 225 0 0 = _
            split <;> omega
          · rfl
          · intro i hi
            exact ⟨(show (am_wr (am_mix [346, 17, 19] g124 (am_wr (am_mix [12, 13, 14, 263, 264, 265, 266, 346, 17, 19] g123 M) 224 0 0 (M 224 0 0 + 1))) 226 0 0 (M 226 0 0 + (jf_co p (M 220 0 0) (jf_E p (jf_lb p sd))))) 224 i 0 = M 224 i 0 from Eq.trans (am_wr_ne (Or.inr (Or.inl hi))) (show (am_mix [346, 17, 19] g124 (am_wr (am_mix [12, 13, 14, 263, 264, 265, 266, 346, 17, 19] g123 M) 224 0 0 (M 224 0 0 + 1))) 224 i 0 = M 224 i 0 from (show (am_wr (am_mix [12, 13, 14, 263, 264, 265, 266, 346, 17, 19] g123 M) 224 0 0 (M 224 0 0 + 1)) 224 i 0 = M 224 i 0 from Eq.trans (am_wr_ne (Or.inr (Or.inl hi))) (show (am_mix [12, 13, 14, 263, 264, 265, 266, 346, 17, 19] g123 M) 224 i 0 = M 224 i 0 from (show (M) 224 i 0 = M 224 i 0 from rfl))))), (show (am_wr (am_mix [346, 17, 19] g124 (am_wr (am_mix [12, 13, 14, 263, 264, 265, 266, 346, 17, 19] g123 M) 224 0 0 (M 224 0 0 + 1))) 226 0 0 (M 226 0 0 + (jf_co p (M 220 0 0) (jf_E p (jf_lb p sd))))) 225 i 0 = M 225 i 0 from Eq.trans (am_wr_ne (Or.inr (Or.inl hi))) (show (am_mix [346, 17, 19] g124 (am_wr (am_mix [12, 13, 14, 263, 264, 265, 266, 346, 17, 19] g123 M) 224 0 0 (M 224 0 0 + 1))) 225 i 0 = M 225 i 0 from (show (am_wr (am_mix [12, 13, 14, 263, 264, 265, 266, 346, 17, 19] g123 M) 224 0 0 (M 224 0 0 + 1)) 225 i 0 = M 225 i 0 from Eq.trans (am_wr_ne (Or.inr (Or.inl hi))) (show (am_mix [12, 13, 14, 263, 264, 265, 266, 346, 17, 19] g123 M) 225 i 0 = M 225 i 0 from (show (M) 225 i 0 = M 225 i 0 from rfl))))), (show (am_wr (am_mix [346, 17, 19] g124 (am_wr (am_mix [12, 13, 14, 263, 264, 265, 266, 346, 17, 19] g123 M) 224 0 0 (M 224 0 0 + 1))) 226 0 0 (M 226 0 0 + (jf_co p (M 220 0 0) (jf_E p (jf_lb p sd))))) 226 i 0 = M 226 i 0 from Eq.trans (am_wr_ne (Or.inr (Or.inl hi))) (show (am_mix [346, 17, 19] g124 (am_wr (am_mix [12, 13, 14, 263, 264, 265, 266, 346, 17, 19] g123 M) 224 0 0 (M 224 0 0 + 1))) 226 i 0 = M 226 i 0 from (show (am_wr (am_mix [12, 13, 14, 263, 264, 265, 266, 346, 17, 19] g123 M) 224 0 0 (M 224 0 0 + 1)) 226 i 0 = M 226 i 0 from Eq.trans (am_wr_ne (Or.inr (Or.inl hi))) (show (am_mix [12, 13, 14, 263, 264, 265, 266, 346, 17, 19] g123 M) 226 i 0 = M 226 i 0 from (show (M) 226 i 0 = M 226 i 0 from rfl)))))⟩
          · intro g hg
            rw [hp] at hg ⊢
            exact hK1 k hhk hk5 (by omega) (by omega) g hg.1 hg.2
        · refine hR _ (hR _ (hR _ (hR _ (hR _ (hR _ (hR _ (hR _ (hR _ (hR _ (hR _ (hR _ (?_))))))))))))
          show R (112, [some (aR 7 0), some (aI sd), some (aI h), some (aR 1 k), some (aI (jf_E p (jf_lb p sd)))], [aR 7 0, aI (M 226 0 0), aR 3 0], am_wr (am_wr (am_mix [12, 13, 14, 263, 264, 265, 266, 346, 17, 19] g123 M) 224 0 0 (M 224 0 0 + 1)) 225 0 0 (M 225 0 0 + 1))
          refine hR _ (sp_lawText (by omega) hlt ?_)
          show R (115, [some (aR 7 0), some (aI sd), some (aI h), some (aR 1 k), some (aI (jf_E p (jf_lb p sd)))], [aR 6 ((M 228 0 0).toNat), aI (M 226 0 0), aR 3 0], am_wr (am_wr (am_mix [12, 13, 14, 263, 264, 265, 266, 346, 17, 19] g123 M) 224 0 0 (M 224 0 0 + 1)) 225 0 0 (M 225 0 0 + 1))
          refine hR _ (?_)
          show R (116, [some (aR 7 0), some (aI sd), some (aI h), some (aR 1 k), some (aI (jf_E p (jf_lb p sd)))], [aR 1 k, aR 6 ((M 228 0 0).toNat), aI (M 226 0 0), aR 3 0], am_wr (am_wr (am_mix [12, 13, 14, 263, 264, 265, 266, 346, 17, 19] g123 M) 224 0 0 (M 224 0 0 + 1)) 225 0 0 (M 225 0 0 + 1))
          refine hR _ (am_ct (am_vi (by omega : k < 6)) ?_)
          show R (119, [some (aR 7 0), some (aI sd), some (aI h), some (aR 1 k), some (aI (jf_E p (jf_lb p sd)))], [aI (M 141 k 0), aR 6 ((M 228 0 0).toNat), aI (M 226 0 0), aR 3 0], am_wr (am_wr (am_mix [12, 13, 14, 263, 264, 265, 266, 346, 17, 19] g123 M) 224 0 0 (M 224 0 0 + 1)) 225 0 0 (M 225 0 0 + 1))
          refine hR _ (hR _ (hR _ (hR _ (hR _ (hR _ (hR _ (?_)))))))
          show R (135, [some (aR 7 0), some (aI sd), some (aI h), some (aR 1 k), some (aI (jf_E p (jf_lb p sd)))], [aI (M 220 0 0), aI (jf_E p (jf_lb p sd)), aI (M 222 0 0), aI (M 141 k 0), aR 6 ((M 228 0 0).toNat), aI (M 226 0 0), aR 3 0], am_wr (am_wr (am_mix [12, 13, 14, 263, 264, 265, 266, 346, 17, 19] g123 M) 224 0 0 (M 224 0 0 + 1)) 225 0 0 (M 225 0 0 + 1))
          refine hR _ (sp_costOf (by omega) (by omega) hkw.2.2 (by omega) (by omega) (by omega) (by omega) (fun g125 => ?_))
          have hc135 := jf_cl2 (jf_val (jf_nm 0 0 (min 999 (if 0 ≤ (jf_E p (jf_lb p sd)) - (M 220 0 0) then (jf_E p (jf_lb p sd)) - (M 220 0 0) else -((jf_E p (jf_lb p sd)) - (M 220 0 0)))) (if (jf_E p (jf_lb p sd)) ≤ (M 220 0 0) then 0 else 1) (M 141 k 0) (M 222 0 0)) (jf_tk M ((M 228 0 0).toNat) 2))
          show R (138, [some (aR 7 0), some (aI sd), some (aI h), some (aR 1 k), some (aI (jf_E p (jf_lb p sd)))], [aI (jf_cs (M 141 k 0) (M 222 0 0) (jf_tk M ((M 228 0 0).toNat) 2) (min 999 (if 0 ≤ (jf_E p (jf_lb p sd)) - (M 220 0 0) then (jf_E p (jf_lb p sd)) - (M 220 0 0) else -((jf_E p (jf_lb p sd)) - (M 220 0 0)))) (if (jf_E p (jf_lb p sd)) ≤ (M 220 0 0) then 0 else 1)), aI (M 226 0 0), aR 3 0], am_mix [346, 17, 19] g125 (am_wr (am_wr (am_mix [12, 13, 14, 263, 264, 265, 266, 346, 17, 19] g123 M) 224 0 0 (M 224 0 0 + 1)) 225 0 0 (M 225 0 0 + 1)))
          rw [show (jf_cs (M 141 k 0) (M 222 0 0) (jf_tk M ((M 228 0 0).toNat) 2) (min 999 (if 0 ≤ (jf_E p (jf_lb p sd)) - (M 220 0 0) then (jf_E p (jf_lb p sd)) - (M 220 0 0) else -((jf_E p (jf_lb p sd)) - (M 220 0 0)))) (if (jf_E p (jf_lb p sd)) ≤ (M 220 0 0) then 0 else 1)) = jf_co p (M 220 0 0) (jf_E p (jf_lb p sd)) by rw [hp]; rfl]
          show R (138, [some (aR 7 0), some (aI sd), some (aI h), some (aR 1 k), some (aI (jf_E p (jf_lb p sd)))], [aI (jf_co p (M 220 0 0) (jf_E p (jf_lb p sd))), aI (M 226 0 0), aR 3 0], am_mix [346, 17, 19] g125 (am_wr (am_wr (am_mix [12, 13, 14, 263, 264, 265, 266, 346, 17, 19] g123 M) 224 0 0 (M 224 0 0 + 1)) 225 0 0 (M 225 0 0 + 1)))
          have hco := jf_co_b p (M 220 0 0) (jf_E p (jf_lb p sd))
          refine hR _ (hR _ (hR _ (?_)))
          show R (144, [some (aR 7 0), some (aI sd), some (aI h), some (aR 1 k), some (aI (jf_E p (jf_lb p sd)))], [aI (jf_E p (jf_lb p sd))], am_wr (am_mix [346, 17, 19] g125 (am_wr (am_wr (am_mix [12, 13, 14, 263, 264, 265, 266, 346, 17, 19] g123 M) 224 0 0 (M 224 0 0 + 1)) 225 0 0 (M 225 0 0 + 1))) 226 0 0 (M 226 0 0 + (jf_co p (M 220 0 0) (jf_E p (jf_lb p sd)))))
          refine hR _ (show K (some (aI (jf_E p (jf_lb p sd)))) (am_wr (am_mix [346, 17, 19] g125 (am_wr (am_wr (am_mix [12, 13, 14, 263, 264, 265, 266, 346, 17, 19] g123 M) 224 0 0 (M 224 0 0 + 1)) 225 0 0 (M 225 0 0 + 1))) 226 0 0 (M 226 0 0 + (jf_co p (M 220 0 0) (jf_E p (jf_lb p sd))))) from ?_)
          refine am_fin (S := [12, 13, 14, 263, 264, 265, 266, 346, 17, 19, 100, 101, 102, 224, 225, 226]) (F := fun m => (m 224 0 0 = M 224 0 0 + 1 ∧ m 225 0 0 = M 225 0 0 + (if jf_E p (jf_lb p sd) = M 220 0 0 then 1 else 0) ∧ m 226 0 0 = M 226 0 0 + jf_co p (M 220 0 0) (jf_E p (jf_lb p sd))) ∧ ∀ i, i ≠ 0 → m 224 i 0 = M 224 i 0 ∧ m 225 i 0 = M 225 i 0 ∧ m 226 i 0 = M 226 i 0) ((((((am_ag.rf).mix rfl).wr rfl).wr rfl).mix rfl).wr rfl) ⟨⟨?_, ?_, ?_⟩, ?_⟩ ?_
          · rfl
          · show (M 225 0 0 + 1) = _
            split <;> omega
          · rfl
          · intro i hi
            exact ⟨(show (am_wr (am_mix [346, 17, 19] g125 (am_wr (am_wr (am_mix [12, 13, 14, 263, 264, 265, 266, 346, 17, 19] g123 M) 224 0 0 (M 224 0 0 + 1)) 225 0 0 (M 225 0 0 + 1))) 226 0 0 (M 226 0 0 + (jf_co p (M 220 0 0) (jf_E p (jf_lb p sd))))) 224 i 0 = M 224 i 0 from Eq.trans (am_wr_ne (Or.inr (Or.inl hi))) (show (am_mix [346, 17, 19] g125 (am_wr (am_wr (am_mix [12, 13, 14, 263, 264, 265, 266, 346, 17, 19] g123 M) 224 0 0 (M 224 0 0 + 1)) 225 0 0 (M 225 0 0 + 1))) 224 i 0 = M 224 i 0 from (show (am_wr (am_wr (am_mix [12, 13, 14, 263, 264, 265, 266, 346, 17, 19] g123 M) 224 0 0 (M 224 0 0 + 1)) 225 0 0 (M 225 0 0 + 1)) 224 i 0 = M 224 i 0 from Eq.trans (am_wr_ne (Or.inr (Or.inl hi))) (show (am_wr (am_mix [12, 13, 14, 263, 264, 265, 266, 346, 17, 19] g123 M) 224 0 0 (M 224 0 0 + 1)) 224 i 0 = M 224 i 0 from Eq.trans (am_wr_ne (Or.inr (Or.inl hi))) (show (am_mix [12, 13, 14, 263, 264, 265, 266, 346, 17, 19] g123 M) 224 i 0 = M 224 i 0 from (show (M) 224 i 0 = M 224 i 0 from rfl)))))), (show (am_wr (am_mix [346, 17, 19] g125 (am_wr (am_wr (am_mix [12, 13, 14, 263, 264, 265, 266, 346, 17, 19] g123 M) 224 0 0 (M 224 0 0 + 1)) 225 0 0 (M 225 0 0 + 1))) 226 0 0 (M 226 0 0 + (jf_co p (M 220 0 0) (jf_E p (jf_lb p sd))))) 225 i 0 = M 225 i 0 from Eq.trans (am_wr_ne (Or.inr (Or.inl hi))) (show (am_mix [346, 17, 19] g125 (am_wr (am_wr (am_mix [12, 13, 14, 263, 264, 265, 266, 346, 17, 19] g123 M) 224 0 0 (M 224 0 0 + 1)) 225 0 0 (M 225 0 0 + 1))) 225 i 0 = M 225 i 0 from (show (am_wr (am_wr (am_mix [12, 13, 14, 263, 264, 265, 266, 346, 17, 19] g123 M) 224 0 0 (M 224 0 0 + 1)) 225 0 0 (M 225 0 0 + 1)) 225 i 0 = M 225 i 0 from Eq.trans (am_wr_ne (Or.inr (Or.inl hi))) (show (am_wr (am_mix [12, 13, 14, 263, 264, 265, 266, 346, 17, 19] g123 M) 224 0 0 (M 224 0 0 + 1)) 225 i 0 = M 225 i 0 from Eq.trans (am_wr_ne (Or.inr (Or.inl hi))) (show (am_mix [12, 13, 14, 263, 264, 265, 266, 346, 17, 19] g123 M) 225 i 0 = M 225 i 0 from (show (M) 225 i 0 = M 225 i 0 from rfl)))))), (show (am_wr (am_mix [346, 17, 19] g125 (am_wr (am_wr (am_mix [12, 13, 14, 263, 264, 265, 266, 346, 17, 19] g123 M) 224 0 0 (M 224 0 0 + 1)) 225 0 0 (M 225 0 0 + 1))) 226 0 0 (M 226 0 0 + (jf_co p (M 220 0 0) (jf_E p (jf_lb p sd))))) 226 i 0 = M 226 i 0 from Eq.trans (am_wr_ne (Or.inr (Or.inl hi))) (show (am_mix [346, 17, 19] g125 (am_wr (am_wr (am_mix [12, 13, 14, 263, 264, 265, 266, 346, 17, 19] g123 M) 224 0 0 (M 224 0 0 + 1)) 225 0 0 (M 225 0 0 + 1))) 226 i 0 = M 226 i 0 from (show (am_wr (am_wr (am_mix [12, 13, 14, 263, 264, 265, 266, 346, 17, 19] g123 M) 224 0 0 (M 224 0 0 + 1)) 225 0 0 (M 225 0 0 + 1)) 226 i 0 = M 226 i 0 from Eq.trans (am_wr_ne (Or.inr (Or.inl hi))) (show (am_wr (am_mix [12, 13, 14, 263, 264, 265, 266, 346, 17, 19] g123 M) 224 0 0 (M 224 0 0 + 1)) 226 i 0 = M 226 i 0 from Eq.trans (am_wr_ne (Or.inr (Or.inl hi))) (show (am_mix [12, 13, 14, 263, 264, 265, 266, 346, 17, 19] g123 M) 226 i 0 = M 226 i 0 from (show (M) 226 i 0 = M 226 i 0 from rfl))))))⟩
          · intro g hg
            rw [hp] at hg ⊢
            exact hK1 k hhk hk5 (by omega) (by omega) g hg.1 hg.2
      · refine hR _ (?_)
        show R (42, [some (aR 7 0), some (aI sd), some (aI h), some (aR 1 k), none], [aI (-4)], M)
        refine hR _ (show K (some (aI (-4))) M from ?_)
        refine am_kr (hK0 (by omega)) ?_
        unfold jx_serve0
        repeat' split
        all_goals omega
    · show R (21, [some (aR 7 0), some (aI sd), some (aI h), some (aR 1 k), none], [aI 0], M)
      refine hR _ (am_brf (rg := am_in 0) (P := (0 : Int) ≠ 0) (A := R (27, [some (aR 7 0), some (aI sd), some (aI h), some (aR 1 k), none], [], M)) (B := R (24, [some (aR 7 0), some (aI sd), some (aI h), some (aR 1 k), none], [], M)) (by omega) (by omega) ?_)
      show R (24, [some (aR 7 0), some (aI sd), some (aI h), some (aR 1 k), none], [], M)
      refine hR _ (?_)
      show R (26, [some (aR 7 0), some (aI sd), some (aI h), some (aR 1 k), none], [aI (-7)], M)
      refine hR _ (show K (some (aI (-7))) M from ?_)
      refine am_kr (hK0 (by omega)) ?_
      unfold jx_serve0
      repeat' split
      all_goals omega
  · replace hno : ¬ (0 ≤ h ∧ h < M 227 0 0) := hno
    show R (5, [some (aR 7 0), some (aI sd), some (aI h), none, none], [aN], M)
    refine hR _ (hR _ (hR _ (hR _ (?_))))
    show R (12, [some (aR 7 0), some (aI sd), some (aI h), some (aN), none], [aI (-5)], M)
    refine hR _ (show K (some (aI (-5))) M from ?_)
    refine am_kr (hK0 (by omega)) ?_
    unfold jx_serve0
    repeat' split
    all_goals omega

theorem sq_image {d : Nat} (hd : 3 ≤ d)  {M : am_M} {K : am_K} (hJ : jf_J M) (hK1 : ∀ g : am_M, (g 382 0 0 = 1 ∧ (g 220 1 0 = M 220 0 0 ∧ g 220 0 0 = M 220 0 0 ∧ g 221 1 0 = M 221 0 0 ∧ g 221 0 0 = M 221 0 0 ∧ g 222 1 0 = M 222 0 0 ∧ g 222 0 0 = M 222 0 0 ∧ g 223 1 0 = M 223 0 0 ∧ g 223 0 0 = M 223 0 0 ∧ g 224 1 0 = M 224 0 0 ∧ g 224 0 0 = M 224 0 0 ∧ g 225 1 0 = M 225 0 0 ∧ g 225 0 0 = M 225 0 0 ∧ g 226 1 0 = M 226 0 0 ∧ g 226 0 0 = M 226 0 0 ∧ g 227 1 0 = M 227 0 0 ∧ g 227 0 0 = M 227 0 0 ∧ g 228 1 0 = M 228 0 0 ∧ g 228 0 0 = M 228 0 0) ∧ (∀ k : Nat, k < 5 → g 144 k 0 = M 142 k 0 ∧ g 145 k 0 = M 143 k 0) ∧ ∀ k : Nat, 5 ≤ k → g 144 k 0 = M 144 k 0 ∧ g 145 k 0 = M 145 k 0) → K (some (aI (M 227 0 0))) (am_mix [220, 221, 222, 223, 224, 225, 226, 227, 228, 144, 145, 382] g M)) : am_Call wb d 111 [aR 7 0] M K := by
  obtain ⟨d, rfl⟩ : ∃ e, d = e + 1 := ⟨d - 1, by omega⟩
  refine ⟨rfl, fun R hR hC => ?_⟩
  replace hR : ∀ c, am_F wb tb_f111 1 (am_Call wb d) K R c → R c := hR
  have hn := hJ.1.1.2.2.2.2.2.2.2.1
  have hl0 := hJ.1.1.2.2.2.2.2.2.2.2
  have htc := hJ.2.2.1.1
  have hlt : 0 ≤ M 228 0 0 ∧ M 228 0 0 < 6 := by omega
  have hmk := hJ.1.1.1
  have hdr := hJ.1.1.2.1
  have hpr := hJ.1.1.2.2.1
  have hfu := hJ.1.1.2.2.2.1
  have him := hJ.2.2.2.2.2
  show R (0, [some (aR 7 0), none], [], M)
  refine hR _ (hR _ (hR _ (hR _ (?_))))
  show R (8, [some (aR 7 0), none], [aR 3 0, aR 3 1], M)
  refine hR _ (sp_State_becomeLike (by omega) (by omega) (by omega) (by omega) ?_)
  show R (11, [some (aR 7 0), none], [], am_wr (am_wr (am_wr (am_wr (am_wr (am_wr (am_wr (am_wr (am_wr M 220 1 0 (M 220 0 0)) 221 1 0 (M 221 0 0)) 222 1 0 (M 222 0 0)) 223 1 0 (M 223 0 0)) 224 1 0 (M 224 0 0)) 225 1 0 (M 225 0 0)) 226 1 0 (M 226 0 0)) 227 1 0 (M 227 0 0)) 228 1 0 (M 228 0 0))
  refine hR _ (hR _ (hR _ (hR _ (hR _ (hR _ (hR _ (am_brf (rg := am_in 0 ∧ am_in 5) (P := 5 ≤ 0) (A := R (37, [some (aR 7 0), some (aI 0)], [], am_wr (am_wr (am_wr (am_wr (am_wr (am_wr (am_wr (am_wr (am_wr M 220 1 0 (M 220 0 0)) 221 1 0 (M 221 0 0)) 222 1 0 (M 222 0 0)) 223 1 0 (M 223 0 0)) 224 1 0 (M 224 0 0)) 225 1 0 (M 225 0 0)) 226 1 0 (M 226 0 0)) 227 1 0 (M 227 0 0)) 228 1 0 (M 228 0 0))) (B := R (22, [some (aR 7 0), some (aI 0)], [], am_wr (am_wr (am_wr (am_wr (am_wr (am_wr (am_wr (am_wr (am_wr M 220 1 0 (M 220 0 0)) 221 1 0 (M 221 0 0)) 222 1 0 (M 222 0 0)) 223 1 0 (M 223 0 0)) 224 1 0 (M 224 0 0)) 225 1 0 (M 225 0 0)) 226 1 0 (M 226 0 0)) 227 1 0 (M 227 0 0)) 228 1 0 (M 228 0 0))) (by omega) (by omega) ?_)))))))
  show R (22, [some (aR 7 0), some (aI 0)], [], am_wr (am_wr (am_wr (am_wr (am_wr (am_wr (am_wr (am_wr (am_wr M 220 1 0 (M 220 0 0)) 221 1 0 (M 221 0 0)) 222 1 0 (M 222 0 0)) 223 1 0 (M 223 0 0)) 224 1 0 (M 224 0 0)) 225 1 0 (M 225 0 0)) 226 1 0 (M 226 0 0)) 227 1 0 (M 227 0 0)) 228 1 0 (M 228 0 0))
  refine hR _ (hR _ (hR _ (?_)))
  show R (27, [some (aR 7 0), some (aI 0)], [aI 0, aR 9 0], am_wr (am_wr (am_wr (am_wr (am_wr (am_wr (am_wr (am_wr (am_wr M 220 1 0 (M 220 0 0)) 221 1 0 (M 221 0 0)) 222 1 0 (M 222 0 0)) 223 1 0 (M 223 0 0)) 224 1 0 (M 224 0 0)) 225 1 0 (M 225 0 0)) 226 1 0 (M 226 0 0)) 227 1 0 (M 227 0 0)) 228 1 0 (M 228 0 0))
  refine hR _ ⟨(show 0 ≤ (0 : Int) ∧ (0 : Int) < 5 from (by omega)), ?_⟩
  show R (28, [some (aR 7 0), some (aI 0)], [aR 1 0], am_wr (am_wr (am_wr (am_wr (am_wr (am_wr (am_wr (am_wr (am_wr M 220 1 0 (M 220 0 0)) 221 1 0 (M 221 0 0)) 222 1 0 (M 222 0 0)) 223 1 0 (M 223 0 0)) 224 1 0 (M 224 0 0)) 225 1 0 (M 225 0 0)) 226 1 0 (M 226 0 0)) 227 1 0 (M 227 0 0)) 228 1 0 (M 228 0 0))
  refine hR _ (sp_Hand_keep (by omega) (by omega) ?_)
  show R (31, [some (aR 7 0), some (aI 0)], [], am_wr (am_wr (am_wr (am_wr (am_wr (am_wr (am_wr (am_wr (am_wr (am_wr (am_wr M 220 1 0 (M 220 0 0)) 221 1 0 (M 221 0 0)) 222 1 0 (M 222 0 0)) 223 1 0 (M 223 0 0)) 224 1 0 (M 224 0 0)) 225 1 0 (M 225 0 0)) 226 1 0 (M 226 0 0)) 227 1 0 (M 227 0 0)) 228 1 0 (M 228 0 0)) 144 0 0 (M 142 0 0)) 145 0 0 (M 143 0 0))
  refine hR _ (hR _ (hR _ (hR _ (hR _ (hR _ (hR _ (am_brf (rg := am_in 1 ∧ am_in 5) (P := 5 ≤ 1) (A := R (37, [some (aR 7 0), some (aI 1)], [], am_wr (am_wr (am_wr (am_wr (am_wr (am_wr (am_wr (am_wr (am_wr (am_wr (am_wr M 220 1 0 (M 220 0 0)) 221 1 0 (M 221 0 0)) 222 1 0 (M 222 0 0)) 223 1 0 (M 223 0 0)) 224 1 0 (M 224 0 0)) 225 1 0 (M 225 0 0)) 226 1 0 (M 226 0 0)) 227 1 0 (M 227 0 0)) 228 1 0 (M 228 0 0)) 144 0 0 (M 142 0 0)) 145 0 0 (M 143 0 0))) (B := R (22, [some (aR 7 0), some (aI 1)], [], am_wr (am_wr (am_wr (am_wr (am_wr (am_wr (am_wr (am_wr (am_wr (am_wr (am_wr M 220 1 0 (M 220 0 0)) 221 1 0 (M 221 0 0)) 222 1 0 (M 222 0 0)) 223 1 0 (M 223 0 0)) 224 1 0 (M 224 0 0)) 225 1 0 (M 225 0 0)) 226 1 0 (M 226 0 0)) 227 1 0 (M 227 0 0)) 228 1 0 (M 228 0 0)) 144 0 0 (M 142 0 0)) 145 0 0 (M 143 0 0))) (by omega) (by omega) ?_)))))))
  show R (22, [some (aR 7 0), some (aI 1)], [], am_wr (am_wr (am_wr (am_wr (am_wr (am_wr (am_wr (am_wr (am_wr (am_wr (am_wr M 220 1 0 (M 220 0 0)) 221 1 0 (M 221 0 0)) 222 1 0 (M 222 0 0)) 223 1 0 (M 223 0 0)) 224 1 0 (M 224 0 0)) 225 1 0 (M 225 0 0)) 226 1 0 (M 226 0 0)) 227 1 0 (M 227 0 0)) 228 1 0 (M 228 0 0)) 144 0 0 (M 142 0 0)) 145 0 0 (M 143 0 0))
  refine hR _ (hR _ (hR _ (?_)))
  show R (27, [some (aR 7 0), some (aI 1)], [aI 1, aR 9 0], am_wr (am_wr (am_wr (am_wr (am_wr (am_wr (am_wr (am_wr (am_wr (am_wr (am_wr M 220 1 0 (M 220 0 0)) 221 1 0 (M 221 0 0)) 222 1 0 (M 222 0 0)) 223 1 0 (M 223 0 0)) 224 1 0 (M 224 0 0)) 225 1 0 (M 225 0 0)) 226 1 0 (M 226 0 0)) 227 1 0 (M 227 0 0)) 228 1 0 (M 228 0 0)) 144 0 0 (M 142 0 0)) 145 0 0 (M 143 0 0))
  refine hR _ ⟨(show 0 ≤ (1 : Int) ∧ (1 : Int) < 5 from (by omega)), ?_⟩
  show R (28, [some (aR 7 0), some (aI 1)], [aR 1 1], am_wr (am_wr (am_wr (am_wr (am_wr (am_wr (am_wr (am_wr (am_wr (am_wr (am_wr M 220 1 0 (M 220 0 0)) 221 1 0 (M 221 0 0)) 222 1 0 (M 222 0 0)) 223 1 0 (M 223 0 0)) 224 1 0 (M 224 0 0)) 225 1 0 (M 225 0 0)) 226 1 0 (M 226 0 0)) 227 1 0 (M 227 0 0)) 228 1 0 (M 228 0 0)) 144 0 0 (M 142 0 0)) 145 0 0 (M 143 0 0))
  refine hR _ (sp_Hand_keep (by omega) (by omega) ?_)
  show R (31, [some (aR 7 0), some (aI 1)], [], am_wr (am_wr (am_wr (am_wr (am_wr (am_wr (am_wr (am_wr (am_wr (am_wr (am_wr (am_wr (am_wr M 220 1 0 (M 220 0 0)) 221 1 0 (M 221 0 0)) 222 1 0 (M 222 0 0)) 223 1 0 (M 223 0 0)) 224 1 0 (M 224 0 0)) 225 1 0 (M 225 0 0)) 226 1 0 (M 226 0 0)) 227 1 0 (M 227 0 0)) 228 1 0 (M 228 0 0)) 144 0 0 (M 142 0 0)) 145 0 0 (M 143 0 0)) 144 1 0 (M 142 1 0)) 145 1 0 (M 143 1 0))
  refine hR _ (hR _ (hR _ (hR _ (hR _ (hR _ (hR _ (am_brf (rg := am_in 2 ∧ am_in 5) (P := 5 ≤ 2) (A := R (37, [some (aR 7 0), some (aI 2)], [], am_wr (am_wr (am_wr (am_wr (am_wr (am_wr (am_wr (am_wr (am_wr (am_wr (am_wr (am_wr (am_wr M 220 1 0 (M 220 0 0)) 221 1 0 (M 221 0 0)) 222 1 0 (M 222 0 0)) 223 1 0 (M 223 0 0)) 224 1 0 (M 224 0 0)) 225 1 0 (M 225 0 0)) 226 1 0 (M 226 0 0)) 227 1 0 (M 227 0 0)) 228 1 0 (M 228 0 0)) 144 0 0 (M 142 0 0)) 145 0 0 (M 143 0 0)) 144 1 0 (M 142 1 0)) 145 1 0 (M 143 1 0))) (B := R (22, [some (aR 7 0), some (aI 2)], [], am_wr (am_wr (am_wr (am_wr (am_wr (am_wr (am_wr (am_wr (am_wr (am_wr (am_wr (am_wr (am_wr M 220 1 0 (M 220 0 0)) 221 1 0 (M 221 0 0)) 222 1 0 (M 222 0 0)) 223 1 0 (M 223 0 0)) 224 1 0 (M 224 0 0)) 225 1 0 (M 225 0 0)) 226 1 0 (M 226 0 0)) 227 1 0 (M 227 0 0)) 228 1 0 (M 228 0 0)) 144 0 0 (M 142 0 0)) 145 0 0 (M 143 0 0)) 144 1 0 (M 142 1 0)) 145 1 0 (M 143 1 0))) (by omega) (by omega) ?_)))))))
  show R (22, [some (aR 7 0), some (aI 2)], [], am_wr (am_wr (am_wr (am_wr (am_wr (am_wr (am_wr (am_wr (am_wr (am_wr (am_wr (am_wr (am_wr M 220 1 0 (M 220 0 0)) 221 1 0 (M 221 0 0)) 222 1 0 (M 222 0 0)) 223 1 0 (M 223 0 0)) 224 1 0 (M 224 0 0)) 225 1 0 (M 225 0 0)) 226 1 0 (M 226 0 0)) 227 1 0 (M 227 0 0)) 228 1 0 (M 228 0 0)) 144 0 0 (M 142 0 0)) 145 0 0 (M 143 0 0)) 144 1 0 (M 142 1 0)) 145 1 0 (M 143 1 0))
  refine hR _ (hR _ (hR _ (?_)))
  show R (27, [some (aR 7 0), some (aI 2)], [aI 2, aR 9 0], am_wr (am_wr (am_wr (am_wr (am_wr (am_wr (am_wr (am_wr (am_wr (am_wr (am_wr (am_wr (am_wr M 220 1 0 (M 220 0 0)) 221 1 0 (M 221 0 0)) 222 1 0 (M 222 0 0)) 223 1 0 (M 223 0 0)) 224 1 0 (M 224 0 0)) 225 1 0 (M 225 0 0)) 226 1 0 (M 226 0 0)) 227 1 0 (M 227 0 0)) 228 1 0 (M 228 0 0)) 144 0 0 (M 142 0 0)) 145 0 0 (M 143 0 0)) 144 1 0 (M 142 1 0)) 145 1 0 (M 143 1 0))
  refine hR _ ⟨(show 0 ≤ (2 : Int) ∧ (2 : Int) < 5 from (by omega)), ?_⟩
  show R (28, [some (aR 7 0), some (aI 2)], [aR 1 2], am_wr (am_wr (am_wr (am_wr (am_wr (am_wr (am_wr (am_wr (am_wr (am_wr (am_wr (am_wr (am_wr M 220 1 0 (M 220 0 0)) 221 1 0 (M 221 0 0)) 222 1 0 (M 222 0 0)) 223 1 0 (M 223 0 0)) 224 1 0 (M 224 0 0)) 225 1 0 (M 225 0 0)) 226 1 0 (M 226 0 0)) 227 1 0 (M 227 0 0)) 228 1 0 (M 228 0 0)) 144 0 0 (M 142 0 0)) 145 0 0 (M 143 0 0)) 144 1 0 (M 142 1 0)) 145 1 0 (M 143 1 0))
  refine hR _ (sp_Hand_keep (by omega) (by omega) ?_)
  show R (31, [some (aR 7 0), some (aI 2)], [], am_wr (am_wr (am_wr (am_wr (am_wr (am_wr (am_wr (am_wr (am_wr (am_wr (am_wr (am_wr (am_wr (am_wr (am_wr M 220 1 0 (M 220 0 0)) 221 1 0 (M 221 0 0)) 222 1 0 (M 222 0 0)) 223 1 0 (M 223 0 0)) 224 1 0 (M 224 0 0)) 225 1 0 (M 225 0 0)) 226 1 0 (M 226 0 0)) 227 1 0 (M 227 0 0)) 228 1 0 (M 228 0 0)) 144 0 0 (M 142 0 0)) 145 0 0 (M 143 0 0)) 144 1 0 (M 142 1 0)) 145 1 0 (M 143 1 0)) 144 2 0 (M 142 2 0)) 145 2 0 (M 143 2 0))
  refine hR _ (hR _ (hR _ (hR _ (hR _ (hR _ (hR _ (am_brf (rg := am_in 3 ∧ am_in 5) (P := 5 ≤ 3) (A := R (37, [some (aR 7 0), some (aI 3)], [], am_wr (am_wr (am_wr (am_wr (am_wr (am_wr (am_wr (am_wr (am_wr (am_wr (am_wr (am_wr (am_wr (am_wr (am_wr M 220 1 0 (M 220 0 0)) 221 1 0 (M 221 0 0)) 222 1 0 (M 222 0 0)) 223 1 0 (M 223 0 0)) 224 1 0 (M 224 0 0)) 225 1 0 (M 225 0 0)) 226 1 0 (M 226 0 0)) 227 1 0 (M 227 0 0)) 228 1 0 (M 228 0 0)) 144 0 0 (M 142 0 0)) 145 0 0 (M 143 0 0)) 144 1 0 (M 142 1 0)) 145 1 0 (M 143 1 0)) 144 2 0 (M 142 2 0)) 145 2 0 (M 143 2 0))) (B := R (22, [some (aR 7 0), some (aI 3)], [], am_wr (am_wr (am_wr (am_wr (am_wr (am_wr (am_wr (am_wr (am_wr (am_wr (am_wr (am_wr (am_wr (am_wr (am_wr M 220 1 0 (M 220 0 0)) 221 1 0 (M 221 0 0)) 222 1 0 (M 222 0 0)) 223 1 0 (M 223 0 0)) 224 1 0 (M 224 0 0)) 225 1 0 (M 225 0 0)) 226 1 0 (M 226 0 0)) 227 1 0 (M 227 0 0)) 228 1 0 (M 228 0 0)) 144 0 0 (M 142 0 0)) 145 0 0 (M 143 0 0)) 144 1 0 (M 142 1 0)) 145 1 0 (M 143 1 0)) 144 2 0 (M 142 2 0)) 145 2 0 (M 143 2 0))) (by omega) (by omega) ?_)))))))
  show R (22, [some (aR 7 0), some (aI 3)], [], am_wr (am_wr (am_wr (am_wr (am_wr (am_wr (am_wr (am_wr (am_wr (am_wr (am_wr (am_wr (am_wr (am_wr (am_wr M 220 1 0 (M 220 0 0)) 221 1 0 (M 221 0 0)) 222 1 0 (M 222 0 0)) 223 1 0 (M 223 0 0)) 224 1 0 (M 224 0 0)) 225 1 0 (M 225 0 0)) 226 1 0 (M 226 0 0)) 227 1 0 (M 227 0 0)) 228 1 0 (M 228 0 0)) 144 0 0 (M 142 0 0)) 145 0 0 (M 143 0 0)) 144 1 0 (M 142 1 0)) 145 1 0 (M 143 1 0)) 144 2 0 (M 142 2 0)) 145 2 0 (M 143 2 0))
  refine hR _ (hR _ (hR _ (?_)))
  show R (27, [some (aR 7 0), some (aI 3)], [aI 3, aR 9 0], am_wr (am_wr (am_wr (am_wr (am_wr (am_wr (am_wr (am_wr (am_wr (am_wr (am_wr (am_wr (am_wr (am_wr (am_wr M 220 1 0 (M 220 0 0)) 221 1 0 (M 221 0 0)) 222 1 0 (M 222 0 0)) 223 1 0 (M 223 0 0)) 224 1 0 (M 224 0 0)) 225 1 0 (M 225 0 0)) 226 1 0 (M 226 0 0)) 227 1 0 (M 227 0 0)) 228 1 0 (M 228 0 0)) 144 0 0 (M 142 0 0)) 145 0 0 (M 143 0 0)) 144 1 0 (M 142 1 0)) 145 1 0 (M 143 1 0)) 144 2 0 (M 142 2 0)) 145 2 0 (M 143 2 0))
  refine hR _ ⟨(show 0 ≤ (3 : Int) ∧ (3 : Int) < 5 from (by omega)), ?_⟩
  show R (28, [some (aR 7 0), some (aI 3)], [aR 1 3], am_wr (am_wr (am_wr (am_wr (am_wr (am_wr (am_wr (am_wr (am_wr (am_wr (am_wr (am_wr (am_wr (am_wr (am_wr M 220 1 0 (M 220 0 0)) 221 1 0 (M 221 0 0)) 222 1 0 (M 222 0 0)) 223 1 0 (M 223 0 0)) 224 1 0 (M 224 0 0)) 225 1 0 (M 225 0 0)) 226 1 0 (M 226 0 0)) 227 1 0 (M 227 0 0)) 228 1 0 (M 228 0 0)) 144 0 0 (M 142 0 0)) 145 0 0 (M 143 0 0)) 144 1 0 (M 142 1 0)) 145 1 0 (M 143 1 0)) 144 2 0 (M 142 2 0)) 145 2 0 (M 143 2 0))
  refine hR _ (sp_Hand_keep (by omega) (by omega) ?_)
  show R (31, [some (aR 7 0), some (aI 3)], [], am_wr (am_wr (am_wr (am_wr (am_wr (am_wr (am_wr (am_wr (am_wr (am_wr (am_wr (am_wr (am_wr (am_wr (am_wr (am_wr (am_wr M 220 1 0 (M 220 0 0)) 221 1 0 (M 221 0 0)) 222 1 0 (M 222 0 0)) 223 1 0 (M 223 0 0)) 224 1 0 (M 224 0 0)) 225 1 0 (M 225 0 0)) 226 1 0 (M 226 0 0)) 227 1 0 (M 227 0 0)) 228 1 0 (M 228 0 0)) 144 0 0 (M 142 0 0)) 145 0 0 (M 143 0 0)) 144 1 0 (M 142 1 0)) 145 1 0 (M 143 1 0)) 144 2 0 (M 142 2 0)) 145 2 0 (M 143 2 0)) 144 3 0 (M 142 3 0)) 145 3 0 (M 143 3 0))
  refine hR _ (hR _ (hR _ (hR _ (hR _ (hR _ (hR _ (am_brf (rg := am_in 4 ∧ am_in 5) (P := 5 ≤ 4) (A := R (37, [some (aR 7 0), some (aI 4)], [], am_wr (am_wr (am_wr (am_wr (am_wr (am_wr (am_wr (am_wr (am_wr (am_wr (am_wr (am_wr (am_wr (am_wr (am_wr (am_wr (am_wr M 220 1 0 (M 220 0 0)) 221 1 0 (M 221 0 0)) 222 1 0 (M 222 0 0)) 223 1 0 (M 223 0 0)) 224 1 0 (M 224 0 0)) 225 1 0 (M 225 0 0)) 226 1 0 (M 226 0 0)) 227 1 0 (M 227 0 0)) 228 1 0 (M 228 0 0)) 144 0 0 (M 142 0 0)) 145 0 0 (M 143 0 0)) 144 1 0 (M 142 1 0)) 145 1 0 (M 143 1 0)) 144 2 0 (M 142 2 0)) 145 2 0 (M 143 2 0)) 144 3 0 (M 142 3 0)) 145 3 0 (M 143 3 0))) (B := R (22, [some (aR 7 0), some (aI 4)], [], am_wr (am_wr (am_wr (am_wr (am_wr (am_wr (am_wr (am_wr (am_wr (am_wr (am_wr (am_wr (am_wr (am_wr (am_wr (am_wr (am_wr M 220 1 0 (M 220 0 0)) 221 1 0 (M 221 0 0)) 222 1 0 (M 222 0 0)) 223 1 0 (M 223 0 0)) 224 1 0 (M 224 0 0)) 225 1 0 (M 225 0 0)) 226 1 0 (M 226 0 0)) 227 1 0 (M 227 0 0)) 228 1 0 (M 228 0 0)) 144 0 0 (M 142 0 0)) 145 0 0 (M 143 0 0)) 144 1 0 (M 142 1 0)) 145 1 0 (M 143 1 0)) 144 2 0 (M 142 2 0)) 145 2 0 (M 143 2 0)) 144 3 0 (M 142 3 0)) 145 3 0 (M 143 3 0))) (by omega) (by omega) ?_)))))))
  show R (22, [some (aR 7 0), some (aI 4)], [], am_wr (am_wr (am_wr (am_wr (am_wr (am_wr (am_wr (am_wr (am_wr (am_wr (am_wr (am_wr (am_wr (am_wr (am_wr (am_wr (am_wr M 220 1 0 (M 220 0 0)) 221 1 0 (M 221 0 0)) 222 1 0 (M 222 0 0)) 223 1 0 (M 223 0 0)) 224 1 0 (M 224 0 0)) 225 1 0 (M 225 0 0)) 226 1 0 (M 226 0 0)) 227 1 0 (M 227 0 0)) 228 1 0 (M 228 0 0)) 144 0 0 (M 142 0 0)) 145 0 0 (M 143 0 0)) 144 1 0 (M 142 1 0)) 145 1 0 (M 143 1 0)) 144 2 0 (M 142 2 0)) 145 2 0 (M 143 2 0)) 144 3 0 (M 142 3 0)) 145 3 0 (M 143 3 0))
  refine hR _ (hR _ (hR _ (?_)))
  show R (27, [some (aR 7 0), some (aI 4)], [aI 4, aR 9 0], am_wr (am_wr (am_wr (am_wr (am_wr (am_wr (am_wr (am_wr (am_wr (am_wr (am_wr (am_wr (am_wr (am_wr (am_wr (am_wr (am_wr M 220 1 0 (M 220 0 0)) 221 1 0 (M 221 0 0)) 222 1 0 (M 222 0 0)) 223 1 0 (M 223 0 0)) 224 1 0 (M 224 0 0)) 225 1 0 (M 225 0 0)) 226 1 0 (M 226 0 0)) 227 1 0 (M 227 0 0)) 228 1 0 (M 228 0 0)) 144 0 0 (M 142 0 0)) 145 0 0 (M 143 0 0)) 144 1 0 (M 142 1 0)) 145 1 0 (M 143 1 0)) 144 2 0 (M 142 2 0)) 145 2 0 (M 143 2 0)) 144 3 0 (M 142 3 0)) 145 3 0 (M 143 3 0))
  refine hR _ ⟨(show 0 ≤ (4 : Int) ∧ (4 : Int) < 5 from (by omega)), ?_⟩
  show R (28, [some (aR 7 0), some (aI 4)], [aR 1 4], am_wr (am_wr (am_wr (am_wr (am_wr (am_wr (am_wr (am_wr (am_wr (am_wr (am_wr (am_wr (am_wr (am_wr (am_wr (am_wr (am_wr M 220 1 0 (M 220 0 0)) 221 1 0 (M 221 0 0)) 222 1 0 (M 222 0 0)) 223 1 0 (M 223 0 0)) 224 1 0 (M 224 0 0)) 225 1 0 (M 225 0 0)) 226 1 0 (M 226 0 0)) 227 1 0 (M 227 0 0)) 228 1 0 (M 228 0 0)) 144 0 0 (M 142 0 0)) 145 0 0 (M 143 0 0)) 144 1 0 (M 142 1 0)) 145 1 0 (M 143 1 0)) 144 2 0 (M 142 2 0)) 145 2 0 (M 143 2 0)) 144 3 0 (M 142 3 0)) 145 3 0 (M 143 3 0))
  refine hR _ (sp_Hand_keep (by omega) (by omega) ?_)
  show R (31, [some (aR 7 0), some (aI 4)], [], am_wr (am_wr (am_wr (am_wr (am_wr (am_wr (am_wr (am_wr (am_wr (am_wr (am_wr (am_wr (am_wr (am_wr (am_wr (am_wr (am_wr (am_wr (am_wr M 220 1 0 (M 220 0 0)) 221 1 0 (M 221 0 0)) 222 1 0 (M 222 0 0)) 223 1 0 (M 223 0 0)) 224 1 0 (M 224 0 0)) 225 1 0 (M 225 0 0)) 226 1 0 (M 226 0 0)) 227 1 0 (M 227 0 0)) 228 1 0 (M 228 0 0)) 144 0 0 (M 142 0 0)) 145 0 0 (M 143 0 0)) 144 1 0 (M 142 1 0)) 145 1 0 (M 143 1 0)) 144 2 0 (M 142 2 0)) 145 2 0 (M 143 2 0)) 144 3 0 (M 142 3 0)) 145 3 0 (M 143 3 0)) 144 4 0 (M 142 4 0)) 145 4 0 (M 143 4 0))
  refine hR _ (hR _ (hR _ (hR _ (hR _ (hR _ (hR _ (am_brt (rg := am_in 5 ∧ am_in 5) (P := (5 : Int) ≤ 5) (A := R (37, [some (aR 7 0), some (aI 5)], [], am_wr (am_wr (am_wr (am_wr (am_wr (am_wr (am_wr (am_wr (am_wr (am_wr (am_wr (am_wr (am_wr (am_wr (am_wr (am_wr (am_wr (am_wr (am_wr M 220 1 0 (M 220 0 0)) 221 1 0 (M 221 0 0)) 222 1 0 (M 222 0 0)) 223 1 0 (M 223 0 0)) 224 1 0 (M 224 0 0)) 225 1 0 (M 225 0 0)) 226 1 0 (M 226 0 0)) 227 1 0 (M 227 0 0)) 228 1 0 (M 228 0 0)) 144 0 0 (M 142 0 0)) 145 0 0 (M 143 0 0)) 144 1 0 (M 142 1 0)) 145 1 0 (M 143 1 0)) 144 2 0 (M 142 2 0)) 145 2 0 (M 143 2 0)) 144 3 0 (M 142 3 0)) 145 3 0 (M 143 3 0)) 144 4 0 (M 142 4 0)) 145 4 0 (M 143 4 0))) (B := R (22, [some (aR 7 0), some (aI 5)], [], am_wr (am_wr (am_wr (am_wr (am_wr (am_wr (am_wr (am_wr (am_wr (am_wr (am_wr (am_wr (am_wr (am_wr (am_wr (am_wr (am_wr (am_wr (am_wr M 220 1 0 (M 220 0 0)) 221 1 0 (M 221 0 0)) 222 1 0 (M 222 0 0)) 223 1 0 (M 223 0 0)) 224 1 0 (M 224 0 0)) 225 1 0 (M 225 0 0)) 226 1 0 (M 226 0 0)) 227 1 0 (M 227 0 0)) 228 1 0 (M 228 0 0)) 144 0 0 (M 142 0 0)) 145 0 0 (M 143 0 0)) 144 1 0 (M 142 1 0)) 145 1 0 (M 143 1 0)) 144 2 0 (M 142 2 0)) 145 2 0 (M 143 2 0)) 144 3 0 (M 142 3 0)) 145 3 0 (M 143 3 0)) 144 4 0 (M 142 4 0)) 145 4 0 (M 143 4 0))) (by omega) (by omega) ?_)))))))
  show R (37, [some (aR 7 0), some (aI 5)], [], am_wr (am_wr (am_wr (am_wr (am_wr (am_wr (am_wr (am_wr (am_wr (am_wr (am_wr (am_wr (am_wr (am_wr (am_wr (am_wr (am_wr (am_wr (am_wr M 220 1 0 (M 220 0 0)) 221 1 0 (M 221 0 0)) 222 1 0 (M 222 0 0)) 223 1 0 (M 223 0 0)) 224 1 0 (M 224 0 0)) 225 1 0 (M 225 0 0)) 226 1 0 (M 226 0 0)) 227 1 0 (M 227 0 0)) 228 1 0 (M 228 0 0)) 144 0 0 (M 142 0 0)) 145 0 0 (M 143 0 0)) 144 1 0 (M 142 1 0)) 145 1 0 (M 143 1 0)) 144 2 0 (M 142 2 0)) 145 2 0 (M 143 2 0)) 144 3 0 (M 142 3 0)) 145 3 0 (M 143 3 0)) 144 4 0 (M 142 4 0)) 145 4 0 (M 143 4 0))
  refine hR _ (hR _ (?_))
  show R (39, [some (aR 7 0), some (aI 5)], [aI 1, aR 7 0], am_wr (am_wr (am_wr (am_wr (am_wr (am_wr (am_wr (am_wr (am_wr (am_wr (am_wr (am_wr (am_wr (am_wr (am_wr (am_wr (am_wr (am_wr (am_wr M 220 1 0 (M 220 0 0)) 221 1 0 (M 221 0 0)) 222 1 0 (M 222 0 0)) 223 1 0 (M 223 0 0)) 224 1 0 (M 224 0 0)) 225 1 0 (M 225 0 0)) 226 1 0 (M 226 0 0)) 227 1 0 (M 227 0 0)) 228 1 0 (M 228 0 0)) 144 0 0 (M 142 0 0)) 145 0 0 (M 143 0 0)) 144 1 0 (M 142 1 0)) 145 1 0 (M 143 1 0)) 144 2 0 (M 142 2 0)) 145 2 0 (M 143 2 0)) 144 3 0 (M 142 3 0)) 145 3 0 (M 143 3 0)) 144 4 0 (M 142 4 0)) 145 4 0 (M 143 4 0))
  refine hR _ ⟨(by omega), ?_⟩
  show R (42, [some (aR 7 0), some (aI 5)], [], am_wr (am_wr (am_wr (am_wr (am_wr (am_wr (am_wr (am_wr (am_wr (am_wr (am_wr (am_wr (am_wr (am_wr (am_wr (am_wr (am_wr (am_wr (am_wr (am_wr M 220 1 0 (M 220 0 0)) 221 1 0 (M 221 0 0)) 222 1 0 (M 222 0 0)) 223 1 0 (M 223 0 0)) 224 1 0 (M 224 0 0)) 225 1 0 (M 225 0 0)) 226 1 0 (M 226 0 0)) 227 1 0 (M 227 0 0)) 228 1 0 (M 228 0 0)) 144 0 0 (M 142 0 0)) 145 0 0 (M 143 0 0)) 144 1 0 (M 142 1 0)) 145 1 0 (M 143 1 0)) 144 2 0 (M 142 2 0)) 145 2 0 (M 143 2 0)) 144 3 0 (M 142 3 0)) 145 3 0 (M 143 3 0)) 144 4 0 (M 142 4 0)) 145 4 0 (M 143 4 0)) 382 0 0 1)
  refine hR _ (hR _ (hR _ (?_)))
  show R (49, [some (aR 7 0), some (aI 5)], [aI (M 227 0 0)], am_wr (am_wr (am_wr (am_wr (am_wr (am_wr (am_wr (am_wr (am_wr (am_wr (am_wr (am_wr (am_wr (am_wr (am_wr (am_wr (am_wr (am_wr (am_wr (am_wr M 220 1 0 (M 220 0 0)) 221 1 0 (M 221 0 0)) 222 1 0 (M 222 0 0)) 223 1 0 (M 223 0 0)) 224 1 0 (M 224 0 0)) 225 1 0 (M 225 0 0)) 226 1 0 (M 226 0 0)) 227 1 0 (M 227 0 0)) 228 1 0 (M 228 0 0)) 144 0 0 (M 142 0 0)) 145 0 0 (M 143 0 0)) 144 1 0 (M 142 1 0)) 145 1 0 (M 143 1 0)) 144 2 0 (M 142 2 0)) 145 2 0 (M 143 2 0)) 144 3 0 (M 142 3 0)) 145 3 0 (M 143 3 0)) 144 4 0 (M 142 4 0)) 145 4 0 (M 143 4 0)) 382 0 0 1)
  refine hR _ (show K (some (aI (M 227 0 0))) (am_wr (am_wr (am_wr (am_wr (am_wr (am_wr (am_wr (am_wr (am_wr (am_wr (am_wr (am_wr (am_wr (am_wr (am_wr (am_wr (am_wr (am_wr (am_wr (am_wr M 220 1 0 (M 220 0 0)) 221 1 0 (M 221 0 0)) 222 1 0 (M 222 0 0)) 223 1 0 (M 223 0 0)) 224 1 0 (M 224 0 0)) 225 1 0 (M 225 0 0)) 226 1 0 (M 226 0 0)) 227 1 0 (M 227 0 0)) 228 1 0 (M 228 0 0)) 144 0 0 (M 142 0 0)) 145 0 0 (M 143 0 0)) 144 1 0 (M 142 1 0)) 145 1 0 (M 143 1 0)) 144 2 0 (M 142 2 0)) 145 2 0 (M 143 2 0)) 144 3 0 (M 142 3 0)) 145 3 0 (M 143 3 0)) 144 4 0 (M 142 4 0)) 145 4 0 (M 143 4 0)) 382 0 0 1) from ?_)
  refine am_fin (S := [220, 221, 222, 223, 224, 225, 226, 227, 228, 144, 145, 382]) (F := fun m => m 382 0 0 = 1 ∧ (m 220 1 0 = M 220 0 0 ∧ m 220 0 0 = M 220 0 0 ∧ m 221 1 0 = M 221 0 0 ∧ m 221 0 0 = M 221 0 0 ∧ m 222 1 0 = M 222 0 0 ∧ m 222 0 0 = M 222 0 0 ∧ m 223 1 0 = M 223 0 0 ∧ m 223 0 0 = M 223 0 0 ∧ m 224 1 0 = M 224 0 0 ∧ m 224 0 0 = M 224 0 0 ∧ m 225 1 0 = M 225 0 0 ∧ m 225 0 0 = M 225 0 0 ∧ m 226 1 0 = M 226 0 0 ∧ m 226 0 0 = M 226 0 0 ∧ m 227 1 0 = M 227 0 0 ∧ m 227 0 0 = M 227 0 0 ∧ m 228 1 0 = M 228 0 0 ∧ m 228 0 0 = M 228 0 0) ∧ (∀ k : Nat, k < 5 → m 144 k 0 = M 142 k 0 ∧ m 145 k 0 = M 143 k 0) ∧ ∀ k : Nat, 5 ≤ k → m 144 k 0 = M 144 k 0 ∧ m 145 k 0 = M 145 k 0) (((((((((((((((((((((am_ag.rf).wr rfl).wr rfl).wr rfl).wr rfl).wr rfl).wr rfl).wr rfl).wr rfl).wr rfl).wr rfl).wr rfl).wr rfl).wr rfl).wr rfl).wr rfl).wr rfl).wr rfl).wr rfl).wr rfl).wr rfl) ⟨am_wr_eq, ?_, ?_, ?_⟩ (fun g hg => hK1 g hg)
  · exact ⟨rfl, rfl, rfl, rfl, rfl, rfl, rfl, rfl, rfl, rfl, rfl, rfl, rfl, rfl, rfl, rfl, rfl, rfl⟩
  · intro k hk
    match k, hk with
    | 0, _ => exact ⟨rfl, rfl⟩
    | 1, _ => exact ⟨rfl, rfl⟩
    | 2, _ => exact ⟨rfl, rfl⟩
    | 3, _ => exact ⟨rfl, rfl⟩
    | 4, _ => exact ⟨rfl, rfl⟩
  · intro k hk
    have hw : ∀ (m : am_M) (v i w : Nat) (x : Int), i < 5 → am_wr m v i 0 x w k 0 = m w k 0 := fun m v i w x hi => am_wr_ne (Or.inr (Or.inl (by omega)))
    refine ⟨?_, ?_⟩
    · exact (hw _ _ 0 144 _ (by omega)).trans ( (hw _ _ 4 144 _ (by omega)).trans ( (hw _ _ 4 144 _ (by omega)).trans ( (hw _ _ 3 144 _ (by omega)).trans ( (hw _ _ 3 144 _ (by omega)).trans ( (hw _ _ 2 144 _ (by omega)).trans ( (hw _ _ 2 144 _ (by omega)).trans ( (hw _ _ 1 144 _ (by omega)).trans ( (hw _ _ 1 144 _ (by omega)).trans ( (hw _ _ 0 144 _ (by omega)).trans ( (hw _ _ 0 144 _ (by omega)).trans ( (hw _ _ 1 144 _ (by omega)).trans ( (hw _ _ 1 144 _ (by omega)).trans ( (hw _ _ 1 144 _ (by omega)).trans ( (hw _ _ 1 144 _ (by omega)).trans ( (hw _ _ 1 144 _ (by omega)).trans ( (hw _ _ 1 144 _ (by omega)).trans ( (hw _ _ 1 144 _ (by omega)).trans ( (hw _ _ 1 144 _ (by omega)).trans (hw _ _ 1 144 _ (by omega))))))))))))))))))))
    · exact (hw _ _ 0 145 _ (by omega)).trans ( (hw _ _ 4 145 _ (by omega)).trans ( (hw _ _ 4 145 _ (by omega)).trans ( (hw _ _ 3 145 _ (by omega)).trans ( (hw _ _ 3 145 _ (by omega)).trans ( (hw _ _ 2 145 _ (by omega)).trans ( (hw _ _ 2 145 _ (by omega)).trans ( (hw _ _ 1 145 _ (by omega)).trans ( (hw _ _ 1 145 _ (by omega)).trans ( (hw _ _ 0 145 _ (by omega)).trans ( (hw _ _ 0 145 _ (by omega)).trans ( (hw _ _ 1 145 _ (by omega)).trans ( (hw _ _ 1 145 _ (by omega)).trans ( (hw _ _ 1 145 _ (by omega)).trans ( (hw _ _ 1 145 _ (by omega)).trans ( (hw _ _ 1 145 _ (by omega)).trans ( (hw _ _ 1 145 _ (by omega)).trans ( (hw _ _ 1 145 _ (by omega)).trans ( (hw _ _ 1 145 _ (by omega)).trans (hw _ _ 1 145 _ (by omega))))))))))))))))))))

theorem sq_back {d : Nat} (hd : 3 ≤ d)  {M : am_M} {K : am_K} (hJ : jf_J M) (hK1 : M 382 0 0 ≠ 0 → ∀ g : am_M, ((g 220 0 0 = M 220 1 0 ∧ g 220 1 0 = M 220 1 0 ∧ g 221 0 0 = M 221 1 0 ∧ g 221 1 0 = M 221 1 0 ∧ g 222 0 0 = M 222 1 0 ∧ g 222 1 0 = M 222 1 0 ∧ g 223 0 0 = M 223 1 0 ∧ g 223 1 0 = M 223 1 0 ∧ g 224 0 0 = M 224 1 0 ∧ g 224 1 0 = M 224 1 0 ∧ g 225 0 0 = M 225 1 0 ∧ g 225 1 0 = M 225 1 0 ∧ g 226 0 0 = M 226 1 0 ∧ g 226 1 0 = M 226 1 0 ∧ g 227 0 0 = M 227 1 0 ∧ g 227 1 0 = M 227 1 0 ∧ g 228 0 0 = M 228 1 0 ∧ g 228 1 0 = M 228 1 0) ∧ (∀ k : Nat, k < 5 → g 142 k 0 = M 144 k 0 ∧ g 143 k 0 = M 145 k 0) ∧ ∀ k : Nat, 5 ≤ k → g 142 k 0 = M 142 k 0 ∧ g 143 k 0 = M 143 k 0) → K (some (aI (M 227 1 0))) (am_mix [220, 221, 222, 223, 224, 225, 226, 227, 228, 142, 143] g M)) (hK0 : M 382 0 0 = 0 → K (some (aI (-3))) M) : am_Call wb d 114 [aR 7 0] M K := by
  obtain ⟨d, rfl⟩ : ∃ e, d = e + 1 := ⟨d - 1, by omega⟩
  refine ⟨rfl, fun R hR hC => ?_⟩
  replace hR : ∀ c, am_F wb tb_f114 1 (am_Call wb d) K R c → R c := hR
  have hn := hJ.1.1.2.2.2.2.2.2.2.1
  have hl0 := hJ.1.1.2.2.2.2.2.2.2.2
  have htc := hJ.2.2.1.1
  have hlt : 0 ≤ M 228 0 0 ∧ M 228 0 0 < 6 := by omega
  have hmk := hJ.1.1.1
  have hdr := hJ.1.1.2.1
  have hpr := hJ.1.1.2.2.1
  have hfu := hJ.1.1.2.2.2.1
  have him := hJ.2.2.2.2.2
  show R (0, [some (aR 7 0), none], [], M)
  refine hR _ (hR _ (hR _ (am_brc (rg := am_in (M 382 0 0)) (P := M 382 0 0 ≠ 0) (A := R (10, [some (aR 7 0), none], [], M)) (B := R (7, [some (aR 7 0), none], [], M)) (by omega) (fun c4 => ?_) (fun c4 => ?_))))
  · refine hR _ (hR _ (hR _ (hR _ (?_))))
    show R (18, [some (aR 7 0), none], [aR 3 1, aR 3 0], M)
    refine hR _ (sp_State_becomeLike (by omega) (by omega) (by omega) (by omega) ?_)
    show R (21, [some (aR 7 0), none], [], am_wr (am_wr (am_wr (am_wr (am_wr (am_wr (am_wr (am_wr (am_wr M 220 0 0 (M 220 1 0)) 221 0 0 (M 221 1 0)) 222 0 0 (M 222 1 0)) 223 0 0 (M 223 1 0)) 224 0 0 (M 224 1 0)) 225 0 0 (M 225 1 0)) 226 0 0 (M 226 1 0)) 227 0 0 (M 227 1 0)) 228 0 0 (M 228 1 0))
    refine hR _ (hR _ (hR _ (hR _ (hR _ (hR _ (hR _ (am_brf (rg := am_in 0 ∧ am_in 5) (P := 5 ≤ 0) (A := R (47, [some (aR 7 0), some (aI 0)], [], am_wr (am_wr (am_wr (am_wr (am_wr (am_wr (am_wr (am_wr (am_wr M 220 0 0 (M 220 1 0)) 221 0 0 (M 221 1 0)) 222 0 0 (M 222 1 0)) 223 0 0 (M 223 1 0)) 224 0 0 (M 224 1 0)) 225 0 0 (M 225 1 0)) 226 0 0 (M 226 1 0)) 227 0 0 (M 227 1 0)) 228 0 0 (M 228 1 0))) (B := R (32, [some (aR 7 0), some (aI 0)], [], am_wr (am_wr (am_wr (am_wr (am_wr (am_wr (am_wr (am_wr (am_wr M 220 0 0 (M 220 1 0)) 221 0 0 (M 221 1 0)) 222 0 0 (M 222 1 0)) 223 0 0 (M 223 1 0)) 224 0 0 (M 224 1 0)) 225 0 0 (M 225 1 0)) 226 0 0 (M 226 1 0)) 227 0 0 (M 227 1 0)) 228 0 0 (M 228 1 0))) (by omega) (by omega) ?_)))))))
    show R (32, [some (aR 7 0), some (aI 0)], [], am_wr (am_wr (am_wr (am_wr (am_wr (am_wr (am_wr (am_wr (am_wr M 220 0 0 (M 220 1 0)) 221 0 0 (M 221 1 0)) 222 0 0 (M 222 1 0)) 223 0 0 (M 223 1 0)) 224 0 0 (M 224 1 0)) 225 0 0 (M 225 1 0)) 226 0 0 (M 226 1 0)) 227 0 0 (M 227 1 0)) 228 0 0 (M 228 1 0))
    refine hR _ (hR _ (hR _ (?_)))
    show R (37, [some (aR 7 0), some (aI 0)], [aI 0, aR 9 0], am_wr (am_wr (am_wr (am_wr (am_wr (am_wr (am_wr (am_wr (am_wr M 220 0 0 (M 220 1 0)) 221 0 0 (M 221 1 0)) 222 0 0 (M 222 1 0)) 223 0 0 (M 223 1 0)) 224 0 0 (M 224 1 0)) 225 0 0 (M 225 1 0)) 226 0 0 (M 226 1 0)) 227 0 0 (M 227 1 0)) 228 0 0 (M 228 1 0))
    refine hR _ ⟨(show 0 ≤ (0 : Int) ∧ (0 : Int) < 5 from (by omega)), ?_⟩
    show R (38, [some (aR 7 0), some (aI 0)], [aR 1 0], am_wr (am_wr (am_wr (am_wr (am_wr (am_wr (am_wr (am_wr (am_wr M 220 0 0 (M 220 1 0)) 221 0 0 (M 221 1 0)) 222 0 0 (M 222 1 0)) 223 0 0 (M 223 1 0)) 224 0 0 (M 224 1 0)) 225 0 0 (M 225 1 0)) 226 0 0 (M 226 1 0)) 227 0 0 (M 227 1 0)) 228 0 0 (M 228 1 0))
    refine hR _ (sp_Hand_comeBack (by omega) (by omega) ?_)
    show R (41, [some (aR 7 0), some (aI 0)], [], am_wr (am_wr (am_wr (am_wr (am_wr (am_wr (am_wr (am_wr (am_wr (am_wr (am_wr M 220 0 0 (M 220 1 0)) 221 0 0 (M 221 1 0)) 222 0 0 (M 222 1 0)) 223 0 0 (M 223 1 0)) 224 0 0 (M 224 1 0)) 225 0 0 (M 225 1 0)) 226 0 0 (M 226 1 0)) 227 0 0 (M 227 1 0)) 228 0 0 (M 228 1 0)) 142 0 0 (M 144 0 0)) 143 0 0 (M 145 0 0))
    refine hR _ (hR _ (hR _ (hR _ (hR _ (hR _ (hR _ (am_brf (rg := am_in 1 ∧ am_in 5) (P := 5 ≤ 1) (A := R (47, [some (aR 7 0), some (aI 1)], [], am_wr (am_wr (am_wr (am_wr (am_wr (am_wr (am_wr (am_wr (am_wr (am_wr (am_wr M 220 0 0 (M 220 1 0)) 221 0 0 (M 221 1 0)) 222 0 0 (M 222 1 0)) 223 0 0 (M 223 1 0)) 224 0 0 (M 224 1 0)) 225 0 0 (M 225 1 0)) 226 0 0 (M 226 1 0)) 227 0 0 (M 227 1 0)) 228 0 0 (M 228 1 0)) 142 0 0 (M 144 0 0)) 143 0 0 (M 145 0 0))) (B := R (32, [some (aR 7 0), some (aI 1)], [], am_wr (am_wr (am_wr (am_wr (am_wr (am_wr (am_wr (am_wr (am_wr (am_wr (am_wr M 220 0 0 (M 220 1 0)) 221 0 0 (M 221 1 0)) 222 0 0 (M 222 1 0)) 223 0 0 (M 223 1 0)) 224 0 0 (M 224 1 0)) 225 0 0 (M 225 1 0)) 226 0 0 (M 226 1 0)) 227 0 0 (M 227 1 0)) 228 0 0 (M 228 1 0)) 142 0 0 (M 144 0 0)) 143 0 0 (M 145 0 0))) (by omega) (by omega) ?_)))))))
    show R (32, [some (aR 7 0), some (aI 1)], [], am_wr (am_wr (am_wr (am_wr (am_wr (am_wr (am_wr (am_wr (am_wr (am_wr (am_wr M 220 0 0 (M 220 1 0)) 221 0 0 (M 221 1 0)) 222 0 0 (M 222 1 0)) 223 0 0 (M 223 1 0)) 224 0 0 (M 224 1 0)) 225 0 0 (M 225 1 0)) 226 0 0 (M 226 1 0)) 227 0 0 (M 227 1 0)) 228 0 0 (M 228 1 0)) 142 0 0 (M 144 0 0)) 143 0 0 (M 145 0 0))
    refine hR _ (hR _ (hR _ (?_)))
    show R (37, [some (aR 7 0), some (aI 1)], [aI 1, aR 9 0], am_wr (am_wr (am_wr (am_wr (am_wr (am_wr (am_wr (am_wr (am_wr (am_wr (am_wr M 220 0 0 (M 220 1 0)) 221 0 0 (M 221 1 0)) 222 0 0 (M 222 1 0)) 223 0 0 (M 223 1 0)) 224 0 0 (M 224 1 0)) 225 0 0 (M 225 1 0)) 226 0 0 (M 226 1 0)) 227 0 0 (M 227 1 0)) 228 0 0 (M 228 1 0)) 142 0 0 (M 144 0 0)) 143 0 0 (M 145 0 0))
    refine hR _ ⟨(show 0 ≤ (1 : Int) ∧ (1 : Int) < 5 from (by omega)), ?_⟩
    show R (38, [some (aR 7 0), some (aI 1)], [aR 1 1], am_wr (am_wr (am_wr (am_wr (am_wr (am_wr (am_wr (am_wr (am_wr (am_wr (am_wr M 220 0 0 (M 220 1 0)) 221 0 0 (M 221 1 0)) 222 0 0 (M 222 1 0)) 223 0 0 (M 223 1 0)) 224 0 0 (M 224 1 0)) 225 0 0 (M 225 1 0)) 226 0 0 (M 226 1 0)) 227 0 0 (M 227 1 0)) 228 0 0 (M 228 1 0)) 142 0 0 (M 144 0 0)) 143 0 0 (M 145 0 0))
    refine hR _ (sp_Hand_comeBack (by omega) (by omega) ?_)
    show R (41, [some (aR 7 0), some (aI 1)], [], am_wr (am_wr (am_wr (am_wr (am_wr (am_wr (am_wr (am_wr (am_wr (am_wr (am_wr (am_wr (am_wr M 220 0 0 (M 220 1 0)) 221 0 0 (M 221 1 0)) 222 0 0 (M 222 1 0)) 223 0 0 (M 223 1 0)) 224 0 0 (M 224 1 0)) 225 0 0 (M 225 1 0)) 226 0 0 (M 226 1 0)) 227 0 0 (M 227 1 0)) 228 0 0 (M 228 1 0)) 142 0 0 (M 144 0 0)) 143 0 0 (M 145 0 0)) 142 1 0 (M 144 1 0)) 143 1 0 (M 145 1 0))
    refine hR _ (hR _ (hR _ (hR _ (hR _ (hR _ (hR _ (am_brf (rg := am_in 2 ∧ am_in 5) (P := 5 ≤ 2) (A := R (47, [some (aR 7 0), some (aI 2)], [], am_wr (am_wr (am_wr (am_wr (am_wr (am_wr (am_wr (am_wr (am_wr (am_wr (am_wr (am_wr (am_wr M 220 0 0 (M 220 1 0)) 221 0 0 (M 221 1 0)) 222 0 0 (M 222 1 0)) 223 0 0 (M 223 1 0)) 224 0 0 (M 224 1 0)) 225 0 0 (M 225 1 0)) 226 0 0 (M 226 1 0)) 227 0 0 (M 227 1 0)) 228 0 0 (M 228 1 0)) 142 0 0 (M 144 0 0)) 143 0 0 (M 145 0 0)) 142 1 0 (M 144 1 0)) 143 1 0 (M 145 1 0))) (B := R (32, [some (aR 7 0), some (aI 2)], [], am_wr (am_wr (am_wr (am_wr (am_wr (am_wr (am_wr (am_wr (am_wr (am_wr (am_wr (am_wr (am_wr M 220 0 0 (M 220 1 0)) 221 0 0 (M 221 1 0)) 222 0 0 (M 222 1 0)) 223 0 0 (M 223 1 0)) 224 0 0 (M 224 1 0)) 225 0 0 (M 225 1 0)) 226 0 0 (M 226 1 0)) 227 0 0 (M 227 1 0)) 228 0 0 (M 228 1 0)) 142 0 0 (M 144 0 0)) 143 0 0 (M 145 0 0)) 142 1 0 (M 144 1 0)) 143 1 0 (M 145 1 0))) (by omega) (by omega) ?_)))))))
    show R (32, [some (aR 7 0), some (aI 2)], [], am_wr (am_wr (am_wr (am_wr (am_wr (am_wr (am_wr (am_wr (am_wr (am_wr (am_wr (am_wr (am_wr M 220 0 0 (M 220 1 0)) 221 0 0 (M 221 1 0)) 222 0 0 (M 222 1 0)) 223 0 0 (M 223 1 0)) 224 0 0 (M 224 1 0)) 225 0 0 (M 225 1 0)) 226 0 0 (M 226 1 0)) 227 0 0 (M 227 1 0)) 228 0 0 (M 228 1 0)) 142 0 0 (M 144 0 0)) 143 0 0 (M 145 0 0)) 142 1 0 (M 144 1 0)) 143 1 0 (M 145 1 0))
    refine hR _ (hR _ (hR _ (?_)))
    show R (37, [some (aR 7 0), some (aI 2)], [aI 2, aR 9 0], am_wr (am_wr (am_wr (am_wr (am_wr (am_wr (am_wr (am_wr (am_wr (am_wr (am_wr (am_wr (am_wr M 220 0 0 (M 220 1 0)) 221 0 0 (M 221 1 0)) 222 0 0 (M 222 1 0)) 223 0 0 (M 223 1 0)) 224 0 0 (M 224 1 0)) 225 0 0 (M 225 1 0)) 226 0 0 (M 226 1 0)) 227 0 0 (M 227 1 0)) 228 0 0 (M 228 1 0)) 142 0 0 (M 144 0 0)) 143 0 0 (M 145 0 0)) 142 1 0 (M 144 1 0)) 143 1 0 (M 145 1 0))
    refine hR _ ⟨(show 0 ≤ (2 : Int) ∧ (2 : Int) < 5 from (by omega)), ?_⟩
    show R (38, [some (aR 7 0), some (aI 2)], [aR 1 2], am_wr (am_wr (am_wr (am_wr (am_wr (am_wr (am_wr (am_wr (am_wr (am_wr (am_wr (am_wr (am_wr M 220 0 0 (M 220 1 0)) 221 0 0 (M 221 1 0)) 222 0 0 (M 222 1 0)) 223 0 0 (M 223 1 0)) 224 0 0 (M 224 1 0)) 225 0 0 (M 225 1 0)) 226 0 0 (M 226 1 0)) 227 0 0 (M 227 1 0)) 228 0 0 (M 228 1 0)) 142 0 0 (M 144 0 0)) 143 0 0 (M 145 0 0)) 142 1 0 (M 144 1 0)) 143 1 0 (M 145 1 0))
    refine hR _ (sp_Hand_comeBack (by omega) (by omega) ?_)
    show R (41, [some (aR 7 0), some (aI 2)], [], am_wr (am_wr (am_wr (am_wr (am_wr (am_wr (am_wr (am_wr (am_wr (am_wr (am_wr (am_wr (am_wr (am_wr (am_wr M 220 0 0 (M 220 1 0)) 221 0 0 (M 221 1 0)) 222 0 0 (M 222 1 0)) 223 0 0 (M 223 1 0)) 224 0 0 (M 224 1 0)) 225 0 0 (M 225 1 0)) 226 0 0 (M 226 1 0)) 227 0 0 (M 227 1 0)) 228 0 0 (M 228 1 0)) 142 0 0 (M 144 0 0)) 143 0 0 (M 145 0 0)) 142 1 0 (M 144 1 0)) 143 1 0 (M 145 1 0)) 142 2 0 (M 144 2 0)) 143 2 0 (M 145 2 0))
    refine hR _ (hR _ (hR _ (hR _ (hR _ (hR _ (hR _ (am_brf (rg := am_in 3 ∧ am_in 5) (P := 5 ≤ 3) (A := R (47, [some (aR 7 0), some (aI 3)], [], am_wr (am_wr (am_wr (am_wr (am_wr (am_wr (am_wr (am_wr (am_wr (am_wr (am_wr (am_wr (am_wr (am_wr (am_wr M 220 0 0 (M 220 1 0)) 221 0 0 (M 221 1 0)) 222 0 0 (M 222 1 0)) 223 0 0 (M 223 1 0)) 224 0 0 (M 224 1 0)) 225 0 0 (M 225 1 0)) 226 0 0 (M 226 1 0)) 227 0 0 (M 227 1 0)) 228 0 0 (M 228 1 0)) 142 0 0 (M 144 0 0)) 143 0 0 (M 145 0 0)) 142 1 0 (M 144 1 0)) 143 1 0 (M 145 1 0)) 142 2 0 (M 144 2 0)) 143 2 0 (M 145 2 0))) (B := R (32, [some (aR 7 0), some (aI 3)], [], am_wr (am_wr (am_wr (am_wr (am_wr (am_wr (am_wr (am_wr (am_wr (am_wr (am_wr (am_wr (am_wr (am_wr (am_wr M 220 0 0 (M 220 1 0)) 221 0 0 (M 221 1 0)) 222 0 0 (M 222 1 0)) 223 0 0 (M 223 1 0)) 224 0 0 (M 224 1 0)) 225 0 0 (M 225 1 0)) 226 0 0 (M 226 1 0)) 227 0 0 (M 227 1 0)) 228 0 0 (M 228 1 0)) 142 0 0 (M 144 0 0)) 143 0 0 (M 145 0 0)) 142 1 0 (M 144 1 0)) 143 1 0 (M 145 1 0)) 142 2 0 (M 144 2 0)) 143 2 0 (M 145 2 0))) (by omega) (by omega) ?_)))))))
    show R (32, [some (aR 7 0), some (aI 3)], [], am_wr (am_wr (am_wr (am_wr (am_wr (am_wr (am_wr (am_wr (am_wr (am_wr (am_wr (am_wr (am_wr (am_wr (am_wr M 220 0 0 (M 220 1 0)) 221 0 0 (M 221 1 0)) 222 0 0 (M 222 1 0)) 223 0 0 (M 223 1 0)) 224 0 0 (M 224 1 0)) 225 0 0 (M 225 1 0)) 226 0 0 (M 226 1 0)) 227 0 0 (M 227 1 0)) 228 0 0 (M 228 1 0)) 142 0 0 (M 144 0 0)) 143 0 0 (M 145 0 0)) 142 1 0 (M 144 1 0)) 143 1 0 (M 145 1 0)) 142 2 0 (M 144 2 0)) 143 2 0 (M 145 2 0))
    refine hR _ (hR _ (hR _ (?_)))
    show R (37, [some (aR 7 0), some (aI 3)], [aI 3, aR 9 0], am_wr (am_wr (am_wr (am_wr (am_wr (am_wr (am_wr (am_wr (am_wr (am_wr (am_wr (am_wr (am_wr (am_wr (am_wr M 220 0 0 (M 220 1 0)) 221 0 0 (M 221 1 0)) 222 0 0 (M 222 1 0)) 223 0 0 (M 223 1 0)) 224 0 0 (M 224 1 0)) 225 0 0 (M 225 1 0)) 226 0 0 (M 226 1 0)) 227 0 0 (M 227 1 0)) 228 0 0 (M 228 1 0)) 142 0 0 (M 144 0 0)) 143 0 0 (M 145 0 0)) 142 1 0 (M 144 1 0)) 143 1 0 (M 145 1 0)) 142 2 0 (M 144 2 0)) 143 2 0 (M 145 2 0))
    refine hR _ ⟨(show 0 ≤ (3 : Int) ∧ (3 : Int) < 5 from (by omega)), ?_⟩
    show R (38, [some (aR 7 0), some (aI 3)], [aR 1 3], am_wr (am_wr (am_wr (am_wr (am_wr (am_wr (am_wr (am_wr (am_wr (am_wr (am_wr (am_wr (am_wr (am_wr (am_wr M 220 0 0 (M 220 1 0)) 221 0 0 (M 221 1 0)) 222 0 0 (M 222 1 0)) 223 0 0 (M 223 1 0)) 224 0 0 (M 224 1 0)) 225 0 0 (M 225 1 0)) 226 0 0 (M 226 1 0)) 227 0 0 (M 227 1 0)) 228 0 0 (M 228 1 0)) 142 0 0 (M 144 0 0)) 143 0 0 (M 145 0 0)) 142 1 0 (M 144 1 0)) 143 1 0 (M 145 1 0)) 142 2 0 (M 144 2 0)) 143 2 0 (M 145 2 0))
    refine hR _ (sp_Hand_comeBack (by omega) (by omega) ?_)
    show R (41, [some (aR 7 0), some (aI 3)], [], am_wr (am_wr (am_wr (am_wr (am_wr (am_wr (am_wr (am_wr (am_wr (am_wr (am_wr (am_wr (am_wr (am_wr (am_wr (am_wr (am_wr M 220 0 0 (M 220 1 0)) 221 0 0 (M 221 1 0)) 222 0 0 (M 222 1 0)) 223 0 0 (M 223 1 0)) 224 0 0 (M 224 1 0)) 225 0 0 (M 225 1 0)) 226 0 0 (M 226 1 0)) 227 0 0 (M 227 1 0)) 228 0 0 (M 228 1 0)) 142 0 0 (M 144 0 0)) 143 0 0 (M 145 0 0)) 142 1 0 (M 144 1 0)) 143 1 0 (M 145 1 0)) 142 2 0 (M 144 2 0)) 143 2 0 (M 145 2 0)) 142 3 0 (M 144 3 0)) 143 3 0 (M 145 3 0))
    refine hR _ (hR _ (hR _ (hR _ (hR _ (hR _ (hR _ (am_brf (rg := am_in 4 ∧ am_in 5) (P := 5 ≤ 4) (A := R (47, [some (aR 7 0), some (aI 4)], [], am_wr (am_wr (am_wr (am_wr (am_wr (am_wr (am_wr (am_wr (am_wr (am_wr (am_wr (am_wr (am_wr (am_wr (am_wr (am_wr (am_wr M 220 0 0 (M 220 1 0)) 221 0 0 (M 221 1 0)) 222 0 0 (M 222 1 0)) 223 0 0 (M 223 1 0)) 224 0 0 (M 224 1 0)) 225 0 0 (M 225 1 0)) 226 0 0 (M 226 1 0)) 227 0 0 (M 227 1 0)) 228 0 0 (M 228 1 0)) 142 0 0 (M 144 0 0)) 143 0 0 (M 145 0 0)) 142 1 0 (M 144 1 0)) 143 1 0 (M 145 1 0)) 142 2 0 (M 144 2 0)) 143 2 0 (M 145 2 0)) 142 3 0 (M 144 3 0)) 143 3 0 (M 145 3 0))) (B := R (32, [some (aR 7 0), some (aI 4)], [], am_wr (am_wr (am_wr (am_wr (am_wr (am_wr (am_wr (am_wr (am_wr (am_wr (am_wr (am_wr (am_wr (am_wr (am_wr (am_wr (am_wr M 220 0 0 (M 220 1 0)) 221 0 0 (M 221 1 0)) 222 0 0 (M 222 1 0)) 223 0 0 (M 223 1 0)) 224 0 0 (M 224 1 0)) 225 0 0 (M 225 1 0)) 226 0 0 (M 226 1 0)) 227 0 0 (M 227 1 0)) 228 0 0 (M 228 1 0)) 142 0 0 (M 144 0 0)) 143 0 0 (M 145 0 0)) 142 1 0 (M 144 1 0)) 143 1 0 (M 145 1 0)) 142 2 0 (M 144 2 0)) 143 2 0 (M 145 2 0)) 142 3 0 (M 144 3 0)) 143 3 0 (M 145 3 0))) (by omega) (by omega) ?_)))))))
    show R (32, [some (aR 7 0), some (aI 4)], [], am_wr (am_wr (am_wr (am_wr (am_wr (am_wr (am_wr (am_wr (am_wr (am_wr (am_wr (am_wr (am_wr (am_wr (am_wr (am_wr (am_wr M 220 0 0 (M 220 1 0)) 221 0 0 (M 221 1 0)) 222 0 0 (M 222 1 0)) 223 0 0 (M 223 1 0)) 224 0 0 (M 224 1 0)) 225 0 0 (M 225 1 0)) 226 0 0 (M 226 1 0)) 227 0 0 (M 227 1 0)) 228 0 0 (M 228 1 0)) 142 0 0 (M 144 0 0)) 143 0 0 (M 145 0 0)) 142 1 0 (M 144 1 0)) 143 1 0 (M 145 1 0)) 142 2 0 (M 144 2 0)) 143 2 0 (M 145 2 0)) 142 3 0 (M 144 3 0)) 143 3 0 (M 145 3 0))
    refine hR _ (hR _ (hR _ (?_)))
    show R (37, [some (aR 7 0), some (aI 4)], [aI 4, aR 9 0], am_wr (am_wr (am_wr (am_wr (am_wr (am_wr (am_wr (am_wr (am_wr (am_wr (am_wr (am_wr (am_wr (am_wr (am_wr (am_wr (am_wr M 220 0 0 (M 220 1 0)) 221 0 0 (M 221 1 0)) 222 0 0 (M 222 1 0)) 223 0 0 (M 223 1 0)) 224 0 0 (M 224 1 0)) 225 0 0 (M 225 1 0)) 226 0 0 (M 226 1 0)) 227 0 0 (M 227 1 0)) 228 0 0 (M 228 1 0)) 142 0 0 (M 144 0 0)) 143 0 0 (M 145 0 0)) 142 1 0 (M 144 1 0)) 143 1 0 (M 145 1 0)) 142 2 0 (M 144 2 0)) 143 2 0 (M 145 2 0)) 142 3 0 (M 144 3 0)) 143 3 0 (M 145 3 0))
    refine hR _ ⟨(show 0 ≤ (4 : Int) ∧ (4 : Int) < 5 from (by omega)), ?_⟩
    show R (38, [some (aR 7 0), some (aI 4)], [aR 1 4], am_wr (am_wr (am_wr (am_wr (am_wr (am_wr (am_wr (am_wr (am_wr (am_wr (am_wr (am_wr (am_wr (am_wr (am_wr (am_wr (am_wr M 220 0 0 (M 220 1 0)) 221 0 0 (M 221 1 0)) 222 0 0 (M 222 1 0)) 223 0 0 (M 223 1 0)) 224 0 0 (M 224 1 0)) 225 0 0 (M 225 1 0)) 226 0 0 (M 226 1 0)) 227 0 0 (M 227 1 0)) 228 0 0 (M 228 1 0)) 142 0 0 (M 144 0 0)) 143 0 0 (M 145 0 0)) 142 1 0 (M 144 1 0)) 143 1 0 (M 145 1 0)) 142 2 0 (M 144 2 0)) 143 2 0 (M 145 2 0)) 142 3 0 (M 144 3 0)) 143 3 0 (M 145 3 0))
    refine hR _ (sp_Hand_comeBack (by omega) (by omega) ?_)
    show R (41, [some (aR 7 0), some (aI 4)], [], am_wr (am_wr (am_wr (am_wr (am_wr (am_wr (am_wr (am_wr (am_wr (am_wr (am_wr (am_wr (am_wr (am_wr (am_wr (am_wr (am_wr (am_wr (am_wr M 220 0 0 (M 220 1 0)) 221 0 0 (M 221 1 0)) 222 0 0 (M 222 1 0)) 223 0 0 (M 223 1 0)) 224 0 0 (M 224 1 0)) 225 0 0 (M 225 1 0)) 226 0 0 (M 226 1 0)) 227 0 0 (M 227 1 0)) 228 0 0 (M 228 1 0)) 142 0 0 (M 144 0 0)) 143 0 0 (M 145 0 0)) 142 1 0 (M 144 1 0)) 143 1 0 (M 145 1 0)) 142 2 0 (M 144 2 0)) 143 2 0 (M 145 2 0)) 142 3 0 (M 144 3 0)) 143 3 0 (M 145 3 0)) 142 4 0 (M 144 4 0)) 143 4 0 (M 145 4 0))
    refine hR _ (hR _ (hR _ (hR _ (hR _ (hR _ (hR _ (am_brt (rg := am_in 5 ∧ am_in 5) (P := (5 : Int) ≤ 5) (A := R (47, [some (aR 7 0), some (aI 5)], [], am_wr (am_wr (am_wr (am_wr (am_wr (am_wr (am_wr (am_wr (am_wr (am_wr (am_wr (am_wr (am_wr (am_wr (am_wr (am_wr (am_wr (am_wr (am_wr M 220 0 0 (M 220 1 0)) 221 0 0 (M 221 1 0)) 222 0 0 (M 222 1 0)) 223 0 0 (M 223 1 0)) 224 0 0 (M 224 1 0)) 225 0 0 (M 225 1 0)) 226 0 0 (M 226 1 0)) 227 0 0 (M 227 1 0)) 228 0 0 (M 228 1 0)) 142 0 0 (M 144 0 0)) 143 0 0 (M 145 0 0)) 142 1 0 (M 144 1 0)) 143 1 0 (M 145 1 0)) 142 2 0 (M 144 2 0)) 143 2 0 (M 145 2 0)) 142 3 0 (M 144 3 0)) 143 3 0 (M 145 3 0)) 142 4 0 (M 144 4 0)) 143 4 0 (M 145 4 0))) (B := R (32, [some (aR 7 0), some (aI 5)], [], am_wr (am_wr (am_wr (am_wr (am_wr (am_wr (am_wr (am_wr (am_wr (am_wr (am_wr (am_wr (am_wr (am_wr (am_wr (am_wr (am_wr (am_wr (am_wr M 220 0 0 (M 220 1 0)) 221 0 0 (M 221 1 0)) 222 0 0 (M 222 1 0)) 223 0 0 (M 223 1 0)) 224 0 0 (M 224 1 0)) 225 0 0 (M 225 1 0)) 226 0 0 (M 226 1 0)) 227 0 0 (M 227 1 0)) 228 0 0 (M 228 1 0)) 142 0 0 (M 144 0 0)) 143 0 0 (M 145 0 0)) 142 1 0 (M 144 1 0)) 143 1 0 (M 145 1 0)) 142 2 0 (M 144 2 0)) 143 2 0 (M 145 2 0)) 142 3 0 (M 144 3 0)) 143 3 0 (M 145 3 0)) 142 4 0 (M 144 4 0)) 143 4 0 (M 145 4 0))) (by omega) (by omega) ?_)))))))
    show R (47, [some (aR 7 0), some (aI 5)], [], am_wr (am_wr (am_wr (am_wr (am_wr (am_wr (am_wr (am_wr (am_wr (am_wr (am_wr (am_wr (am_wr (am_wr (am_wr (am_wr (am_wr (am_wr (am_wr M 220 0 0 (M 220 1 0)) 221 0 0 (M 221 1 0)) 222 0 0 (M 222 1 0)) 223 0 0 (M 223 1 0)) 224 0 0 (M 224 1 0)) 225 0 0 (M 225 1 0)) 226 0 0 (M 226 1 0)) 227 0 0 (M 227 1 0)) 228 0 0 (M 228 1 0)) 142 0 0 (M 144 0 0)) 143 0 0 (M 145 0 0)) 142 1 0 (M 144 1 0)) 143 1 0 (M 145 1 0)) 142 2 0 (M 144 2 0)) 143 2 0 (M 145 2 0)) 142 3 0 (M 144 3 0)) 143 3 0 (M 145 3 0)) 142 4 0 (M 144 4 0)) 143 4 0 (M 145 4 0))
    refine hR _ (hR _ (hR _ (?_)))
    show R (54, [some (aR 7 0), some (aI 5)], [aI (M 227 1 0)], am_wr (am_wr (am_wr (am_wr (am_wr (am_wr (am_wr (am_wr (am_wr (am_wr (am_wr (am_wr (am_wr (am_wr (am_wr (am_wr (am_wr (am_wr (am_wr M 220 0 0 (M 220 1 0)) 221 0 0 (M 221 1 0)) 222 0 0 (M 222 1 0)) 223 0 0 (M 223 1 0)) 224 0 0 (M 224 1 0)) 225 0 0 (M 225 1 0)) 226 0 0 (M 226 1 0)) 227 0 0 (M 227 1 0)) 228 0 0 (M 228 1 0)) 142 0 0 (M 144 0 0)) 143 0 0 (M 145 0 0)) 142 1 0 (M 144 1 0)) 143 1 0 (M 145 1 0)) 142 2 0 (M 144 2 0)) 143 2 0 (M 145 2 0)) 142 3 0 (M 144 3 0)) 143 3 0 (M 145 3 0)) 142 4 0 (M 144 4 0)) 143 4 0 (M 145 4 0))
    refine hR _ (show K (some (aI (M 227 1 0))) (am_wr (am_wr (am_wr (am_wr (am_wr (am_wr (am_wr (am_wr (am_wr (am_wr (am_wr (am_wr (am_wr (am_wr (am_wr (am_wr (am_wr (am_wr (am_wr M 220 0 0 (M 220 1 0)) 221 0 0 (M 221 1 0)) 222 0 0 (M 222 1 0)) 223 0 0 (M 223 1 0)) 224 0 0 (M 224 1 0)) 225 0 0 (M 225 1 0)) 226 0 0 (M 226 1 0)) 227 0 0 (M 227 1 0)) 228 0 0 (M 228 1 0)) 142 0 0 (M 144 0 0)) 143 0 0 (M 145 0 0)) 142 1 0 (M 144 1 0)) 143 1 0 (M 145 1 0)) 142 2 0 (M 144 2 0)) 143 2 0 (M 145 2 0)) 142 3 0 (M 144 3 0)) 143 3 0 (M 145 3 0)) 142 4 0 (M 144 4 0)) 143 4 0 (M 145 4 0)) from ?_)
    refine am_fin (S := [220, 221, 222, 223, 224, 225, 226, 227, 228, 142, 143]) (F := fun m => (m 220 0 0 = M 220 1 0 ∧ m 220 1 0 = M 220 1 0 ∧ m 221 0 0 = M 221 1 0 ∧ m 221 1 0 = M 221 1 0 ∧ m 222 0 0 = M 222 1 0 ∧ m 222 1 0 = M 222 1 0 ∧ m 223 0 0 = M 223 1 0 ∧ m 223 1 0 = M 223 1 0 ∧ m 224 0 0 = M 224 1 0 ∧ m 224 1 0 = M 224 1 0 ∧ m 225 0 0 = M 225 1 0 ∧ m 225 1 0 = M 225 1 0 ∧ m 226 0 0 = M 226 1 0 ∧ m 226 1 0 = M 226 1 0 ∧ m 227 0 0 = M 227 1 0 ∧ m 227 1 0 = M 227 1 0 ∧ m 228 0 0 = M 228 1 0 ∧ m 228 1 0 = M 228 1 0) ∧ (∀ k : Nat, k < 5 → m 142 k 0 = M 144 k 0 ∧ m 143 k 0 = M 145 k 0) ∧ ∀ k : Nat, 5 ≤ k → m 142 k 0 = M 142 k 0 ∧ m 143 k 0 = M 143 k 0) ((((((((((((((((((((am_ag.rf).wr rfl).wr rfl).wr rfl).wr rfl).wr rfl).wr rfl).wr rfl).wr rfl).wr rfl).wr rfl).wr rfl).wr rfl).wr rfl).wr rfl).wr rfl).wr rfl).wr rfl).wr rfl).wr rfl) ⟨?_, ?_, ?_⟩ (fun g hg => hK1 (by omega) g hg)
    · exact ⟨rfl, rfl, rfl, rfl, rfl, rfl, rfl, rfl, rfl, rfl, rfl, rfl, rfl, rfl, rfl, rfl, rfl, rfl⟩
    · intro k hk
      match k, hk with
      | 0, _ => exact ⟨rfl, rfl⟩
      | 1, _ => exact ⟨rfl, rfl⟩
      | 2, _ => exact ⟨rfl, rfl⟩
      | 3, _ => exact ⟨rfl, rfl⟩
      | 4, _ => exact ⟨rfl, rfl⟩
    · intro k hk
      have hw : ∀ (m : am_M) (v i w : Nat) (x : Int), i < 5 → am_wr m v i 0 x w k 0 = m w k 0 := fun m v i w x hi => am_wr_ne (Or.inr (Or.inl (by omega)))
      refine ⟨?_, ?_⟩
      · exact (hw _ _ 4 142 _ (by omega)).trans ( (hw _ _ 4 142 _ (by omega)).trans ( (hw _ _ 3 142 _ (by omega)).trans ( (hw _ _ 3 142 _ (by omega)).trans ( (hw _ _ 2 142 _ (by omega)).trans ( (hw _ _ 2 142 _ (by omega)).trans ( (hw _ _ 1 142 _ (by omega)).trans ( (hw _ _ 1 142 _ (by omega)).trans ( (hw _ _ 0 142 _ (by omega)).trans ( (hw _ _ 0 142 _ (by omega)).trans ( (hw _ _ 0 142 _ (by omega)).trans ( (hw _ _ 0 142 _ (by omega)).trans ( (hw _ _ 0 142 _ (by omega)).trans ( (hw _ _ 0 142 _ (by omega)).trans ( (hw _ _ 0 142 _ (by omega)).trans ( (hw _ _ 0 142 _ (by omega)).trans ( (hw _ _ 0 142 _ (by omega)).trans ( (hw _ _ 0 142 _ (by omega)).trans (hw _ _ 0 142 _ (by omega)))))))))))))))))))
      · exact (hw _ _ 4 143 _ (by omega)).trans ( (hw _ _ 4 143 _ (by omega)).trans ( (hw _ _ 3 143 _ (by omega)).trans ( (hw _ _ 3 143 _ (by omega)).trans ( (hw _ _ 2 143 _ (by omega)).trans ( (hw _ _ 2 143 _ (by omega)).trans ( (hw _ _ 1 143 _ (by omega)).trans ( (hw _ _ 1 143 _ (by omega)).trans ( (hw _ _ 0 143 _ (by omega)).trans ( (hw _ _ 0 143 _ (by omega)).trans ( (hw _ _ 0 143 _ (by omega)).trans ( (hw _ _ 0 143 _ (by omega)).trans ( (hw _ _ 0 143 _ (by omega)).trans ( (hw _ _ 0 143 _ (by omega)).trans ( (hw _ _ 0 143 _ (by omega)).trans ( (hw _ _ 0 143 _ (by omega)).trans ( (hw _ _ 0 143 _ (by omega)).trans ( (hw _ _ 0 143 _ (by omega)).trans (hw _ _ 0 143 _ (by omega)))))))))))))))))))
  · refine hR _ (?_)
    show R (9, [some (aR 7 0), none], [aI (-3)], M)
    refine hR _ (show K (some (aI (-3))) M from ?_)
    exact hK0 (by omega)
