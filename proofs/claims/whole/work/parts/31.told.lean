/-! wb -/
variable {wb : Bool}
/-! What told slips answer -/
def jf_bh (M : am_M) (s : Nat) : Nat → Int × Int × Int := jf_best (fun i => (i : Int)) (fun i => (jf_pb (jf_px M i) (M 21 s) (M 181 s 0).toNat, 1))
def jf_br (M : am_M) (s k : Nat) : Nat → Int × Int × Int := jf_best (fun i => (i : Int)) (fun i => (jf_pb (jf_xp M k i (M 220 0 0) 0) (M 21 s) (M 181 s 0).toNat, 1))
def jf_lw (M : am_M) (s k : Nat) : Nat → Int
  | 0 => 0
  | t + 1 => if jf_fu (jf_xp M k t (M 220 0 0) 0) (M 21 s) (M 181 s 0).toNat 0 = -1 then am_or (jf_lw M s k t) (1 * 2 ^ ((t : Nat) : Int).toNat) else jf_lw M s k t
theorem jf_lw_1 {M : am_M} {s k t : Nat} (h : jf_fu (jf_xp M k t (M 220 0 0) 0) (M 21 s) (M 181 s 0).toNat 0 = -1) : jf_lw M s k (t + 1) = am_or (jf_lw M s k t) (1 * 2 ^ ((t : Nat) : Int).toNat) := if_pos h
theorem jf_lw_0 {M : am_M} {s k t : Nat} (h : ¬ jf_fu (jf_xp M k t (M 220 0 0) 0) (M 21 s) (M 181 s 0).toNat 0 = -1) : jf_lw M s k (t + 1) = jf_lw M s k t := if_neg h
def jx_judge (M : am_M) (sa h : Int) : Int := if 0 ≤ sa ∧ sa < 4 then (if M 180 sa.toNat 0 = -1 then -11 else if 0 ≤ h ∧ h < M 227 0 0 then jf_fu (jf_px M h.toNat) (M 21 sa.toNat) (M 181 sa.toNat 0).toNat 0 else -5) else -2
def jx_parts (M : am_M) (sa h : Int) : Int := if (0 ≤ sa ∧ sa < 4) ∧ (0 ≤ h ∧ h < M 227 0 0) then (if M 180 sa.toNat 0 = -1 then -4611686018427387904 else jf_pb (jf_px M h.toNat) (M 21 sa.toNat) (M 181 sa.toNat 0).toNat) else -4611686018427387904
def jx_whose (M : am_M) (sa w : Int) : Int := if (0 ≤ sa ∧ sa < 4) ∧ 0 ≤ w ∧ w ≤ 1 then (if M 180 sa.toNat 0 = -1 then -4611686018427387904 else if (jf_bh M sa.toNat (M 227 0 0).toNat).1 = -1 then -1 else if w ≠ 0 then (jf_bh M sa.toNat (M 227 0 0).toNat).2.1 else (jf_bh M sa.toNat (M 227 0 0).toNat).1) else -4611686018427387904
def jx_rule (M : am_M) (sa h w : Int) : Int := if ((0 ≤ sa ∧ sa < 4) ∧ 0 ≤ h ∧ h < M 227 0 0) ∧ 0 ≤ w ∧ w ≤ 1 then (if M 180 sa.toNat 0 = -1 then -4611686018427387904 else if w ≠ 0 then (jf_br M sa.toNat h.toNat (M 386 0 0).toNat).2.1 else (jf_br M sa.toNat h.toNat (M 386 0 0).toNat).1) else -4611686018427387904
def jx_laws (M : am_M) (sa h : Int) : Int := if 0 ≤ sa ∧ sa < 4 then (if M 180 sa.toNat 0 = -1 then -11 else if 0 ≤ h ∧ h < M 227 0 0 then jf_lw M sa.toNat h.toNat (M 386 0 0).toNat else -5) else -2

set_option maxHeartbeats 1000000 in
theorem sq_judge {d : Nat} (hd : 8 ≤ d) {sa h : Int} {M : am_M} {K : am_K} (hJ : jf_J M) (ha_sa : am_in sa) (ha_h : am_in h) (hK : ∀ g, K (some (aI (jx_judge M sa h))) (am_mix [12, 13, 14, 263, 264, 265, 266, 346, 17, 19, 100, 101, 102] g M)) : am_Call wb d 91 [aR 7 0, aI sa, aI h] M K := by
  obtain ⟨d, rfl⟩ : ∃ e, d = e + 1 := ⟨d - 1, by omega⟩
  refine ⟨rfl, fun R hR hC => ?_⟩
  replace hR : ∀ c, am_F wb tb_f91 1 (am_Call wb d) K R c → R c := hR
  have hn := hJ.1.1.2.2.2.2.2.2.2.1
  have hl0 := hJ.1.1.2.2.2.2.2.2.2.2
  have htc := hJ.2.2.1.1
  have hlt : 0 ≤ M 228 0 0 ∧ M 228 0 0 < 6 := by omega
  have hmk := hJ.1.1.1
  have hdr := hJ.1.1.2.1
  have hpr := hJ.1.1.2.2.1
  have hfu := hJ.1.1.2.2.2.1
  show R (0, [some (aR 7 0), some (aI sa), some (aI h), none, none, none], [], M)
  refine hR _ (hR _ (?_))
  show R (2, [some (aR 7 0), some (aI sa), some (aI h), none, none, none], [aI sa, aR 7 0], M)
  refine hR _ (sp_sheetAt (by omega) (by omega) (fun s hhs hs4 => ?_) (fun hns => ?_))
  · have hJs := hJ.2.2.2.1 s hs4
    have hJs1 := hJs.1
    have hJs2 := hJs.2.1
    show R (5, [some (aR 7 0), some (aI sa), some (aI h), none, none, none], [aR 2 s], M)
    refine hR _ (hR _ (hR _ (?_)))
    show R (8, [some (aR 7 0), some (aI sa), some (aI h), some (aR 2 s), none, none], [aI h, aR 7 0], M)
    refine hR _ (sp_handAt (by omega) hn (by omega) (fun k hhk hk5 => ?_) (fun hno => ?_))
    · replace hk5 : (k : Int) < M 227 0 0 := hk5
      have hkw := hJ.wk (k := k) (by omega)
      have hok := hJ.px (k := k) (by omega)
      show R (11, [some (aR 7 0), some (aI sa), some (aI h), some (aR 2 s), none, none], [aR 1 k], M)
      refine hR _ (hR _ (hR _ (?_)))
      show R (16, [some (aR 7 0), some (aI sa), some (aI h), some (aR 2 s), some (aR 1 k), none], [aR 1 k, aR 2 s], M)
      refine hR _ (sp_refused_rr (by omega) (by omega) (show am_in (M 180 s 0) from by omega) (by omega) ?_)
      show R (19, [some (aR 7 0), some (aI sa), some (aI h), some (aR 2 s), some (aR 1 k), none], [aI (if M 180 s 0 = -1 then -11 else 0)], M)
      refine hR _ (hR _ (hR _ (am_brc (rg := am_in (if M 180 s 0 = -1 then -11 else 0)) (P := (if M 180 s 0 = -1 then -11 else 0) ≠ 0) (A := R (35, [some (aR 7 0), some (aI sa), some (aI h), some (aR 2 s), some (aR 1 k), some (aI (if M 180 s 0 = -1 then -11 else 0))], [], M)) (B := R (26, [some (aR 7 0), some (aI sa), some (aI h), some (aR 2 s), some (aR 1 k), some (aI (if M 180 s 0 = -1 then -11 else 0))], [], M)) (by omega) (fun c23 => ?_) (fun c23 => ?_))))
      · refine hR _ (?_)
        show R (37, [some (aR 7 0), some (aI sa), some (aI h), some (aR 2 s), some (aR 1 k), some (aI (if M 180 s 0 = -1 then -11 else 0))], [aI (if M 180 s 0 = -1 then -11 else 0)], M)
        refine hR _ (show K (some (aI (if M 180 s 0 = -1 then -11 else 0))) M from ?_)
        have hres : jx_judge M sa h = (if M 180 s 0 = -1 then -11 else 0) := by
          subst hhs
          subst hhk
          unfold jx_judge
          rw [Int.toNat_natCast]
          repeat' split
          all_goals first | omega | rfl
        rw [hres] at hK
        have e9 : am_ag [12, 13, 14, 263, 264, 265, 266, 346, 17, 19, 100, 101, 102] M M := am_ag.rf
        rw [e9.eq]
        exact hK _
      · refine hR _ (hR _ (hR _ (hR _ (hR _ (hR _ (hR _ (hR _ (?_))))))))
        show R (43, [some (aR 7 0), some (aI sa), some (aI h), some (aR 2 s), some (aR 1 k), some (aI (if M 180 s 0 = -1 then -11 else 0))], [aR 7 0, aR 1 k, aR 2 s, aR 7 0], M)
        refine hR _ (sp_lawText (by omega) hlt ?_)
        show R (46, [some (aR 7 0), some (aI sa), some (aI h), some (aR 2 s), some (aR 1 k), some (aI (if M 180 s 0 = -1 then -11 else 0))], [aR 6 ((M 228 0 0).toNat), aR 1 k, aR 2 s, aR 7 0], M)
        refine hR _ (sp_firstUnlikely (by omega) (by omega) (hJ.2.2.2.1 _ (by omega)) (show jf_wk M k ((M 228 0 0).toNat) from ⟨by omega, by omega, hJ.2.2.1.2 _ (by omega)⟩) (hJ.ok (k := k) (t := (M 228 0 0).toNat) (mk := M 220 0 0) (st := 0) (by omega) (by omega) (by omega)) (fun g89 => ?_))
        have hfu46 := jf_fu_b (jf_xp M k ((M 228 0 0).toNat) (M 220 0 0) 0) (M 21 s) (M 181 s 0).toNat 0
        show R (49, [some (aR 7 0), some (aI sa), some (aI h), some (aR 2 s), some (aR 1 k), some (aI (if M 180 s 0 = -1 then -11 else 0))], [aI (jf_fu (jf_xp M k ((M 228 0 0).toNat) (M 220 0 0) 0) (M 21 s) (M 181 s 0).toNat 0)], am_mix [12, 13, 14, 263, 264, 265, 266, 346, 17, 19] g89 M)
        refine hR _ (show K (some (aI (jf_fu (jf_xp M k ((M 228 0 0).toNat) (M 220 0 0) 0) (M 21 s) (M 181 s 0).toNat 0))) (am_mix [12, 13, 14, 263, 264, 265, 266, 346, 17, 19] g89 M) from ?_)
        have hres : jx_judge M sa h = (jf_fu (jf_xp M k ((M 228 0 0).toNat) (M 220 0 0) 0) (M 21 s) (M 181 s 0).toNat 0) := by
          subst hhs
          subst hhk
          unfold jx_judge
          rw [Int.toNat_natCast]
          repeat' split
          all_goals first | omega | rfl
        rw [hres] at hK
        have e9 : am_ag [12, 13, 14, 263, 264, 265, 266, 346, 17, 19, 100, 101, 102] M (am_mix [12, 13, 14, 263, 264, 265, 266, 346, 17, 19] g89 M) := (am_ag.rf).mix rfl
        rw [e9.eq]
        exact hK _
    · replace hno : ¬ (0 ≤ h ∧ h < M 227 0 0) := hno
      show R (11, [some (aR 7 0), some (aI sa), some (aI h), some (aR 2 s), none, none], [aN], M)
      refine hR _ (hR _ (hR _ (?_)))
      show R (16, [some (aR 7 0), some (aI sa), some (aI h), some (aR 2 s), some (aN), none], [aN, aR 2 s], M)
      refine hR _ (sp_refused_rn (by omega) (by omega) (show am_in (M 180 s 0) from by omega) ?_)
      show R (19, [some (aR 7 0), some (aI sa), some (aI h), some (aR 2 s), some (aN), none], [aI (if M 180 s 0 = -1 then -11 else -5)], M)
      refine hR _ (hR _ (hR _ (am_brc (rg := am_in (if M 180 s 0 = -1 then -11 else -5)) (P := (if M 180 s 0 = -1 then -11 else -5) ≠ 0) (A := R (35, [some (aR 7 0), some (aI sa), some (aI h), some (aR 2 s), some (aN), some (aI (if M 180 s 0 = -1 then -11 else -5))], [], M)) (B := R (26, [some (aR 7 0), some (aI sa), some (aI h), some (aR 2 s), some (aN), some (aI (if M 180 s 0 = -1 then -11 else -5))], [], M)) (by omega) (fun c23 => ?_) (fun c23 => ?_))))
      · refine hR _ (?_)
        show R (37, [some (aR 7 0), some (aI sa), some (aI h), some (aR 2 s), some (aN), some (aI (if M 180 s 0 = -1 then -11 else -5))], [aI (if M 180 s 0 = -1 then -11 else -5)], M)
        refine hR _ (show K (some (aI (if M 180 s 0 = -1 then -11 else -5))) M from ?_)
        have hres : jx_judge M sa h = (if M 180 s 0 = -1 then -11 else -5) := by
          subst hhs
          unfold jx_judge
          rw [Int.toNat_natCast]
          repeat' split
          all_goals first | omega | rfl
        rw [hres] at hK
        have e9 : am_ag [12, 13, 14, 263, 264, 265, 266, 346, 17, 19, 100, 101, 102] M M := am_ag.rf
        rw [e9.eq]
        exact hK _
      · refine hR _ (hR _ (hR _ (hR _ (hR _ (?_)))))
        show R (37, [some (aR 7 0), some (aI sa), some (aI h), some (aR 2 s), some (aN), some (aI (if M 180 s 0 = -1 then -11 else -5))], [aI (if M 180 s 0 = -1 then -11 else -5)], M)
        refine hR _ (show K (some (aI (if M 180 s 0 = -1 then -11 else -5))) M from ?_)
        have hres : jx_judge M sa h = (if M 180 s 0 = -1 then -11 else -5) := by
          subst hhs
          unfold jx_judge
          rw [Int.toNat_natCast]
          repeat' split
          all_goals first | omega | rfl
        rw [hres] at hK
        have e9 : am_ag [12, 13, 14, 263, 264, 265, 266, 346, 17, 19, 100, 101, 102] M M := am_ag.rf
        rw [e9.eq]
        exact hK _
  · show R (5, [some (aR 7 0), some (aI sa), some (aI h), none, none, none], [aN], M)
    refine hR _ (hR _ (hR _ (?_)))
    show R (8, [some (aR 7 0), some (aI sa), some (aI h), some (aN), none, none], [aI h, aR 7 0], M)
    refine hR _ (sp_handAt (by omega) hn (by omega) (fun k hhk hk5 => ?_) (fun hno => ?_))
    · replace hk5 : (k : Int) < M 227 0 0 := hk5
      have hkw := hJ.wk (k := k) (by omega)
      have hok := hJ.px (k := k) (by omega)
      show R (11, [some (aR 7 0), some (aI sa), some (aI h), some (aN), none, none], [aR 1 k], M)
      refine hR _ (hR _ (hR _ (?_)))
      show R (16, [some (aR 7 0), some (aI sa), some (aI h), some (aN), some (aR 1 k), none], [aR 1 k, aN], M)
      refine hR _ (sp_refused_nr (by omega) (by omega) ?_)
      show R (19, [some (aR 7 0), some (aI sa), some (aI h), some (aN), some (aR 1 k), none], [aI (-2)], M)
      refine hR _ (hR _ (hR _ (am_brt (rg := am_in (-2)) (P := ((-2) : Int) ≠ 0) (A := R (35, [some (aR 7 0), some (aI sa), some (aI h), some (aN), some (aR 1 k), some (aI (-2))], [], M)) (B := R (26, [some (aR 7 0), some (aI sa), some (aI h), some (aN), some (aR 1 k), some (aI (-2))], [], M)) (by omega) (by omega) ?_)))
      show R (35, [some (aR 7 0), some (aI sa), some (aI h), some (aN), some (aR 1 k), some (aI (-2))], [], M)
      refine hR _ (?_)
      show R (37, [some (aR 7 0), some (aI sa), some (aI h), some (aN), some (aR 1 k), some (aI (-2))], [aI (-2)], M)
      refine hR _ (show K (some (aI (-2))) M from ?_)
      have hres : jx_judge M sa h = (-2) := by
        subst hhk
        unfold jx_judge
        repeat' split
        all_goals first | omega | rfl
      rw [hres] at hK
      have e9 : am_ag [12, 13, 14, 263, 264, 265, 266, 346, 17, 19, 100, 101, 102] M M := am_ag.rf
      rw [e9.eq]
      exact hK _
    · replace hno : ¬ (0 ≤ h ∧ h < M 227 0 0) := hno
      show R (11, [some (aR 7 0), some (aI sa), some (aI h), some (aN), none, none], [aN], M)
      refine hR _ (hR _ (hR _ (?_)))
      show R (16, [some (aR 7 0), some (aI sa), some (aI h), some (aN), some (aN), none], [aN, aN], M)
      refine hR _ (sp_refused_nn (by omega)  ?_)
      show R (19, [some (aR 7 0), some (aI sa), some (aI h), some (aN), some (aN), none], [aI (-2)], M)
      refine hR _ (hR _ (hR _ (am_brt (rg := am_in (-2)) (P := ((-2) : Int) ≠ 0) (A := R (35, [some (aR 7 0), some (aI sa), some (aI h), some (aN), some (aN), some (aI (-2))], [], M)) (B := R (26, [some (aR 7 0), some (aI sa), some (aI h), some (aN), some (aN), some (aI (-2))], [], M)) (by omega) (by omega) ?_)))
      show R (35, [some (aR 7 0), some (aI sa), some (aI h), some (aN), some (aN), some (aI (-2))], [], M)
      refine hR _ (?_)
      show R (37, [some (aR 7 0), some (aI sa), some (aI h), some (aN), some (aN), some (aI (-2))], [aI (-2)], M)
      refine hR _ (show K (some (aI (-2))) M from ?_)
      have hres : jx_judge M sa h = (-2) := by
        unfold jx_judge
        repeat' split
        all_goals first | omega | rfl
      rw [hres] at hK
      have e9 : am_ag [12, 13, 14, 263, 264, 265, 266, 346, 17, 19, 100, 101, 102] M M := am_ag.rf
      rw [e9.eq]
      exact hK _

set_option maxHeartbeats 1000000 in
theorem sq_parts {d : Nat} (hd : 8 ≤ d) {sa h : Int} {M : am_M} {K : am_K} (hJ : jf_J M) (ha_sa : am_in sa) (ha_h : am_in h) (hK : ∀ g, K (some (aL (jx_parts M sa h))) (am_mix [12, 13, 14, 263, 264, 265, 266, 346, 17, 19, 100, 101, 102] g M)) : am_Call wb d 96 [aR 7 0, aI sa, aI h] M K := by
  obtain ⟨d, rfl⟩ : ∃ e, d = e + 1 := ⟨d - 1, by omega⟩
  refine ⟨rfl, fun R hR hC => ?_⟩
  replace hR : ∀ c, am_F wb tb_f96 5 (am_Call wb d) K R c → R c := hR
  have hn := hJ.1.1.2.2.2.2.2.2.2.1
  have hl0 := hJ.1.1.2.2.2.2.2.2.2.2
  have htc := hJ.2.2.1.1
  have hlt : 0 ≤ M 228 0 0 ∧ M 228 0 0 < 6 := by omega
  have hmk := hJ.1.1.1
  have hdr := hJ.1.1.2.1
  have hpr := hJ.1.1.2.2.1
  have hfu := hJ.1.1.2.2.2.1
  show R (0, [some (aR 7 0), some (aI sa), some (aI h), none, none], [], M)
  refine hR _ (hR _ (?_))
  show R (2, [some (aR 7 0), some (aI sa), some (aI h), none, none], [aI sa, aR 7 0], M)
  refine hR _ (sp_sheetAt (by omega) (by omega) (fun s hhs hs4 => ?_) (fun hns => ?_))
  · have hJs := hJ.2.2.2.1 s hs4
    have hJs1 := hJs.1
    have hJs2 := hJs.2.1
    show R (5, [some (aR 7 0), some (aI sa), some (aI h), none, none], [aR 2 s], M)
    refine hR _ (hR _ (hR _ (?_)))
    show R (8, [some (aR 7 0), some (aI sa), some (aI h), some (aR 2 s), none], [aI h, aR 7 0], M)
    refine hR _ (sp_handAt (by omega) hn (by omega) (fun k hhk hk5 => ?_) (fun hno => ?_))
    · replace hk5 : (k : Int) < M 227 0 0 := hk5
      have hkw := hJ.wk (k := k) (by omega)
      have hok := hJ.px (k := k) (by omega)
      show R (11, [some (aR 7 0), some (aI sa), some (aI h), some (aR 2 s), none], [aR 1 k], M)
      refine hR _ (hR _ (hR _ (hR _ (?_))))
      show R (18, [some (aR 7 0), some (aI sa), some (aI h), some (aR 2 s), some (aR 1 k)], [aR 2 s], M)
      refine hR _ (am_ct (am_vi (by omega : s < 4)) ?_)
      show R (21, [some (aR 7 0), some (aI sa), some (aI h), some (aR 2 s), some (aR 1 k)], [aI (M 180 s 0)], M)
      refine hR _ (hR _ (am_brc (rg := am_in (M 180 s 0) ∧ am_in (-1)) (P := M 180 s 0 = (-1)) (A := R (30, [some (aR 7 0), some (aI sa), some (aI h), some (aR 2 s), some (aR 1 k)], [], M)) (B := R (25, [some (aR 7 0), some (aI sa), some (aI h), some (aR 2 s), some (aR 1 k)], [], M)) (by omega) (fun c22 => ?_) (fun c22 => ?_)))
      · refine hR _ (?_)
        show R (33, [some (aR 7 0), some (aI sa), some (aI h), some (aR 2 s), some (aR 1 k)], [aL (-4611686018427387904)], M)
        refine hR _ (show K (some (aL (-4611686018427387904))) M from ?_)
        have hres : jx_parts M sa h = (-4611686018427387904) := by
          subst hhs
          subst hhk
          unfold jx_parts
          rw [Int.toNat_natCast]
          repeat' split
          all_goals first | omega | rfl
        rw [hres] at hK
        have e9 : am_ag [12, 13, 14, 263, 264, 265, 266, 346, 17, 19, 100, 101, 102] M M := am_ag.rf
        rw [e9.eq]
        exact hK _
      · refine hR _ (hR _ (hR _ (hR _ (hR _ (hR _ (?_))))))
        show R (39, [some (aR 7 0), some (aI sa), some (aI h), some (aR 2 s), some (aR 1 k)], [aR 7 0, aR 1 k, aR 2 s, aR 7 0], M)
        refine hR _ (sp_lawText (by omega) hlt ?_)
        show R (42, [some (aR 7 0), some (aI sa), some (aI h), some (aR 2 s), some (aR 1 k)], [aR 6 ((M 228 0 0).toNat), aR 1 k, aR 2 s, aR 7 0], M)
        refine hR _ (sp_partsBy (by omega) (by omega) (hJ.2.2.2.1 _ (by omega)) (show jf_wk M k ((M 228 0 0).toNat) from ⟨by omega, by omega, hJ.2.2.1.2 _ (by omega)⟩) (hJ.ok (k := k) (t := (M 228 0 0).toNat) (mk := M 220 0 0) (st := 0) (by omega) (by omega) (by omega)) (fun g90 => ?_))
        have hpb42 := jf_pb_b (hJ.ok (k := k) (t := (M 228 0 0).toNat) (mk := M 220 0 0) (st := 0) (by omega) (by omega) (by omega)) (M 21 s) (M 181 s 0).toNat
        show R (45, [some (aR 7 0), some (aI sa), some (aI h), some (aR 2 s), some (aR 1 k)], [aL (jf_pb (jf_xp M k ((M 228 0 0).toNat) (M 220 0 0) 0) (M 21 s) (M 181 s 0).toNat)], am_mix [12, 13, 14, 263, 264, 265, 266, 346, 17, 19] g90 M)
        refine hR _ (show K (some (aL (jf_pb (jf_xp M k ((M 228 0 0).toNat) (M 220 0 0) 0) (M 21 s) (M 181 s 0).toNat))) (am_mix [12, 13, 14, 263, 264, 265, 266, 346, 17, 19] g90 M) from ?_)
        have hres : jx_parts M sa h = (jf_pb (jf_xp M k ((M 228 0 0).toNat) (M 220 0 0) 0) (M 21 s) (M 181 s 0).toNat) := by
          subst hhs
          subst hhk
          unfold jx_parts
          rw [Int.toNat_natCast]
          repeat' split
          all_goals first | omega | rfl
        rw [hres] at hK
        have e9 : am_ag [12, 13, 14, 263, 264, 265, 266, 346, 17, 19, 100, 101, 102] M (am_mix [12, 13, 14, 263, 264, 265, 266, 346, 17, 19] g90 M) := (am_ag.rf).mix rfl
        rw [e9.eq]
        exact hK _
    · replace hno : ¬ (0 ≤ h ∧ h < M 227 0 0) := hno
      show R (11, [some (aR 7 0), some (aI sa), some (aI h), some (aR 2 s), none], [aN], M)
      refine hR _ (hR _ (hR _ (hR _ (?_))))
      show R (18, [some (aR 7 0), some (aI sa), some (aI h), some (aR 2 s), some (aN)], [aR 2 s], M)
      refine hR _ (am_ct (am_vi (by omega : s < 4)) ?_)
      show R (21, [some (aR 7 0), some (aI sa), some (aI h), some (aR 2 s), some (aN)], [aI (M 180 s 0)], M)
      refine hR _ (hR _ (am_brc (rg := am_in (M 180 s 0) ∧ am_in (-1)) (P := M 180 s 0 = (-1)) (A := R (30, [some (aR 7 0), some (aI sa), some (aI h), some (aR 2 s), some (aN)], [], M)) (B := R (25, [some (aR 7 0), some (aI sa), some (aI h), some (aR 2 s), some (aN)], [], M)) (by omega) (fun c22 => ?_) (fun c22 => ?_)))
      · refine hR _ (?_)
        show R (33, [some (aR 7 0), some (aI sa), some (aI h), some (aR 2 s), some (aN)], [aL (-4611686018427387904)], M)
        refine hR _ (show K (some (aL (-4611686018427387904))) M from ?_)
        have hres : jx_parts M sa h = (-4611686018427387904) := by
          subst hhs
          unfold jx_parts
          rw [Int.toNat_natCast]
          repeat' split
          all_goals first | omega | rfl
        rw [hres] at hK
        have e9 : am_ag [12, 13, 14, 263, 264, 265, 266, 346, 17, 19, 100, 101, 102] M M := am_ag.rf
        rw [e9.eq]
        exact hK _
      · refine hR _ (hR _ (hR _ (?_)))
        show R (33, [some (aR 7 0), some (aI sa), some (aI h), some (aR 2 s), some (aN)], [aL (-4611686018427387904)], M)
        refine hR _ (show K (some (aL (-4611686018427387904))) M from ?_)
        have hres : jx_parts M sa h = (-4611686018427387904) := by
          subst hhs
          unfold jx_parts
          rw [Int.toNat_natCast]
          repeat' split
          all_goals first | omega | rfl
        rw [hres] at hK
        have e9 : am_ag [12, 13, 14, 263, 264, 265, 266, 346, 17, 19, 100, 101, 102] M M := am_ag.rf
        rw [e9.eq]
        exact hK _
  · show R (5, [some (aR 7 0), some (aI sa), some (aI h), none, none], [aN], M)
    refine hR _ (hR _ (hR _ (?_)))
    show R (8, [some (aR 7 0), some (aI sa), some (aI h), some (aN), none], [aI h, aR 7 0], M)
    refine hR _ (sp_handAt (by omega) hn (by omega) (fun k hhk hk5 => ?_) (fun hno => ?_))
    · replace hk5 : (k : Int) < M 227 0 0 := hk5
      have hkw := hJ.wk (k := k) (by omega)
      have hok := hJ.px (k := k) (by omega)
      show R (11, [some (aR 7 0), some (aI sa), some (aI h), some (aN), none], [aR 1 k], M)
      refine hR _ (hR _ (hR _ (hR _ (?_))))
      show R (33, [some (aR 7 0), some (aI sa), some (aI h), some (aN), some (aR 1 k)], [aL (-4611686018427387904)], M)
      refine hR _ (show K (some (aL (-4611686018427387904))) M from ?_)
      have hres : jx_parts M sa h = (-4611686018427387904) := by
        subst hhk
        unfold jx_parts
        repeat' split
        all_goals first | omega | rfl
      rw [hres] at hK
      have e9 : am_ag [12, 13, 14, 263, 264, 265, 266, 346, 17, 19, 100, 101, 102] M M := am_ag.rf
      rw [e9.eq]
      exact hK _
    · replace hno : ¬ (0 ≤ h ∧ h < M 227 0 0) := hno
      show R (11, [some (aR 7 0), some (aI sa), some (aI h), some (aN), none], [aN], M)
      refine hR _ (hR _ (hR _ (hR _ (?_))))
      show R (33, [some (aR 7 0), some (aI sa), some (aI h), some (aN), some (aN)], [aL (-4611686018427387904)], M)
      refine hR _ (show K (some (aL (-4611686018427387904))) M from ?_)
      have hres : jx_parts M sa h = (-4611686018427387904) := by
        unfold jx_parts
        repeat' split
        all_goals first | omega | rfl
      rw [hres] at hK
      have e9 : am_ag [12, 13, 14, 263, 264, 265, 266, 346, 17, 19, 100, 101, 102] M M := am_ag.rf
      rw [e9.eq]
      exact hK _

set_option maxHeartbeats 1000000 in
theorem sq_whose {d : Nat} (hd : 8 ≤ d) {sa w : Int} {M : am_M} {K : am_K} (hJ : jf_J M) (ha_sa : am_in sa) (ha_w : am_in w) (hK : ∀ g, K (some (aL (jx_whose M sa w))) (am_mix [12, 13, 14, 263, 264, 265, 266, 346, 17, 19, 100, 101, 102] g M)) : am_Call wb d 99 [aR 7 0, aI sa, aI w] M K := by
  obtain ⟨d, rfl⟩ : ∃ e, d = e + 1 := ⟨d - 1, by omega⟩
  refine ⟨rfl, fun R hR hC => ?_⟩
  replace hR : ∀ c, am_F wb tb_f99 5 (am_Call wb d) K R c → R c := hR
  have hn := hJ.1.1.2.2.2.2.2.2.2.1
  have hl0 := hJ.1.1.2.2.2.2.2.2.2.2
  have htc := hJ.2.2.1.1
  have hlt : 0 ≤ M 228 0 0 ∧ M 228 0 0 < 6 := by omega
  have hmk := hJ.1.1.1
  have hdr := hJ.1.1.2.1
  have hpr := hJ.1.1.2.2.1
  have hfu := hJ.1.1.2.2.2.1
  show R (0, [some (aR 7 0), some (aI sa), some (aI w), none, none], [], M)
  refine hR _ (hR _ (?_))
  show R (2, [some (aR 7 0), some (aI sa), some (aI w), none, none], [aI sa, aR 7 0], M)
  refine hR _ (sp_sheetAt (by omega) (by omega) (fun s hhs hs4 => ?_) (fun hns => ?_))
  · have hJs := hJ.2.2.2.1 s hs4
    have hJs1 := hJs.1
    have hJs2 := hJs.2.1
    show R (5, [some (aR 7 0), some (aI sa), some (aI w), none, none], [aR 2 s], M)
    refine hR _ (hR _ (hR _ (hR _ (?_))))
    show R (11, [some (aR 7 0), some (aI sa), some (aI w), some (aR 2 s), none], [aR 2 s], M)
    refine hR _ (am_ct (am_vi (by omega : s < 4)) ?_)
    show R (14, [some (aR 7 0), some (aI sa), some (aI w), some (aR 2 s), none], [aI (M 180 s 0)], M)
    refine hR _ (hR _ (am_brc (rg := am_in (M 180 s 0) ∧ am_in (-1)) (P := M 180 s 0 = (-1)) (A := R (27, [some (aR 7 0), some (aI sa), some (aI w), some (aR 2 s), none], [], M)) (B := R (18, [some (aR 7 0), some (aI sa), some (aI w), some (aR 2 s), none], [], M)) (by omega) (fun c15 => ?_) (fun c15 => ?_)))
    · refine hR _ (?_)
      show R (30, [some (aR 7 0), some (aI sa), some (aI w), some (aR 2 s), none], [aL (-4611686018427387904)], M)
      refine hR _ (show K (some (aL (-4611686018427387904))) M from ?_)
      have hres : jx_whose M sa w = (-4611686018427387904) := by
        subst hhs
        unfold jx_whose
        rw [Int.toNat_natCast]
        repeat' split
        all_goals first | omega | rfl
      rw [hres] at hK
      have e9 : am_ag [12, 13, 14, 263, 264, 265, 266, 346, 17, 19, 100, 101, 102] M M := am_ag.rf
      rw [e9.eq]
      exact hK _
    · refine hR _ (hR _ (hR _ (?_)))
      show R (21, [some (aR 7 0), some (aI sa), some (aI w), some (aR 2 s), none], [aI 1, aI 0, aI w], M)
      refine hR _ (sp_within (by omega) (by omega) (fun h21 => ?_) (fun h21 => ?_))
      · show R (24, [some (aR 7 0), some (aI sa), some (aI w), some (aR 2 s), none], [aI 1], M)
        refine hR _ (am_brt (rg := am_in 1) (P := (1 : Int) ≠ 0) (A := R (31, [some (aR 7 0), some (aI sa), some (aI w), some (aR 2 s), none], [], M)) (B := R (27, [some (aR 7 0), some (aI sa), some (aI w), some (aR 2 s), none], [], M)) (by omega) (by omega) ?_)
        show R (31, [some (aR 7 0), some (aI sa), some (aI w), some (aR 2 s), none], [], M)
        refine hR _ (hR _ (?_))
        show R (35, [some (aR 7 0), some (aI sa), some (aI w), some (aR 2 s), none], [aR 0 0], M)
        refine hR _ (sp_Best_start (by omega) ?_)
        show R (38, [some (aR 7 0), some (aI sa), some (aI w), some (aR 2 s), none], [], am_wr (am_wr (am_wr M 100 0 0 (-1)) 101 0 0 0) 102 0 0 1)
        refine hR _ (hR _ (?_))
        show R (41, [some (aR 7 0), some (aI sa), some (aI w), some (aR 2 s), some (aI 0)], [], am_wr (am_wr (am_wr M 100 0 0 (-1)) 101 0 0 0) 102 0 0 1)
        have hbnd : ∀ i : Nat, i ≤ (M 227 0 0).toNat → jf_bp (jf_bh M s i) 1000000000 65 6 := jf_best_b (by omega) (by omega) (by omega) (fun i hi => by
          have h1 := jf_pb_b (hJ.px (k := i) (by omega)) (M 21 s) (M 181 s 0).toNat
          dsimp only
          omega)
        have key : ∀ (n k : Nat) (x : Int) (g : am_M), x = (k : Int) → k + n = (M 227 0 0).toNat → (g 100 0 0, g 101 0 0, g 102 0 0) = jf_bh M s k → R (41, [some (aR 7 0), some (aI sa), some (aI w), some (aR 2 s), some (aI x)], [], am_mix [12, 13, 14, 263, 264, 265, 266, 346, 17, 19, 100, 101, 102] g M) := by
          intro n
          induction n with
          | zero =>
            intro k x g hx hin hst
            subst hx
            have hq : k = (M 227 0 0).toNat := by omega
            rw [hq] at hst
            have hs1 : g 100 0 0 = (jf_bh M s (M 227 0 0).toNat).1 := congrArg (fun z => z.1) hst
            have hs2 : g 101 0 0 = (jf_bh M s (M 227 0 0).toNat).2.1 := congrArg (fun z => z.2.1) hst
            have hbd := (hbnd (M 227 0 0).toNat (by omega)).1
            refine hR _ (hR _ (hR _ (hR _ (hR _ (am_brt (rg := am_in ((k : Nat) : Int) ∧ am_in (M 227 0 0)) (P := M 227 0 0 ≤ ((k : Nat) : Int)) (A := R (95, [some (aR 7 0), some (aI sa), some (aI w), some (aR 2 s), some (aI ((k : Nat) : Int))], [], am_mix [12, 13, 14, 263, 264, 265, 266, 346, 17, 19, 100, 101, 102] g M)) (B := R (53, [some (aR 7 0), some (aI sa), some (aI w), some (aR 2 s), some (aI ((k : Nat) : Int))], [], am_mix [12, 13, 14, 263, 264, 265, 266, 346, 17, 19, 100, 101, 102] g M)) (by omega) (by omega) ?_)))))
            show R (95, [some (aR 7 0), some (aI sa), some (aI w), some (aR 2 s), some (aI ((k : Nat) : Int))], [], am_mix [12, 13, 14, 263, 264, 265, 266, 346, 17, 19, 100, 101, 102] g M)
            refine hR _ (hR _ (hR _ (hR _ (hR _ (am_brc (rg := am_in (g 100 0 0) ∧ am_in (-1)) (P := g 100 0 0 ≠ (-1)) (A := R (110, [some (aR 7 0), some (aI sa), some (aI w), some (aR 2 s), some (aI ((k : Nat) : Int))], [], am_mix [12, 13, 14, 263, 264, 265, 266, 346, 17, 19, 100, 101, 102] g M)) (B := R (106, [some (aR 7 0), some (aI sa), some (aI w), some (aR 2 s), some (aI ((k : Nat) : Int))], [], am_mix [12, 13, 14, 263, 264, 265, 266, 346, 17, 19, 100, 101, 102] g M)) (by omega) (fun c103 => ?_) (fun c103 => ?_))))))
            · refine hR _ (hR _ (am_brc (rg := am_in w) (P := w ≠ 0) (A := R (125, [some (aR 7 0), some (aI sa), some (aI w), some (aR 2 s), some (aI ((k : Nat) : Int))], [], am_mix [12, 13, 14, 263, 264, 265, 266, 346, 17, 19, 100, 101, 102] g M)) (B := R (114, [some (aR 7 0), some (aI sa), some (aI w), some (aR 2 s), some (aI ((k : Nat) : Int))], [], am_mix [12, 13, 14, 263, 264, 265, 266, 346, 17, 19, 100, 101, 102] g M)) (by omega) (fun c111 => ?_) (fun c111 => ?_)))
              · refine hR _ (hR _ (hR _ (?_)))
                show R (132, [some (aR 7 0), some (aI sa), some (aI w), some (aR 2 s), some (aI ((k : Nat) : Int))], [aL (g 101 0 0)], am_mix [12, 13, 14, 263, 264, 265, 266, 346, 17, 19, 100, 101, 102] g M)
                refine hR _ (show K (some (aL (g 101 0 0))) (am_mix [12, 13, 14, 263, 264, 265, 266, 346, 17, 19, 100, 101, 102] g M) from ?_)
                have hres : jx_whose M sa w = g 101 0 0 := by
                  subst hhs
                  unfold jx_whose
                  rw [Int.toNat_natCast]
                  skip
                  try rw [hs2]
                  repeat' split
                  all_goals first | omega | rfl
                rw [hres] at hK
                exact hK _
              · refine hR _ (hR _ (hR _ (?_)))
                show R (121, [some (aR 7 0), some (aI sa), some (aI w), some (aR 2 s), some (aI ((k : Nat) : Int))], [aI (g 100 0 0)], am_mix [12, 13, 14, 263, 264, 265, 266, 346, 17, 19, 100, 101, 102] g M)
                refine hR _ ⟨(by omega), ?_⟩
                show R (122, [some (aR 7 0), some (aI sa), some (aI w), some (aR 2 s), some (aI ((k : Nat) : Int))], [aL (g 100 0 0)], am_mix [12, 13, 14, 263, 264, 265, 266, 346, 17, 19, 100, 101, 102] g M)
                refine hR _ (?_)
                show R (132, [some (aR 7 0), some (aI sa), some (aI w), some (aR 2 s), some (aI ((k : Nat) : Int))], [aL (g 100 0 0)], am_mix [12, 13, 14, 263, 264, 265, 266, 346, 17, 19, 100, 101, 102] g M)
                refine hR _ (show K (some (aL (g 100 0 0))) (am_mix [12, 13, 14, 263, 264, 265, 266, 346, 17, 19, 100, 101, 102] g M) from ?_)
                have hres : jx_whose M sa w = g 100 0 0 := by
                  subst hhs
                  unfold jx_whose
                  rw [Int.toNat_natCast]
                  try rw [hs1]
                  skip
                  repeat' split
                  all_goals first | omega | rfl
                rw [hres] at hK
                exact hK _
            · refine hR _ (?_)
              show R (109, [some (aR 7 0), some (aI sa), some (aI w), some (aR 2 s), some (aI ((k : Nat) : Int))], [aL (-1)], am_mix [12, 13, 14, 263, 264, 265, 266, 346, 17, 19, 100, 101, 102] g M)
              refine hR _ (show K (some (aL (-1))) (am_mix [12, 13, 14, 263, 264, 265, 266, 346, 17, 19, 100, 101, 102] g M) from ?_)
              have hres : jx_whose M sa w = (-1) := by
                subst hhs
                unfold jx_whose
                rw [Int.toNat_natCast]
                skip
                skip
                repeat' split
                all_goals first | omega | rfl
              rw [hres] at hK
              exact hK _
          | succ n ih =>
            intro k x g hx hin hst
            subst hx
            have hb := hbnd k (by omega)
            rw [← hst] at hb
            have hb1 : -1 ≤ g 100 0 0 ∧ g 100 0 0 ≤ 6 := hb.1
            have hb2 : -1000000000 ≤ g 101 0 0 ∧ g 101 0 0 ≤ 1000000000 := hb.2.1
            have hb3 : 1 ≤ g 102 0 0 ∧ g 102 0 0 ≤ 65 := hb.2.2
            refine hR _ (hR _ (hR _ (hR _ (hR _ (am_brf (rg := am_in ((k : Nat) : Int) ∧ am_in (M 227 0 0)) (P := M 227 0 0 ≤ ((k : Nat) : Int)) (A := R (95, [some (aR 7 0), some (aI sa), some (aI w), some (aR 2 s), some (aI ((k : Nat) : Int))], [], am_mix [12, 13, 14, 263, 264, 265, 266, 346, 17, 19, 100, 101, 102] g M)) (B := R (53, [some (aR 7 0), some (aI sa), some (aI w), some (aR 2 s), some (aI ((k : Nat) : Int))], [], am_mix [12, 13, 14, 263, 264, 265, 266, 346, 17, 19, 100, 101, 102] g M)) (by omega) (by omega) ?_)))))
            show R (53, [some (aR 7 0), some (aI sa), some (aI w), some (aR 2 s), some (aI ((k : Nat) : Int))], [], am_mix [12, 13, 14, 263, 264, 265, 266, 346, 17, 19, 100, 101, 102] g M)
            refine hR _ (hR _ (hR _ (hR _ (hR _ (am_brf (rg := am_in ((k : Nat) : Int) ∧ am_in 5) (P := 5 ≤ ((k : Nat) : Int)) (A := R (95, [some (aR 7 0), some (aI sa), some (aI w), some (aR 2 s), some (aI ((k : Nat) : Int))], [], am_mix [12, 13, 14, 263, 264, 265, 266, 346, 17, 19, 100, 101, 102] g M)) (B := R (63, [some (aR 7 0), some (aI sa), some (aI w), some (aR 2 s), some (aI ((k : Nat) : Int))], [], am_mix [12, 13, 14, 263, 264, 265, 266, 346, 17, 19, 100, 101, 102] g M)) (by omega) (by omega) ?_)))))
            show R (63, [some (aR 7 0), some (aI sa), some (aI w), some (aR 2 s), some (aI ((k : Nat) : Int))], [], am_mix [12, 13, 14, 263, 264, 265, 266, 346, 17, 19, 100, 101, 102] g M)
            refine hR _ (hR _ (hR _ (hR _ (hR _ (hR _ (hR _ (hR _ (?_))))))))
            show R (77, [some (aR 7 0), some (aI sa), some (aI w), some (aR 2 s), some (aI ((k : Nat) : Int))], [aI ((k : Nat) : Int), aR 9 0, aR 2 s, aR 7 0, aI ((k : Nat) : Int), aR 0 0], am_mix [12, 13, 14, 263, 264, 265, 266, 346, 17, 19, 100, 101, 102] g M)
            refine hR _ ⟨(show 0 ≤ (((k : Nat) : Int) : Int) ∧ (((k : Nat) : Int) : Int) < 5 from (by omega)), ?_⟩
            show R (78, [some (aR 7 0), some (aI sa), some (aI w), some (aR 2 s), some (aI ((k : Nat) : Int))], [aR 1 k, aR 2 s, aR 7 0, aI ((k : Nat) : Int), aR 0 0], am_mix [12, 13, 14, 263, 264, 265, 266, 346, 17, 19, 100, 101, 102] g M)
            refine hR _ (?_)
            show R (79, [some (aR 7 0), some (aI sa), some (aI w), some (aR 2 s), some (aI ((k : Nat) : Int))], [aR 7 0, aR 1 k, aR 2 s, aR 7 0, aI ((k : Nat) : Int), aR 0 0], am_mix [12, 13, 14, 263, 264, 265, 266, 346, 17, 19, 100, 101, 102] g M)
            refine hR _ (sp_lawText (by omega) hlt ?_)
            show R (82, [some (aR 7 0), some (aI sa), some (aI w), some (aR 2 s), some (aI ((k : Nat) : Int))], [aR 6 ((M 228 0 0).toNat), aR 1 k, aR 2 s, aR 7 0, aI ((k : Nat) : Int), aR 0 0], am_mix [12, 13, 14, 263, 264, 265, 266, 346, 17, 19, 100, 101, 102] g M)
            refine hR _ (sp_partsBy (by omega) (by omega) (hJ.2.2.2.1 _ (by omega)) (show jf_wk M k ((M 228 0 0).toNat) from ⟨by omega, by omega, hJ.2.2.1.2 _ (by omega)⟩) (hJ.ok (k := k) (t := (M 228 0 0).toNat) (mk := M 220 0 0) (st := 0) (by omega) (by omega) (by omega)) (fun g91 => ?_))
            have hpb82 := jf_pb_b (hJ.ok (k := k) (t := (M 228 0 0).toNat) (mk := M 220 0 0) (st := 0) (by omega) (by omega) (by omega)) (M 21 s) (M 181 s 0).toNat
            show R (85, [some (aR 7 0), some (aI sa), some (aI w), some (aR 2 s), some (aI ((k : Nat) : Int))], [aL (jf_pb (jf_xp M k ((M 228 0 0).toNat) (M 220 0 0) 0) (M 21 s) (M 181 s 0).toNat), aI ((k : Nat) : Int), aR 0 0], am_mix [12, 13, 14, 263, 264, 265, 266, 346, 17, 19] g91 (am_mix [12, 13, 14, 263, 264, 265, 266, 346, 17, 19, 100, 101, 102] g M))
            refine hR _ (?_)
            show R (86, [some (aR 7 0), some (aI sa), some (aI w), some (aR 2 s), some (aI ((k : Nat) : Int))], [aL 1, aL (jf_pb (jf_xp M k ((M 228 0 0).toNat) (M 220 0 0) 0) (M 21 s) (M 181 s 0).toNat), aI ((k : Nat) : Int), aR 0 0], am_mix [12, 13, 14, 263, 264, 265, 266, 346, 17, 19] g91 (am_mix [12, 13, 14, 263, 264, 265, 266, 346, 17, 19, 100, 101, 102] g M))
            refine hR _ (sp_offer (by omega) (show am_in (g 100 0 0) from by omega) (show -1000000000000000000 ≤ (jf_pb (jf_xp M k ((M 228 0 0).toNat) (M 220 0 0) 0) (M 21 s) (M 181 s 0).toNat) * g 102 0 0 ∧ (jf_pb (jf_xp M k ((M 228 0 0).toNat) (M 220 0 0) 0) (M 21 s) (M 181 s 0).toNat) * g 102 0 0 ≤ 1000000000000000000 from by have hx := jf_mb (a := (jf_pb (jf_xp M k ((M 228 0 0).toNat) (M 220 0 0) 0) (M 21 s) (M 181 s 0).toNat)) (b := g 102 0 0) (A := 1000000000) (B := 65) (by omega) (by omega); omega) (show -1000000000000000000 ≤ g 101 0 0 * 1 ∧ g 101 0 0 * 1 ≤ 1000000000000000000 from by have hx := jf_mb (a := g 101 0 0) (b := 1) (A := 1000000000) (B := 65) (by omega) (by omega); omega) (fun g92 hof => ?_))
            replace hof : (g92 100 0 0, g92 101 0 0, g92 102 0 0) = jf_bst (g 100 0 0, g 101 0 0, g 102 0 0) ((k : Nat) : Int) (jf_pb (jf_xp M k ((M 228 0 0).toNat) (M 220 0 0) 0) (M 21 s) (M 181 s 0).toNat) 1 := hof
            show R (89, [some (aR 7 0), some (aI sa), some (aI w), some (aR 2 s), some (aI ((k : Nat) : Int))], [], am_mix [100, 101, 102] g92 (am_mix [12, 13, 14, 263, 264, 265, 266, 346, 17, 19] g91 (am_mix [12, 13, 14, 263, 264, 265, 266, 346, 17, 19, 100, 101, 102] g M)))
            refine hR _ (hR _ (?_))
            show R (41, [some (aR 7 0), some (aI sa), some (aI w), some (aR 2 s), some (aI (((k : Nat) : Int) + 1))], [], am_mix [100, 101, 102] g92 (am_mix [12, 13, 14, 263, 264, 265, 266, 346, 17, 19] g91 (am_mix [12, 13, 14, 263, 264, 265, 266, 346, 17, 19, 100, 101, 102] g M)))
            have e9 : am_ag [12, 13, 14, 263, 264, 265, 266, 346, 17, 19, 100, 101, 102] M (am_mix [100, 101, 102] g92 (am_mix [12, 13, 14, 263, 264, 265, 266, 346, 17, 19] g91 (am_mix [12, 13, 14, 263, 264, 265, 266, 346, 17, 19, 100, 101, 102] g M))) := (((am_ag.rf).mix rfl).mix rfl).mix rfl
            rw [e9.eq]
            refine ih (k + 1) _ _ rfl (by omega) ?_
            refine hof.trans ?_
            rw [hst]
            rfl
        have e9 : am_ag [12, 13, 14, 263, 264, 265, 266, 346, 17, 19, 100, 101, 102] M (am_wr (am_wr (am_wr M 100 0 0 (-1)) 101 0 0 0) 102 0 0 1) := (((am_ag.rf).wr rfl).wr rfl).wr rfl
        rw [e9.eq]
        exact key (M 227 0 0).toNat 0 _ _ rfl (by omega) rfl
      · show R (24, [some (aR 7 0), some (aI sa), some (aI w), some (aR 2 s), none], [aI 0], M)
        refine hR _ (am_brf (rg := am_in 0) (P := (0 : Int) ≠ 0) (A := R (31, [some (aR 7 0), some (aI sa), some (aI w), some (aR 2 s), none], [], M)) (B := R (27, [some (aR 7 0), some (aI sa), some (aI w), some (aR 2 s), none], [], M)) (by omega) (by omega) ?_)
        show R (27, [some (aR 7 0), some (aI sa), some (aI w), some (aR 2 s), none], [], M)
        refine hR _ (?_)
        show R (30, [some (aR 7 0), some (aI sa), some (aI w), some (aR 2 s), none], [aL (-4611686018427387904)], M)
        refine hR _ (show K (some (aL (-4611686018427387904))) M from ?_)
        have hres : jx_whose M sa w = (-4611686018427387904) := by
          subst hhs
          unfold jx_whose
          rw [Int.toNat_natCast]
          repeat' split
          all_goals first | omega | rfl
        rw [hres] at hK
        have e9 : am_ag [12, 13, 14, 263, 264, 265, 266, 346, 17, 19, 100, 101, 102] M M := am_ag.rf
        rw [e9.eq]
        exact hK _
  · show R (5, [some (aR 7 0), some (aI sa), some (aI w), none, none], [aN], M)
    refine hR _ (hR _ (hR _ (hR _ (?_))))
    show R (30, [some (aR 7 0), some (aI sa), some (aI w), some (aN), none], [aL (-4611686018427387904)], M)
    refine hR _ (show K (some (aL (-4611686018427387904))) M from ?_)
    have hres : jx_whose M sa w = (-4611686018427387904) := by
      unfold jx_whose
      repeat' split
      all_goals first | omega | rfl
    rw [hres] at hK
    have e9 : am_ag [12, 13, 14, 263, 264, 265, 266, 346, 17, 19, 100, 101, 102] M M := am_ag.rf
    rw [e9.eq]
    exact hK _

set_option maxHeartbeats 1000000 in
theorem sq_rule {d : Nat} (hd : 8 ≤ d) {sa h w : Int} {M : am_M} {K : am_K} (hJ : jf_J M) (ha_sa : am_in sa) (ha_h : am_in h) (ha_w : am_in w) (hK : ∀ g, K (some (aL (jx_rule M sa h w))) (am_mix [12, 13, 14, 263, 264, 265, 266, 346, 17, 19, 100, 101, 102] g M)) : am_Call wb d 100 [aR 7 0, aI sa, aI h, aI w] M K := by
  obtain ⟨d, rfl⟩ : ∃ e, d = e + 1 := ⟨d - 1, by omega⟩
  refine ⟨rfl, fun R hR hC => ?_⟩
  replace hR : ∀ c, am_F wb tb_f100 5 (am_Call wb d) K R c → R c := hR
  have hn := hJ.1.1.2.2.2.2.2.2.2.1
  have hl0 := hJ.1.1.2.2.2.2.2.2.2.2
  have htc := hJ.2.2.1.1
  have hlt : 0 ≤ M 228 0 0 ∧ M 228 0 0 < 6 := by omega
  have hmk := hJ.1.1.1
  have hdr := hJ.1.1.2.1
  have hpr := hJ.1.1.2.2.1
  have hfu := hJ.1.1.2.2.2.1
  show R (0, [some (aR 7 0), some (aI sa), some (aI h), some (aI w), none, none, none], [], M)
  refine hR _ (hR _ (?_))
  show R (2, [some (aR 7 0), some (aI sa), some (aI h), some (aI w), none, none, none], [aI sa, aR 7 0], M)
  refine hR _ (sp_sheetAt (by omega) (by omega) (fun s hhs hs4 => ?_) (fun hns => ?_))
  · have hJs := hJ.2.2.2.1 s hs4
    have hJs1 := hJs.1
    have hJs2 := hJs.2.1
    show R (5, [some (aR 7 0), some (aI sa), some (aI h), some (aI w), none, none, none], [aR 2 s], M)
    refine hR _ (hR _ (hR _ (?_)))
    show R (9, [some (aR 7 0), some (aI sa), some (aI h), some (aI w), some (aR 2 s), none, none], [aI h, aR 7 0], M)
    refine hR _ (sp_handAt (by omega) hn (by omega) (fun k hhk hk5 => ?_) (fun hno => ?_))
    · replace hk5 : (k : Int) < M 227 0 0 := hk5
      have hkw := hJ.wk (k := k) (by omega)
      have hok := hJ.px (k := k) (by omega)
      show R (12, [some (aR 7 0), some (aI sa), some (aI h), some (aI w), some (aR 2 s), none, none], [aR 1 k], M)
      refine hR _ (hR _ (hR _ (hR _ (?_))))
      show R (21, [some (aR 7 0), some (aI sa), some (aI h), some (aI w), some (aR 2 s), some (aR 1 k), none], [aR 2 s], M)
      refine hR _ (am_ct (am_vi (by omega : s < 4)) ?_)
      show R (24, [some (aR 7 0), some (aI sa), some (aI h), some (aI w), some (aR 2 s), some (aR 1 k), none], [aI (M 180 s 0)], M)
      refine hR _ (hR _ (am_brc (rg := am_in (M 180 s 0) ∧ am_in (-1)) (P := M 180 s 0 = (-1)) (A := R (42, [some (aR 7 0), some (aI sa), some (aI h), some (aI w), some (aR 2 s), some (aR 1 k), none], [], M)) (B := R (28, [some (aR 7 0), some (aI sa), some (aI h), some (aI w), some (aR 2 s), some (aR 1 k), none], [], M)) (by omega) (fun c25 => ?_) (fun c25 => ?_)))
      · refine hR _ (?_)
        show R (45, [some (aR 7 0), some (aI sa), some (aI h), some (aI w), some (aR 2 s), some (aR 1 k), none], [aL (-4611686018427387904)], M)
        refine hR _ (show K (some (aL (-4611686018427387904))) M from ?_)
        have hres : jx_rule M sa h w = (-4611686018427387904) := by
          subst hhs
          subst hhk
          unfold jx_rule
          rw [Int.toNat_natCast]
          repeat' split
          all_goals first | omega | rfl
        rw [hres] at hK
        have e9 : am_ag [12, 13, 14, 263, 264, 265, 266, 346, 17, 19, 100, 101, 102] M M := am_ag.rf
        rw [e9.eq]
        exact hK _
      · refine hR _ (hR _ (hR _ (hR _ (hR _ (?_)))))
        show R (36, [some (aR 7 0), some (aI sa), some (aI h), some (aI w), some (aR 2 s), some (aR 1 k), none], [aI 1, aI 0, aI w], M)
        refine hR _ (sp_within (by omega) (by omega) (fun h36 => ?_) (fun h36 => ?_))
        · show R (39, [some (aR 7 0), some (aI sa), some (aI h), some (aI w), some (aR 2 s), some (aR 1 k), none], [aI 1], M)
          refine hR _ (am_brt (rg := am_in 1) (P := (1 : Int) ≠ 0) (A := R (46, [some (aR 7 0), some (aI sa), some (aI h), some (aI w), some (aR 2 s), some (aR 1 k), none], [], M)) (B := R (42, [some (aR 7 0), some (aI sa), some (aI h), some (aI w), some (aR 2 s), some (aR 1 k), none], [], M)) (by omega) (by omega) ?_)
          show R (46, [some (aR 7 0), some (aI sa), some (aI h), some (aI w), some (aR 2 s), some (aR 1 k), none], [], M)
          refine hR _ (hR _ (?_))
          show R (50, [some (aR 7 0), some (aI sa), some (aI h), some (aI w), some (aR 2 s), some (aR 1 k), none], [aR 0 0], M)
          refine hR _ (sp_Best_start (by omega) ?_)
          show R (53, [some (aR 7 0), some (aI sa), some (aI h), some (aI w), some (aR 2 s), some (aR 1 k), none], [], am_wr (am_wr (am_wr M 100 0 0 (-1)) 101 0 0 0) 102 0 0 1)
          refine hR _ (hR _ (?_))
          show R (56, [some (aR 7 0), some (aI sa), some (aI h), some (aI w), some (aR 2 s), some (aR 1 k), some (aI 0)], [], am_wr (am_wr (am_wr M 100 0 0 (-1)) 101 0 0 0) 102 0 0 1)
          have hbnd : ∀ i : Nat, i ≤ (M 386 0 0).toNat → jf_bp (jf_br M s k i) 1000000000 65 6 := jf_best_b (by omega) (by omega) (by omega) (fun i hi => by
            have h1 := jf_pb_b (hJ.ok (k := k) (t := i) (mk := M 220 0 0) (st := 0) (by omega) (by omega) (by omega)) (M 21 s) (M 181 s 0).toNat
            dsimp only
            omega)
          have key : ∀ (n t : Nat) (x : Int) (g : am_M), x = (t : Int) → t + n = (M 386 0 0).toNat → (g 100 0 0, g 101 0 0, g 102 0 0) = jf_br M s k t → R (56, [some (aR 7 0), some (aI sa), some (aI h), some (aI w), some (aR 2 s), some (aR 1 k), some (aI x)], [], am_mix [12, 13, 14, 263, 264, 265, 266, 346, 17, 19, 100, 101, 102] g M) := by
            intro n
            induction n with
            | zero =>
              intro t x g hx hin hst
              subst hx
              have hq : t = (M 386 0 0).toNat := by omega
              rw [hq] at hst
              have hs1 : g 100 0 0 = (jf_br M s k (M 386 0 0).toNat).1 := congrArg (fun z => z.1) hst
              have hs2 : g 101 0 0 = (jf_br M s k (M 386 0 0).toNat).2.1 := congrArg (fun z => z.2.1) hst
              have hbd := (hbnd (M 386 0 0).toNat (by omega)).1
              refine hR _ (hR _ (hR _ (hR _ (am_brt (rg := am_in ((t : Nat) : Int) ∧ am_in (M 386 0 0)) (P := M 386 0 0 ≤ ((t : Nat) : Int)) (A := R (106, [some (aR 7 0), some (aI sa), some (aI h), some (aI w), some (aR 2 s), some (aR 1 k), some (aI ((t : Nat) : Int))], [], am_mix [12, 13, 14, 263, 264, 265, 266, 346, 17, 19, 100, 101, 102] g M)) (B := R (65, [some (aR 7 0), some (aI sa), some (aI h), some (aI w), some (aR 2 s), some (aR 1 k), some (aI ((t : Nat) : Int))], [], am_mix [12, 13, 14, 263, 264, 265, 266, 346, 17, 19, 100, 101, 102] g M)) (by omega) (by omega) ?_))))
              show R (106, [some (aR 7 0), some (aI sa), some (aI h), some (aI w), some (aR 2 s), some (aR 1 k), some (aI ((t : Nat) : Int))], [], am_mix [12, 13, 14, 263, 264, 265, 266, 346, 17, 19, 100, 101, 102] g M)
              refine hR _ (hR _ (am_brc (rg := am_in w) (P := w ≠ 0) (A := R (121, [some (aR 7 0), some (aI sa), some (aI h), some (aI w), some (aR 2 s), some (aR 1 k), some (aI ((t : Nat) : Int))], [], am_mix [12, 13, 14, 263, 264, 265, 266, 346, 17, 19, 100, 101, 102] g M)) (B := R (110, [some (aR 7 0), some (aI sa), some (aI h), some (aI w), some (aR 2 s), some (aR 1 k), some (aI ((t : Nat) : Int))], [], am_mix [12, 13, 14, 263, 264, 265, 266, 346, 17, 19, 100, 101, 102] g M)) (by omega) (fun c107 => ?_) (fun c107 => ?_)))
              · refine hR _ (hR _ (hR _ (?_)))
                show R (128, [some (aR 7 0), some (aI sa), some (aI h), some (aI w), some (aR 2 s), some (aR 1 k), some (aI ((t : Nat) : Int))], [aL (g 101 0 0)], am_mix [12, 13, 14, 263, 264, 265, 266, 346, 17, 19, 100, 101, 102] g M)
                refine hR _ (show K (some (aL (g 101 0 0))) (am_mix [12, 13, 14, 263, 264, 265, 266, 346, 17, 19, 100, 101, 102] g M) from ?_)
                have hres : jx_rule M sa h w = g 101 0 0 := by
                  subst hhs
                  subst hhk
                  unfold jx_rule
                  rw [Int.toNat_natCast]
                  rw [Int.toNat_natCast]
                  skip
                  try rw [hs2]
                  repeat' split
                  all_goals first | omega | rfl
                rw [hres] at hK
                exact hK _
              · refine hR _ (hR _ (hR _ (?_)))
                show R (117, [some (aR 7 0), some (aI sa), some (aI h), some (aI w), some (aR 2 s), some (aR 1 k), some (aI ((t : Nat) : Int))], [aI (g 100 0 0)], am_mix [12, 13, 14, 263, 264, 265, 266, 346, 17, 19, 100, 101, 102] g M)
                refine hR _ ⟨(by omega), ?_⟩
                show R (118, [some (aR 7 0), some (aI sa), some (aI h), some (aI w), some (aR 2 s), some (aR 1 k), some (aI ((t : Nat) : Int))], [aL (g 100 0 0)], am_mix [12, 13, 14, 263, 264, 265, 266, 346, 17, 19, 100, 101, 102] g M)
                refine hR _ (?_)
                show R (128, [some (aR 7 0), some (aI sa), some (aI h), some (aI w), some (aR 2 s), some (aR 1 k), some (aI ((t : Nat) : Int))], [aL (g 100 0 0)], am_mix [12, 13, 14, 263, 264, 265, 266, 346, 17, 19, 100, 101, 102] g M)
                refine hR _ (show K (some (aL (g 100 0 0))) (am_mix [12, 13, 14, 263, 264, 265, 266, 346, 17, 19, 100, 101, 102] g M) from ?_)
                have hres : jx_rule M sa h w = g 100 0 0 := by
                  subst hhs
                  subst hhk
                  unfold jx_rule
                  rw [Int.toNat_natCast]
                  rw [Int.toNat_natCast]
                  try rw [hs1]
                  skip
                  repeat' split
                  all_goals first | omega | rfl
                rw [hres] at hK
                exact hK _
            | succ n ih =>
              intro t x g hx hin hst
              subst hx
              have hb := hbnd t (by omega)
              rw [← hst] at hb
              have hb1 : -1 ≤ g 100 0 0 ∧ g 100 0 0 ≤ 6 := hb.1
              have hb2 : -1000000000 ≤ g 101 0 0 ∧ g 101 0 0 ≤ 1000000000 := hb.2.1
              have hb3 : 1 ≤ g 102 0 0 ∧ g 102 0 0 ≤ 65 := hb.2.2
              refine hR _ (hR _ (hR _ (hR _ (am_brf (rg := am_in ((t : Nat) : Int) ∧ am_in (M 386 0 0)) (P := M 386 0 0 ≤ ((t : Nat) : Int)) (A := R (106, [some (aR 7 0), some (aI sa), some (aI h), some (aI w), some (aR 2 s), some (aR 1 k), some (aI ((t : Nat) : Int))], [], am_mix [12, 13, 14, 263, 264, 265, 266, 346, 17, 19, 100, 101, 102] g M)) (B := R (65, [some (aR 7 0), some (aI sa), some (aI h), some (aI w), some (aR 2 s), some (aR 1 k), some (aI ((t : Nat) : Int))], [], am_mix [12, 13, 14, 263, 264, 265, 266, 346, 17, 19, 100, 101, 102] g M)) (by omega) (by omega) ?_))))
              show R (65, [some (aR 7 0), some (aI sa), some (aI h), some (aI w), some (aR 2 s), some (aR 1 k), some (aI ((t : Nat) : Int))], [], am_mix [12, 13, 14, 263, 264, 265, 266, 346, 17, 19, 100, 101, 102] g M)
              refine hR _ (hR _ (hR _ (hR _ (hR _ (am_brf (rg := am_in ((t : Nat) : Int) ∧ am_in 6) (P := 6 ≤ ((t : Nat) : Int)) (A := R (106, [some (aR 7 0), some (aI sa), some (aI h), some (aI w), some (aR 2 s), some (aR 1 k), some (aI ((t : Nat) : Int))], [], am_mix [12, 13, 14, 263, 264, 265, 266, 346, 17, 19, 100, 101, 102] g M)) (B := R (75, [some (aR 7 0), some (aI sa), some (aI h), some (aI w), some (aR 2 s), some (aR 1 k), some (aI ((t : Nat) : Int))], [], am_mix [12, 13, 14, 263, 264, 265, 266, 346, 17, 19, 100, 101, 102] g M)) (by omega) (by omega) ?_)))))
              show R (75, [some (aR 7 0), some (aI sa), some (aI h), some (aI w), some (aR 2 s), some (aR 1 k), some (aI ((t : Nat) : Int))], [], am_mix [12, 13, 14, 263, 264, 265, 266, 346, 17, 19, 100, 101, 102] g M)
              refine hR _ (hR _ (hR _ (hR _ (hR _ (hR _ (hR _ (hR _ (hR _ (?_)))))))))
              show R (92, [some (aR 7 0), some (aI sa), some (aI h), some (aI w), some (aR 2 s), some (aR 1 k), some (aI ((t : Nat) : Int))], [aI ((t : Nat) : Int), aR 10 0, aR 1 k, aR 2 s, aR 7 0, aI ((t : Nat) : Int), aR 0 0], am_mix [12, 13, 14, 263, 264, 265, 266, 346, 17, 19, 100, 101, 102] g M)
              refine hR _ ⟨(show 0 ≤ (((t : Nat) : Int) : Int) ∧ (((t : Nat) : Int) : Int) < 6 from (by omega)), ?_⟩
              show R (93, [some (aR 7 0), some (aI sa), some (aI h), some (aI w), some (aR 2 s), some (aR 1 k), some (aI ((t : Nat) : Int))], [aR 6 t, aR 1 k, aR 2 s, aR 7 0, aI ((t : Nat) : Int), aR 0 0], am_mix [12, 13, 14, 263, 264, 265, 266, 346, 17, 19, 100, 101, 102] g M)
              refine hR _ (sp_partsBy (by omega) (by omega) (hJ.2.2.2.1 _ (by omega)) (show jf_wk M k t from ⟨by omega, by omega, hJ.2.2.1.2 _ (by omega)⟩) (hJ.ok (k := k) (t := t) (mk := M 220 0 0) (st := 0) (by omega) (by omega) (by omega)) (fun g93 => ?_))
              have hpb93 := jf_pb_b (hJ.ok (k := k) (t := t) (mk := M 220 0 0) (st := 0) (by omega) (by omega) (by omega)) (M 21 s) (M 181 s 0).toNat
              show R (96, [some (aR 7 0), some (aI sa), some (aI h), some (aI w), some (aR 2 s), some (aR 1 k), some (aI ((t : Nat) : Int))], [aL (jf_pb (jf_xp M k t (M 220 0 0) 0) (M 21 s) (M 181 s 0).toNat), aI ((t : Nat) : Int), aR 0 0], am_mix [12, 13, 14, 263, 264, 265, 266, 346, 17, 19] g93 (am_mix [12, 13, 14, 263, 264, 265, 266, 346, 17, 19, 100, 101, 102] g M))
              refine hR _ (?_)
              show R (97, [some (aR 7 0), some (aI sa), some (aI h), some (aI w), some (aR 2 s), some (aR 1 k), some (aI ((t : Nat) : Int))], [aL 1, aL (jf_pb (jf_xp M k t (M 220 0 0) 0) (M 21 s) (M 181 s 0).toNat), aI ((t : Nat) : Int), aR 0 0], am_mix [12, 13, 14, 263, 264, 265, 266, 346, 17, 19] g93 (am_mix [12, 13, 14, 263, 264, 265, 266, 346, 17, 19, 100, 101, 102] g M))
              refine hR _ (sp_offer (by omega) (show am_in (g 100 0 0) from by omega) (show -1000000000000000000 ≤ (jf_pb (jf_xp M k t (M 220 0 0) 0) (M 21 s) (M 181 s 0).toNat) * g 102 0 0 ∧ (jf_pb (jf_xp M k t (M 220 0 0) 0) (M 21 s) (M 181 s 0).toNat) * g 102 0 0 ≤ 1000000000000000000 from by have hx := jf_mb (a := (jf_pb (jf_xp M k t (M 220 0 0) 0) (M 21 s) (M 181 s 0).toNat)) (b := g 102 0 0) (A := 1000000000) (B := 65) (by omega) (by omega); omega) (show -1000000000000000000 ≤ g 101 0 0 * 1 ∧ g 101 0 0 * 1 ≤ 1000000000000000000 from by have hx := jf_mb (a := g 101 0 0) (b := 1) (A := 1000000000) (B := 65) (by omega) (by omega); omega) (fun g94 hof => ?_))
              replace hof : (g94 100 0 0, g94 101 0 0, g94 102 0 0) = jf_bst (g 100 0 0, g 101 0 0, g 102 0 0) ((t : Nat) : Int) (jf_pb (jf_xp M k t (M 220 0 0) 0) (M 21 s) (M 181 s 0).toNat) 1 := hof
              show R (100, [some (aR 7 0), some (aI sa), some (aI h), some (aI w), some (aR 2 s), some (aR 1 k), some (aI ((t : Nat) : Int))], [], am_mix [100, 101, 102] g94 (am_mix [12, 13, 14, 263, 264, 265, 266, 346, 17, 19] g93 (am_mix [12, 13, 14, 263, 264, 265, 266, 346, 17, 19, 100, 101, 102] g M)))
              refine hR _ (hR _ (?_))
              show R (56, [some (aR 7 0), some (aI sa), some (aI h), some (aI w), some (aR 2 s), some (aR 1 k), some (aI (((t : Nat) : Int) + 1))], [], am_mix [100, 101, 102] g94 (am_mix [12, 13, 14, 263, 264, 265, 266, 346, 17, 19] g93 (am_mix [12, 13, 14, 263, 264, 265, 266, 346, 17, 19, 100, 101, 102] g M)))
              have e9 : am_ag [12, 13, 14, 263, 264, 265, 266, 346, 17, 19, 100, 101, 102] M (am_mix [100, 101, 102] g94 (am_mix [12, 13, 14, 263, 264, 265, 266, 346, 17, 19] g93 (am_mix [12, 13, 14, 263, 264, 265, 266, 346, 17, 19, 100, 101, 102] g M))) := (((am_ag.rf).mix rfl).mix rfl).mix rfl
              rw [e9.eq]
              refine ih (t + 1) _ _ rfl (by omega) ?_
              refine hof.trans ?_
              rw [hst]
              rfl
          have e9 : am_ag [12, 13, 14, 263, 264, 265, 266, 346, 17, 19, 100, 101, 102] M (am_wr (am_wr (am_wr M 100 0 0 (-1)) 101 0 0 0) 102 0 0 1) := (((am_ag.rf).wr rfl).wr rfl).wr rfl
          rw [e9.eq]
          exact key (M 386 0 0).toNat 0 _ _ rfl (by omega) rfl
        · show R (39, [some (aR 7 0), some (aI sa), some (aI h), some (aI w), some (aR 2 s), some (aR 1 k), none], [aI 0], M)
          refine hR _ (am_brf (rg := am_in 0) (P := (0 : Int) ≠ 0) (A := R (46, [some (aR 7 0), some (aI sa), some (aI h), some (aI w), some (aR 2 s), some (aR 1 k), none], [], M)) (B := R (42, [some (aR 7 0), some (aI sa), some (aI h), some (aI w), some (aR 2 s), some (aR 1 k), none], [], M)) (by omega) (by omega) ?_)
          show R (42, [some (aR 7 0), some (aI sa), some (aI h), some (aI w), some (aR 2 s), some (aR 1 k), none], [], M)
          refine hR _ (?_)
          show R (45, [some (aR 7 0), some (aI sa), some (aI h), some (aI w), some (aR 2 s), some (aR 1 k), none], [aL (-4611686018427387904)], M)
          refine hR _ (show K (some (aL (-4611686018427387904))) M from ?_)
          have hres : jx_rule M sa h w = (-4611686018427387904) := by
            subst hhs
            subst hhk
            unfold jx_rule
            rw [Int.toNat_natCast]
            repeat' split
            all_goals first | omega | rfl
          rw [hres] at hK
          have e9 : am_ag [12, 13, 14, 263, 264, 265, 266, 346, 17, 19, 100, 101, 102] M M := am_ag.rf
          rw [e9.eq]
          exact hK _
    · replace hno : ¬ (0 ≤ h ∧ h < M 227 0 0) := hno
      show R (12, [some (aR 7 0), some (aI sa), some (aI h), some (aI w), some (aR 2 s), none, none], [aN], M)
      refine hR _ (hR _ (hR _ (hR _ (?_))))
      show R (21, [some (aR 7 0), some (aI sa), some (aI h), some (aI w), some (aR 2 s), some (aN), none], [aR 2 s], M)
      refine hR _ (am_ct (am_vi (by omega : s < 4)) ?_)
      show R (24, [some (aR 7 0), some (aI sa), some (aI h), some (aI w), some (aR 2 s), some (aN), none], [aI (M 180 s 0)], M)
      refine hR _ (hR _ (am_brc (rg := am_in (M 180 s 0) ∧ am_in (-1)) (P := M 180 s 0 = (-1)) (A := R (42, [some (aR 7 0), some (aI sa), some (aI h), some (aI w), some (aR 2 s), some (aN), none], [], M)) (B := R (28, [some (aR 7 0), some (aI sa), some (aI h), some (aI w), some (aR 2 s), some (aN), none], [], M)) (by omega) (fun c25 => ?_) (fun c25 => ?_)))
      · refine hR _ (?_)
        show R (45, [some (aR 7 0), some (aI sa), some (aI h), some (aI w), some (aR 2 s), some (aN), none], [aL (-4611686018427387904)], M)
        refine hR _ (show K (some (aL (-4611686018427387904))) M from ?_)
        have hres : jx_rule M sa h w = (-4611686018427387904) := by
          subst hhs
          unfold jx_rule
          rw [Int.toNat_natCast]
          repeat' split
          all_goals first | omega | rfl
        rw [hres] at hK
        have e9 : am_ag [12, 13, 14, 263, 264, 265, 266, 346, 17, 19, 100, 101, 102] M M := am_ag.rf
        rw [e9.eq]
        exact hK _
      · refine hR _ (hR _ (hR _ (?_)))
        show R (45, [some (aR 7 0), some (aI sa), some (aI h), some (aI w), some (aR 2 s), some (aN), none], [aL (-4611686018427387904)], M)
        refine hR _ (show K (some (aL (-4611686018427387904))) M from ?_)
        have hres : jx_rule M sa h w = (-4611686018427387904) := by
          subst hhs
          unfold jx_rule
          rw [Int.toNat_natCast]
          repeat' split
          all_goals first | omega | rfl
        rw [hres] at hK
        have e9 : am_ag [12, 13, 14, 263, 264, 265, 266, 346, 17, 19, 100, 101, 102] M M := am_ag.rf
        rw [e9.eq]
        exact hK _
  · show R (5, [some (aR 7 0), some (aI sa), some (aI h), some (aI w), none, none, none], [aN], M)
    refine hR _ (hR _ (hR _ (?_)))
    show R (9, [some (aR 7 0), some (aI sa), some (aI h), some (aI w), some (aN), none, none], [aI h, aR 7 0], M)
    refine hR _ (sp_handAt (by omega) hn (by omega) (fun k hhk hk5 => ?_) (fun hno => ?_))
    · replace hk5 : (k : Int) < M 227 0 0 := hk5
      have hkw := hJ.wk (k := k) (by omega)
      have hok := hJ.px (k := k) (by omega)
      show R (12, [some (aR 7 0), some (aI sa), some (aI h), some (aI w), some (aN), none, none], [aR 1 k], M)
      refine hR _ (hR _ (hR _ (hR _ (?_))))
      show R (45, [some (aR 7 0), some (aI sa), some (aI h), some (aI w), some (aN), some (aR 1 k), none], [aL (-4611686018427387904)], M)
      refine hR _ (show K (some (aL (-4611686018427387904))) M from ?_)
      have hres : jx_rule M sa h w = (-4611686018427387904) := by
        subst hhk
        unfold jx_rule
        repeat' split
        all_goals first | omega | rfl
      rw [hres] at hK
      have e9 : am_ag [12, 13, 14, 263, 264, 265, 266, 346, 17, 19, 100, 101, 102] M M := am_ag.rf
      rw [e9.eq]
      exact hK _
    · replace hno : ¬ (0 ≤ h ∧ h < M 227 0 0) := hno
      show R (12, [some (aR 7 0), some (aI sa), some (aI h), some (aI w), some (aN), none, none], [aN], M)
      refine hR _ (hR _ (hR _ (hR _ (?_))))
      show R (45, [some (aR 7 0), some (aI sa), some (aI h), some (aI w), some (aN), some (aN), none], [aL (-4611686018427387904)], M)
      refine hR _ (show K (some (aL (-4611686018427387904))) M from ?_)
      have hres : jx_rule M sa h w = (-4611686018427387904) := by
        unfold jx_rule
        repeat' split
        all_goals first | omega | rfl
      rw [hres] at hK
      have e9 : am_ag [12, 13, 14, 263, 264, 265, 266, 346, 17, 19, 100, 101, 102] M M := am_ag.rf
      rw [e9.eq]
      exact hK _

set_option maxHeartbeats 1000000 in
theorem sq_laws {d : Nat} (hd : 8 ≤ d) {sa h : Int} {M : am_M} {K : am_K} (hJ : jf_J M) (ha_sa : am_in sa) (ha_h : am_in h) (hK : ∀ g, K (some (aI (jx_laws M sa h))) (am_mix [12, 13, 14, 263, 264, 265, 266, 346, 17, 19, 100, 101, 102] g M)) : am_Call wb d 101 [aR 7 0, aI sa, aI h] M K := by
  obtain ⟨d, rfl⟩ : ∃ e, d = e + 1 := ⟨d - 1, by omega⟩
  refine ⟨rfl, fun R hR hC => ?_⟩
  replace hR : ∀ c, am_F wb tb_f101 1 (am_Call wb d) K R c → R c := hR
  have hn := hJ.1.1.2.2.2.2.2.2.2.1
  have hl0 := hJ.1.1.2.2.2.2.2.2.2.2
  have htc := hJ.2.2.1.1
  have hlt : 0 ≤ M 228 0 0 ∧ M 228 0 0 < 6 := by omega
  have hmk := hJ.1.1.1
  have hdr := hJ.1.1.2.1
  have hpr := hJ.1.1.2.2.1
  have hfu := hJ.1.1.2.2.2.1
  show R (0, [some (aR 7 0), some (aI sa), some (aI h), none, none, none, none, none], [], M)
  refine hR _ (hR _ (?_))
  show R (2, [some (aR 7 0), some (aI sa), some (aI h), none, none, none, none, none], [aI sa, aR 7 0], M)
  refine hR _ (sp_sheetAt (by omega) (by omega) (fun s hhs hs4 => ?_) (fun hns => ?_))
  · have hJs := hJ.2.2.2.1 s hs4
    have hJs1 := hJs.1
    have hJs2 := hJs.2.1
    show R (5, [some (aR 7 0), some (aI sa), some (aI h), none, none, none, none, none], [aR 2 s], M)
    refine hR _ (hR _ (hR _ (?_)))
    show R (8, [some (aR 7 0), some (aI sa), some (aI h), some (aR 2 s), none, none, none, none], [aI h, aR 7 0], M)
    refine hR _ (sp_handAt (by omega) hn (by omega) (fun k hhk hk5 => ?_) (fun hno => ?_))
    · replace hk5 : (k : Int) < M 227 0 0 := hk5
      have hkw := hJ.wk (k := k) (by omega)
      have hok := hJ.px (k := k) (by omega)
      show R (11, [some (aR 7 0), some (aI sa), some (aI h), some (aR 2 s), none, none, none, none], [aR 1 k], M)
      refine hR _ (hR _ (hR _ (?_)))
      show R (16, [some (aR 7 0), some (aI sa), some (aI h), some (aR 2 s), some (aR 1 k), none, none, none], [aR 1 k, aR 2 s], M)
      refine hR _ (sp_refused_rr (by omega) (by omega) (show am_in (M 180 s 0) from by omega) (by omega) ?_)
      show R (19, [some (aR 7 0), some (aI sa), some (aI h), some (aR 2 s), some (aR 1 k), none, none, none], [aI (if M 180 s 0 = -1 then -11 else 0)], M)
      refine hR _ (hR _ (hR _ (am_brc (rg := am_in (if M 180 s 0 = -1 then -11 else 0)) (P := (if M 180 s 0 = -1 then -11 else 0) ≠ 0) (A := R (35, [some (aR 7 0), some (aI sa), some (aI h), some (aR 2 s), some (aR 1 k), some (aI (if M 180 s 0 = -1 then -11 else 0)), none, none], [], M)) (B := R (26, [some (aR 7 0), some (aI sa), some (aI h), some (aR 2 s), some (aR 1 k), some (aI (if M 180 s 0 = -1 then -11 else 0)), none, none], [], M)) (by omega) (fun c23 => ?_) (fun c23 => ?_))))
      · refine hR _ (?_)
        show R (37, [some (aR 7 0), some (aI sa), some (aI h), some (aR 2 s), some (aR 1 k), some (aI (if M 180 s 0 = -1 then -11 else 0)), none, none], [aI (if M 180 s 0 = -1 then -11 else 0)], M)
        refine hR _ (show K (some (aI (if M 180 s 0 = -1 then -11 else 0))) M from ?_)
        have hres : jx_laws M sa h = (if M 180 s 0 = -1 then -11 else 0) := by
          subst hhs
          subst hhk
          unfold jx_laws
          rw [Int.toNat_natCast]
          repeat' split
          all_goals first | omega | rfl
        rw [hres] at hK
        have e9 : am_ag [12, 13, 14, 263, 264, 265, 266, 346, 17, 19, 100, 101, 102] M M := am_ag.rf
        rw [e9.eq]
        exact hK _
      · refine hR _ (hR _ (hR _ (hR _ (hR _ (hR _ (hR _ (hR _ (?_))))))))
        show R (44, [some (aR 7 0), some (aI sa), some (aI h), some (aR 2 s), some (aR 1 k), some (aI (if M 180 s 0 = -1 then -11 else 0)), some (aI 0), some (aI 0)], [], M)
        have key : ∀ (n t : Nat) (x : Int) (g : am_M), x = (t : Int) → t + n = (M 386 0 0).toNat → R (44, [some (aR 7 0), some (aI sa), some (aI h), some (aR 2 s), some (aR 1 k), some (aI (if M 180 s 0 = -1 then -11 else 0)), some (aI (jf_lw M s k t)), some (aI x)], [], am_mix [12, 13, 14, 263, 264, 265, 266, 346, 17, 19, 100, 101, 102] g M) := by
          intro n
          induction n with
          | zero =>
            intro t x g hx hin
            subst hx
            refine hR _ (hR _ (hR _ (hR _ (am_brt (rg := am_in ((t : Nat) : Int) ∧ am_in (M 386 0 0)) (P := M 386 0 0 ≤ ((t : Nat) : Int)) (A := R (96, [some (aR 7 0), some (aI sa), some (aI h), some (aR 2 s), some (aR 1 k), some (aI (if M 180 s 0 = -1 then -11 else 0)), some (aI (jf_lw M s k t)), some (aI ((t : Nat) : Int))], [], am_mix [12, 13, 14, 263, 264, 265, 266, 346, 17, 19, 100, 101, 102] g M)) (B := R (53, [some (aR 7 0), some (aI sa), some (aI h), some (aR 2 s), some (aR 1 k), some (aI (if M 180 s 0 = -1 then -11 else 0)), some (aI (jf_lw M s k t)), some (aI ((t : Nat) : Int))], [], am_mix [12, 13, 14, 263, 264, 265, 266, 346, 17, 19, 100, 101, 102] g M)) (by omega) (by omega) ?_))))
            show R (96, [some (aR 7 0), some (aI sa), some (aI h), some (aR 2 s), some (aR 1 k), some (aI (if M 180 s 0 = -1 then -11 else 0)), some (aI (jf_lw M s k t)), some (aI ((t : Nat) : Int))], [], am_mix [12, 13, 14, 263, 264, 265, 266, 346, 17, 19, 100, 101, 102] g M)
            refine hR _ (?_)
            show R (98, [some (aR 7 0), some (aI sa), some (aI h), some (aR 2 s), some (aR 1 k), some (aI (if M 180 s 0 = -1 then -11 else 0)), some (aI (jf_lw M s k t)), some (aI ((t : Nat) : Int))], [aI (jf_lw M s k t)], am_mix [12, 13, 14, 263, 264, 265, 266, 346, 17, 19, 100, 101, 102] g M)
            refine hR _ (show K (some (aI (jf_lw M s k t))) (am_mix [12, 13, 14, 263, 264, 265, 266, 346, 17, 19, 100, 101, 102] g M) from ?_)
            have hres : jx_laws M sa h = jf_lw M s k t := by
              subst hhk
              subst hhs
              unfold jx_laws
              rw [Int.toNat_natCast, Int.toNat_natCast, if_pos (by omega), if_neg (by omega), if_pos (by omega), show (M 386 0 0).toNat = t by omega]
            rw [hres] at hK
            exact hK _
          | succ n ih =>
            intro t x g hx hin
            subst hx
            refine hR _ (hR _ (hR _ (hR _ (am_brf (rg := am_in ((t : Nat) : Int) ∧ am_in (M 386 0 0)) (P := M 386 0 0 ≤ ((t : Nat) : Int)) (A := R (96, [some (aR 7 0), some (aI sa), some (aI h), some (aR 2 s), some (aR 1 k), some (aI (if M 180 s 0 = -1 then -11 else 0)), some (aI (jf_lw M s k t)), some (aI ((t : Nat) : Int))], [], am_mix [12, 13, 14, 263, 264, 265, 266, 346, 17, 19, 100, 101, 102] g M)) (B := R (53, [some (aR 7 0), some (aI sa), some (aI h), some (aR 2 s), some (aR 1 k), some (aI (if M 180 s 0 = -1 then -11 else 0)), some (aI (jf_lw M s k t)), some (aI ((t : Nat) : Int))], [], am_mix [12, 13, 14, 263, 264, 265, 266, 346, 17, 19, 100, 101, 102] g M)) (by omega) (by omega) ?_))))
            show R (53, [some (aR 7 0), some (aI sa), some (aI h), some (aR 2 s), some (aR 1 k), some (aI (if M 180 s 0 = -1 then -11 else 0)), some (aI (jf_lw M s k t)), some (aI ((t : Nat) : Int))], [], am_mix [12, 13, 14, 263, 264, 265, 266, 346, 17, 19, 100, 101, 102] g M)
            refine hR _ (hR _ (hR _ (hR _ (hR _ (am_brf (rg := am_in ((t : Nat) : Int) ∧ am_in 6) (P := 6 ≤ ((t : Nat) : Int)) (A := R (96, [some (aR 7 0), some (aI sa), some (aI h), some (aR 2 s), some (aR 1 k), some (aI (if M 180 s 0 = -1 then -11 else 0)), some (aI (jf_lw M s k t)), some (aI ((t : Nat) : Int))], [], am_mix [12, 13, 14, 263, 264, 265, 266, 346, 17, 19, 100, 101, 102] g M)) (B := R (63, [some (aR 7 0), some (aI sa), some (aI h), some (aR 2 s), some (aR 1 k), some (aI (if M 180 s 0 = -1 then -11 else 0)), some (aI (jf_lw M s k t)), some (aI ((t : Nat) : Int))], [], am_mix [12, 13, 14, 263, 264, 265, 266, 346, 17, 19, 100, 101, 102] g M)) (by omega) (by omega) ?_)))))
            show R (63, [some (aR 7 0), some (aI sa), some (aI h), some (aR 2 s), some (aR 1 k), some (aI (if M 180 s 0 = -1 then -11 else 0)), some (aI (jf_lw M s k t)), some (aI ((t : Nat) : Int))], [], am_mix [12, 13, 14, 263, 264, 265, 266, 346, 17, 19, 100, 101, 102] g M)
            refine hR _ (hR _ (hR _ (hR _ (hR _ (hR _ (?_))))))
            show R (73, [some (aR 7 0), some (aI sa), some (aI h), some (aR 2 s), some (aR 1 k), some (aI (if M 180 s 0 = -1 then -11 else 0)), some (aI (jf_lw M s k t)), some (aI ((t : Nat) : Int))], [aI ((t : Nat) : Int), aR 10 0, aR 1 k, aR 2 s, aR 7 0], am_mix [12, 13, 14, 263, 264, 265, 266, 346, 17, 19, 100, 101, 102] g M)
            refine hR _ ⟨(show 0 ≤ (((t : Nat) : Int) : Int) ∧ (((t : Nat) : Int) : Int) < 6 from (by omega)), ?_⟩
            show R (74, [some (aR 7 0), some (aI sa), some (aI h), some (aR 2 s), some (aR 1 k), some (aI (if M 180 s 0 = -1 then -11 else 0)), some (aI (jf_lw M s k t)), some (aI ((t : Nat) : Int))], [aR 6 t, aR 1 k, aR 2 s, aR 7 0], am_mix [12, 13, 14, 263, 264, 265, 266, 346, 17, 19, 100, 101, 102] g M)
            refine hR _ (sp_firstUnlikely (by omega) (by omega) (hJ.2.2.2.1 _ (by omega)) (show jf_wk M k t from ⟨by omega, by omega, hJ.2.2.1.2 _ (by omega)⟩) (hJ.ok (k := k) (t := t) (mk := M 220 0 0) (st := 0) (by omega) (by omega) (by omega)) (fun g95 => ?_))
            have hfu74 := jf_fu_b (jf_xp M k t (M 220 0 0) 0) (M 21 s) (M 181 s 0).toNat 0
            show R (77, [some (aR 7 0), some (aI sa), some (aI h), some (aR 2 s), some (aR 1 k), some (aI (if M 180 s 0 = -1 then -11 else 0)), some (aI (jf_lw M s k t)), some (aI ((t : Nat) : Int))], [aI (jf_fu (jf_xp M k t (M 220 0 0) 0) (M 21 s) (M 181 s 0).toNat 0)], am_mix [12, 13, 14, 263, 264, 265, 266, 346, 17, 19] g95 (am_mix [12, 13, 14, 263, 264, 265, 266, 346, 17, 19, 100, 101, 102] g M))
            refine hR _ (hR _ (am_brc (rg := am_in (jf_fu (jf_xp M k t (M 220 0 0) 0) (M 21 s) (M 181 s 0).toNat 0) ∧ am_in (-1)) (P := (jf_fu (jf_xp M k t (M 220 0 0) 0) (M 21 s) (M 181 s 0).toNat 0) ≠ (-1)) (A := R (90, [some (aR 7 0), some (aI sa), some (aI h), some (aR 2 s), some (aR 1 k), some (aI (if M 180 s 0 = -1 then -11 else 0)), some (aI (jf_lw M s k t)), some (aI ((t : Nat) : Int))], [], am_mix [12, 13, 14, 263, 264, 265, 266, 346, 17, 19] g95 (am_mix [12, 13, 14, 263, 264, 265, 266, 346, 17, 19, 100, 101, 102] g M))) (B := R (81, [some (aR 7 0), some (aI sa), some (aI h), some (aR 2 s), some (aR 1 k), some (aI (if M 180 s 0 = -1 then -11 else 0)), some (aI (jf_lw M s k t)), some (aI ((t : Nat) : Int))], [], am_mix [12, 13, 14, 263, 264, 265, 266, 346, 17, 19] g95 (am_mix [12, 13, 14, 263, 264, 265, 266, 346, 17, 19, 100, 101, 102] g M))) (by omega) (fun c78 => ?_) (fun c78 => ?_)))
            · refine hR _ (hR _ (?_))
              show R (44, [some (aR 7 0), some (aI sa), some (aI h), some (aR 2 s), some (aR 1 k), some (aI (if M 180 s 0 = -1 then -11 else 0)), some (aI (jf_lw M s k t)), some (aI (((t : Nat) : Int) + 1))], [], am_mix [12, 13, 14, 263, 264, 265, 266, 346, 17, 19] g95 (am_mix [12, 13, 14, 263, 264, 265, 266, 346, 17, 19, 100, 101, 102] g M))
              have e9 : am_ag [12, 13, 14, 263, 264, 265, 266, 346, 17, 19, 100, 101, 102] M (am_mix [12, 13, 14, 263, 264, 265, 266, 346, 17, 19] g95 (am_mix [12, 13, 14, 263, 264, 265, 266, 346, 17, 19, 100, 101, 102] g M)) := ((am_ag.rf).mix rfl).mix rfl
              rw [e9.eq]
              have hii := ih (t + 1) _ (am_mix [12, 13, 14, 263, 264, 265, 266, 346, 17, 19] g95 (am_mix [12, 13, 14, 263, 264, 265, 266, 346, 17, 19, 100, 101, 102] g M)) rfl (by omega)
              rw [jf_lw_0 (by omega)] at hii
              exact hii
            · refine hR _ (hR _ (hR _ (?_)))
              show R (86, [some (aR 7 0), some (aI sa), some (aI h), some (aR 2 s), some (aR 1 k), some (aI (if M 180 s 0 = -1 then -11 else 0)), some (aI (jf_lw M s k t)), some (aI ((t : Nat) : Int))], [aI ((t : Nat) : Int), aI 1, aI (jf_lw M s k t)], am_mix [12, 13, 14, 263, 264, 265, 266, 346, 17, 19] g95 (am_mix [12, 13, 14, 263, 264, 265, 266, 346, 17, 19, 100, 101, 102] g M))
              refine hR _ ⟨(by omega), ?_⟩
              show R (87, [some (aR 7 0), some (aI sa), some (aI h), some (aR 2 s), some (aR 1 k), some (aI (if M 180 s 0 = -1 then -11 else 0)), some (aI (jf_lw M s k t)), some (aI ((t : Nat) : Int))], [aI (1 * 2 ^ (((t : Nat) : Int)).toNat), aI (jf_lw M s k t)], am_mix [12, 13, 14, 263, 264, 265, 266, 346, 17, 19] g95 (am_mix [12, 13, 14, 263, 264, 265, 266, 346, 17, 19, 100, 101, 102] g M))
              refine hR _ (hR _ (hR _ (hR _ (?_))))
              show R (44, [some (aR 7 0), some (aI sa), some (aI h), some (aR 2 s), some (aR 1 k), some (aI (if M 180 s 0 = -1 then -11 else 0)), some (aI (am_or (jf_lw M s k t) (1 * 2 ^ (((t : Nat) : Int)).toNat))), some (aI (((t : Nat) : Int) + 1))], [], am_mix [12, 13, 14, 263, 264, 265, 266, 346, 17, 19] g95 (am_mix [12, 13, 14, 263, 264, 265, 266, 346, 17, 19, 100, 101, 102] g M))
              have e9 : am_ag [12, 13, 14, 263, 264, 265, 266, 346, 17, 19, 100, 101, 102] M (am_mix [12, 13, 14, 263, 264, 265, 266, 346, 17, 19] g95 (am_mix [12, 13, 14, 263, 264, 265, 266, 346, 17, 19, 100, 101, 102] g M)) := ((am_ag.rf).mix rfl).mix rfl
              rw [e9.eq]
              have hii := ih (t + 1) _ (am_mix [12, 13, 14, 263, 264, 265, 266, 346, 17, 19] g95 (am_mix [12, 13, 14, 263, 264, 265, 266, 346, 17, 19, 100, 101, 102] g M)) rfl (by omega)
              rw [jf_lw_1 (by omega)] at hii
              exact hii
        have e9 : am_ag [12, 13, 14, 263, 264, 265, 266, 346, 17, 19, 100, 101, 102] M M := am_ag.rf
        rw [e9.eq]
        exact key (M 386 0 0).toNat 0 _ _ rfl (by omega)
    · replace hno : ¬ (0 ≤ h ∧ h < M 227 0 0) := hno
      show R (11, [some (aR 7 0), some (aI sa), some (aI h), some (aR 2 s), none, none, none, none], [aN], M)
      refine hR _ (hR _ (hR _ (?_)))
      show R (16, [some (aR 7 0), some (aI sa), some (aI h), some (aR 2 s), some (aN), none, none, none], [aN, aR 2 s], M)
      refine hR _ (sp_refused_rn (by omega) (by omega) (show am_in (M 180 s 0) from by omega) ?_)
      show R (19, [some (aR 7 0), some (aI sa), some (aI h), some (aR 2 s), some (aN), none, none, none], [aI (if M 180 s 0 = -1 then -11 else -5)], M)
      refine hR _ (hR _ (hR _ (am_brc (rg := am_in (if M 180 s 0 = -1 then -11 else -5)) (P := (if M 180 s 0 = -1 then -11 else -5) ≠ 0) (A := R (35, [some (aR 7 0), some (aI sa), some (aI h), some (aR 2 s), some (aN), some (aI (if M 180 s 0 = -1 then -11 else -5)), none, none], [], M)) (B := R (26, [some (aR 7 0), some (aI sa), some (aI h), some (aR 2 s), some (aN), some (aI (if M 180 s 0 = -1 then -11 else -5)), none, none], [], M)) (by omega) (fun c23 => ?_) (fun c23 => ?_))))
      · refine hR _ (?_)
        show R (37, [some (aR 7 0), some (aI sa), some (aI h), some (aR 2 s), some (aN), some (aI (if M 180 s 0 = -1 then -11 else -5)), none, none], [aI (if M 180 s 0 = -1 then -11 else -5)], M)
        refine hR _ (show K (some (aI (if M 180 s 0 = -1 then -11 else -5))) M from ?_)
        have hres : jx_laws M sa h = (if M 180 s 0 = -1 then -11 else -5) := by
          subst hhs
          unfold jx_laws
          rw [Int.toNat_natCast]
          repeat' split
          all_goals first | omega | rfl
        rw [hres] at hK
        have e9 : am_ag [12, 13, 14, 263, 264, 265, 266, 346, 17, 19, 100, 101, 102] M M := am_ag.rf
        rw [e9.eq]
        exact hK _
      · refine hR _ (hR _ (hR _ (hR _ (hR _ (?_)))))
        show R (37, [some (aR 7 0), some (aI sa), some (aI h), some (aR 2 s), some (aN), some (aI (if M 180 s 0 = -1 then -11 else -5)), none, none], [aI (if M 180 s 0 = -1 then -11 else -5)], M)
        refine hR _ (show K (some (aI (if M 180 s 0 = -1 then -11 else -5))) M from ?_)
        have hres : jx_laws M sa h = (if M 180 s 0 = -1 then -11 else -5) := by
          subst hhs
          unfold jx_laws
          rw [Int.toNat_natCast]
          repeat' split
          all_goals first | omega | rfl
        rw [hres] at hK
        have e9 : am_ag [12, 13, 14, 263, 264, 265, 266, 346, 17, 19, 100, 101, 102] M M := am_ag.rf
        rw [e9.eq]
        exact hK _
  · show R (5, [some (aR 7 0), some (aI sa), some (aI h), none, none, none, none, none], [aN], M)
    refine hR _ (hR _ (hR _ (?_)))
    show R (8, [some (aR 7 0), some (aI sa), some (aI h), some (aN), none, none, none, none], [aI h, aR 7 0], M)
    refine hR _ (sp_handAt (by omega) hn (by omega) (fun k hhk hk5 => ?_) (fun hno => ?_))
    · replace hk5 : (k : Int) < M 227 0 0 := hk5
      have hkw := hJ.wk (k := k) (by omega)
      have hok := hJ.px (k := k) (by omega)
      show R (11, [some (aR 7 0), some (aI sa), some (aI h), some (aN), none, none, none, none], [aR 1 k], M)
      refine hR _ (hR _ (hR _ (?_)))
      show R (16, [some (aR 7 0), some (aI sa), some (aI h), some (aN), some (aR 1 k), none, none, none], [aR 1 k, aN], M)
      refine hR _ (sp_refused_nr (by omega) (by omega) ?_)
      show R (19, [some (aR 7 0), some (aI sa), some (aI h), some (aN), some (aR 1 k), none, none, none], [aI (-2)], M)
      refine hR _ (hR _ (hR _ (am_brt (rg := am_in (-2)) (P := ((-2) : Int) ≠ 0) (A := R (35, [some (aR 7 0), some (aI sa), some (aI h), some (aN), some (aR 1 k), some (aI (-2)), none, none], [], M)) (B := R (26, [some (aR 7 0), some (aI sa), some (aI h), some (aN), some (aR 1 k), some (aI (-2)), none, none], [], M)) (by omega) (by omega) ?_)))
      show R (35, [some (aR 7 0), some (aI sa), some (aI h), some (aN), some (aR 1 k), some (aI (-2)), none, none], [], M)
      refine hR _ (?_)
      show R (37, [some (aR 7 0), some (aI sa), some (aI h), some (aN), some (aR 1 k), some (aI (-2)), none, none], [aI (-2)], M)
      refine hR _ (show K (some (aI (-2))) M from ?_)
      have hres : jx_laws M sa h = (-2) := by
        subst hhk
        unfold jx_laws
        repeat' split
        all_goals first | omega | rfl
      rw [hres] at hK
      have e9 : am_ag [12, 13, 14, 263, 264, 265, 266, 346, 17, 19, 100, 101, 102] M M := am_ag.rf
      rw [e9.eq]
      exact hK _
    · replace hno : ¬ (0 ≤ h ∧ h < M 227 0 0) := hno
      show R (11, [some (aR 7 0), some (aI sa), some (aI h), some (aN), none, none, none, none], [aN], M)
      refine hR _ (hR _ (hR _ (?_)))
      show R (16, [some (aR 7 0), some (aI sa), some (aI h), some (aN), some (aN), none, none, none], [aN, aN], M)
      refine hR _ (sp_refused_nn (by omega)  ?_)
      show R (19, [some (aR 7 0), some (aI sa), some (aI h), some (aN), some (aN), none, none, none], [aI (-2)], M)
      refine hR _ (hR _ (hR _ (am_brt (rg := am_in (-2)) (P := ((-2) : Int) ≠ 0) (A := R (35, [some (aR 7 0), some (aI sa), some (aI h), some (aN), some (aN), some (aI (-2)), none, none], [], M)) (B := R (26, [some (aR 7 0), some (aI sa), some (aI h), some (aN), some (aN), some (aI (-2)), none, none], [], M)) (by omega) (by omega) ?_)))
      show R (35, [some (aR 7 0), some (aI sa), some (aI h), some (aN), some (aN), some (aI (-2)), none, none], [], M)
      refine hR _ (?_)
      show R (37, [some (aR 7 0), some (aI sa), some (aI h), some (aN), some (aN), some (aI (-2)), none, none], [aI (-2)], M)
      refine hR _ (show K (some (aI (-2))) M from ?_)
      have hres : jx_laws M sa h = (-2) := by
        unfold jx_laws
        repeat' split
        all_goals first | omega | rfl
      rw [hres] at hK
      have e9 : am_ag [12, 13, 14, 263, 264, 265, 266, 346, 17, 19, 100, 101, 102] M M := am_ag.rf
      rw [e9.eq]
      exact hK _
