/-! wb -/
/-! THE REFERENCE: rule, laws, fits -/

set_option maxHeartbeats 1000000 in
theorem sm_rule {d : Nat} (hd : 10 ≤ d) {sa h w : Int} {M : am_M} {K : am_K} (hJ : jf_J M) (hW : jf_C M) (ha_sa : am_in sa) (ha_h : am_in h) (ha_w : am_in w) (hK : ∀ g, K (some (aL (jx_rule M sa h w))) (am_mix mo_SM g M)) : am_Call true d 189 [aR 8 0, aI sa, aI h, aI w] M K := by
  obtain ⟨d, rfl⟩ : ∃ e, d = e + 1 := ⟨d - 1, by omega⟩
  refine ⟨rfl, fun R hR hC => ?_⟩
  replace hR : ∀ c, am_F true tb_f189 5 (am_Call true d) K R c → R c := hR
  have hn := hJ.1.1.2.2.2.2.2.2.2.1
  have hl0 := hJ.1.1.2.2.2.2.2.2.2.2
  have htc := hJ.2.2.1.1
  have hlt : 0 ≤ M 228 0 0 ∧ M 228 0 0 < 6 := by omega
  have hmk := hJ.1.1.1
  have hdr := hJ.1.1.2.1
  have hpr := hJ.1.1.2.2.1
  have hfu := hJ.1.1.2.2.2.1
  have hn' : 0 ≤ M 421 0 0 ∧ M 421 0 0 ≤ 5 := by rw [hW.1.2.1.1]; exact hn
  have h421 : M 421 0 0 = M 227 0 0 := hW.1.2.1.1
  show R (0, [some (aR 8 0), some (aI sa), some (aI h), some (aI w), none, none, none, none, none, none, none], [], M)
  have split3 : (∃ s k : Nat, sa = (s : Int) ∧ s < 4 ∧ M 180 s 0 ≠ -1 ∧ h = (k : Int) ∧ (k : Int) < M 227 0 0 ∧ k < 5) ∨ ¬ ((0 ≤ sa ∧ sa < 4) ∧ M 180 sa.toNat 0 ≠ -1 ∧ 0 ≤ h ∧ h < M 227 0 0) := by
    by_cases hh : (0 ≤ sa ∧ sa < 4) ∧ M 180 sa.toNat 0 ≠ -1 ∧ 0 ≤ h ∧ h < M 227 0 0
    · exact Or.inl ⟨sa.toNat, h.toNat, by omega, by omega, hh.2.1, by omega, by omega, by omega⟩
    · exact Or.inr hh
  rcases split3 with ⟨s, k, rfl, hs4, hms, rfl, hk5, hk⟩ | hbad
  · obtain ⟨r, hrr⟩ : ∃ r, r = (M 228 0 0).toNat := ⟨_, rfl⟩
    have hr : M 431 0 0 = (r : Int) := by rw [hW.1.2.1.2.2.1]; omega
    have hr6 : r < 6 := by omega
    have hwt : mo_wt M r := (hW.2.1.2.2 r (by omega)).1
    obtain ⟨p, hpp⟩ : ∃ p, p = jf_px M k := ⟨_, rfl⟩
    have hp : mo_p M k r p := by rw [hpp, hrr]; exact jf_C.p hJ hW hk (by omega)
    have hok : jf_ok p := by rw [hpp]; exact hJ.px hk
    have hpm : p.mk = M 22 0 0 := by rw [hpp]; exact hW.1.1.1.symm
    have hps : p.st = 0 := by rw [hpp]
    have hpb := jf_P_b hok
    have hA := jf_A_b hok
    have hsh := jf_C.sh hJ hW hs4
    show R (0, [some (aR 8 0), some (aI ((s : Nat) : Int)), some (aI ((k : Nat) : Int)), some (aI w), none, none, none, none, none, none, none], [], M)
    refine hR _ (hR _ (hR _ (?_)))
    show R (3, [some (aR 8 0), some (aI ((s : Nat) : Int)), some (aI ((k : Nat) : Int)), some (aI w), none, none, none, none, none, none, none], [aI ((k : Nat) : Int), aI ((s : Nat) : Int), aR 8 0], M)
    refine hR _ (sm_toldWrong (by omega) hJ hW (by omega) (by omega) ?_)
    rw [mo_tw_0 hs4 hms hk5]
    show R (6, [some (aR 8 0), some (aI ((s : Nat) : Int)), some (aI ((k : Nat) : Int)), some (aI w), none, none, none, none, none, none, none], [aI 0], M)
    refine hR _ (am_brf (rg := am_in 0) (P := (0 : Int) ≠ 0) (A := R (18, [some (aR 8 0), some (aI ((s : Nat) : Int)), some (aI ((k : Nat) : Int)), some (aI w), none, none, none, none, none, none, none], [], M)) (B := R (9, [some (aR 8 0), some (aI ((s : Nat) : Int)), some (aI ((k : Nat) : Int)), some (aI w), none, none, none, none, none, none, none], [], M)) (by omega) (by omega) ?_)
    show R (9, [some (aR 8 0), some (aI ((s : Nat) : Int)), some (aI ((k : Nat) : Int)), some (aI w), none, none, none, none, none, none, none], [], M)
    refine hR _ (hR _ (hR _ (?_)))
    show R (12, [some (aR 8 0), some (aI ((s : Nat) : Int)), some (aI ((k : Nat) : Int)), some (aI w), none, none, none, none, none, none, none], [aI 1, aI 0, aI w], M)
    refine hR _ (sp_in (by omega) (by omega) (fun h12 => ?_) (fun h12 => ?_))
    · show R (15, [some (aR 8 0), some (aI ((s : Nat) : Int)), some (aI ((k : Nat) : Int)), some (aI w), none, none, none, none, none, none, none], [aI 1], M)
      refine hR _ (am_brt (rg := am_in 1) (P := (1 : Int) ≠ 0) (A := R (22, [some (aR 8 0), some (aI ((s : Nat) : Int)), some (aI ((k : Nat) : Int)), some (aI w), none, none, none, none, none, none, none], [], M)) (B := R (18, [some (aR 8 0), some (aI ((s : Nat) : Int)), some (aI ((k : Nat) : Int)), some (aI w), none, none, none, none, none, none, none], [], M)) (by omega) (by omega) ?_)
      show R (22, [some (aR 8 0), some (aI ((s : Nat) : Int)), some (aI ((k : Nat) : Int)), some (aI w), none, none, none, none, none, none, none], [], M)
      refine hR _ (hR _ (hR _ (hR _ (hR _ (hR _ (hR _ (hR _ (hR _ (?_)))))))))
      show R (39, [some (aR 8 0), some (aI ((s : Nat) : Int)), some (aI ((k : Nat) : Int)), some (aI w), some (aI (M 431 0 0)), some (aI (-1)), some (aL (-1)), none, some (aI 0), none, none], [], M)
      have key : ∀ (f i : Nat) (x b mo : Int) (o9 o10 : Option am_V) (g : am_M), x = (i : Int) → (i : Int) + f = M 386 0 0 → mo_but 431 0 (am_mix mo_S431 g M) M → b = ((jf_br M s k) i).1 → mo = (if i = 0 then -1 else ((jf_br M s k) i).2.1) → R (39, [some (aR 8 0), some (aI ((s : Nat) : Int)), some (aI ((k : Nat) : Int)), some (aI w), some (aI (M 431 0 0)), some (aI b), some (aL mo), none, some (aI x), o9, o10], [], am_mix mo_S431 g M) := by
        intro f
        induction f with
        | zero =>
          intro i x b mo o9 o10 g hx hin hbut hb hmo
          subst hx
          have hbb : (-1 ≤ ((jf_br M s k) i).1 ∧ ((jf_br M s k) i).1 ≤ ((6 : Nat) : Int)) ∧ -1 ≤ ((jf_br M s k) i).2.1 ∧ ((jf_br M s k) i).2.1 ≤ 1000000000 := mo_bs_b (fun i => jf_pb (jf_xp M k i (M 220 0 0) 0) (M 21 s) (M 181 s 0).toNat) (by decide) (fun q hq => jf_pb_b (hJ.ok hk (by omega) (by omega)) _ _) i (by omega)
          have hbpi : -1 ≤ b ∧ b ≤ ((6 : Nat) : Int) := by rw [hb]; omega
          have hmoi : -1 ≤ mo ∧ mo ≤ 1000000000 := by rw [hmo]; split <;> omega
          refine hR _ (hR _ (hR _ (?_)))
          show R (45, [some (aR 8 0), some (aI ((s : Nat) : Int)), some (aI ((k : Nat) : Int)), some (aI w), some (aI (M 431 0 0)), some (aI b), some (aL mo), none, some (aI ((i : Nat) : Int)), o9, o10], [aI (M 430 0 0), aI ((i : Nat) : Int)], am_mix mo_S431 g M)
          rw [(show M 430 0 0 = M 386 0 0 from hW.1.2.1.2.1)]
          show R (45, [some (aR 8 0), some (aI ((s : Nat) : Int)), some (aI ((k : Nat) : Int)), some (aI w), some (aI (M 431 0 0)), some (aI b), some (aL mo), none, some (aI ((i : Nat) : Int)), o9, o10], [aI (M 386 0 0), aI ((i : Nat) : Int)], am_mix mo_S431 g M)
          refine hR _ (am_brt (rg := am_in ((i : Nat) : Int) ∧ am_in (M 386 0 0)) (P := (M 386 0 0) ≤ ((i : Nat) : Int)) (A := R (102, [some (aR 8 0), some (aI ((s : Nat) : Int)), some (aI ((k : Nat) : Int)), some (aI w), some (aI (M 431 0 0)), some (aI b), some (aL mo), none, some (aI ((i : Nat) : Int)), o9, o10], [], am_mix mo_S431 g M)) (B := R (48, [some (aR 8 0), some (aI ((s : Nat) : Int)), some (aI ((k : Nat) : Int)), some (aI w), some (aI (M 431 0 0)), some (aI b), some (aL mo), none, some (aI ((i : Nat) : Int)), o9, o10], [], am_mix mo_S431 g M)) (by omega) (by omega) ?_)
          show R (102, [some (aR 8 0), some (aI ((s : Nat) : Int)), some (aI ((k : Nat) : Int)), some (aI w), some (aI (M 431 0 0)), some (aI b), some (aL mo), none, some (aI ((i : Nat) : Int)), o9, o10], [], am_mix mo_S431 g M)
          refine hR _ (hR _ (hR _ (hR _ (hR _ (am_brc (rg := am_in w) (P := w ≠ 0) (A := R (118, [some (aR 8 0), some (aI ((s : Nat) : Int)), some (aI ((k : Nat) : Int)), some (aI w), some (aI (M 431 0 0)), some (aI b), some (aL mo), none, some (aI ((i : Nat) : Int)), o9, o10], [], am_wr (am_mix mo_S431 g M) 431 0 0 (M 431 0 0))) (B := R (112, [some (aR 8 0), some (aI ((s : Nat) : Int)), some (aI ((k : Nat) : Int)), some (aI w), some (aI (M 431 0 0)), some (aI b), some (aL mo), none, some (aI ((i : Nat) : Int)), o9, o10], [], am_wr (am_mix mo_S431 g M) 431 0 0 (M 431 0 0))) (by omega) (fun c109 => ?_) (fun c109 => ?_))))))
          · refine hR _ (?_)
            show R (120, [some (aR 8 0), some (aI ((s : Nat) : Int)), some (aI ((k : Nat) : Int)), some (aI w), some (aI (M 431 0 0)), some (aI b), some (aL mo), none, some (aI ((i : Nat) : Int)), o9, o10], [aL mo], am_wr (am_mix mo_S431 g M) 431 0 0 (M 431 0 0))
            refine hR _ (show K (some (aL mo)) (am_wr (am_mix mo_S431 g M) 431 0 0 (M 431 0 0)) from ?_)
            have hi : i = (M 386 0 0).toNat := by omega
            have h0 : ¬ i = 0 := by omega
            rw [if_neg h0] at hmo
            have hres : jx_rule M ((s : Nat) : Int) ((k : Nat) : Int) w = mo := by
              unfold jx_rule
              simp only [Int.toNat_natCast]
              rw [if_pos (by omega), if_neg hms, ← hi]
              first | (rw [if_neg (by omega)]; exact hb.symm) | (rw [if_pos (by omega)]; exact hmo.symm)
            rw [hres] at hK
            have e9 := mo_back (S := mo_SM) (v := 431) (c := 0) (M := M) (m := am_mix mo_S431 g M) (am_ag.rf.mix rfl) hbut
            rw [e9.eq]
            exact hK _
          · refine hR _ (?_)
            show R (114, [some (aR 8 0), some (aI ((s : Nat) : Int)), some (aI ((k : Nat) : Int)), some (aI w), some (aI (M 431 0 0)), some (aI b), some (aL mo), none, some (aI ((i : Nat) : Int)), o9, o10], [aI b], am_wr (am_mix mo_S431 g M) 431 0 0 (M 431 0 0))
            refine hR _ ⟨(by omega), ?_⟩
            show R (115, [some (aR 8 0), some (aI ((s : Nat) : Int)), some (aI ((k : Nat) : Int)), some (aI w), some (aI (M 431 0 0)), some (aI b), some (aL mo), none, some (aI ((i : Nat) : Int)), o9, o10], [aL b], am_wr (am_mix mo_S431 g M) 431 0 0 (M 431 0 0))
            refine hR _ (?_)
            show R (120, [some (aR 8 0), some (aI ((s : Nat) : Int)), some (aI ((k : Nat) : Int)), some (aI w), some (aI (M 431 0 0)), some (aI b), some (aL mo), none, some (aI ((i : Nat) : Int)), o9, o10], [aL b], am_wr (am_mix mo_S431 g M) 431 0 0 (M 431 0 0))
            refine hR _ (show K (some (aL b)) (am_wr (am_mix mo_S431 g M) 431 0 0 (M 431 0 0)) from ?_)
            have hi : i = (M 386 0 0).toNat := by omega
            have h0 : ¬ i = 0 := by omega
            rw [if_neg h0] at hmo
            have hres : jx_rule M ((s : Nat) : Int) ((k : Nat) : Int) w = b := by
              unfold jx_rule
              simp only [Int.toNat_natCast]
              rw [if_pos (by omega), if_neg hms, ← hi]
              first | (rw [if_neg (by omega)]; exact hb.symm) | (rw [if_pos (by omega)]; exact hmo.symm)
            rw [hres] at hK
            have e9 := mo_back (S := mo_SM) (v := 431) (c := 0) (M := M) (m := am_mix mo_S431 g M) (am_ag.rf.mix rfl) hbut
            rw [e9.eq]
            exact hK _
        | succ f ih =>
          intro i x b mo o9 o10 g hx hin hbut hb hmo
          subst hx
          have hbb : (-1 ≤ ((jf_br M s k) i).1 ∧ ((jf_br M s k) i).1 ≤ ((6 : Nat) : Int)) ∧ -1 ≤ ((jf_br M s k) i).2.1 ∧ ((jf_br M s k) i).2.1 ≤ 1000000000 := mo_bs_b (fun i => jf_pb (jf_xp M k i (M 220 0 0) 0) (M 21 s) (M 181 s 0).toNat) (by decide) (fun q hq => jf_pb_b (hJ.ok hk (by omega) (by omega)) _ _) i (by omega)
          have hbpi : -1 ≤ b ∧ b ≤ ((6 : Nat) : Int) := by rw [hb]; omega
          have hmoi : -1 ≤ mo ∧ mo ≤ 1000000000 := by rw [hmo]; split <;> omega
          have hst1 : (jf_br M s k) (i + 1) = if i = 0 ∨ ((jf_br M s k) i).2.1 < jf_pb (jf_xp M k i (M 220 0 0) 0) (M 21 s) (M 181 s 0).toNat then (((i : Nat) : Int), jf_pb (jf_xp M k i (M 220 0 0) 0) (M 21 s) (M 181 s 0).toNat, 1) else (jf_br M s k) i := mo_bs_1 (fun i => jf_pb (jf_xp M k i (M 220 0 0) 0) (M 21 s) (M 181 s 0).toNat) i
          refine hR _ (hR _ (hR _ (?_)))
          show R (45, [some (aR 8 0), some (aI ((s : Nat) : Int)), some (aI ((k : Nat) : Int)), some (aI w), some (aI (M 431 0 0)), some (aI b), some (aL mo), none, some (aI ((i : Nat) : Int)), o9, o10], [aI (M 430 0 0), aI ((i : Nat) : Int)], am_mix mo_S431 g M)
          rw [(show M 430 0 0 = M 386 0 0 from hW.1.2.1.2.1)]
          show R (45, [some (aR 8 0), some (aI ((s : Nat) : Int)), some (aI ((k : Nat) : Int)), some (aI w), some (aI (M 431 0 0)), some (aI b), some (aL mo), none, some (aI ((i : Nat) : Int)), o9, o10], [aI (M 386 0 0), aI ((i : Nat) : Int)], am_mix mo_S431 g M)
          refine hR _ (am_brf (rg := am_in ((i : Nat) : Int) ∧ am_in (M 386 0 0)) (P := (M 386 0 0) ≤ ((i : Nat) : Int)) (A := R (102, [some (aR 8 0), some (aI ((s : Nat) : Int)), some (aI ((k : Nat) : Int)), some (aI w), some (aI (M 431 0 0)), some (aI b), some (aL mo), none, some (aI ((i : Nat) : Int)), o9, o10], [], am_mix mo_S431 g M)) (B := R (48, [some (aR 8 0), some (aI ((s : Nat) : Int)), some (aI ((k : Nat) : Int)), some (aI w), some (aI (M 431 0 0)), some (aI b), some (aL mo), none, some (aI ((i : Nat) : Int)), o9, o10], [], am_mix mo_S431 g M)) (by omega) (by omega) ?_)
          show R (48, [some (aR 8 0), some (aI ((s : Nat) : Int)), some (aI ((k : Nat) : Int)), some (aI w), some (aI (M 431 0 0)), some (aI b), some (aL mo), none, some (aI ((i : Nat) : Int)), o9, o10], [], am_mix mo_S431 g M)
          refine hR _ (hR _ (hR _ (?_)))
          show R (54, [some (aR 8 0), some (aI ((s : Nat) : Int)), some (aI ((k : Nat) : Int)), some (aI w), some (aI (M 431 0 0)), some (aI b), some (aL mo), none, some (aI ((i : Nat) : Int)), o9, o10], [], am_wr (am_mix mo_S431 g M) 431 0 0 ((i : Nat) : Int))
          have hb2 : mo_but 431 0 (am_wr (am_mix mo_S431 g M) 431 0 0 ((i : Nat) : Int)) M := mo_but.wr (g := am_mix mo_S431 g M) hbut
          have hv2 : (am_wr (am_mix mo_S431 g M) 431 0 0 ((i : Nat) : Int)) 431 0 0 = ((i : Nat) : Int) := am_wr_eq
          have e9 : am_ag mo_S431 M (am_wr (am_mix mo_S431 g M) 431 0 0 ((i : Nat) : Int)) := (am_ag.rf.mix rfl).wr rfl
          rw [e9.eq] at hb2 hv2 ⊢
          generalize am_wr (am_mix mo_S431 g M) 431 0 0 ((i : Nat) : Int) = g1 at hb2 hv2 ⊢
          show R (54, [some (aR 8 0), some (aI ((s : Nat) : Int)), some (aI ((k : Nat) : Int)), some (aI w), some (aI (M 431 0 0)), some (aI b), some (aL mo), none, some (aI ((i : Nat) : Int)), o9, o10], [], am_mix mo_S431 g1 M)
          have hi6 : i < 6 := by omega
          have hwti : mo_wt M i := (hW.2.1.2.2 i (by omega)).1
          obtain ⟨p1, hpp1⟩ : ∃ p1, p1 = (jf_xp M k i (M 220 0 0) 0) := ⟨_, rfl⟩
          have hp1 : mo_p M k i p1 := by rw [hpp1]; exact jf_C.p hJ hW hk (by omega)
          have hok1 : jf_ok p1 := by rw [hpp1]; exact hJ.ok hk (by omega) (by omega)
          have hpm1 : p1.mk = M 22 0 0 := by rw [hpp1]; exact hW.1.1.1.symm
          have hps1 : p1.st = 0 := by rw [hpp1]
          refine hR _ (hR _ (hR _ (?_)))
          show R (57, [some (aR 8 0), some (aI ((s : Nat) : Int)), some (aI ((k : Nat) : Int)), some (aI w), some (aI (M 431 0 0)), some (aI b), some (aL mo), none, some (aI ((i : Nat) : Int)), o9, o10], [aI ((k : Nat) : Int), aI ((s : Nat) : Int), aR 8 0], am_mix mo_S431 g1 M)
          refine hR _ (sm_partsOf (p := p1) (r := i) (s := s) (c := M 21 s) (n := (M 181 s 0).toNat) (by omega) hsh hk hv2 hi6 hwti hp1 hok1 hpm1 hps1 (fun g181 => ?_))
          have hpbb := jf_pb_b hok1 (M 21 s) (M 181 s 0).toNat
          show R (60, [some (aR 8 0), some (aI ((s : Nat) : Int)), some (aI ((k : Nat) : Int)), some (aI w), some (aI (M 431 0 0)), some (aI b), some (aL mo), none, some (aI ((i : Nat) : Int)), o9, o10], [aL (jf_pb p1 (M 21 s) (M 181 s 0).toNat)], am_mix mo_SM g181 (am_mix mo_S431 g1 M))
          refine hR _ (hR _ (hR _ (?_)))
          show R (66, [some (aR 8 0), some (aI ((s : Nat) : Int)), some (aI ((k : Nat) : Int)), some (aI w), some (aI (M 431 0 0)), some (aI b), some (aL mo), none, some (aI ((i : Nat) : Int)), some (aL (jf_pb p1 (M 21 s) (M 181 s 0).toNat)), none], [aL mo, aL (jf_pb p1 (M 21 s) (M 181 s 0).toNat)], am_mix mo_SM g181 (am_mix mo_S431 g1 M))
          refine am_lc (x := (jf_pb p1 (M 21 s) (M 181 s 0).toNat)) (y := mo) (P := (jf_pb p1 (M 21 s) (M 181 s 0).toNat) ≤ mo) (A := R (75, [some (aR 8 0), some (aI ((s : Nat) : Int)), some (aI ((k : Nat) : Int)), some (aI w), some (aI (M 431 0 0)), some (aI b), some (aL mo), none, some (aI ((i : Nat) : Int)), some (aL (jf_pb p1 (M 21 s) (M 181 s 0).toNat)), none], [], am_mix mo_SM g181 (am_mix mo_S431 g1 M))) (B := R (70, [some (aR 8 0), some (aI ((s : Nat) : Int)), some (aI ((k : Nat) : Int)), some (aI w), some (aI (M 431 0 0)), some (aI b), some (aL mo), none, some (aI ((i : Nat) : Int)), some (aL (jf_pb p1 (M 21 s) (M 181 s 0).toNat)), none], [], am_mix mo_SM g181 (am_mix mo_S431 g1 M))) (by omega) (fun hA hB => hR _ ⟨(by omega), (fun hz => hR _ (am_brt (P := (-1 : Int) ≤ 0) (A := R (75, [some (aR 8 0), some (aI ((s : Nat) : Int)), some (aI ((k : Nat) : Int)), some (aI w), some (aI (M 431 0 0)), some (aI b), some (aL mo), none, some (aI ((i : Nat) : Int)), some (aL (jf_pb p1 (M 21 s) (M 181 s 0).toNat)), none], [], am_mix mo_SM g181 (am_mix mo_S431 g1 M))) (B := R (70, [some (aR 8 0), some (aI ((s : Nat) : Int)), some (aI ((k : Nat) : Int)), some (aI w), some (aI (M 431 0 0)), some (aI b), some (aL mo), none, some (aI ((i : Nat) : Int)), some (aL (jf_pb p1 (M 21 s) (M 181 s 0).toNat)), none], [], am_mix mo_SM g181 (am_mix mo_S431 g1 M))) (by omega) (by omega) (hA (by omega)))), (fun hz => hR _ (am_brt (P := (0 : Int) ≤ 0) (A := R (75, [some (aR 8 0), some (aI ((s : Nat) : Int)), some (aI ((k : Nat) : Int)), some (aI w), some (aI (M 431 0 0)), some (aI b), some (aL mo), none, some (aI ((i : Nat) : Int)), some (aL (jf_pb p1 (M 21 s) (M 181 s 0).toNat)), none], [], am_mix mo_SM g181 (am_mix mo_S431 g1 M))) (B := R (70, [some (aR 8 0), some (aI ((s : Nat) : Int)), some (aI ((k : Nat) : Int)), some (aI w), some (aI (M 431 0 0)), some (aI b), some (aL mo), none, some (aI ((i : Nat) : Int)), some (aL (jf_pb p1 (M 21 s) (M 181 s 0).toNat)), none], [], am_mix mo_SM g181 (am_mix mo_S431 g1 M))) (by omega) (by omega) (hA (by omega)))), (fun hz => hR _ (am_brf (P := (1 : Int) ≤ 0) (A := R (75, [some (aR 8 0), some (aI ((s : Nat) : Int)), some (aI ((k : Nat) : Int)), some (aI w), some (aI (M 431 0 0)), some (aI b), some (aL mo), none, some (aI ((i : Nat) : Int)), some (aL (jf_pb p1 (M 21 s) (M 181 s 0).toNat)), none], [], am_mix mo_SM g181 (am_mix mo_S431 g1 M))) (B := R (70, [some (aR 8 0), some (aI ((s : Nat) : Int)), some (aI ((k : Nat) : Int)), some (aI w), some (aI (M 431 0 0)), some (aI b), some (aL mo), none, some (aI ((i : Nat) : Int)), some (aL (jf_pb p1 (M 21 s) (M 181 s 0).toNat)), none], [], am_mix mo_SM g181 (am_mix mo_S431 g1 M))) (by omega) (by omega) (hB (by omega))))⟩) (fun c66 => ?_) (fun c66 => ?_)
          · refine hR _ (hR _ (hR _ (hR _ (?_))))
            show R (83, [some (aR 8 0), some (aI ((s : Nat) : Int)), some (aI ((k : Nat) : Int)), some (aI w), some (aI (M 431 0 0)), some (aI b), some (aL mo), none, some (aI ((i : Nat) : Int)), some (aL (jf_pb p1 (M 21 s) (M 181 s 0).toNat)), none], [aL mo, aL (jf_pb p1 (M 21 s) (M 181 s 0).toNat)], am_mix mo_SM g181 (am_mix mo_S431 g1 M))
            refine am_lc (x := (jf_pb p1 (M 21 s) (M 181 s 0).toNat)) (y := mo) (P := (jf_pb p1 (M 21 s) (M 181 s 0).toNat) ≤ mo) (A := R (92, [some (aR 8 0), some (aI ((s : Nat) : Int)), some (aI ((k : Nat) : Int)), some (aI w), some (aI (M 431 0 0)), some (aI b), some (aL mo), none, some (aI ((i : Nat) : Int)), some (aL (jf_pb p1 (M 21 s) (M 181 s 0).toNat)), none], [], am_mix mo_SM g181 (am_mix mo_S431 g1 M))) (B := R (87, [some (aR 8 0), some (aI ((s : Nat) : Int)), some (aI ((k : Nat) : Int)), some (aI w), some (aI (M 431 0 0)), some (aI b), some (aL mo), none, some (aI ((i : Nat) : Int)), some (aL (jf_pb p1 (M 21 s) (M 181 s 0).toNat)), none], [], am_mix mo_SM g181 (am_mix mo_S431 g1 M))) (by omega) (fun hA hB => hR _ ⟨(by omega), (fun hz => hR _ (am_brt (P := (-1 : Int) ≤ 0) (A := R (92, [some (aR 8 0), some (aI ((s : Nat) : Int)), some (aI ((k : Nat) : Int)), some (aI w), some (aI (M 431 0 0)), some (aI b), some (aL mo), none, some (aI ((i : Nat) : Int)), some (aL (jf_pb p1 (M 21 s) (M 181 s 0).toNat)), none], [], am_mix mo_SM g181 (am_mix mo_S431 g1 M))) (B := R (87, [some (aR 8 0), some (aI ((s : Nat) : Int)), some (aI ((k : Nat) : Int)), some (aI w), some (aI (M 431 0 0)), some (aI b), some (aL mo), none, some (aI ((i : Nat) : Int)), some (aL (jf_pb p1 (M 21 s) (M 181 s 0).toNat)), none], [], am_mix mo_SM g181 (am_mix mo_S431 g1 M))) (by omega) (by omega) (hA (by omega)))), (fun hz => hR _ (am_brt (P := (0 : Int) ≤ 0) (A := R (92, [some (aR 8 0), some (aI ((s : Nat) : Int)), some (aI ((k : Nat) : Int)), some (aI w), some (aI (M 431 0 0)), some (aI b), some (aL mo), none, some (aI ((i : Nat) : Int)), some (aL (jf_pb p1 (M 21 s) (M 181 s 0).toNat)), none], [], am_mix mo_SM g181 (am_mix mo_S431 g1 M))) (B := R (87, [some (aR 8 0), some (aI ((s : Nat) : Int)), some (aI ((k : Nat) : Int)), some (aI w), some (aI (M 431 0 0)), some (aI b), some (aL mo), none, some (aI ((i : Nat) : Int)), some (aL (jf_pb p1 (M 21 s) (M 181 s 0).toNat)), none], [], am_mix mo_SM g181 (am_mix mo_S431 g1 M))) (by omega) (by omega) (hA (by omega)))), (fun hz => hR _ (am_brf (P := (1 : Int) ≤ 0) (A := R (92, [some (aR 8 0), some (aI ((s : Nat) : Int)), some (aI ((k : Nat) : Int)), some (aI w), some (aI (M 431 0 0)), some (aI b), some (aL mo), none, some (aI ((i : Nat) : Int)), some (aL (jf_pb p1 (M 21 s) (M 181 s 0).toNat)), none], [], am_mix mo_SM g181 (am_mix mo_S431 g1 M))) (B := R (87, [some (aR 8 0), some (aI ((s : Nat) : Int)), some (aI ((k : Nat) : Int)), some (aI w), some (aI (M 431 0 0)), some (aI b), some (aL mo), none, some (aI ((i : Nat) : Int)), some (aL (jf_pb p1 (M 21 s) (M 181 s 0).toNat)), none], [], am_mix mo_SM g181 (am_mix mo_S431 g1 M))) (by omega) (by omega) (hB (by omega))))⟩) (fun c83 => ?_) (fun c83 => ?_)
            · refine hR _ (hR _ (hR _ (hR _ (?_))))
              show R (39, [some (aR 8 0), some (aI ((s : Nat) : Int)), some (aI ((k : Nat) : Int)), some (aI w), some (aI (M 431 0 0)), some (aI b), some (aL mo), none, some (aI (((i : Nat) : Int) + 1)), some (aL (jf_pb p1 (M 21 s) (M 181 s 0).toNat)), none], [], am_mix mo_SM g181 (am_mix mo_S431 g1 M))
              have hb3 : mo_but 431 0 (am_mix mo_SM g181 (am_mix mo_S431 g1 M)) M := hb2
              have e9 : am_ag mo_S431 M (am_mix mo_SM g181 (am_mix mo_S431 g1 M)) := ((am_ag.rf).mix rfl).mix rfl
              rw [e9.eq] at hb3 ⊢
              rw [← hpp1] at hst1
              have hcond : ¬ (i = 0 ∨ ((jf_br M s k) i).2.1 < jf_pb p1 (M 21 s) (M 181 s 0).toNat) := by
                by_cases h0 : i = 0
                · rw [if_pos h0] at hmo
                  omega
                · rw [if_neg h0] at hmo
                  omega
              have e1 : (jf_br M s k) (i + 1) = (jf_br M s k) i := hst1.trans (if_neg hcond)
              refine ih (i + 1) _ _ _ _ _ _ (by omega) (by omega) hb3 ?_ ?_
              · rw [e1]
                exact hb
              · rw [if_neg (by omega), e1]
                rw [if_neg (by omega)] at hmo
                exact hmo
            · refine hR _ (hR _ (hR _ (hR _ (hR _ (?_)))))
              show R (39, [some (aR 8 0), some (aI ((s : Nat) : Int)), some (aI ((k : Nat) : Int)), some (aI w), some (aI (M 431 0 0)), some (aI b), some (aL (jf_pb p1 (M 21 s) (M 181 s 0).toNat)), none, some (aI (((i : Nat) : Int) + 1)), some (aL (jf_pb p1 (M 21 s) (M 181 s 0).toNat)), none], [], am_mix mo_SM g181 (am_mix mo_S431 g1 M))
              exfalso
              omega
          · refine hR _ (hR _ (hR _ (hR _ (hR _ (?_)))))
            show R (83, [some (aR 8 0), some (aI ((s : Nat) : Int)), some (aI ((k : Nat) : Int)), some (aI w), some (aI (M 431 0 0)), some (aI ((i : Nat) : Int)), some (aL mo), none, some (aI ((i : Nat) : Int)), some (aL (jf_pb p1 (M 21 s) (M 181 s 0).toNat)), none], [aL mo, aL (jf_pb p1 (M 21 s) (M 181 s 0).toNat)], am_mix mo_SM g181 (am_mix mo_S431 g1 M))
            refine am_lc (x := (jf_pb p1 (M 21 s) (M 181 s 0).toNat)) (y := mo) (P := (jf_pb p1 (M 21 s) (M 181 s 0).toNat) ≤ mo) (A := R (92, [some (aR 8 0), some (aI ((s : Nat) : Int)), some (aI ((k : Nat) : Int)), some (aI w), some (aI (M 431 0 0)), some (aI ((i : Nat) : Int)), some (aL mo), none, some (aI ((i : Nat) : Int)), some (aL (jf_pb p1 (M 21 s) (M 181 s 0).toNat)), none], [], am_mix mo_SM g181 (am_mix mo_S431 g1 M))) (B := R (87, [some (aR 8 0), some (aI ((s : Nat) : Int)), some (aI ((k : Nat) : Int)), some (aI w), some (aI (M 431 0 0)), some (aI ((i : Nat) : Int)), some (aL mo), none, some (aI ((i : Nat) : Int)), some (aL (jf_pb p1 (M 21 s) (M 181 s 0).toNat)), none], [], am_mix mo_SM g181 (am_mix mo_S431 g1 M))) (by omega) (fun hA hB => hR _ ⟨(by omega), (fun hz => hR _ (am_brt (P := (-1 : Int) ≤ 0) (A := R (92, [some (aR 8 0), some (aI ((s : Nat) : Int)), some (aI ((k : Nat) : Int)), some (aI w), some (aI (M 431 0 0)), some (aI ((i : Nat) : Int)), some (aL mo), none, some (aI ((i : Nat) : Int)), some (aL (jf_pb p1 (M 21 s) (M 181 s 0).toNat)), none], [], am_mix mo_SM g181 (am_mix mo_S431 g1 M))) (B := R (87, [some (aR 8 0), some (aI ((s : Nat) : Int)), some (aI ((k : Nat) : Int)), some (aI w), some (aI (M 431 0 0)), some (aI ((i : Nat) : Int)), some (aL mo), none, some (aI ((i : Nat) : Int)), some (aL (jf_pb p1 (M 21 s) (M 181 s 0).toNat)), none], [], am_mix mo_SM g181 (am_mix mo_S431 g1 M))) (by omega) (by omega) (hA (by omega)))), (fun hz => hR _ (am_brt (P := (0 : Int) ≤ 0) (A := R (92, [some (aR 8 0), some (aI ((s : Nat) : Int)), some (aI ((k : Nat) : Int)), some (aI w), some (aI (M 431 0 0)), some (aI ((i : Nat) : Int)), some (aL mo), none, some (aI ((i : Nat) : Int)), some (aL (jf_pb p1 (M 21 s) (M 181 s 0).toNat)), none], [], am_mix mo_SM g181 (am_mix mo_S431 g1 M))) (B := R (87, [some (aR 8 0), some (aI ((s : Nat) : Int)), some (aI ((k : Nat) : Int)), some (aI w), some (aI (M 431 0 0)), some (aI ((i : Nat) : Int)), some (aL mo), none, some (aI ((i : Nat) : Int)), some (aL (jf_pb p1 (M 21 s) (M 181 s 0).toNat)), none], [], am_mix mo_SM g181 (am_mix mo_S431 g1 M))) (by omega) (by omega) (hA (by omega)))), (fun hz => hR _ (am_brf (P := (1 : Int) ≤ 0) (A := R (92, [some (aR 8 0), some (aI ((s : Nat) : Int)), some (aI ((k : Nat) : Int)), some (aI w), some (aI (M 431 0 0)), some (aI ((i : Nat) : Int)), some (aL mo), none, some (aI ((i : Nat) : Int)), some (aL (jf_pb p1 (M 21 s) (M 181 s 0).toNat)), none], [], am_mix mo_SM g181 (am_mix mo_S431 g1 M))) (B := R (87, [some (aR 8 0), some (aI ((s : Nat) : Int)), some (aI ((k : Nat) : Int)), some (aI w), some (aI (M 431 0 0)), some (aI ((i : Nat) : Int)), some (aL mo), none, some (aI ((i : Nat) : Int)), some (aL (jf_pb p1 (M 21 s) (M 181 s 0).toNat)), none], [], am_mix mo_SM g181 (am_mix mo_S431 g1 M))) (by omega) (by omega) (hB (by omega))))⟩) (fun c83 => ?_) (fun c83 => ?_)
            · refine hR _ (hR _ (hR _ (hR _ (?_))))
              show R (39, [some (aR 8 0), some (aI ((s : Nat) : Int)), some (aI ((k : Nat) : Int)), some (aI w), some (aI (M 431 0 0)), some (aI ((i : Nat) : Int)), some (aL mo), none, some (aI (((i : Nat) : Int) + 1)), some (aL (jf_pb p1 (M 21 s) (M 181 s 0).toNat)), none], [], am_mix mo_SM g181 (am_mix mo_S431 g1 M))
              exfalso
              omega
            · refine hR _ (hR _ (hR _ (hR _ (hR _ (?_)))))
              show R (39, [some (aR 8 0), some (aI ((s : Nat) : Int)), some (aI ((k : Nat) : Int)), some (aI w), some (aI (M 431 0 0)), some (aI ((i : Nat) : Int)), some (aL (jf_pb p1 (M 21 s) (M 181 s 0).toNat)), none, some (aI (((i : Nat) : Int) + 1)), some (aL (jf_pb p1 (M 21 s) (M 181 s 0).toNat)), none], [], am_mix mo_SM g181 (am_mix mo_S431 g1 M))
              have hb3 : mo_but 431 0 (am_mix mo_SM g181 (am_mix mo_S431 g1 M)) M := hb2
              have e9 : am_ag mo_S431 M (am_mix mo_SM g181 (am_mix mo_S431 g1 M)) := ((am_ag.rf).mix rfl).mix rfl
              rw [e9.eq] at hb3 ⊢
              rw [← hpp1] at hst1
              have hcond : i = 0 ∨ ((jf_br M s k) i).2.1 < jf_pb p1 (M 21 s) (M 181 s 0).toNat := by
                by_cases h0 : i = 0
                · exact Or.inl h0
                · rw [if_neg h0] at hmo
                  exact Or.inr (by omega)
              have e1 : (jf_br M s k) (i + 1) = (((i : Nat) : Int), jf_pb p1 (M 21 s) (M 181 s 0).toNat, 1) := hst1.trans (if_pos hcond)
              refine ih (i + 1) _ _ _ _ _ _ (by omega) (by omega) hb3 ?_ ?_
              · rw [e1]
              · rw [if_neg (by omega), e1]
      have e9 : am_ag mo_S431 M M := am_ag.rf
      rw [e9.eq]
      exact key (M 386 0 0).toNat 0 _ _ _ _ _ _ rfl (show ((0 : Nat) : Int) + (((M 386 0 0).toNat : Nat) : Int) = M 386 0 0 by omega) (fun i j _ => rfl) rfl rfl
    · show R (15, [some (aR 8 0), some (aI ((s : Nat) : Int)), some (aI ((k : Nat) : Int)), some (aI w), none, none, none, none, none, none, none], [aI 0], M)
      refine hR _ (am_brf (rg := am_in 0) (P := (0 : Int) ≠ 0) (A := R (22, [some (aR 8 0), some (aI ((s : Nat) : Int)), some (aI ((k : Nat) : Int)), some (aI w), none, none, none, none, none, none, none], [], M)) (B := R (18, [some (aR 8 0), some (aI ((s : Nat) : Int)), some (aI ((k : Nat) : Int)), some (aI w), none, none, none, none, none, none, none], [], M)) (by omega) (by omega) ?_)
      show R (18, [some (aR 8 0), some (aI ((s : Nat) : Int)), some (aI ((k : Nat) : Int)), some (aI w), none, none, none, none, none, none, none], [], M)
      refine hR _ (?_)
      show R (21, [some (aR 8 0), some (aI ((s : Nat) : Int)), some (aI ((k : Nat) : Int)), some (aI w), none, none, none, none, none, none, none], [aL (-4611686018427387904)], M)
      refine hR _ (show K (some (aL (-4611686018427387904))) M from ?_)
      have hres : jx_rule M ((s : Nat) : Int) ((k : Nat) : Int) w = (-4611686018427387904) := by
        unfold jx_rule
        repeat' split
        all_goals first | rfl | omega | (exfalso; omega) | (exfalso; exact hms (by assumption))
      rw [hres] at hK
      have e9 : am_ag mo_SM M M := am_ag.rf
      rw [e9.eq]
      exact hK _
  · show R (0, [some (aR 8 0), some (aI sa), some (aI h), some (aI w), none, none, none, none, none, none, none], [], M)
    refine hR _ (hR _ (hR _ (?_)))
    show R (3, [some (aR 8 0), some (aI sa), some (aI h), some (aI w), none, none, none, none, none, none, none], [aI h, aI sa, aR 8 0], M)
    refine hR _ (sm_toldWrong (by omega) hJ hW (by omega) (by omega) ?_)
    have htw := mo_tw_1 hbad
    show R (6, [some (aR 8 0), some (aI sa), some (aI h), some (aI w), none, none, none, none, none, none, none], [aI (mo_tw M sa h)], M)
    refine hR _ (am_brt (rg := am_in (mo_tw M sa h)) (P := (mo_tw M sa h) ≠ 0) (A := R (18, [some (aR 8 0), some (aI sa), some (aI h), some (aI w), none, none, none, none, none, none, none], [], M)) (B := R (9, [some (aR 8 0), some (aI sa), some (aI h), some (aI w), none, none, none, none, none, none, none], [], M)) (by omega) (by omega) ?_)
    show R (18, [some (aR 8 0), some (aI sa), some (aI h), some (aI w), none, none, none, none, none, none, none], [], M)
    refine hR _ (?_)
    show R (21, [some (aR 8 0), some (aI sa), some (aI h), some (aI w), none, none, none, none, none, none, none], [aL (-4611686018427387904)], M)
    refine hR _ (show K (some (aL (-4611686018427387904))) M from ?_)
    have hres : jx_rule M sa h w = (-4611686018427387904) := by
      unfold jx_rule
      repeat' split
      all_goals first | rfl | omega | (exfalso; apply hbad; exact ⟨by omega, by assumption, by omega⟩)
    rw [hres] at hK
    have e9 : am_ag mo_SM M M := am_ag.rf
    rw [e9.eq]
    exact hK _

set_option maxHeartbeats 1000000 in
theorem sm_laws {d : Nat} (hd : 10 ≤ d) {sa h : Int} {M : am_M} {K : am_K} (hJ : jf_J M) (hW : jf_C M) (ha_sa : am_in sa) (ha_h : am_in h) (hK : ∀ g, K (some (aI (jx_laws M sa h))) (am_mix mo_SM g M)) : am_Call true d 190 [aR 8 0, aI sa, aI h] M K := by
  obtain ⟨d, rfl⟩ : ∃ e, d = e + 1 := ⟨d - 1, by omega⟩
  refine ⟨rfl, fun R hR hC => ?_⟩
  replace hR : ∀ c, am_F true tb_f190 1 (am_Call true d) K R c → R c := hR
  have hn := hJ.1.1.2.2.2.2.2.2.2.1
  have hl0 := hJ.1.1.2.2.2.2.2.2.2.2
  have htc := hJ.2.2.1.1
  have hlt : 0 ≤ M 228 0 0 ∧ M 228 0 0 < 6 := by omega
  have hmk := hJ.1.1.1
  have hdr := hJ.1.1.2.1
  have hpr := hJ.1.1.2.2.1
  have hfu := hJ.1.1.2.2.2.1
  have hn' : 0 ≤ M 421 0 0 ∧ M 421 0 0 ≤ 5 := by rw [hW.1.2.1.1]; exact hn
  have h421 : M 421 0 0 = M 227 0 0 := hW.1.2.1.1
  show R (0, [some (aR 8 0), some (aI sa), some (aI h), none, none, none, none], [], M)
  have split3 : (∃ s k : Nat, sa = (s : Int) ∧ s < 4 ∧ M 180 s 0 ≠ -1 ∧ h = (k : Int) ∧ (k : Int) < M 227 0 0 ∧ k < 5) ∨ ¬ ((0 ≤ sa ∧ sa < 4) ∧ M 180 sa.toNat 0 ≠ -1 ∧ 0 ≤ h ∧ h < M 227 0 0) := by
    by_cases hh : (0 ≤ sa ∧ sa < 4) ∧ M 180 sa.toNat 0 ≠ -1 ∧ 0 ≤ h ∧ h < M 227 0 0
    · exact Or.inl ⟨sa.toNat, h.toNat, by omega, by omega, hh.2.1, by omega, by omega, by omega⟩
    · exact Or.inr hh
  rcases split3 with ⟨s, k, rfl, hs4, hms, rfl, hk5, hk⟩ | hbad
  · obtain ⟨r, hrr⟩ : ∃ r, r = (M 228 0 0).toNat := ⟨_, rfl⟩
    have hr : M 431 0 0 = (r : Int) := by rw [hW.1.2.1.2.2.1]; omega
    have hr6 : r < 6 := by omega
    have hwt : mo_wt M r := (hW.2.1.2.2 r (by omega)).1
    obtain ⟨p, hpp⟩ : ∃ p, p = jf_px M k := ⟨_, rfl⟩
    have hp : mo_p M k r p := by rw [hpp, hrr]; exact jf_C.p hJ hW hk (by omega)
    have hok : jf_ok p := by rw [hpp]; exact hJ.px hk
    have hpm : p.mk = M 22 0 0 := by rw [hpp]; exact hW.1.1.1.symm
    have hps : p.st = 0 := by rw [hpp]
    have hpb := jf_P_b hok
    have hA := jf_A_b hok
    have hsh := jf_C.sh hJ hW hs4
    show R (0, [some (aR 8 0), some (aI ((s : Nat) : Int)), some (aI ((k : Nat) : Int)), none, none, none, none], [], M)
    refine hR _ (hR _ (hR _ (?_)))
    show R (3, [some (aR 8 0), some (aI ((s : Nat) : Int)), some (aI ((k : Nat) : Int)), none, none, none, none], [aI ((k : Nat) : Int), aI ((s : Nat) : Int), aR 8 0], M)
    refine hR _ (sm_toldWrong (by omega) hJ hW (by omega) (by omega) ?_)
    rw [mo_tw_0 hs4 hms hk5]
    show R (6, [some (aR 8 0), some (aI ((s : Nat) : Int)), some (aI ((k : Nat) : Int)), none, none, none, none], [aI 0], M)
    refine hR _ (hR _ (hR _ (am_brt (rg := am_in 0) (P := (0 : Int) = 0) (A := R (13, [some (aR 8 0), some (aI ((s : Nat) : Int)), some (aI ((k : Nat) : Int)), some (aI 0), none, none, none], [], M)) (B := R (11, [some (aR 8 0), some (aI ((s : Nat) : Int)), some (aI ((k : Nat) : Int)), some (aI 0), none, none, none], [], M)) (by omega) (by omega) ?_)))
    show R (13, [some (aR 8 0), some (aI ((s : Nat) : Int)), some (aI ((k : Nat) : Int)), some (aI 0), none, none, none], [], M)
    refine hR _ (hR _ (hR _ (hR _ (hR _ (hR _ (hR _ (?_)))))))
    show R (25, [some (aR 8 0), some (aI ((s : Nat) : Int)), some (aI ((k : Nat) : Int)), some (aI 0), some (aI (M 431 0 0)), some (aI 0), some (aI 0)], [], M)
    have key : ∀ (f i : Nat) (x b : Int) (g : am_M), x = (i : Int) → (i : Int) + f = M 386 0 0 → mo_but 431 0 (am_mix mo_S431 g M) M → b = jf_lw M s k i → R (25, [some (aR 8 0), some (aI ((s : Nat) : Int)), some (aI ((k : Nat) : Int)), some (aI 0), some (aI (M 431 0 0)), some (aI b), some (aI x)], [], am_mix mo_S431 g M) := by
      intro f
      induction f with
      | zero =>
        intro i x b g hx hin hbut hb
        subst hx
        refine hR _ (hR _ (hR _ (?_)))
        show R (31, [some (aR 8 0), some (aI ((s : Nat) : Int)), some (aI ((k : Nat) : Int)), some (aI 0), some (aI (M 431 0 0)), some (aI b), some (aI ((i : Nat) : Int))], [aI (M 430 0 0), aI ((i : Nat) : Int)], am_mix mo_S431 g M)
        rw [(show M 430 0 0 = M 386 0 0 from hW.1.2.1.2.1)]
        show R (31, [some (aR 8 0), some (aI ((s : Nat) : Int)), some (aI ((k : Nat) : Int)), some (aI 0), some (aI (M 431 0 0)), some (aI b), some (aI ((i : Nat) : Int))], [aI (M 386 0 0), aI ((i : Nat) : Int)], am_mix mo_S431 g M)
        refine hR _ (am_brt (rg := am_in ((i : Nat) : Int) ∧ am_in (M 386 0 0)) (P := (M 386 0 0) ≤ ((i : Nat) : Int)) (A := R (69, [some (aR 8 0), some (aI ((s : Nat) : Int)), some (aI ((k : Nat) : Int)), some (aI 0), some (aI (M 431 0 0)), some (aI b), some (aI ((i : Nat) : Int))], [], am_mix mo_S431 g M)) (B := R (34, [some (aR 8 0), some (aI ((s : Nat) : Int)), some (aI ((k : Nat) : Int)), some (aI 0), some (aI (M 431 0 0)), some (aI b), some (aI ((i : Nat) : Int))], [], am_mix mo_S431 g M)) (by omega) (by omega) ?_)
        show R (69, [some (aR 8 0), some (aI ((s : Nat) : Int)), some (aI ((k : Nat) : Int)), some (aI 0), some (aI (M 431 0 0)), some (aI b), some (aI ((i : Nat) : Int))], [], am_mix mo_S431 g M)
        refine hR _ (hR _ (hR _ (hR _ (?_))))
        show R (77, [some (aR 8 0), some (aI ((s : Nat) : Int)), some (aI ((k : Nat) : Int)), some (aI 0), some (aI (M 431 0 0)), some (aI b), some (aI ((i : Nat) : Int))], [aI b], am_wr (am_mix mo_S431 g M) 431 0 0 (M 431 0 0))
        refine hR _ (show K (some (aI b)) (am_wr (am_mix mo_S431 g M) 431 0 0 (M 431 0 0)) from ?_)
        have hi : i = (M 386 0 0).toNat := by omega
        have hres : jx_laws M ((s : Nat) : Int) ((k : Nat) : Int) = b := by
          unfold jx_laws
          simp only [Int.toNat_natCast]
          rw [if_pos (by omega), if_neg hms, if_pos (by omega), ← hi]
          exact hb.symm
        rw [hres] at hK
        have e9 := mo_back (S := mo_SM) (v := 431) (c := 0) (M := M) (m := am_mix mo_S431 g M) (am_ag.rf.mix rfl) hbut
        rw [e9.eq]
        exact hK _
      | succ f ih =>
        intro i x b g hx hin hbut hb
        subst hx
        refine hR _ (hR _ (hR _ (?_)))
        show R (31, [some (aR 8 0), some (aI ((s : Nat) : Int)), some (aI ((k : Nat) : Int)), some (aI 0), some (aI (M 431 0 0)), some (aI b), some (aI ((i : Nat) : Int))], [aI (M 430 0 0), aI ((i : Nat) : Int)], am_mix mo_S431 g M)
        rw [(show M 430 0 0 = M 386 0 0 from hW.1.2.1.2.1)]
        show R (31, [some (aR 8 0), some (aI ((s : Nat) : Int)), some (aI ((k : Nat) : Int)), some (aI 0), some (aI (M 431 0 0)), some (aI b), some (aI ((i : Nat) : Int))], [aI (M 386 0 0), aI ((i : Nat) : Int)], am_mix mo_S431 g M)
        refine hR _ (am_brf (rg := am_in ((i : Nat) : Int) ∧ am_in (M 386 0 0)) (P := (M 386 0 0) ≤ ((i : Nat) : Int)) (A := R (69, [some (aR 8 0), some (aI ((s : Nat) : Int)), some (aI ((k : Nat) : Int)), some (aI 0), some (aI (M 431 0 0)), some (aI b), some (aI ((i : Nat) : Int))], [], am_mix mo_S431 g M)) (B := R (34, [some (aR 8 0), some (aI ((s : Nat) : Int)), some (aI ((k : Nat) : Int)), some (aI 0), some (aI (M 431 0 0)), some (aI b), some (aI ((i : Nat) : Int))], [], am_mix mo_S431 g M)) (by omega) (by omega) ?_)
        show R (34, [some (aR 8 0), some (aI ((s : Nat) : Int)), some (aI ((k : Nat) : Int)), some (aI 0), some (aI (M 431 0 0)), some (aI b), some (aI ((i : Nat) : Int))], [], am_mix mo_S431 g M)
        refine hR _ (hR _ (hR _ (?_)))
        show R (40, [some (aR 8 0), some (aI ((s : Nat) : Int)), some (aI ((k : Nat) : Int)), some (aI 0), some (aI (M 431 0 0)), some (aI b), some (aI ((i : Nat) : Int))], [], am_wr (am_mix mo_S431 g M) 431 0 0 ((i : Nat) : Int))
        have hb2 : mo_but 431 0 (am_wr (am_mix mo_S431 g M) 431 0 0 ((i : Nat) : Int)) M := mo_but.wr (g := am_mix mo_S431 g M) hbut
        have hv2 : (am_wr (am_mix mo_S431 g M) 431 0 0 ((i : Nat) : Int)) 431 0 0 = ((i : Nat) : Int) := am_wr_eq
        have e9 : am_ag mo_S431 M (am_wr (am_mix mo_S431 g M) 431 0 0 ((i : Nat) : Int)) := (am_ag.rf.mix rfl).wr rfl
        rw [e9.eq] at hb2 hv2 ⊢
        generalize am_wr (am_mix mo_S431 g M) 431 0 0 ((i : Nat) : Int) = g1 at hb2 hv2 ⊢
        show R (40, [some (aR 8 0), some (aI ((s : Nat) : Int)), some (aI ((k : Nat) : Int)), some (aI 0), some (aI (M 431 0 0)), some (aI b), some (aI ((i : Nat) : Int))], [], am_mix mo_S431 g1 M)
        have hi6 : i < 6 := by omega
        have hwti : mo_wt M i := (hW.2.1.2.2 i (by omega)).1
        obtain ⟨p1, hpp1⟩ : ∃ p1, p1 = (jf_xp M k i (M 220 0 0) 0) := ⟨_, rfl⟩
        have hp1 : mo_p M k i p1 := by rw [hpp1]; exact jf_C.p hJ hW hk (by omega)
        have hok1 : jf_ok p1 := by rw [hpp1]; exact hJ.ok hk (by omega) (by omega)
        have hpm1 : p1.mk = M 22 0 0 := by rw [hpp1]; exact hW.1.1.1.symm
        have hps1 : p1.st = 0 := by rw [hpp1]
        refine hR _ (hR _ (hR _ (hR _ (?_))))
        show R (45, [some (aR 8 0), some (aI ((s : Nat) : Int)), some (aI ((k : Nat) : Int)), some (aI 0), some (aI (M 431 0 0)), some (aI b), some (aI ((i : Nat) : Int))], [aI ((k : Nat) : Int), aI ((s : Nat) : Int), aR 8 0, aI b], am_mix mo_S431 g1 M)
        refine hR _ (sm_unlikely (p := p1) (r := i) (s := s) (c := M 21 s) (n := (M 181 s 0).toNat) (by omega) hsh hk hv2 hi6 hwti hp1 hok1 hpm1 hps1 (fun g182 => ?_))
        have hfu := jf_fu_b p1 (M 21 s) (M 181 s 0).toNat 0
        have hn40 := hsh.2.2.1
        show R (48, [some (aR 8 0), some (aI ((s : Nat) : Int)), some (aI ((k : Nat) : Int)), some (aI 0), some (aI (M 431 0 0)), some (aI b), some (aI ((i : Nat) : Int))], [aI (jf_fu p1 (M 21 s) (M 181 s 0).toNat 0), aI b], am_mix mo_SM g182 (am_mix mo_S431 g1 M))
        refine hR _ (hR _ (am_brc (rg := am_in (jf_fu p1 (M 21 s) (M 181 s 0).toNat 0) ∧ am_in (-1)) (P := (jf_fu p1 (M 21 s) (M 181 s 0).toNat 0) ≠ (-1)) (A := R (59, [some (aR 8 0), some (aI ((s : Nat) : Int)), some (aI ((k : Nat) : Int)), some (aI 0), some (aI (M 431 0 0)), some (aI b), some (aI ((i : Nat) : Int))], [aI b], am_mix mo_SM g182 (am_mix mo_S431 g1 M))) (B := R (52, [some (aR 8 0), some (aI ((s : Nat) : Int)), some (aI ((k : Nat) : Int)), some (aI 0), some (aI (M 431 0 0)), some (aI b), some (aI ((i : Nat) : Int))], [aI b], am_mix mo_SM g182 (am_mix mo_S431 g1 M))) (by omega) (fun c49 => ?_) (fun c49 => ?_)))
        · refine hR _ (hR _ (?_))
          show R (61, [some (aR 8 0), some (aI ((s : Nat) : Int)), some (aI ((k : Nat) : Int)), some (aI 0), some (aI (M 431 0 0)), some (aI b), some (aI ((i : Nat) : Int))], [aI (am_or b 0)], am_mix mo_SM g182 (am_mix mo_S431 g1 M))
          refine hC _ _ _ b _ _ (am_or_0 b) ?_
          show R (61, [some (aR 8 0), some (aI ((s : Nat) : Int)), some (aI ((k : Nat) : Int)), some (aI 0), some (aI (M 431 0 0)), some (aI b), some (aI ((i : Nat) : Int))], [aI b], am_mix mo_SM g182 (am_mix mo_S431 g1 M))
          refine hR _ (hR _ (hR _ (?_)))
          show R (25, [some (aR 8 0), some (aI ((s : Nat) : Int)), some (aI ((k : Nat) : Int)), some (aI 0), some (aI (M 431 0 0)), some (aI b), some (aI (((i : Nat) : Int) + 1))], [], am_mix mo_SM g182 (am_mix mo_S431 g1 M))
          have hb3 : mo_but 431 0 (am_mix mo_SM g182 (am_mix mo_S431 g1 M)) M := hb2
          have e9 : am_ag mo_S431 M (am_mix mo_SM g182 (am_mix mo_S431 g1 M)) := ((am_ag.rf).mix rfl).mix rfl
          rw [e9.eq] at hb3 ⊢
          refine ih (i + 1) _ _ _ (by omega) (by omega) hb3 ?_
          rw [jf_lw_0 (by rw [← hpp1]; omega)]
          exact hb
        · refine hR _ (hR _ (?_))
          show R (55, [some (aR 8 0), some (aI ((s : Nat) : Int)), some (aI ((k : Nat) : Int)), some (aI 0), some (aI (M 431 0 0)), some (aI b), some (aI ((i : Nat) : Int))], [aI ((i : Nat) : Int), aI 1, aI b], am_mix mo_SM g182 (am_mix mo_S431 g1 M))
          refine hR _ ⟨(by omega), ?_⟩
          show R (56, [some (aR 8 0), some (aI ((s : Nat) : Int)), some (aI ((k : Nat) : Int)), some (aI 0), some (aI (M 431 0 0)), some (aI b), some (aI ((i : Nat) : Int))], [aI (1 * 2 ^ (((i : Nat) : Int)).toNat), aI b], am_mix mo_SM g182 (am_mix mo_S431 g1 M))
          refine hR _ (hR _ (?_))
          show R (61, [some (aR 8 0), some (aI ((s : Nat) : Int)), some (aI ((k : Nat) : Int)), some (aI 0), some (aI (M 431 0 0)), some (aI b), some (aI ((i : Nat) : Int))], [aI (am_or b (1 * 2 ^ (((i : Nat) : Int)).toNat))], am_mix mo_SM g182 (am_mix mo_S431 g1 M))
          refine hR _ (hR _ (hR _ (?_)))
          show R (25, [some (aR 8 0), some (aI ((s : Nat) : Int)), some (aI ((k : Nat) : Int)), some (aI 0), some (aI (M 431 0 0)), some (aI (am_or b (1 * 2 ^ (((i : Nat) : Int)).toNat))), some (aI (((i : Nat) : Int) + 1))], [], am_mix mo_SM g182 (am_mix mo_S431 g1 M))
          have hb3 : mo_but 431 0 (am_mix mo_SM g182 (am_mix mo_S431 g1 M)) M := hb2
          have e9 : am_ag mo_S431 M (am_mix mo_SM g182 (am_mix mo_S431 g1 M)) := ((am_ag.rf).mix rfl).mix rfl
          rw [e9.eq] at hb3 ⊢
          refine ih (i + 1) _ _ _ (by omega) (by omega) hb3 ?_
          rw [jf_lw_1 (by rw [← hpp1]; omega), hb]
    have e9 : am_ag mo_S431 M M := am_ag.rf
    rw [e9.eq]
    exact key (M 386 0 0).toNat 0 _ _ _ rfl (show ((0 : Nat) : Int) + (((M 386 0 0).toNat : Nat) : Int) = M 386 0 0 by omega) (fun i j _ => rfl) rfl
  · show R (0, [some (aR 8 0), some (aI sa), some (aI h), none, none, none, none], [], M)
    refine hR _ (hR _ (hR _ (?_)))
    show R (3, [some (aR 8 0), some (aI sa), some (aI h), none, none, none, none], [aI h, aI sa, aR 8 0], M)
    refine hR _ (sm_toldWrong (by omega) hJ hW (by omega) (by omega) ?_)
    have htw := mo_tw_1 hbad
    show R (6, [some (aR 8 0), some (aI sa), some (aI h), none, none, none, none], [aI (mo_tw M sa h)], M)
    refine hR _ (hR _ (hR _ (am_brf (rg := am_in (mo_tw M sa h)) (P := (mo_tw M sa h) = 0) (A := R (13, [some (aR 8 0), some (aI sa), some (aI h), some (aI (mo_tw M sa h)), none, none, none], [], M)) (B := R (11, [some (aR 8 0), some (aI sa), some (aI h), some (aI (mo_tw M sa h)), none, none, none], [], M)) (by omega) (by omega) ?_)))
    show R (11, [some (aR 8 0), some (aI sa), some (aI h), some (aI (mo_tw M sa h)), none, none, none], [], M)
    refine hR _ (?_)
    show R (12, [some (aR 8 0), some (aI sa), some (aI h), some (aI (mo_tw M sa h)), none, none, none], [aI (mo_tw M sa h)], M)
    refine hR _ (show K (some (aI (mo_tw M sa h))) M from ?_)
    have hres : jx_laws M sa h = (mo_tw M sa h) := by
      unfold jx_laws
      unfold mo_tw
      repeat' split
      all_goals first | rfl | omega | (exfalso; apply hbad; exact ⟨by omega, by assumption, by omega⟩)
    rw [hres] at hK
    have e9 : am_ag mo_SM M M := am_ag.rf
    rw [e9.eq]
    exact hK _

abbrev mo_S3 : List Nat := [23, 24, 25, 37, 38, 39, 40, 41, 454, 455]

set_option maxHeartbeats 1000000 in
theorem sm_fits {d : Nat} (hd : 10 ≤ d) {sa h sw : Int} {M : am_M} {K : am_K} (hJ : jf_J M) (hW : jf_C M) (ha_sa : am_in sa) (ha_h : am_in h) (ha_sw : am_in sw) (hK : ∀ g, K (some (aL (jx_fits M sa h sw))) (am_mix mo_SM g M)) : am_Call true d 187 [aR 8 0, aI sa, aI h, aI sw] M K := by
  obtain ⟨d, rfl⟩ : ∃ e, d = e + 1 := ⟨d - 1, by omega⟩
  refine ⟨rfl, fun R hR hC => ?_⟩
  replace hR : ∀ c, am_F true tb_f187 5 (am_Call true d) K R c → R c := hR
  have hn := hJ.1.1.2.2.2.2.2.2.2.1
  have hl0 := hJ.1.1.2.2.2.2.2.2.2.2
  have htc := hJ.2.2.1.1
  have hlt : 0 ≤ M 228 0 0 ∧ M 228 0 0 < 6 := by omega
  have hmk := hJ.1.1.1
  have hdr := hJ.1.1.2.1
  have hpr := hJ.1.1.2.2.1
  have hfu := hJ.1.1.2.2.2.1
  have hn' : 0 ≤ M 421 0 0 ∧ M 421 0 0 ≤ 5 := by rw [hW.1.2.1.1]; exact hn
  have h421 : M 421 0 0 = M 227 0 0 := hW.1.2.1.1
  show R (0, [some (aR 8 0), some (aI sa), some (aI h), some (aI sw), none, none, none, none, none, none, none, none, none, none], [], M)
  have split3 : (∃ s k : Nat, sa = (s : Int) ∧ s < 4 ∧ M 180 s 0 ≠ -1 ∧ h = (k : Int) ∧ (k : Int) < M 227 0 0 ∧ k < 5) ∨ ¬ ((0 ≤ sa ∧ sa < 4) ∧ M 180 sa.toNat 0 ≠ -1 ∧ 0 ≤ h ∧ h < M 227 0 0) := by
    by_cases hh : (0 ≤ sa ∧ sa < 4) ∧ M 180 sa.toNat 0 ≠ -1 ∧ 0 ≤ h ∧ h < M 227 0 0
    · exact Or.inl ⟨sa.toNat, h.toNat, by omega, by omega, hh.2.1, by omega, by omega, by omega⟩
    · exact Or.inr hh
  rcases split3 with ⟨s, k, rfl, hs4, hms, rfl, hk5, hk⟩ | hbad
  · obtain ⟨r, hrr⟩ : ∃ r, r = (M 228 0 0).toNat := ⟨_, rfl⟩
    have hr : M 431 0 0 = (r : Int) := by rw [hW.1.2.1.2.2.1]; omega
    have hr6 : r < 6 := by omega
    have hwt : mo_wt M r := (hW.2.1.2.2 r (by omega)).1
    obtain ⟨p, hpp⟩ : ∃ p, p = jf_px M k := ⟨_, rfl⟩
    have hp : mo_p M k r p := by rw [hpp, hrr]; exact jf_C.p hJ hW hk (by omega)
    have hok : jf_ok p := by rw [hpp]; exact hJ.px hk
    have hpm : p.mk = M 22 0 0 := by rw [hpp]; exact hW.1.1.1.symm
    have hps : p.st = 0 := by rw [hpp]
    have hpb := jf_P_b hok
    have hA := jf_A_b hok
    have hsh := jf_C.sh hJ hW hs4
    show R (0, [some (aR 8 0), some (aI ((s : Nat) : Int)), some (aI ((k : Nat) : Int)), some (aI sw), none, none, none, none, none, none, none, none, none, none], [], M)
    have hok0 := hok
    have hp0 := hp
    have hpm0 := hpm
    rw [hpp] at hok0 hp0 hpm0
    have hdm := jf_dm sw
    refine hR _ (hR _ (hR _ (?_)))
    show R (3, [some (aR 8 0), some (aI ((s : Nat) : Int)), some (aI ((k : Nat) : Int)), some (aI sw), none, none, none, none, none, none, none, none, none, none], [aI ((k : Nat) : Int), aI ((s : Nat) : Int), aR 8 0], M)
    refine hR _ (sm_toldWrong (by omega) hJ hW (by omega) (by omega) ?_)
    rw [mo_tw_0 hs4 hms hk5]
    show R (6, [some (aR 8 0), some (aI ((s : Nat) : Int)), some (aI ((k : Nat) : Int)), some (aI sw), none, none, none, none, none, none, none, none, none, none], [aI 0], M)
    refine hR _ (am_brf (rg := am_in 0) (P := (0 : Int) ≠ 0) (A := R (27, [some (aR 8 0), some (aI ((s : Nat) : Int)), some (aI ((k : Nat) : Int)), some (aI sw), none, none, none, none, none, none, none, none, none, none], [], M)) (B := R (9, [some (aR 8 0), some (aI ((s : Nat) : Int)), some (aI ((k : Nat) : Int)), some (aI sw), none, none, none, none, none, none, none, none, none, none], [], M)) (by omega) (by omega) ?_)
    show R (9, [some (aR 8 0), some (aI ((s : Nat) : Int)), some (aI ((k : Nat) : Int)), some (aI sw), none, none, none, none, none, none, none, none, none, none], [], M)
    refine hR _ (hR _ (hR _ (?_)))
    show R (13, [some (aR 8 0), some (aI ((s : Nat) : Int)), some (aI ((k : Nat) : Int)), some (aI sw), none, none, none, none, none, none, none, none, none, none], [aI 21, aI 0, aI sw], M)
    refine hR _ (sp_in (by omega) (by omega) (fun h13 => ?_) (fun h13 => ?_))
    · show R (16, [some (aR 8 0), some (aI ((s : Nat) : Int)), some (aI ((k : Nat) : Int)), some (aI sw), none, none, none, none, none, none, none, none, none, none], [aI 1], M)
      refine hR _ (am_brf (rg := am_in 1) (P := (1 : Int) = 0) (A := R (27, [some (aR 8 0), some (aI ((s : Nat) : Int)), some (aI ((k : Nat) : Int)), some (aI sw), none, none, none, none, none, none, none, none, none, none], [], M)) (B := R (19, [some (aR 8 0), some (aI ((s : Nat) : Int)), some (aI ((k : Nat) : Int)), some (aI sw), none, none, none, none, none, none, none, none, none, none], [], M)) (by omega) (by omega) ?_)
      show R (19, [some (aR 8 0), some (aI ((s : Nat) : Int)), some (aI ((k : Nat) : Int)), some (aI sw), none, none, none, none, none, none, none, none, none, none], [], M)
      have hmd0 : Int.tmod sw 10 = sw % 10 := jf_tm sw 10 (by omega)
      have hdv0 : Int.tdiv sw 10 = sw / 10 := jf_td sw 10 (by omega)
      refine hR _ (hR _ (?_))
      show R (22, [some (aR 8 0), some (aI ((s : Nat) : Int)), some (aI ((k : Nat) : Int)), some (aI sw), none, none, none, none, none, none, none, none, none, none], [aI 10, aI sw], M)
      refine hR _ ⟨(by omega), ?_⟩
      show R (23, [some (aR 8 0), some (aI ((s : Nat) : Int)), some (aI ((k : Nat) : Int)), some (aI sw), none, none, none, none, none, none, none, none, none, none], [aI (Int.tmod sw 10)], M)
      refine hR _ (hR _ (am_brc (rg := am_in (Int.tmod sw 10) ∧ am_in 1) (P := (Int.tmod sw 10) ≤ 1) (A := R (31, [some (aR 8 0), some (aI ((s : Nat) : Int)), some (aI ((k : Nat) : Int)), some (aI sw), none, none, none, none, none, none, none, none, none, none], [], M)) (B := R (27, [some (aR 8 0), some (aI ((s : Nat) : Int)), some (aI ((k : Nat) : Int)), some (aI sw), none, none, none, none, none, none, none, none, none, none], [], M)) (by omega) (fun c24 => ?_) (fun c24 => ?_)))
      · refine hR _ (hR _ (?_))
        show R (34, [some (aR 8 0), some (aI ((s : Nat) : Int)), some (aI ((k : Nat) : Int)), some (aI sw), none, none, none, none, none, none, none, none, none, none], [aI 10, aI sw], M)
        refine hR _ ⟨(by omega), ?_⟩
        show R (35, [some (aR 8 0), some (aI ((s : Nat) : Int)), some (aI ((k : Nat) : Int)), some (aI sw), none, none, none, none, none, none, none, none, none, none], [aI (Int.tdiv sw 10)], M)
        have hdv : Int.tdiv sw 10 = sw / 10 := jf_td sw 10 (by omega)
        have hmd : Int.tmod sw 10 = sw % 10 := jf_tm sw 10 (by omega)
        obtain ⟨so, hso⟩ : ∃ so, so = Int.tdiv sw 10 := ⟨_, rfl⟩
        rw [← hso]
        rw [← hso] at hdv
        have hsr : 0 ≤ so ∧ so ≤ 2 := by omega
        have hwr : 0 ≤ Int.tmod sw 10 ∧ Int.tmod sw 10 ≤ 1 := by omega
        rcases (show so = 0 ∨ so = 1 ∨ so = 2 by omega) with h0 | h0 | h0
        · subst h0
          show R (35, [some (aR 8 0), some (aI ((s : Nat) : Int)), some (aI ((k : Nat) : Int)), some (aI sw), none, none, none, none, none, none, none, none, none, none], [aI 0], M)
          refine hR _ (hR _ (hR _ (hR _ (?_))))
          show R (42, [some (aR 8 0), some (aI ((s : Nat) : Int)), some (aI ((k : Nat) : Int)), some (aI sw), some (aI 0), none, none, none, none, none, none, none, none, none], [aI ((k : Nat) : Int), aR 23 0], M)
          refine hR _ ⟨(show 0 ≤ (((k : Nat) : Int) : Int) ∧ (((k : Nat) : Int) : Int) < 5 from (by omega)), ?_⟩
          show R (43, [some (aR 8 0), some (aI ((s : Nat) : Int)), some (aI ((k : Nat) : Int)), some (aI sw), some (aI 0), none, none, none, none, none, none, none, none, none], [aI (M 23 0 k)], M)
          refine hR _ (hR _ (hR _ (hR _ (?_))))
          show R (50, [some (aR 8 0), some (aI ((s : Nat) : Int)), some (aI ((k : Nat) : Int)), some (aI sw), some (aI 0), some (aI (M 23 0 k)), none, none, none, none, none, none, none, none], [aI ((k : Nat) : Int), aR 24 0], M)
          refine hR _ ⟨(show 0 ≤ (((k : Nat) : Int) : Int) ∧ (((k : Nat) : Int) : Int) < 5 from (by omega)), ?_⟩
          show R (51, [some (aR 8 0), some (aI ((s : Nat) : Int)), some (aI ((k : Nat) : Int)), some (aI sw), some (aI 0), some (aI (M 23 0 k)), none, none, none, none, none, none, none, none], [aI (M 24 0 k)], M)
          refine hR _ (hR _ (hR _ (hR _ (hR _ (hR _ (?_))))))
          show R (60, [some (aR 8 0), some (aI ((s : Nat) : Int)), some (aI ((k : Nat) : Int)), some (aI sw), some (aI 0), some (aI (M 23 0 k)), some (aI (M 24 0 k)), none, none, none, none, none, none, none], [aI (2 * ((k : Nat) : Int)), aR 25 0], M)
          refine hR _ ⟨(show 0 ≤ ((2 * ((k : Nat) : Int)) : Int) ∧ ((2 * ((k : Nat) : Int)) : Int) < 10 from (by omega)), ?_⟩
          show R (61, [some (aR 8 0), some (aI ((s : Nat) : Int)), some (aI ((k : Nat) : Int)), some (aI sw), some (aI 0), some (aI (M 23 0 k)), some (aI (M 24 0 k)), none, none, none, none, none, none, none], [aI (M 25 0 (((2 * ((k : Nat) : Int))).toNat))], M)
          rw [(show M 25 0 (((2 * ((k : Nat) : Int))).toNat) = M 25 0 (2 * k) by rw [show ((2 * ((k : Nat) : Int))).toNat = (2 * k) by omega])]
          show R (61, [some (aR 8 0), some (aI ((s : Nat) : Int)), some (aI ((k : Nat) : Int)), some (aI sw), some (aI 0), some (aI (M 23 0 k)), some (aI (M 24 0 k)), none, none, none, none, none, none, none], [aI (M 25 0 (2 * k))], M)
          refine hR _ (hR _ (hR _ (hR _ (hR _ (hR _ (hR _ (?_)))))))
          show R (74, [some (aR 8 0), some (aI ((s : Nat) : Int)), some (aI ((k : Nat) : Int)), some (aI sw), some (aI 0), some (aI (M 23 0 k)), some (aI (M 24 0 k)), some (aI (M 25 0 (2 * k))), some (aI (-1)), some (aL (-1)), none, some (aI 0), none, none], [], M)
          have hoki : ∀ q : Nat, q < 6 → jf_ok (jf_pf M k 0 q) := fun q hq => hJ.pf hk (by omega) (show 0 ≤ (q : Int) ∧ (q : Int) < jf_bfn 0 from ⟨by omega, by show (q : Int) < 6; omega⟩)
          have key : ∀ (f i : Nat) (x b mo : Int) (o12 : Option am_V) (g : am_M), x = (i : Int) → i + f = 6 → mo_but 23 k (am_mix mo_S3 g M) M → mo_but 24 k (am_mix mo_S3 g M) M → mo_but 25 (2 * k) (am_mix mo_S3 g M) M → b = ((jf_bf M s k 0) i).1 → mo = (if i = 0 then -1 else ((jf_bf M s k 0) i).2.1) → R (74, [some (aR 8 0), some (aI ((s : Nat) : Int)), some (aI ((k : Nat) : Int)), some (aI sw), some (aI 0), some (aI (M 23 0 k)), some (aI (M 24 0 k)), some (aI (M 25 0 (2 * k))), some (aI b), some (aL mo), none, some (aI x), o12, none], [], am_mix mo_S3 g M) := by
            intro f
            induction f with
            | zero =>
              intro i x b mo o12 g hx hin hb23 hb24 hb25 hb hmo
              subst hx
              have hbb : (-1 ≤ ((jf_bf M s k 0) i).1 ∧ ((jf_bf M s k 0) i).1 ≤ ((6 : Nat) : Int)) ∧ -1 ≤ ((jf_bf M s k 0) i).2.1 ∧ ((jf_bf M s k 0) i).2.1 ≤ 1000000000 := mo_bs_b (fun i => jf_pb (jf_pf M k 0 i) (M 21 s) (M 181 s 0).toNat) (by decide) (fun q hq => jf_pb_b (hoki q hq) _ _) i (by omega)
              have hbpi : -1 ≤ b ∧ b ≤ ((6 : Nat) : Int) := by rw [hb]; omega
              have hmoi : -1 ≤ mo ∧ mo ≤ 1000000000 := by rw [hmo]; split <;> omega
              refine hR _ (hR _ (hR _ (am_brf (rg := am_in 0) (P := (0 : Int) ≠ 0) (A := R (86, [some (aR 8 0), some (aI ((s : Nat) : Int)), some (aI ((k : Nat) : Int)), some (aI sw), some (aI 0), some (aI (M 23 0 k)), some (aI (M 24 0 k)), some (aI (M 25 0 (2 * k))), some (aI b), some (aL mo), none, some (aI ((i : Nat) : Int)), o12, none], [aI ((i : Nat) : Int)], am_mix mo_S3 g M)) (B := R (81, [some (aR 8 0), some (aI ((s : Nat) : Int)), some (aI ((k : Nat) : Int)), some (aI sw), some (aI 0), some (aI (M 23 0 k)), some (aI (M 24 0 k)), some (aI (M 25 0 (2 * k))), some (aI b), some (aL mo), none, some (aI ((i : Nat) : Int)), o12, none], [aI ((i : Nat) : Int)], am_mix mo_S3 g M)) (by omega) (by omega) ?_)))
              show R (81, [some (aR 8 0), some (aI ((s : Nat) : Int)), some (aI ((k : Nat) : Int)), some (aI sw), some (aI 0), some (aI (M 23 0 k)), some (aI (M 24 0 k)), some (aI (M 25 0 (2 * k))), some (aI b), some (aL mo), none, some (aI ((i : Nat) : Int)), o12, none], [aI ((i : Nat) : Int)], am_mix mo_S3 g M)
              refine hR _ (hR _ (hR _ (am_brt (rg := am_in ((i : Nat) : Int) ∧ am_in 6) (P := 6 ≤ ((i : Nat) : Int)) (A := R (208, [some (aR 8 0), some (aI ((s : Nat) : Int)), some (aI ((k : Nat) : Int)), some (aI sw), some (aI 0), some (aI (M 23 0 k)), some (aI (M 24 0 k)), some (aI (M 25 0 (2 * k))), some (aI b), some (aL mo), none, some (aI ((i : Nat) : Int)), o12, none], [], am_mix mo_S3 g M)) (B := R (102, [some (aR 8 0), some (aI ((s : Nat) : Int)), some (aI ((k : Nat) : Int)), some (aI sw), some (aI 0), some (aI (M 23 0 k)), some (aI (M 24 0 k)), some (aI (M 25 0 (2 * k))), some (aI b), some (aL mo), none, some (aI ((i : Nat) : Int)), o12, none], [], am_mix mo_S3 g M)) (by omega) (by omega) ?_)))
              show R (208, [some (aR 8 0), some (aI ((s : Nat) : Int)), some (aI ((k : Nat) : Int)), some (aI sw), some (aI 0), some (aI (M 23 0 k)), some (aI (M 24 0 k)), some (aI (M 25 0 (2 * k))), some (aI b), some (aL mo), none, some (aI ((i : Nat) : Int)), o12, none], [], am_mix mo_S3 g M)
              refine hR _ (hR _ (hR _ (hR _ (?_))))
              show R (215, [some (aR 8 0), some (aI ((s : Nat) : Int)), some (aI ((k : Nat) : Int)), some (aI sw), some (aI 0), some (aI (M 23 0 k)), some (aI (M 24 0 k)), some (aI (M 25 0 (2 * k))), some (aI b), some (aL mo), none, some (aI ((i : Nat) : Int)), o12, none], [aI (M 23 0 k), aI ((k : Nat) : Int), aR 23 0], am_mix mo_S3 g M)
              refine hR _ ⟨(show 0 ≤ (((k : Nat) : Int) : Int) ∧ (((k : Nat) : Int) : Int) < 5 from (by omega)), ?_⟩
              show R (216, [some (aR 8 0), some (aI ((s : Nat) : Int)), some (aI ((k : Nat) : Int)), some (aI sw), some (aI 0), some (aI (M 23 0 k)), some (aI (M 24 0 k)), some (aI (M 25 0 (2 * k))), some (aI b), some (aL mo), none, some (aI ((i : Nat) : Int)), o12, none], [], am_wr (am_mix mo_S3 g M) 23 0 k (M 23 0 k))
              refine hR _ (hR _ (hR _ (hR _ (?_))))
              show R (223, [some (aR 8 0), some (aI ((s : Nat) : Int)), some (aI ((k : Nat) : Int)), some (aI sw), some (aI 0), some (aI (M 23 0 k)), some (aI (M 24 0 k)), some (aI (M 25 0 (2 * k))), some (aI b), some (aL mo), none, some (aI ((i : Nat) : Int)), o12, none], [aI (M 24 0 k), aI ((k : Nat) : Int), aR 24 0], am_wr (am_mix mo_S3 g M) 23 0 k (M 23 0 k))
              refine hR _ ⟨(show 0 ≤ (((k : Nat) : Int) : Int) ∧ (((k : Nat) : Int) : Int) < 5 from (by omega)), ?_⟩
              show R (224, [some (aR 8 0), some (aI ((s : Nat) : Int)), some (aI ((k : Nat) : Int)), some (aI sw), some (aI 0), some (aI (M 23 0 k)), some (aI (M 24 0 k)), some (aI (M 25 0 (2 * k))), some (aI b), some (aL mo), none, some (aI ((i : Nat) : Int)), o12, none], [], am_wr (am_wr (am_mix mo_S3 g M) 23 0 k (M 23 0 k)) 24 0 k (M 24 0 k))
              refine hR _ (hR _ (hR _ (hR _ (hR _ (hR _ (?_))))))
              show R (233, [some (aR 8 0), some (aI ((s : Nat) : Int)), some (aI ((k : Nat) : Int)), some (aI sw), some (aI 0), some (aI (M 23 0 k)), some (aI (M 24 0 k)), some (aI (M 25 0 (2 * k))), some (aI b), some (aL mo), none, some (aI ((i : Nat) : Int)), o12, none], [aI (M 25 0 (2 * k)), aI (2 * ((k : Nat) : Int)), aR 25 0], am_wr (am_wr (am_mix mo_S3 g M) 23 0 k (M 23 0 k)) 24 0 k (M 24 0 k))
              refine hR _ ⟨(show 0 ≤ ((2 * ((k : Nat) : Int)) : Int) ∧ ((2 * ((k : Nat) : Int)) : Int) < 10 from (by omega)), ?_⟩
              show R (234, [some (aR 8 0), some (aI ((s : Nat) : Int)), some (aI ((k : Nat) : Int)), some (aI sw), some (aI 0), some (aI (M 23 0 k)), some (aI (M 24 0 k)), some (aI (M 25 0 (2 * k))), some (aI b), some (aL mo), none, some (aI ((i : Nat) : Int)), o12, none], [], am_wr (am_wr (am_wr (am_mix mo_S3 g M) 23 0 k (M 23 0 k)) 24 0 k (M 24 0 k)) 25 0 (((2 * ((k : Nat) : Int))).toNat) (M 25 0 (2 * k)))
              refine hR _ (hR _ (?_))
              show R (237, [some (aR 8 0), some (aI ((s : Nat) : Int)), some (aI ((k : Nat) : Int)), some (aI sw), some (aI 0), some (aI (M 23 0 k)), some (aI (M 24 0 k)), some (aI (M 25 0 (2 * k))), some (aI b), some (aL mo), none, some (aI ((i : Nat) : Int)), o12, none], [aI 10, aI sw], am_wr (am_wr (am_wr (am_mix mo_S3 g M) 23 0 k (M 23 0 k)) 24 0 k (M 24 0 k)) 25 0 (((2 * ((k : Nat) : Int))).toNat) (M 25 0 (2 * k)))
              refine hR _ ⟨(by omega), ?_⟩
              show R (238, [some (aR 8 0), some (aI ((s : Nat) : Int)), some (aI ((k : Nat) : Int)), some (aI sw), some (aI 0), some (aI (M 23 0 k)), some (aI (M 24 0 k)), some (aI (M 25 0 (2 * k))), some (aI b), some (aL mo), none, some (aI ((i : Nat) : Int)), o12, none], [aI (Int.tmod sw 10)], am_wr (am_wr (am_wr (am_mix mo_S3 g M) 23 0 k (M 23 0 k)) 24 0 k (M 24 0 k)) 25 0 (((2 * ((k : Nat) : Int))).toNat) (M 25 0 (2 * k)))
              refine hR _ (am_brc (rg := am_in (Int.tmod sw 10)) (P := (Int.tmod sw 10) ≠ 0) (A := R (247, [some (aR 8 0), some (aI ((s : Nat) : Int)), some (aI ((k : Nat) : Int)), some (aI sw), some (aI 0), some (aI (M 23 0 k)), some (aI (M 24 0 k)), some (aI (M 25 0 (2 * k))), some (aI b), some (aL mo), none, some (aI ((i : Nat) : Int)), o12, none], [], am_wr (am_wr (am_wr (am_mix mo_S3 g M) 23 0 k (M 23 0 k)) 24 0 k (M 24 0 k)) 25 0 (((2 * ((k : Nat) : Int))).toNat) (M 25 0 (2 * k)))) (B := R (241, [some (aR 8 0), some (aI ((s : Nat) : Int)), some (aI ((k : Nat) : Int)), some (aI sw), some (aI 0), some (aI (M 23 0 k)), some (aI (M 24 0 k)), some (aI (M 25 0 (2 * k))), some (aI b), some (aL mo), none, some (aI ((i : Nat) : Int)), o12, none], [], am_wr (am_wr (am_wr (am_mix mo_S3 g M) 23 0 k (M 23 0 k)) 24 0 k (M 24 0 k)) 25 0 (((2 * ((k : Nat) : Int))).toNat) (M 25 0 (2 * k)))) (by omega) (fun c238 => ?_) (fun c238 => ?_))
              · refine hR _ (?_)
                show R (249, [some (aR 8 0), some (aI ((s : Nat) : Int)), some (aI ((k : Nat) : Int)), some (aI sw), some (aI 0), some (aI (M 23 0 k)), some (aI (M 24 0 k)), some (aI (M 25 0 (2 * k))), some (aI b), some (aL mo), none, some (aI ((i : Nat) : Int)), o12, none], [aL mo], am_wr (am_wr (am_wr (am_mix mo_S3 g M) 23 0 k (M 23 0 k)) 24 0 k (M 24 0 k)) 25 0 (((2 * ((k : Nat) : Int))).toNat) (M 25 0 (2 * k)))
                refine hR _ (show K (some (aL mo)) (am_wr (am_wr (am_wr (am_mix mo_S3 g M) 23 0 k (M 23 0 k)) 24 0 k (M 24 0 k)) 25 0 (((2 * ((k : Nat) : Int))).toNat) (M 25 0 (2 * k))) from ?_)
                have hres : jx_fits M ((s : Nat) : Int) ((k : Nat) : Int) sw = mo := by
                  unfold jx_fits
                  simp only [Int.toNat_natCast]
                  rw [← hso]
                  rw [if_pos (by omega), if_neg hms, if_pos (by omega), show jf_bfn 0 = 6 from rfl]
                  have hi : i = 6 := by omega
                  rw [hi] at hb hmo
                  rw [if_neg (by decide)] at hmo
                  first | (rw [if_neg (by omega)]; exact hb.symm) | (rw [if_pos (by omega)]; exact hmo.symm)
                rw [hres] at hK
                have a1 := mo_back (S := 24 :: 25 :: mo_SM) (v := 23) (c := k) (M := M) (m := am_mix mo_S3 g M) (am_ag.rf.mix rfl) hb23
                have a2 := mo_back (S := 25 :: mo_SM) (v := 24) (c := k) (M := M) (m := am_wr (am_mix mo_S3 g M) 23 0 k (M 23 0 k)) a1 hb24
                have a3 := mo_back (S := mo_SM) (v := 25) (c := 2 * k) (M := M) (m := am_wr (am_wr (am_mix mo_S3 g M) 23 0 k (M 23 0 k)) 24 0 k (M 24 0 k)) a2 hb25
                rw [show (2 * ((k : Nat) : Int)).toNat = 2 * k by omega]
                rw [a3.eq]
                exact hK _
              · refine hR _ (?_)
                show R (243, [some (aR 8 0), some (aI ((s : Nat) : Int)), some (aI ((k : Nat) : Int)), some (aI sw), some (aI 0), some (aI (M 23 0 k)), some (aI (M 24 0 k)), some (aI (M 25 0 (2 * k))), some (aI b), some (aL mo), none, some (aI ((i : Nat) : Int)), o12, none], [aI b], am_wr (am_wr (am_wr (am_mix mo_S3 g M) 23 0 k (M 23 0 k)) 24 0 k (M 24 0 k)) 25 0 (((2 * ((k : Nat) : Int))).toNat) (M 25 0 (2 * k)))
                refine hR _ ⟨(by omega), ?_⟩
                show R (244, [some (aR 8 0), some (aI ((s : Nat) : Int)), some (aI ((k : Nat) : Int)), some (aI sw), some (aI 0), some (aI (M 23 0 k)), some (aI (M 24 0 k)), some (aI (M 25 0 (2 * k))), some (aI b), some (aL mo), none, some (aI ((i : Nat) : Int)), o12, none], [aL b], am_wr (am_wr (am_wr (am_mix mo_S3 g M) 23 0 k (M 23 0 k)) 24 0 k (M 24 0 k)) 25 0 (((2 * ((k : Nat) : Int))).toNat) (M 25 0 (2 * k)))
                refine hR _ (?_)
                show R (249, [some (aR 8 0), some (aI ((s : Nat) : Int)), some (aI ((k : Nat) : Int)), some (aI sw), some (aI 0), some (aI (M 23 0 k)), some (aI (M 24 0 k)), some (aI (M 25 0 (2 * k))), some (aI b), some (aL mo), none, some (aI ((i : Nat) : Int)), o12, none], [aL b], am_wr (am_wr (am_wr (am_mix mo_S3 g M) 23 0 k (M 23 0 k)) 24 0 k (M 24 0 k)) 25 0 (((2 * ((k : Nat) : Int))).toNat) (M 25 0 (2 * k)))
                refine hR _ (show K (some (aL b)) (am_wr (am_wr (am_wr (am_mix mo_S3 g M) 23 0 k (M 23 0 k)) 24 0 k (M 24 0 k)) 25 0 (((2 * ((k : Nat) : Int))).toNat) (M 25 0 (2 * k))) from ?_)
                have hres : jx_fits M ((s : Nat) : Int) ((k : Nat) : Int) sw = b := by
                  unfold jx_fits
                  simp only [Int.toNat_natCast]
                  rw [← hso]
                  rw [if_pos (by omega), if_neg hms, if_pos (by omega), show jf_bfn 0 = 6 from rfl]
                  have hi : i = 6 := by omega
                  rw [hi] at hb hmo
                  rw [if_neg (by decide)] at hmo
                  first | (rw [if_neg (by omega)]; exact hb.symm) | (rw [if_pos (by omega)]; exact hmo.symm)
                rw [hres] at hK
                have a1 := mo_back (S := 24 :: 25 :: mo_SM) (v := 23) (c := k) (M := M) (m := am_mix mo_S3 g M) (am_ag.rf.mix rfl) hb23
                have a2 := mo_back (S := 25 :: mo_SM) (v := 24) (c := k) (M := M) (m := am_wr (am_mix mo_S3 g M) 23 0 k (M 23 0 k)) a1 hb24
                have a3 := mo_back (S := mo_SM) (v := 25) (c := 2 * k) (M := M) (m := am_wr (am_wr (am_mix mo_S3 g M) 23 0 k (M 23 0 k)) 24 0 k (M 24 0 k)) a2 hb25
                rw [show (2 * ((k : Nat) : Int)).toNat = 2 * k by omega]
                rw [a3.eq]
                exact hK _
            | succ f ih =>
              intro i x b mo o12 g hx hin hb23 hb24 hb25 hb hmo
              subst hx
              have hbb : (-1 ≤ ((jf_bf M s k 0) i).1 ∧ ((jf_bf M s k 0) i).1 ≤ ((6 : Nat) : Int)) ∧ -1 ≤ ((jf_bf M s k 0) i).2.1 ∧ ((jf_bf M s k 0) i).2.1 ≤ 1000000000 := mo_bs_b (fun i => jf_pb (jf_pf M k 0 i) (M 21 s) (M 181 s 0).toNat) (by decide) (fun q hq => jf_pb_b (hoki q hq) _ _) i (by omega)
              have hbpi : -1 ≤ b ∧ b ≤ ((6 : Nat) : Int) := by rw [hb]; omega
              have hmoi : -1 ≤ mo ∧ mo ≤ 1000000000 := by rw [hmo]; split <;> omega
              have hst1 : (jf_bf M s k 0) (i + 1) = if i = 0 ∨ ((jf_bf M s k 0) i).2.1 < jf_pb (jf_pf M k 0 i) (M 21 s) (M 181 s 0).toNat then (((i : Nat) : Int), jf_pb (jf_pf M k 0 i) (M 21 s) (M 181 s 0).toNat, 1) else (jf_bf M s k 0) i := mo_bs_1 (fun i => jf_pb (jf_pf M k 0 i) (M 21 s) (M 181 s 0).toNat) i
              refine hR _ (hR _ (hR _ (am_brf (rg := am_in 0) (P := (0 : Int) ≠ 0) (A := R (86, [some (aR 8 0), some (aI ((s : Nat) : Int)), some (aI ((k : Nat) : Int)), some (aI sw), some (aI 0), some (aI (M 23 0 k)), some (aI (M 24 0 k)), some (aI (M 25 0 (2 * k))), some (aI b), some (aL mo), none, some (aI ((i : Nat) : Int)), o12, none], [aI ((i : Nat) : Int)], am_mix mo_S3 g M)) (B := R (81, [some (aR 8 0), some (aI ((s : Nat) : Int)), some (aI ((k : Nat) : Int)), some (aI sw), some (aI 0), some (aI (M 23 0 k)), some (aI (M 24 0 k)), some (aI (M 25 0 (2 * k))), some (aI b), some (aL mo), none, some (aI ((i : Nat) : Int)), o12, none], [aI ((i : Nat) : Int)], am_mix mo_S3 g M)) (by omega) (by omega) ?_)))
              show R (81, [some (aR 8 0), some (aI ((s : Nat) : Int)), some (aI ((k : Nat) : Int)), some (aI sw), some (aI 0), some (aI (M 23 0 k)), some (aI (M 24 0 k)), some (aI (M 25 0 (2 * k))), some (aI b), some (aL mo), none, some (aI ((i : Nat) : Int)), o12, none], [aI ((i : Nat) : Int)], am_mix mo_S3 g M)
              refine hR _ (hR _ (hR _ (am_brf (rg := am_in ((i : Nat) : Int) ∧ am_in 6) (P := 6 ≤ ((i : Nat) : Int)) (A := R (208, [some (aR 8 0), some (aI ((s : Nat) : Int)), some (aI ((k : Nat) : Int)), some (aI sw), some (aI 0), some (aI (M 23 0 k)), some (aI (M 24 0 k)), some (aI (M 25 0 (2 * k))), some (aI b), some (aL mo), none, some (aI ((i : Nat) : Int)), o12, none], [], am_mix mo_S3 g M)) (B := R (102, [some (aR 8 0), some (aI ((s : Nat) : Int)), some (aI ((k : Nat) : Int)), some (aI sw), some (aI 0), some (aI (M 23 0 k)), some (aI (M 24 0 k)), some (aI (M 25 0 (2 * k))), some (aI b), some (aL mo), none, some (aI ((i : Nat) : Int)), o12, none], [], am_mix mo_S3 g M)) (by omega) (by omega) ?_)))
              show R (102, [some (aR 8 0), some (aI ((s : Nat) : Int)), some (aI ((k : Nat) : Int)), some (aI sw), some (aI 0), some (aI (M 23 0 k)), some (aI (M 24 0 k)), some (aI (M 25 0 (2 * k))), some (aI b), some (aL mo), none, some (aI ((i : Nat) : Int)), o12, none], [], am_mix mo_S3 g M)
              refine hR _ (hR _ (hR _ (hR _ (hR _ (am_brf (rg := am_in 0) (P := (0 : Int) ≠ 0) (A := R (117, [some (aR 8 0), some (aI ((s : Nat) : Int)), some (aI ((k : Nat) : Int)), some (aI sw), some (aI 0), some (aI (M 23 0 k)), some (aI (M 24 0 k)), some (aI (M 25 0 (2 * k))), some (aI b), some (aL mo), none, some (aI ((i : Nat) : Int)), o12, none], [aI ((k : Nat) : Int), aR 23 0], am_mix mo_S3 g M)) (B := R (112, [some (aR 8 0), some (aI ((s : Nat) : Int)), some (aI ((k : Nat) : Int)), some (aI sw), some (aI 0), some (aI (M 23 0 k)), some (aI (M 24 0 k)), some (aI (M 25 0 (2 * k))), some (aI b), some (aL mo), none, some (aI ((i : Nat) : Int)), o12, none], [aI ((k : Nat) : Int), aR 23 0], am_mix mo_S3 g M)) (by omega) (by omega) ?_)))))
              show R (112, [some (aR 8 0), some (aI ((s : Nat) : Int)), some (aI ((k : Nat) : Int)), some (aI sw), some (aI 0), some (aI (M 23 0 k)), some (aI (M 24 0 k)), some (aI (M 25 0 (2 * k))), some (aI b), some (aL mo), none, some (aI ((i : Nat) : Int)), o12, none], [aI ((k : Nat) : Int), aR 23 0], am_mix mo_S3 g M)
              refine hR _ (hR _ (?_))
              show R (119, [some (aR 8 0), some (aI ((s : Nat) : Int)), some (aI ((k : Nat) : Int)), some (aI sw), some (aI 0), some (aI (M 23 0 k)), some (aI (M 24 0 k)), some (aI (M 25 0 (2 * k))), some (aI b), some (aL mo), none, some (aI ((i : Nat) : Int)), o12, none], [aI ((i : Nat) : Int), aI ((k : Nat) : Int), aR 23 0], am_mix mo_S3 g M)
              refine hR _ ⟨(show 0 ≤ (((k : Nat) : Int) : Int) ∧ (((k : Nat) : Int) : Int) < 5 from (by omega)), ?_⟩
              show R (120, [some (aR 8 0), some (aI ((s : Nat) : Int)), some (aI ((k : Nat) : Int)), some (aI sw), some (aI 0), some (aI (M 23 0 k)), some (aI (M 24 0 k)), some (aI (M 25 0 (2 * k))), some (aI b), some (aL mo), none, some (aI ((i : Nat) : Int)), o12, none], [], am_wr (am_mix mo_S3 g M) 23 0 k ((i : Nat) : Int))
              refine hR _ (hR _ (hR _ (hR _ (hR _ (hR _ (am_brt (rg := am_in 0 ∧ am_in 1) (P := (0 : Int) ≠ 1) (A := R (136, [some (aR 8 0), some (aI ((s : Nat) : Int)), some (aI ((k : Nat) : Int)), some (aI sw), some (aI 0), some (aI (M 23 0 k)), some (aI (M 24 0 k)), some (aI (M 25 0 (2 * k))), some (aI b), some (aL mo), none, some (aI ((i : Nat) : Int)), o12, none], [aI ((k : Nat) : Int), aR 24 0], am_wr (am_mix mo_S3 g M) 23 0 k ((i : Nat) : Int))) (B := R (131, [some (aR 8 0), some (aI ((s : Nat) : Int)), some (aI ((k : Nat) : Int)), some (aI sw), some (aI 0), some (aI (M 23 0 k)), some (aI (M 24 0 k)), some (aI (M 25 0 (2 * k))), some (aI b), some (aL mo), none, some (aI ((i : Nat) : Int)), o12, none], [aI ((k : Nat) : Int), aR 24 0], am_wr (am_mix mo_S3 g M) 23 0 k ((i : Nat) : Int))) (by omega) (by omega) ?_))))))
              show R (136, [some (aR 8 0), some (aI ((s : Nat) : Int)), some (aI ((k : Nat) : Int)), some (aI sw), some (aI 0), some (aI (M 23 0 k)), some (aI (M 24 0 k)), some (aI (M 25 0 (2 * k))), some (aI b), some (aL mo), none, some (aI ((i : Nat) : Int)), o12, none], [aI ((k : Nat) : Int), aR 24 0], am_wr (am_mix mo_S3 g M) 23 0 k ((i : Nat) : Int))
              refine hR _ (?_)
              show R (138, [some (aR 8 0), some (aI ((s : Nat) : Int)), some (aI ((k : Nat) : Int)), some (aI sw), some (aI 0), some (aI (M 23 0 k)), some (aI (M 24 0 k)), some (aI (M 25 0 (2 * k))), some (aI b), some (aL mo), none, some (aI ((i : Nat) : Int)), o12, none], [aI (M 24 0 k), aI ((k : Nat) : Int), aR 24 0], am_wr (am_mix mo_S3 g M) 23 0 k ((i : Nat) : Int))
              refine hR _ ⟨(show 0 ≤ (((k : Nat) : Int) : Int) ∧ (((k : Nat) : Int) : Int) < 5 from (by omega)), ?_⟩
              show R (139, [some (aR 8 0), some (aI ((s : Nat) : Int)), some (aI ((k : Nat) : Int)), some (aI sw), some (aI 0), some (aI (M 23 0 k)), some (aI (M 24 0 k)), some (aI (M 25 0 (2 * k))), some (aI b), some (aL mo), none, some (aI ((i : Nat) : Int)), o12, none], [], am_wr (am_wr (am_mix mo_S3 g M) 23 0 k ((i : Nat) : Int)) 24 0 k (M 24 0 k))
              refine hR _ (hR _ (hR _ (hR _ (hR _ (hR _ (hR _ (hR _ (am_brt (rg := am_in 0 ∧ am_in 2) (P := (0 : Int) ≠ 2) (A := R (157, [some (aR 8 0), some (aI ((s : Nat) : Int)), some (aI ((k : Nat) : Int)), some (aI sw), some (aI 0), some (aI (M 23 0 k)), some (aI (M 24 0 k)), some (aI (M 25 0 (2 * k))), some (aI b), some (aL mo), none, some (aI ((i : Nat) : Int)), o12, none], [aI (2 * ((k : Nat) : Int)), aR 25 0], am_wr (am_wr (am_mix mo_S3 g M) 23 0 k ((i : Nat) : Int)) 24 0 k (M 24 0 k))) (B := R (152, [some (aR 8 0), some (aI ((s : Nat) : Int)), some (aI ((k : Nat) : Int)), some (aI sw), some (aI 0), some (aI (M 23 0 k)), some (aI (M 24 0 k)), some (aI (M 25 0 (2 * k))), some (aI b), some (aL mo), none, some (aI ((i : Nat) : Int)), o12, none], [aI (2 * ((k : Nat) : Int)), aR 25 0], am_wr (am_wr (am_mix mo_S3 g M) 23 0 k ((i : Nat) : Int)) 24 0 k (M 24 0 k))) (by omega) (by omega) ?_))))))))
              show R (157, [some (aR 8 0), some (aI ((s : Nat) : Int)), some (aI ((k : Nat) : Int)), some (aI sw), some (aI 0), some (aI (M 23 0 k)), some (aI (M 24 0 k)), some (aI (M 25 0 (2 * k))), some (aI b), some (aL mo), none, some (aI ((i : Nat) : Int)), o12, none], [aI (2 * ((k : Nat) : Int)), aR 25 0], am_wr (am_wr (am_mix mo_S3 g M) 23 0 k ((i : Nat) : Int)) 24 0 k (M 24 0 k))
              refine hR _ (?_)
              show R (159, [some (aR 8 0), some (aI ((s : Nat) : Int)), some (aI ((k : Nat) : Int)), some (aI sw), some (aI 0), some (aI (M 23 0 k)), some (aI (M 24 0 k)), some (aI (M 25 0 (2 * k))), some (aI b), some (aL mo), none, some (aI ((i : Nat) : Int)), o12, none], [aI (M 25 0 (2 * k)), aI (2 * ((k : Nat) : Int)), aR 25 0], am_wr (am_wr (am_mix mo_S3 g M) 23 0 k ((i : Nat) : Int)) 24 0 k (M 24 0 k))
              refine hR _ ⟨(show 0 ≤ ((2 * ((k : Nat) : Int)) : Int) ∧ ((2 * ((k : Nat) : Int)) : Int) < 10 from (by omega)), ?_⟩
              show R (160, [some (aR 8 0), some (aI ((s : Nat) : Int)), some (aI ((k : Nat) : Int)), some (aI sw), some (aI 0), some (aI (M 23 0 k)), some (aI (M 24 0 k)), some (aI (M 25 0 (2 * k))), some (aI b), some (aL mo), none, some (aI ((i : Nat) : Int)), o12, none], [], am_wr (am_wr (am_wr (am_mix mo_S3 g M) 23 0 k ((i : Nat) : Int)) 24 0 k (M 24 0 k)) 25 0 (((2 * ((k : Nat) : Int))).toNat) (M 25 0 (2 * k)))
              rw [show (2 * ((k : Nat) : Int)).toNat = 2 * k by omega]
              have n23 : mo_but 23 k (am_wr (am_wr (am_wr (am_mix mo_S3 g M) 23 0 k ((i : Nat) : Int)) 24 0 k (M 24 0 k)) 25 0 (2 * k) (M 25 0 (2 * k))) M := mo_but.wr (g := am_mix mo_S3 g M) hb23
              have n24 : mo_but 24 k (am_wr (am_wr (am_wr (am_mix mo_S3 g M) 23 0 k ((i : Nat) : Int)) 24 0 k (M 24 0 k)) 25 0 (2 * k) (M 25 0 (2 * k))) M := mo_but.wr (g := am_mix mo_S3 g M) hb24
              have n25 : mo_but 25 (2 * k) (am_wr (am_wr (am_wr (am_mix mo_S3 g M) 23 0 k ((i : Nat) : Int)) 24 0 k (M 24 0 k)) 25 0 (2 * k) (M 25 0 (2 * k))) M := mo_but.wr (g := am_mix mo_S3 g M) hb25
              have v23 : (am_wr (am_wr (am_wr (am_mix mo_S3 g M) 23 0 k ((i : Nat) : Int)) 24 0 k (M 24 0 k)) 25 0 (2 * k) (M 25 0 (2 * k))) 23 0 k = ((i : Nat) : Int) := (am_wr_ne (Or.inl (by decide))).trans ((am_wr_ne (Or.inl (by decide))).trans am_wr_eq)
              have v24 : (am_wr (am_wr (am_wr (am_mix mo_S3 g M) 23 0 k ((i : Nat) : Int)) 24 0 k (M 24 0 k)) 25 0 (2 * k) (M 25 0 (2 * k))) 24 0 k = (M 24 0 k) := (am_wr_ne (Or.inl (by decide))).trans am_wr_eq
              have v25 : (am_wr (am_wr (am_wr (am_mix mo_S3 g M) 23 0 k ((i : Nat) : Int)) 24 0 k (M 24 0 k)) 25 0 (2 * k) (M 25 0 (2 * k))) 25 0 (2 * k) = (M 25 0 (2 * k)) := am_wr_eq
              have e9 : am_ag mo_S3 M (am_wr (am_wr (am_wr (am_mix mo_S3 g M) 23 0 k ((i : Nat) : Int)) 24 0 k (M 24 0 k)) 25 0 (2 * k) (M 25 0 (2 * k))) := (((am_ag.rf.mix rfl).wr rfl).wr rfl).wr rfl
              rw [e9.eq] at n23 n24 n25 v23 v24 v25 ⊢
              generalize am_wr (am_wr (am_wr (am_mix mo_S3 g M) 23 0 k ((i : Nat) : Int)) 24 0 k (M 24 0 k)) 25 0 (2 * k) (M 25 0 (2 * k)) = g1 at n23 n24 n25 v23 v24 v25 ⊢
              show R (160, [some (aR 8 0), some (aI ((s : Nat) : Int)), some (aI ((k : Nat) : Int)), some (aI sw), some (aI 0), some (aI (M 23 0 k)), some (aI (M 24 0 k)), some (aI (M 25 0 (2 * k))), some (aI b), some (aL mo), none, some (aI ((i : Nat) : Int)), o12, none], [], am_mix mo_S3 g1 M)
              obtain ⟨p1, hpp1⟩ : ∃ p1, p1 = jf_pf M k 0 ((i : Nat) : Int) := ⟨_, rfl⟩
              have hpf : jf_pf M k 0 ((i : Nat) : Int) = jf_pk M k ((i : Nat) : Int) := rfl
              have hp1 : mo_p (am_mix mo_S3 g1 M) k r p1 := by
                rw [hpp1, hpf]
                exact ⟨⟨v23.symm, hp0.1.2.1.trans v24.symm, hp0.1.2.2.1.trans v25.symm, hp0.1.2.2.2.trans (n25 0 (2 * k + 1) (by omega)).symm⟩, hp0.2⟩
              have hok1 : jf_ok p1 := by rw [hpp1]; exact hoki i (by omega)
              have hpm1 : p1.mk = M 22 0 0 := by rw [hpp1, hpf]; exact hpm0
              have hps1 : p1.st = 0 := by rw [hpp1, hpf]
              refine hR _ (hR _ (hR _ (?_)))
              show R (163, [some (aR 8 0), some (aI ((s : Nat) : Int)), some (aI ((k : Nat) : Int)), some (aI sw), some (aI 0), some (aI (M 23 0 k)), some (aI (M 24 0 k)), some (aI (M 25 0 (2 * k))), some (aI b), some (aL mo), none, some (aI ((i : Nat) : Int)), o12, none], [aI ((k : Nat) : Int), aI ((s : Nat) : Int), aR 8 0], am_mix mo_S3 g1 M)
              refine hR _ (sm_partsOf (p := p1) (r := r) (s := s) (c := M 21 s) (n := (M 181 s 0).toNat) (by omega) hsh hk hr hr6 hwt hp1 hok1 hpm1 hps1 (fun g183 => ?_))
              have hpbb := jf_pb_b hok1 (M 21 s) (M 181 s 0).toNat
              show R (166, [some (aR 8 0), some (aI ((s : Nat) : Int)), some (aI ((k : Nat) : Int)), some (aI sw), some (aI 0), some (aI (M 23 0 k)), some (aI (M 24 0 k)), some (aI (M 25 0 (2 * k))), some (aI b), some (aL mo), none, some (aI ((i : Nat) : Int)), o12, none], [aL (jf_pb p1 (M 21 s) (M 181 s 0).toNat)], am_mix mo_SM g183 (am_mix mo_S3 g1 M))
              refine hR _ (hR _ (hR _ (?_)))
              show R (172, [some (aR 8 0), some (aI ((s : Nat) : Int)), some (aI ((k : Nat) : Int)), some (aI sw), some (aI 0), some (aI (M 23 0 k)), some (aI (M 24 0 k)), some (aI (M 25 0 (2 * k))), some (aI b), some (aL mo), none, some (aI ((i : Nat) : Int)), some (aL (jf_pb p1 (M 21 s) (M 181 s 0).toNat)), none], [aL mo, aL (jf_pb p1 (M 21 s) (M 181 s 0).toNat)], am_mix mo_SM g183 (am_mix mo_S3 g1 M))
              refine am_lc (x := (jf_pb p1 (M 21 s) (M 181 s 0).toNat)) (y := mo) (P := (jf_pb p1 (M 21 s) (M 181 s 0).toNat) ≤ mo) (A := R (181, [some (aR 8 0), some (aI ((s : Nat) : Int)), some (aI ((k : Nat) : Int)), some (aI sw), some (aI 0), some (aI (M 23 0 k)), some (aI (M 24 0 k)), some (aI (M 25 0 (2 * k))), some (aI b), some (aL mo), none, some (aI ((i : Nat) : Int)), some (aL (jf_pb p1 (M 21 s) (M 181 s 0).toNat)), none], [], am_mix mo_SM g183 (am_mix mo_S3 g1 M))) (B := R (176, [some (aR 8 0), some (aI ((s : Nat) : Int)), some (aI ((k : Nat) : Int)), some (aI sw), some (aI 0), some (aI (M 23 0 k)), some (aI (M 24 0 k)), some (aI (M 25 0 (2 * k))), some (aI b), some (aL mo), none, some (aI ((i : Nat) : Int)), some (aL (jf_pb p1 (M 21 s) (M 181 s 0).toNat)), none], [], am_mix mo_SM g183 (am_mix mo_S3 g1 M))) (by omega) (fun hA hB => hR _ ⟨(by omega), (fun hz => hR _ (am_brt (P := (-1 : Int) ≤ 0) (A := R (181, [some (aR 8 0), some (aI ((s : Nat) : Int)), some (aI ((k : Nat) : Int)), some (aI sw), some (aI 0), some (aI (M 23 0 k)), some (aI (M 24 0 k)), some (aI (M 25 0 (2 * k))), some (aI b), some (aL mo), none, some (aI ((i : Nat) : Int)), some (aL (jf_pb p1 (M 21 s) (M 181 s 0).toNat)), none], [], am_mix mo_SM g183 (am_mix mo_S3 g1 M))) (B := R (176, [some (aR 8 0), some (aI ((s : Nat) : Int)), some (aI ((k : Nat) : Int)), some (aI sw), some (aI 0), some (aI (M 23 0 k)), some (aI (M 24 0 k)), some (aI (M 25 0 (2 * k))), some (aI b), some (aL mo), none, some (aI ((i : Nat) : Int)), some (aL (jf_pb p1 (M 21 s) (M 181 s 0).toNat)), none], [], am_mix mo_SM g183 (am_mix mo_S3 g1 M))) (by omega) (by omega) (hA (by omega)))), (fun hz => hR _ (am_brt (P := (0 : Int) ≤ 0) (A := R (181, [some (aR 8 0), some (aI ((s : Nat) : Int)), some (aI ((k : Nat) : Int)), some (aI sw), some (aI 0), some (aI (M 23 0 k)), some (aI (M 24 0 k)), some (aI (M 25 0 (2 * k))), some (aI b), some (aL mo), none, some (aI ((i : Nat) : Int)), some (aL (jf_pb p1 (M 21 s) (M 181 s 0).toNat)), none], [], am_mix mo_SM g183 (am_mix mo_S3 g1 M))) (B := R (176, [some (aR 8 0), some (aI ((s : Nat) : Int)), some (aI ((k : Nat) : Int)), some (aI sw), some (aI 0), some (aI (M 23 0 k)), some (aI (M 24 0 k)), some (aI (M 25 0 (2 * k))), some (aI b), some (aL mo), none, some (aI ((i : Nat) : Int)), some (aL (jf_pb p1 (M 21 s) (M 181 s 0).toNat)), none], [], am_mix mo_SM g183 (am_mix mo_S3 g1 M))) (by omega) (by omega) (hA (by omega)))), (fun hz => hR _ (am_brf (P := (1 : Int) ≤ 0) (A := R (181, [some (aR 8 0), some (aI ((s : Nat) : Int)), some (aI ((k : Nat) : Int)), some (aI sw), some (aI 0), some (aI (M 23 0 k)), some (aI (M 24 0 k)), some (aI (M 25 0 (2 * k))), some (aI b), some (aL mo), none, some (aI ((i : Nat) : Int)), some (aL (jf_pb p1 (M 21 s) (M 181 s 0).toNat)), none], [], am_mix mo_SM g183 (am_mix mo_S3 g1 M))) (B := R (176, [some (aR 8 0), some (aI ((s : Nat) : Int)), some (aI ((k : Nat) : Int)), some (aI sw), some (aI 0), some (aI (M 23 0 k)), some (aI (M 24 0 k)), some (aI (M 25 0 (2 * k))), some (aI b), some (aL mo), none, some (aI ((i : Nat) : Int)), some (aL (jf_pb p1 (M 21 s) (M 181 s 0).toNat)), none], [], am_mix mo_SM g183 (am_mix mo_S3 g1 M))) (by omega) (by omega) (hB (by omega))))⟩) (fun c172 => ?_) (fun c172 => ?_)
              · refine hR _ (hR _ (hR _ (hR _ (?_))))
                show R (189, [some (aR 8 0), some (aI ((s : Nat) : Int)), some (aI ((k : Nat) : Int)), some (aI sw), some (aI 0), some (aI (M 23 0 k)), some (aI (M 24 0 k)), some (aI (M 25 0 (2 * k))), some (aI b), some (aL mo), none, some (aI ((i : Nat) : Int)), some (aL (jf_pb p1 (M 21 s) (M 181 s 0).toNat)), none], [aL mo, aL (jf_pb p1 (M 21 s) (M 181 s 0).toNat)], am_mix mo_SM g183 (am_mix mo_S3 g1 M))
                refine am_lc (x := (jf_pb p1 (M 21 s) (M 181 s 0).toNat)) (y := mo) (P := (jf_pb p1 (M 21 s) (M 181 s 0).toNat) ≤ mo) (A := R (198, [some (aR 8 0), some (aI ((s : Nat) : Int)), some (aI ((k : Nat) : Int)), some (aI sw), some (aI 0), some (aI (M 23 0 k)), some (aI (M 24 0 k)), some (aI (M 25 0 (2 * k))), some (aI b), some (aL mo), none, some (aI ((i : Nat) : Int)), some (aL (jf_pb p1 (M 21 s) (M 181 s 0).toNat)), none], [], am_mix mo_SM g183 (am_mix mo_S3 g1 M))) (B := R (193, [some (aR 8 0), some (aI ((s : Nat) : Int)), some (aI ((k : Nat) : Int)), some (aI sw), some (aI 0), some (aI (M 23 0 k)), some (aI (M 24 0 k)), some (aI (M 25 0 (2 * k))), some (aI b), some (aL mo), none, some (aI ((i : Nat) : Int)), some (aL (jf_pb p1 (M 21 s) (M 181 s 0).toNat)), none], [], am_mix mo_SM g183 (am_mix mo_S3 g1 M))) (by omega) (fun hA hB => hR _ ⟨(by omega), (fun hz => hR _ (am_brt (P := (-1 : Int) ≤ 0) (A := R (198, [some (aR 8 0), some (aI ((s : Nat) : Int)), some (aI ((k : Nat) : Int)), some (aI sw), some (aI 0), some (aI (M 23 0 k)), some (aI (M 24 0 k)), some (aI (M 25 0 (2 * k))), some (aI b), some (aL mo), none, some (aI ((i : Nat) : Int)), some (aL (jf_pb p1 (M 21 s) (M 181 s 0).toNat)), none], [], am_mix mo_SM g183 (am_mix mo_S3 g1 M))) (B := R (193, [some (aR 8 0), some (aI ((s : Nat) : Int)), some (aI ((k : Nat) : Int)), some (aI sw), some (aI 0), some (aI (M 23 0 k)), some (aI (M 24 0 k)), some (aI (M 25 0 (2 * k))), some (aI b), some (aL mo), none, some (aI ((i : Nat) : Int)), some (aL (jf_pb p1 (M 21 s) (M 181 s 0).toNat)), none], [], am_mix mo_SM g183 (am_mix mo_S3 g1 M))) (by omega) (by omega) (hA (by omega)))), (fun hz => hR _ (am_brt (P := (0 : Int) ≤ 0) (A := R (198, [some (aR 8 0), some (aI ((s : Nat) : Int)), some (aI ((k : Nat) : Int)), some (aI sw), some (aI 0), some (aI (M 23 0 k)), some (aI (M 24 0 k)), some (aI (M 25 0 (2 * k))), some (aI b), some (aL mo), none, some (aI ((i : Nat) : Int)), some (aL (jf_pb p1 (M 21 s) (M 181 s 0).toNat)), none], [], am_mix mo_SM g183 (am_mix mo_S3 g1 M))) (B := R (193, [some (aR 8 0), some (aI ((s : Nat) : Int)), some (aI ((k : Nat) : Int)), some (aI sw), some (aI 0), some (aI (M 23 0 k)), some (aI (M 24 0 k)), some (aI (M 25 0 (2 * k))), some (aI b), some (aL mo), none, some (aI ((i : Nat) : Int)), some (aL (jf_pb p1 (M 21 s) (M 181 s 0).toNat)), none], [], am_mix mo_SM g183 (am_mix mo_S3 g1 M))) (by omega) (by omega) (hA (by omega)))), (fun hz => hR _ (am_brf (P := (1 : Int) ≤ 0) (A := R (198, [some (aR 8 0), some (aI ((s : Nat) : Int)), some (aI ((k : Nat) : Int)), some (aI sw), some (aI 0), some (aI (M 23 0 k)), some (aI (M 24 0 k)), some (aI (M 25 0 (2 * k))), some (aI b), some (aL mo), none, some (aI ((i : Nat) : Int)), some (aL (jf_pb p1 (M 21 s) (M 181 s 0).toNat)), none], [], am_mix mo_SM g183 (am_mix mo_S3 g1 M))) (B := R (193, [some (aR 8 0), some (aI ((s : Nat) : Int)), some (aI ((k : Nat) : Int)), some (aI sw), some (aI 0), some (aI (M 23 0 k)), some (aI (M 24 0 k)), some (aI (M 25 0 (2 * k))), some (aI b), some (aL mo), none, some (aI ((i : Nat) : Int)), some (aL (jf_pb p1 (M 21 s) (M 181 s 0).toNat)), none], [], am_mix mo_SM g183 (am_mix mo_S3 g1 M))) (by omega) (by omega) (hB (by omega))))⟩) (fun c189 => ?_) (fun c189 => ?_)
                · refine hR _ (hR _ (hR _ (hR _ (?_))))
                  show R (74, [some (aR 8 0), some (aI ((s : Nat) : Int)), some (aI ((k : Nat) : Int)), some (aI sw), some (aI 0), some (aI (M 23 0 k)), some (aI (M 24 0 k)), some (aI (M 25 0 (2 * k))), some (aI b), some (aL mo), none, some (aI (((i : Nat) : Int) + 1)), some (aL (jf_pb p1 (M 21 s) (M 181 s 0).toNat)), none], [], am_mix mo_SM g183 (am_mix mo_S3 g1 M))
                  have m23 : mo_but 23 k (am_mix mo_SM g183 (am_mix mo_S3 g1 M)) M := n23
                  have m24 : mo_but 24 k (am_mix mo_SM g183 (am_mix mo_S3 g1 M)) M := n24
                  have m25 : mo_but 25 (2 * k) (am_mix mo_SM g183 (am_mix mo_S3 g1 M)) M := n25
                  have e9 : am_ag mo_S3 M (am_mix mo_SM g183 (am_mix mo_S3 g1 M)) := ((am_ag.rf).mix rfl).mix rfl
                  rw [e9.eq] at m23 m24 m25 ⊢
                  rw [← hpp1] at hst1
                  have hcond : ¬ (i = 0 ∨ ((jf_bf M s k 0) i).2.1 < jf_pb p1 (M 21 s) (M 181 s 0).toNat) := by
                    by_cases h0 : i = 0
                    · rw [if_pos h0] at hmo
                      omega
                    · rw [if_neg h0] at hmo
                      omega
                  have e1 : (jf_bf M s k 0) (i + 1) = (jf_bf M s k 0) i := hst1.trans (if_neg hcond)
                  refine ih (i + 1) _ _ _ _ _ (by omega) (by omega) m23 m24 m25 ?_ ?_
                  · rw [e1]
                    exact hb
                  · rw [if_neg (by omega), e1]
                    rw [if_neg (by omega)] at hmo
                    exact hmo
                · refine hR _ (hR _ (hR _ (hR _ (hR _ (?_)))))
                  show R (74, [some (aR 8 0), some (aI ((s : Nat) : Int)), some (aI ((k : Nat) : Int)), some (aI sw), some (aI 0), some (aI (M 23 0 k)), some (aI (M 24 0 k)), some (aI (M 25 0 (2 * k))), some (aI b), some (aL (jf_pb p1 (M 21 s) (M 181 s 0).toNat)), none, some (aI (((i : Nat) : Int) + 1)), some (aL (jf_pb p1 (M 21 s) (M 181 s 0).toNat)), none], [], am_mix mo_SM g183 (am_mix mo_S3 g1 M))
                  exfalso
                  omega
              · refine hR _ (hR _ (hR _ (hR _ (hR _ (?_)))))
                show R (189, [some (aR 8 0), some (aI ((s : Nat) : Int)), some (aI ((k : Nat) : Int)), some (aI sw), some (aI 0), some (aI (M 23 0 k)), some (aI (M 24 0 k)), some (aI (M 25 0 (2 * k))), some (aI ((i : Nat) : Int)), some (aL mo), none, some (aI ((i : Nat) : Int)), some (aL (jf_pb p1 (M 21 s) (M 181 s 0).toNat)), none], [aL mo, aL (jf_pb p1 (M 21 s) (M 181 s 0).toNat)], am_mix mo_SM g183 (am_mix mo_S3 g1 M))
                refine am_lc (x := (jf_pb p1 (M 21 s) (M 181 s 0).toNat)) (y := mo) (P := (jf_pb p1 (M 21 s) (M 181 s 0).toNat) ≤ mo) (A := R (198, [some (aR 8 0), some (aI ((s : Nat) : Int)), some (aI ((k : Nat) : Int)), some (aI sw), some (aI 0), some (aI (M 23 0 k)), some (aI (M 24 0 k)), some (aI (M 25 0 (2 * k))), some (aI ((i : Nat) : Int)), some (aL mo), none, some (aI ((i : Nat) : Int)), some (aL (jf_pb p1 (M 21 s) (M 181 s 0).toNat)), none], [], am_mix mo_SM g183 (am_mix mo_S3 g1 M))) (B := R (193, [some (aR 8 0), some (aI ((s : Nat) : Int)), some (aI ((k : Nat) : Int)), some (aI sw), some (aI 0), some (aI (M 23 0 k)), some (aI (M 24 0 k)), some (aI (M 25 0 (2 * k))), some (aI ((i : Nat) : Int)), some (aL mo), none, some (aI ((i : Nat) : Int)), some (aL (jf_pb p1 (M 21 s) (M 181 s 0).toNat)), none], [], am_mix mo_SM g183 (am_mix mo_S3 g1 M))) (by omega) (fun hA hB => hR _ ⟨(by omega), (fun hz => hR _ (am_brt (P := (-1 : Int) ≤ 0) (A := R (198, [some (aR 8 0), some (aI ((s : Nat) : Int)), some (aI ((k : Nat) : Int)), some (aI sw), some (aI 0), some (aI (M 23 0 k)), some (aI (M 24 0 k)), some (aI (M 25 0 (2 * k))), some (aI ((i : Nat) : Int)), some (aL mo), none, some (aI ((i : Nat) : Int)), some (aL (jf_pb p1 (M 21 s) (M 181 s 0).toNat)), none], [], am_mix mo_SM g183 (am_mix mo_S3 g1 M))) (B := R (193, [some (aR 8 0), some (aI ((s : Nat) : Int)), some (aI ((k : Nat) : Int)), some (aI sw), some (aI 0), some (aI (M 23 0 k)), some (aI (M 24 0 k)), some (aI (M 25 0 (2 * k))), some (aI ((i : Nat) : Int)), some (aL mo), none, some (aI ((i : Nat) : Int)), some (aL (jf_pb p1 (M 21 s) (M 181 s 0).toNat)), none], [], am_mix mo_SM g183 (am_mix mo_S3 g1 M))) (by omega) (by omega) (hA (by omega)))), (fun hz => hR _ (am_brt (P := (0 : Int) ≤ 0) (A := R (198, [some (aR 8 0), some (aI ((s : Nat) : Int)), some (aI ((k : Nat) : Int)), some (aI sw), some (aI 0), some (aI (M 23 0 k)), some (aI (M 24 0 k)), some (aI (M 25 0 (2 * k))), some (aI ((i : Nat) : Int)), some (aL mo), none, some (aI ((i : Nat) : Int)), some (aL (jf_pb p1 (M 21 s) (M 181 s 0).toNat)), none], [], am_mix mo_SM g183 (am_mix mo_S3 g1 M))) (B := R (193, [some (aR 8 0), some (aI ((s : Nat) : Int)), some (aI ((k : Nat) : Int)), some (aI sw), some (aI 0), some (aI (M 23 0 k)), some (aI (M 24 0 k)), some (aI (M 25 0 (2 * k))), some (aI ((i : Nat) : Int)), some (aL mo), none, some (aI ((i : Nat) : Int)), some (aL (jf_pb p1 (M 21 s) (M 181 s 0).toNat)), none], [], am_mix mo_SM g183 (am_mix mo_S3 g1 M))) (by omega) (by omega) (hA (by omega)))), (fun hz => hR _ (am_brf (P := (1 : Int) ≤ 0) (A := R (198, [some (aR 8 0), some (aI ((s : Nat) : Int)), some (aI ((k : Nat) : Int)), some (aI sw), some (aI 0), some (aI (M 23 0 k)), some (aI (M 24 0 k)), some (aI (M 25 0 (2 * k))), some (aI ((i : Nat) : Int)), some (aL mo), none, some (aI ((i : Nat) : Int)), some (aL (jf_pb p1 (M 21 s) (M 181 s 0).toNat)), none], [], am_mix mo_SM g183 (am_mix mo_S3 g1 M))) (B := R (193, [some (aR 8 0), some (aI ((s : Nat) : Int)), some (aI ((k : Nat) : Int)), some (aI sw), some (aI 0), some (aI (M 23 0 k)), some (aI (M 24 0 k)), some (aI (M 25 0 (2 * k))), some (aI ((i : Nat) : Int)), some (aL mo), none, some (aI ((i : Nat) : Int)), some (aL (jf_pb p1 (M 21 s) (M 181 s 0).toNat)), none], [], am_mix mo_SM g183 (am_mix mo_S3 g1 M))) (by omega) (by omega) (hB (by omega))))⟩) (fun c189 => ?_) (fun c189 => ?_)
                · refine hR _ (hR _ (hR _ (hR _ (?_))))
                  show R (74, [some (aR 8 0), some (aI ((s : Nat) : Int)), some (aI ((k : Nat) : Int)), some (aI sw), some (aI 0), some (aI (M 23 0 k)), some (aI (M 24 0 k)), some (aI (M 25 0 (2 * k))), some (aI ((i : Nat) : Int)), some (aL mo), none, some (aI (((i : Nat) : Int) + 1)), some (aL (jf_pb p1 (M 21 s) (M 181 s 0).toNat)), none], [], am_mix mo_SM g183 (am_mix mo_S3 g1 M))
                  exfalso
                  omega
                · refine hR _ (hR _ (hR _ (hR _ (hR _ (?_)))))
                  show R (74, [some (aR 8 0), some (aI ((s : Nat) : Int)), some (aI ((k : Nat) : Int)), some (aI sw), some (aI 0), some (aI (M 23 0 k)), some (aI (M 24 0 k)), some (aI (M 25 0 (2 * k))), some (aI ((i : Nat) : Int)), some (aL (jf_pb p1 (M 21 s) (M 181 s 0).toNat)), none, some (aI (((i : Nat) : Int) + 1)), some (aL (jf_pb p1 (M 21 s) (M 181 s 0).toNat)), none], [], am_mix mo_SM g183 (am_mix mo_S3 g1 M))
                  have m23 : mo_but 23 k (am_mix mo_SM g183 (am_mix mo_S3 g1 M)) M := n23
                  have m24 : mo_but 24 k (am_mix mo_SM g183 (am_mix mo_S3 g1 M)) M := n24
                  have m25 : mo_but 25 (2 * k) (am_mix mo_SM g183 (am_mix mo_S3 g1 M)) M := n25
                  have e9 : am_ag mo_S3 M (am_mix mo_SM g183 (am_mix mo_S3 g1 M)) := ((am_ag.rf).mix rfl).mix rfl
                  rw [e9.eq] at m23 m24 m25 ⊢
                  rw [← hpp1] at hst1
                  have hcond : i = 0 ∨ ((jf_bf M s k 0) i).2.1 < jf_pb p1 (M 21 s) (M 181 s 0).toNat := by
                    by_cases h0 : i = 0
                    · exact Or.inl h0
                    · rw [if_neg h0] at hmo
                      exact Or.inr (by omega)
                  have e1 : (jf_bf M s k 0) (i + 1) = (((i : Nat) : Int), jf_pb p1 (M 21 s) (M 181 s 0).toNat, 1) := hst1.trans (if_pos hcond)
                  refine ih (i + 1) _ _ _ _ _ (by omega) (by omega) m23 m24 m25 ?_ ?_
                  · rw [e1]
                  · rw [if_neg (by omega), e1]
          have e9 : am_ag mo_S3 M M := am_ag.rf
          rw [e9.eq]
          exact key 6 0 _ _ _ _ _ rfl rfl (fun i j _ => rfl) (fun i j _ => rfl) (fun i j _ => rfl) rfl rfl
        · subst h0
          show R (35, [some (aR 8 0), some (aI ((s : Nat) : Int)), some (aI ((k : Nat) : Int)), some (aI sw), none, none, none, none, none, none, none, none, none, none], [aI 1], M)
          refine hR _ (hR _ (hR _ (hR _ (?_))))
          show R (42, [some (aR 8 0), some (aI ((s : Nat) : Int)), some (aI ((k : Nat) : Int)), some (aI sw), some (aI 1), none, none, none, none, none, none, none, none, none], [aI ((k : Nat) : Int), aR 23 0], M)
          refine hR _ ⟨(show 0 ≤ (((k : Nat) : Int) : Int) ∧ (((k : Nat) : Int) : Int) < 5 from (by omega)), ?_⟩
          show R (43, [some (aR 8 0), some (aI ((s : Nat) : Int)), some (aI ((k : Nat) : Int)), some (aI sw), some (aI 1), none, none, none, none, none, none, none, none, none], [aI (M 23 0 k)], M)
          refine hR _ (hR _ (hR _ (hR _ (?_))))
          show R (50, [some (aR 8 0), some (aI ((s : Nat) : Int)), some (aI ((k : Nat) : Int)), some (aI sw), some (aI 1), some (aI (M 23 0 k)), none, none, none, none, none, none, none, none], [aI ((k : Nat) : Int), aR 24 0], M)
          refine hR _ ⟨(show 0 ≤ (((k : Nat) : Int) : Int) ∧ (((k : Nat) : Int) : Int) < 5 from (by omega)), ?_⟩
          show R (51, [some (aR 8 0), some (aI ((s : Nat) : Int)), some (aI ((k : Nat) : Int)), some (aI sw), some (aI 1), some (aI (M 23 0 k)), none, none, none, none, none, none, none, none], [aI (M 24 0 k)], M)
          refine hR _ (hR _ (hR _ (hR _ (hR _ (hR _ (?_))))))
          show R (60, [some (aR 8 0), some (aI ((s : Nat) : Int)), some (aI ((k : Nat) : Int)), some (aI sw), some (aI 1), some (aI (M 23 0 k)), some (aI (M 24 0 k)), none, none, none, none, none, none, none], [aI (2 * ((k : Nat) : Int)), aR 25 0], M)
          refine hR _ ⟨(show 0 ≤ ((2 * ((k : Nat) : Int)) : Int) ∧ ((2 * ((k : Nat) : Int)) : Int) < 10 from (by omega)), ?_⟩
          show R (61, [some (aR 8 0), some (aI ((s : Nat) : Int)), some (aI ((k : Nat) : Int)), some (aI sw), some (aI 1), some (aI (M 23 0 k)), some (aI (M 24 0 k)), none, none, none, none, none, none, none], [aI (M 25 0 (((2 * ((k : Nat) : Int))).toNat))], M)
          rw [(show M 25 0 (((2 * ((k : Nat) : Int))).toNat) = M 25 0 (2 * k) by rw [show ((2 * ((k : Nat) : Int))).toNat = (2 * k) by omega])]
          show R (61, [some (aR 8 0), some (aI ((s : Nat) : Int)), some (aI ((k : Nat) : Int)), some (aI sw), some (aI 1), some (aI (M 23 0 k)), some (aI (M 24 0 k)), none, none, none, none, none, none, none], [aI (M 25 0 (2 * k))], M)
          refine hR _ (hR _ (hR _ (hR _ (hR _ (hR _ (hR _ (?_)))))))
          show R (74, [some (aR 8 0), some (aI ((s : Nat) : Int)), some (aI ((k : Nat) : Int)), some (aI sw), some (aI 1), some (aI (M 23 0 k)), some (aI (M 24 0 k)), some (aI (M 25 0 (2 * k))), some (aI (-1)), some (aL (-1)), none, some (aI 0), none, none], [], M)
          have hoki : ∀ q : Nat, q < 10 → jf_ok (jf_pf M k 1 q) := fun q hq => hJ.pf hk (by omega) (show 0 ≤ (q : Int) ∧ (q : Int) < jf_bfn 1 from ⟨by omega, by show (q : Int) < 10; omega⟩)
          have key : ∀ (f i : Nat) (x b mo : Int) (o12 : Option am_V) (g : am_M), x = (i : Int) → i + f = 10 → mo_but 23 k (am_mix mo_S3 g M) M → mo_but 24 k (am_mix mo_S3 g M) M → mo_but 25 (2 * k) (am_mix mo_S3 g M) M → b = ((jf_bf M s k 1) i).1 → mo = (if i = 0 then -1 else ((jf_bf M s k 1) i).2.1) → R (74, [some (aR 8 0), some (aI ((s : Nat) : Int)), some (aI ((k : Nat) : Int)), some (aI sw), some (aI 1), some (aI (M 23 0 k)), some (aI (M 24 0 k)), some (aI (M 25 0 (2 * k))), some (aI b), some (aL mo), none, some (aI x), o12, none], [], am_mix mo_S3 g M) := by
            intro f
            induction f with
            | zero =>
              intro i x b mo o12 g hx hin hb23 hb24 hb25 hb hmo
              subst hx
              have hbb : (-1 ≤ ((jf_bf M s k 1) i).1 ∧ ((jf_bf M s k 1) i).1 ≤ ((10 : Nat) : Int)) ∧ -1 ≤ ((jf_bf M s k 1) i).2.1 ∧ ((jf_bf M s k 1) i).2.1 ≤ 1000000000 := mo_bs_b (fun i => jf_pb (jf_pf M k 1 i) (M 21 s) (M 181 s 0).toNat) (by decide) (fun q hq => jf_pb_b (hoki q hq) _ _) i (by omega)
              have hbpi : -1 ≤ b ∧ b ≤ ((10 : Nat) : Int) := by rw [hb]; omega
              have hmoi : -1 ≤ mo ∧ mo ≤ 1000000000 := by rw [hmo]; split <;> omega
              refine hR _ (hR _ (hR _ (am_brt (rg := am_in 1) (P := (1 : Int) ≠ 0) (A := R (86, [some (aR 8 0), some (aI ((s : Nat) : Int)), some (aI ((k : Nat) : Int)), some (aI sw), some (aI 1), some (aI (M 23 0 k)), some (aI (M 24 0 k)), some (aI (M 25 0 (2 * k))), some (aI b), some (aL mo), none, some (aI ((i : Nat) : Int)), o12, none], [aI ((i : Nat) : Int)], am_mix mo_S3 g M)) (B := R (81, [some (aR 8 0), some (aI ((s : Nat) : Int)), some (aI ((k : Nat) : Int)), some (aI sw), some (aI 1), some (aI (M 23 0 k)), some (aI (M 24 0 k)), some (aI (M 25 0 (2 * k))), some (aI b), some (aL mo), none, some (aI ((i : Nat) : Int)), o12, none], [aI ((i : Nat) : Int)], am_mix mo_S3 g M)) (by omega) (by omega) ?_)))
              show R (86, [some (aR 8 0), some (aI ((s : Nat) : Int)), some (aI ((k : Nat) : Int)), some (aI sw), some (aI 1), some (aI (M 23 0 k)), some (aI (M 24 0 k)), some (aI (M 25 0 (2 * k))), some (aI b), some (aL mo), none, some (aI ((i : Nat) : Int)), o12, none], [aI ((i : Nat) : Int)], am_mix mo_S3 g M)
              refine hR _ (hR _ (hR _ (am_brf (rg := am_in 1 ∧ am_in 1) (P := (1 : Int) ≠ 1) (A := R (97, [some (aR 8 0), some (aI ((s : Nat) : Int)), some (aI ((k : Nat) : Int)), some (aI sw), some (aI 1), some (aI (M 23 0 k)), some (aI (M 24 0 k)), some (aI (M 25 0 (2 * k))), some (aI b), some (aL mo), none, some (aI ((i : Nat) : Int)), o12, none], [aI ((i : Nat) : Int)], am_mix mo_S3 g M)) (B := R (92, [some (aR 8 0), some (aI ((s : Nat) : Int)), some (aI ((k : Nat) : Int)), some (aI sw), some (aI 1), some (aI (M 23 0 k)), some (aI (M 24 0 k)), some (aI (M 25 0 (2 * k))), some (aI b), some (aL mo), none, some (aI ((i : Nat) : Int)), o12, none], [aI ((i : Nat) : Int)], am_mix mo_S3 g M)) (by omega) (by omega) ?_)))
              show R (92, [some (aR 8 0), some (aI ((s : Nat) : Int)), some (aI ((k : Nat) : Int)), some (aI sw), some (aI 1), some (aI (M 23 0 k)), some (aI (M 24 0 k)), some (aI (M 25 0 (2 * k))), some (aI b), some (aL mo), none, some (aI ((i : Nat) : Int)), o12, none], [aI ((i : Nat) : Int)], am_mix mo_S3 g M)
              refine hR _ (hR _ (hR _ (am_brt (rg := am_in ((i : Nat) : Int) ∧ am_in 10) (P := 10 ≤ ((i : Nat) : Int)) (A := R (208, [some (aR 8 0), some (aI ((s : Nat) : Int)), some (aI ((k : Nat) : Int)), some (aI sw), some (aI 1), some (aI (M 23 0 k)), some (aI (M 24 0 k)), some (aI (M 25 0 (2 * k))), some (aI b), some (aL mo), none, some (aI ((i : Nat) : Int)), o12, none], [], am_mix mo_S3 g M)) (B := R (102, [some (aR 8 0), some (aI ((s : Nat) : Int)), some (aI ((k : Nat) : Int)), some (aI sw), some (aI 1), some (aI (M 23 0 k)), some (aI (M 24 0 k)), some (aI (M 25 0 (2 * k))), some (aI b), some (aL mo), none, some (aI ((i : Nat) : Int)), o12, none], [], am_mix mo_S3 g M)) (by omega) (by omega) ?_)))
              show R (208, [some (aR 8 0), some (aI ((s : Nat) : Int)), some (aI ((k : Nat) : Int)), some (aI sw), some (aI 1), some (aI (M 23 0 k)), some (aI (M 24 0 k)), some (aI (M 25 0 (2 * k))), some (aI b), some (aL mo), none, some (aI ((i : Nat) : Int)), o12, none], [], am_mix mo_S3 g M)
              refine hR _ (hR _ (hR _ (hR _ (?_))))
              show R (215, [some (aR 8 0), some (aI ((s : Nat) : Int)), some (aI ((k : Nat) : Int)), some (aI sw), some (aI 1), some (aI (M 23 0 k)), some (aI (M 24 0 k)), some (aI (M 25 0 (2 * k))), some (aI b), some (aL mo), none, some (aI ((i : Nat) : Int)), o12, none], [aI (M 23 0 k), aI ((k : Nat) : Int), aR 23 0], am_mix mo_S3 g M)
              refine hR _ ⟨(show 0 ≤ (((k : Nat) : Int) : Int) ∧ (((k : Nat) : Int) : Int) < 5 from (by omega)), ?_⟩
              show R (216, [some (aR 8 0), some (aI ((s : Nat) : Int)), some (aI ((k : Nat) : Int)), some (aI sw), some (aI 1), some (aI (M 23 0 k)), some (aI (M 24 0 k)), some (aI (M 25 0 (2 * k))), some (aI b), some (aL mo), none, some (aI ((i : Nat) : Int)), o12, none], [], am_wr (am_mix mo_S3 g M) 23 0 k (M 23 0 k))
              refine hR _ (hR _ (hR _ (hR _ (?_))))
              show R (223, [some (aR 8 0), some (aI ((s : Nat) : Int)), some (aI ((k : Nat) : Int)), some (aI sw), some (aI 1), some (aI (M 23 0 k)), some (aI (M 24 0 k)), some (aI (M 25 0 (2 * k))), some (aI b), some (aL mo), none, some (aI ((i : Nat) : Int)), o12, none], [aI (M 24 0 k), aI ((k : Nat) : Int), aR 24 0], am_wr (am_mix mo_S3 g M) 23 0 k (M 23 0 k))
              refine hR _ ⟨(show 0 ≤ (((k : Nat) : Int) : Int) ∧ (((k : Nat) : Int) : Int) < 5 from (by omega)), ?_⟩
              show R (224, [some (aR 8 0), some (aI ((s : Nat) : Int)), some (aI ((k : Nat) : Int)), some (aI sw), some (aI 1), some (aI (M 23 0 k)), some (aI (M 24 0 k)), some (aI (M 25 0 (2 * k))), some (aI b), some (aL mo), none, some (aI ((i : Nat) : Int)), o12, none], [], am_wr (am_wr (am_mix mo_S3 g M) 23 0 k (M 23 0 k)) 24 0 k (M 24 0 k))
              refine hR _ (hR _ (hR _ (hR _ (hR _ (hR _ (?_))))))
              show R (233, [some (aR 8 0), some (aI ((s : Nat) : Int)), some (aI ((k : Nat) : Int)), some (aI sw), some (aI 1), some (aI (M 23 0 k)), some (aI (M 24 0 k)), some (aI (M 25 0 (2 * k))), some (aI b), some (aL mo), none, some (aI ((i : Nat) : Int)), o12, none], [aI (M 25 0 (2 * k)), aI (2 * ((k : Nat) : Int)), aR 25 0], am_wr (am_wr (am_mix mo_S3 g M) 23 0 k (M 23 0 k)) 24 0 k (M 24 0 k))
              refine hR _ ⟨(show 0 ≤ ((2 * ((k : Nat) : Int)) : Int) ∧ ((2 * ((k : Nat) : Int)) : Int) < 10 from (by omega)), ?_⟩
              show R (234, [some (aR 8 0), some (aI ((s : Nat) : Int)), some (aI ((k : Nat) : Int)), some (aI sw), some (aI 1), some (aI (M 23 0 k)), some (aI (M 24 0 k)), some (aI (M 25 0 (2 * k))), some (aI b), some (aL mo), none, some (aI ((i : Nat) : Int)), o12, none], [], am_wr (am_wr (am_wr (am_mix mo_S3 g M) 23 0 k (M 23 0 k)) 24 0 k (M 24 0 k)) 25 0 (((2 * ((k : Nat) : Int))).toNat) (M 25 0 (2 * k)))
              refine hR _ (hR _ (?_))
              show R (237, [some (aR 8 0), some (aI ((s : Nat) : Int)), some (aI ((k : Nat) : Int)), some (aI sw), some (aI 1), some (aI (M 23 0 k)), some (aI (M 24 0 k)), some (aI (M 25 0 (2 * k))), some (aI b), some (aL mo), none, some (aI ((i : Nat) : Int)), o12, none], [aI 10, aI sw], am_wr (am_wr (am_wr (am_mix mo_S3 g M) 23 0 k (M 23 0 k)) 24 0 k (M 24 0 k)) 25 0 (((2 * ((k : Nat) : Int))).toNat) (M 25 0 (2 * k)))
              refine hR _ ⟨(by omega), ?_⟩
              show R (238, [some (aR 8 0), some (aI ((s : Nat) : Int)), some (aI ((k : Nat) : Int)), some (aI sw), some (aI 1), some (aI (M 23 0 k)), some (aI (M 24 0 k)), some (aI (M 25 0 (2 * k))), some (aI b), some (aL mo), none, some (aI ((i : Nat) : Int)), o12, none], [aI (Int.tmod sw 10)], am_wr (am_wr (am_wr (am_mix mo_S3 g M) 23 0 k (M 23 0 k)) 24 0 k (M 24 0 k)) 25 0 (((2 * ((k : Nat) : Int))).toNat) (M 25 0 (2 * k)))
              refine hR _ (am_brc (rg := am_in (Int.tmod sw 10)) (P := (Int.tmod sw 10) ≠ 0) (A := R (247, [some (aR 8 0), some (aI ((s : Nat) : Int)), some (aI ((k : Nat) : Int)), some (aI sw), some (aI 1), some (aI (M 23 0 k)), some (aI (M 24 0 k)), some (aI (M 25 0 (2 * k))), some (aI b), some (aL mo), none, some (aI ((i : Nat) : Int)), o12, none], [], am_wr (am_wr (am_wr (am_mix mo_S3 g M) 23 0 k (M 23 0 k)) 24 0 k (M 24 0 k)) 25 0 (((2 * ((k : Nat) : Int))).toNat) (M 25 0 (2 * k)))) (B := R (241, [some (aR 8 0), some (aI ((s : Nat) : Int)), some (aI ((k : Nat) : Int)), some (aI sw), some (aI 1), some (aI (M 23 0 k)), some (aI (M 24 0 k)), some (aI (M 25 0 (2 * k))), some (aI b), some (aL mo), none, some (aI ((i : Nat) : Int)), o12, none], [], am_wr (am_wr (am_wr (am_mix mo_S3 g M) 23 0 k (M 23 0 k)) 24 0 k (M 24 0 k)) 25 0 (((2 * ((k : Nat) : Int))).toNat) (M 25 0 (2 * k)))) (by omega) (fun c238 => ?_) (fun c238 => ?_))
              · refine hR _ (?_)
                show R (249, [some (aR 8 0), some (aI ((s : Nat) : Int)), some (aI ((k : Nat) : Int)), some (aI sw), some (aI 1), some (aI (M 23 0 k)), some (aI (M 24 0 k)), some (aI (M 25 0 (2 * k))), some (aI b), some (aL mo), none, some (aI ((i : Nat) : Int)), o12, none], [aL mo], am_wr (am_wr (am_wr (am_mix mo_S3 g M) 23 0 k (M 23 0 k)) 24 0 k (M 24 0 k)) 25 0 (((2 * ((k : Nat) : Int))).toNat) (M 25 0 (2 * k)))
                refine hR _ (show K (some (aL mo)) (am_wr (am_wr (am_wr (am_mix mo_S3 g M) 23 0 k (M 23 0 k)) 24 0 k (M 24 0 k)) 25 0 (((2 * ((k : Nat) : Int))).toNat) (M 25 0 (2 * k))) from ?_)
                have hres : jx_fits M ((s : Nat) : Int) ((k : Nat) : Int) sw = mo := by
                  unfold jx_fits
                  simp only [Int.toNat_natCast]
                  rw [← hso]
                  rw [if_pos (by omega), if_neg hms, if_pos (by omega), show jf_bfn 1 = 10 from rfl]
                  have hi : i = 10 := by omega
                  rw [hi] at hb hmo
                  rw [if_neg (by decide)] at hmo
                  first | (rw [if_neg (by omega)]; exact hb.symm) | (rw [if_pos (by omega)]; exact hmo.symm)
                rw [hres] at hK
                have a1 := mo_back (S := 24 :: 25 :: mo_SM) (v := 23) (c := k) (M := M) (m := am_mix mo_S3 g M) (am_ag.rf.mix rfl) hb23
                have a2 := mo_back (S := 25 :: mo_SM) (v := 24) (c := k) (M := M) (m := am_wr (am_mix mo_S3 g M) 23 0 k (M 23 0 k)) a1 hb24
                have a3 := mo_back (S := mo_SM) (v := 25) (c := 2 * k) (M := M) (m := am_wr (am_wr (am_mix mo_S3 g M) 23 0 k (M 23 0 k)) 24 0 k (M 24 0 k)) a2 hb25
                rw [show (2 * ((k : Nat) : Int)).toNat = 2 * k by omega]
                rw [a3.eq]
                exact hK _
              · refine hR _ (?_)
                show R (243, [some (aR 8 0), some (aI ((s : Nat) : Int)), some (aI ((k : Nat) : Int)), some (aI sw), some (aI 1), some (aI (M 23 0 k)), some (aI (M 24 0 k)), some (aI (M 25 0 (2 * k))), some (aI b), some (aL mo), none, some (aI ((i : Nat) : Int)), o12, none], [aI b], am_wr (am_wr (am_wr (am_mix mo_S3 g M) 23 0 k (M 23 0 k)) 24 0 k (M 24 0 k)) 25 0 (((2 * ((k : Nat) : Int))).toNat) (M 25 0 (2 * k)))
                refine hR _ ⟨(by omega), ?_⟩
                show R (244, [some (aR 8 0), some (aI ((s : Nat) : Int)), some (aI ((k : Nat) : Int)), some (aI sw), some (aI 1), some (aI (M 23 0 k)), some (aI (M 24 0 k)), some (aI (M 25 0 (2 * k))), some (aI b), some (aL mo), none, some (aI ((i : Nat) : Int)), o12, none], [aL b], am_wr (am_wr (am_wr (am_mix mo_S3 g M) 23 0 k (M 23 0 k)) 24 0 k (M 24 0 k)) 25 0 (((2 * ((k : Nat) : Int))).toNat) (M 25 0 (2 * k)))
                refine hR _ (?_)
                show R (249, [some (aR 8 0), some (aI ((s : Nat) : Int)), some (aI ((k : Nat) : Int)), some (aI sw), some (aI 1), some (aI (M 23 0 k)), some (aI (M 24 0 k)), some (aI (M 25 0 (2 * k))), some (aI b), some (aL mo), none, some (aI ((i : Nat) : Int)), o12, none], [aL b], am_wr (am_wr (am_wr (am_mix mo_S3 g M) 23 0 k (M 23 0 k)) 24 0 k (M 24 0 k)) 25 0 (((2 * ((k : Nat) : Int))).toNat) (M 25 0 (2 * k)))
                refine hR _ (show K (some (aL b)) (am_wr (am_wr (am_wr (am_mix mo_S3 g M) 23 0 k (M 23 0 k)) 24 0 k (M 24 0 k)) 25 0 (((2 * ((k : Nat) : Int))).toNat) (M 25 0 (2 * k))) from ?_)
                have hres : jx_fits M ((s : Nat) : Int) ((k : Nat) : Int) sw = b := by
                  unfold jx_fits
                  simp only [Int.toNat_natCast]
                  rw [← hso]
                  rw [if_pos (by omega), if_neg hms, if_pos (by omega), show jf_bfn 1 = 10 from rfl]
                  have hi : i = 10 := by omega
                  rw [hi] at hb hmo
                  rw [if_neg (by decide)] at hmo
                  first | (rw [if_neg (by omega)]; exact hb.symm) | (rw [if_pos (by omega)]; exact hmo.symm)
                rw [hres] at hK
                have a1 := mo_back (S := 24 :: 25 :: mo_SM) (v := 23) (c := k) (M := M) (m := am_mix mo_S3 g M) (am_ag.rf.mix rfl) hb23
                have a2 := mo_back (S := 25 :: mo_SM) (v := 24) (c := k) (M := M) (m := am_wr (am_mix mo_S3 g M) 23 0 k (M 23 0 k)) a1 hb24
                have a3 := mo_back (S := mo_SM) (v := 25) (c := 2 * k) (M := M) (m := am_wr (am_wr (am_mix mo_S3 g M) 23 0 k (M 23 0 k)) 24 0 k (M 24 0 k)) a2 hb25
                rw [show (2 * ((k : Nat) : Int)).toNat = 2 * k by omega]
                rw [a3.eq]
                exact hK _
            | succ f ih =>
              intro i x b mo o12 g hx hin hb23 hb24 hb25 hb hmo
              subst hx
              have hbb : (-1 ≤ ((jf_bf M s k 1) i).1 ∧ ((jf_bf M s k 1) i).1 ≤ ((10 : Nat) : Int)) ∧ -1 ≤ ((jf_bf M s k 1) i).2.1 ∧ ((jf_bf M s k 1) i).2.1 ≤ 1000000000 := mo_bs_b (fun i => jf_pb (jf_pf M k 1 i) (M 21 s) (M 181 s 0).toNat) (by decide) (fun q hq => jf_pb_b (hoki q hq) _ _) i (by omega)
              have hbpi : -1 ≤ b ∧ b ≤ ((10 : Nat) : Int) := by rw [hb]; omega
              have hmoi : -1 ≤ mo ∧ mo ≤ 1000000000 := by rw [hmo]; split <;> omega
              have hst1 : (jf_bf M s k 1) (i + 1) = if i = 0 ∨ ((jf_bf M s k 1) i).2.1 < jf_pb (jf_pf M k 1 i) (M 21 s) (M 181 s 0).toNat then (((i : Nat) : Int), jf_pb (jf_pf M k 1 i) (M 21 s) (M 181 s 0).toNat, 1) else (jf_bf M s k 1) i := mo_bs_1 (fun i => jf_pb (jf_pf M k 1 i) (M 21 s) (M 181 s 0).toNat) i
              refine hR _ (hR _ (hR _ (am_brt (rg := am_in 1) (P := (1 : Int) ≠ 0) (A := R (86, [some (aR 8 0), some (aI ((s : Nat) : Int)), some (aI ((k : Nat) : Int)), some (aI sw), some (aI 1), some (aI (M 23 0 k)), some (aI (M 24 0 k)), some (aI (M 25 0 (2 * k))), some (aI b), some (aL mo), none, some (aI ((i : Nat) : Int)), o12, none], [aI ((i : Nat) : Int)], am_mix mo_S3 g M)) (B := R (81, [some (aR 8 0), some (aI ((s : Nat) : Int)), some (aI ((k : Nat) : Int)), some (aI sw), some (aI 1), some (aI (M 23 0 k)), some (aI (M 24 0 k)), some (aI (M 25 0 (2 * k))), some (aI b), some (aL mo), none, some (aI ((i : Nat) : Int)), o12, none], [aI ((i : Nat) : Int)], am_mix mo_S3 g M)) (by omega) (by omega) ?_)))
              show R (86, [some (aR 8 0), some (aI ((s : Nat) : Int)), some (aI ((k : Nat) : Int)), some (aI sw), some (aI 1), some (aI (M 23 0 k)), some (aI (M 24 0 k)), some (aI (M 25 0 (2 * k))), some (aI b), some (aL mo), none, some (aI ((i : Nat) : Int)), o12, none], [aI ((i : Nat) : Int)], am_mix mo_S3 g M)
              refine hR _ (hR _ (hR _ (am_brf (rg := am_in 1 ∧ am_in 1) (P := (1 : Int) ≠ 1) (A := R (97, [some (aR 8 0), some (aI ((s : Nat) : Int)), some (aI ((k : Nat) : Int)), some (aI sw), some (aI 1), some (aI (M 23 0 k)), some (aI (M 24 0 k)), some (aI (M 25 0 (2 * k))), some (aI b), some (aL mo), none, some (aI ((i : Nat) : Int)), o12, none], [aI ((i : Nat) : Int)], am_mix mo_S3 g M)) (B := R (92, [some (aR 8 0), some (aI ((s : Nat) : Int)), some (aI ((k : Nat) : Int)), some (aI sw), some (aI 1), some (aI (M 23 0 k)), some (aI (M 24 0 k)), some (aI (M 25 0 (2 * k))), some (aI b), some (aL mo), none, some (aI ((i : Nat) : Int)), o12, none], [aI ((i : Nat) : Int)], am_mix mo_S3 g M)) (by omega) (by omega) ?_)))
              show R (92, [some (aR 8 0), some (aI ((s : Nat) : Int)), some (aI ((k : Nat) : Int)), some (aI sw), some (aI 1), some (aI (M 23 0 k)), some (aI (M 24 0 k)), some (aI (M 25 0 (2 * k))), some (aI b), some (aL mo), none, some (aI ((i : Nat) : Int)), o12, none], [aI ((i : Nat) : Int)], am_mix mo_S3 g M)
              refine hR _ (hR _ (hR _ (am_brf (rg := am_in ((i : Nat) : Int) ∧ am_in 10) (P := 10 ≤ ((i : Nat) : Int)) (A := R (208, [some (aR 8 0), some (aI ((s : Nat) : Int)), some (aI ((k : Nat) : Int)), some (aI sw), some (aI 1), some (aI (M 23 0 k)), some (aI (M 24 0 k)), some (aI (M 25 0 (2 * k))), some (aI b), some (aL mo), none, some (aI ((i : Nat) : Int)), o12, none], [], am_mix mo_S3 g M)) (B := R (102, [some (aR 8 0), some (aI ((s : Nat) : Int)), some (aI ((k : Nat) : Int)), some (aI sw), some (aI 1), some (aI (M 23 0 k)), some (aI (M 24 0 k)), some (aI (M 25 0 (2 * k))), some (aI b), some (aL mo), none, some (aI ((i : Nat) : Int)), o12, none], [], am_mix mo_S3 g M)) (by omega) (by omega) ?_)))
              show R (102, [some (aR 8 0), some (aI ((s : Nat) : Int)), some (aI ((k : Nat) : Int)), some (aI sw), some (aI 1), some (aI (M 23 0 k)), some (aI (M 24 0 k)), some (aI (M 25 0 (2 * k))), some (aI b), some (aL mo), none, some (aI ((i : Nat) : Int)), o12, none], [], am_mix mo_S3 g M)
              refine hR _ (hR _ (hR _ (hR _ (hR _ (am_brt (rg := am_in 1) (P := (1 : Int) ≠ 0) (A := R (117, [some (aR 8 0), some (aI ((s : Nat) : Int)), some (aI ((k : Nat) : Int)), some (aI sw), some (aI 1), some (aI (M 23 0 k)), some (aI (M 24 0 k)), some (aI (M 25 0 (2 * k))), some (aI b), some (aL mo), none, some (aI ((i : Nat) : Int)), o12, none], [aI ((k : Nat) : Int), aR 23 0], am_mix mo_S3 g M)) (B := R (112, [some (aR 8 0), some (aI ((s : Nat) : Int)), some (aI ((k : Nat) : Int)), some (aI sw), some (aI 1), some (aI (M 23 0 k)), some (aI (M 24 0 k)), some (aI (M 25 0 (2 * k))), some (aI b), some (aL mo), none, some (aI ((i : Nat) : Int)), o12, none], [aI ((k : Nat) : Int), aR 23 0], am_mix mo_S3 g M)) (by omega) (by omega) ?_)))))
              show R (117, [some (aR 8 0), some (aI ((s : Nat) : Int)), some (aI ((k : Nat) : Int)), some (aI sw), some (aI 1), some (aI (M 23 0 k)), some (aI (M 24 0 k)), some (aI (M 25 0 (2 * k))), some (aI b), some (aL mo), none, some (aI ((i : Nat) : Int)), o12, none], [aI ((k : Nat) : Int), aR 23 0], am_mix mo_S3 g M)
              refine hR _ (?_)
              show R (119, [some (aR 8 0), some (aI ((s : Nat) : Int)), some (aI ((k : Nat) : Int)), some (aI sw), some (aI 1), some (aI (M 23 0 k)), some (aI (M 24 0 k)), some (aI (M 25 0 (2 * k))), some (aI b), some (aL mo), none, some (aI ((i : Nat) : Int)), o12, none], [aI (M 23 0 k), aI ((k : Nat) : Int), aR 23 0], am_mix mo_S3 g M)
              refine hR _ ⟨(show 0 ≤ (((k : Nat) : Int) : Int) ∧ (((k : Nat) : Int) : Int) < 5 from (by omega)), ?_⟩
              show R (120, [some (aR 8 0), some (aI ((s : Nat) : Int)), some (aI ((k : Nat) : Int)), some (aI sw), some (aI 1), some (aI (M 23 0 k)), some (aI (M 24 0 k)), some (aI (M 25 0 (2 * k))), some (aI b), some (aL mo), none, some (aI ((i : Nat) : Int)), o12, none], [], am_wr (am_mix mo_S3 g M) 23 0 k (M 23 0 k))
              refine hR _ (hR _ (hR _ (hR _ (hR _ (hR _ (am_brf (rg := am_in 1 ∧ am_in 1) (P := (1 : Int) ≠ 1) (A := R (136, [some (aR 8 0), some (aI ((s : Nat) : Int)), some (aI ((k : Nat) : Int)), some (aI sw), some (aI 1), some (aI (M 23 0 k)), some (aI (M 24 0 k)), some (aI (M 25 0 (2 * k))), some (aI b), some (aL mo), none, some (aI ((i : Nat) : Int)), o12, none], [aI ((k : Nat) : Int), aR 24 0], am_wr (am_mix mo_S3 g M) 23 0 k (M 23 0 k))) (B := R (131, [some (aR 8 0), some (aI ((s : Nat) : Int)), some (aI ((k : Nat) : Int)), some (aI sw), some (aI 1), some (aI (M 23 0 k)), some (aI (M 24 0 k)), some (aI (M 25 0 (2 * k))), some (aI b), some (aL mo), none, some (aI ((i : Nat) : Int)), o12, none], [aI ((k : Nat) : Int), aR 24 0], am_wr (am_mix mo_S3 g M) 23 0 k (M 23 0 k))) (by omega) (by omega) ?_))))))
              show R (131, [some (aR 8 0), some (aI ((s : Nat) : Int)), some (aI ((k : Nat) : Int)), some (aI sw), some (aI 1), some (aI (M 23 0 k)), some (aI (M 24 0 k)), some (aI (M 25 0 (2 * k))), some (aI b), some (aL mo), none, some (aI ((i : Nat) : Int)), o12, none], [aI ((k : Nat) : Int), aR 24 0], am_wr (am_mix mo_S3 g M) 23 0 k (M 23 0 k))
              refine hR _ (hR _ (?_))
              show R (138, [some (aR 8 0), some (aI ((s : Nat) : Int)), some (aI ((k : Nat) : Int)), some (aI sw), some (aI 1), some (aI (M 23 0 k)), some (aI (M 24 0 k)), some (aI (M 25 0 (2 * k))), some (aI b), some (aL mo), none, some (aI ((i : Nat) : Int)), o12, none], [aI ((i : Nat) : Int), aI ((k : Nat) : Int), aR 24 0], am_wr (am_mix mo_S3 g M) 23 0 k (M 23 0 k))
              refine hR _ ⟨(show 0 ≤ (((k : Nat) : Int) : Int) ∧ (((k : Nat) : Int) : Int) < 5 from (by omega)), ?_⟩
              show R (139, [some (aR 8 0), some (aI ((s : Nat) : Int)), some (aI ((k : Nat) : Int)), some (aI sw), some (aI 1), some (aI (M 23 0 k)), some (aI (M 24 0 k)), some (aI (M 25 0 (2 * k))), some (aI b), some (aL mo), none, some (aI ((i : Nat) : Int)), o12, none], [], am_wr (am_wr (am_mix mo_S3 g M) 23 0 k (M 23 0 k)) 24 0 k ((i : Nat) : Int))
              refine hR _ (hR _ (hR _ (hR _ (hR _ (hR _ (hR _ (hR _ (am_brt (rg := am_in 1 ∧ am_in 2) (P := (1 : Int) ≠ 2) (A := R (157, [some (aR 8 0), some (aI ((s : Nat) : Int)), some (aI ((k : Nat) : Int)), some (aI sw), some (aI 1), some (aI (M 23 0 k)), some (aI (M 24 0 k)), some (aI (M 25 0 (2 * k))), some (aI b), some (aL mo), none, some (aI ((i : Nat) : Int)), o12, none], [aI (2 * ((k : Nat) : Int)), aR 25 0], am_wr (am_wr (am_mix mo_S3 g M) 23 0 k (M 23 0 k)) 24 0 k ((i : Nat) : Int))) (B := R (152, [some (aR 8 0), some (aI ((s : Nat) : Int)), some (aI ((k : Nat) : Int)), some (aI sw), some (aI 1), some (aI (M 23 0 k)), some (aI (M 24 0 k)), some (aI (M 25 0 (2 * k))), some (aI b), some (aL mo), none, some (aI ((i : Nat) : Int)), o12, none], [aI (2 * ((k : Nat) : Int)), aR 25 0], am_wr (am_wr (am_mix mo_S3 g M) 23 0 k (M 23 0 k)) 24 0 k ((i : Nat) : Int))) (by omega) (by omega) ?_))))))))
              show R (157, [some (aR 8 0), some (aI ((s : Nat) : Int)), some (aI ((k : Nat) : Int)), some (aI sw), some (aI 1), some (aI (M 23 0 k)), some (aI (M 24 0 k)), some (aI (M 25 0 (2 * k))), some (aI b), some (aL mo), none, some (aI ((i : Nat) : Int)), o12, none], [aI (2 * ((k : Nat) : Int)), aR 25 0], am_wr (am_wr (am_mix mo_S3 g M) 23 0 k (M 23 0 k)) 24 0 k ((i : Nat) : Int))
              refine hR _ (?_)
              show R (159, [some (aR 8 0), some (aI ((s : Nat) : Int)), some (aI ((k : Nat) : Int)), some (aI sw), some (aI 1), some (aI (M 23 0 k)), some (aI (M 24 0 k)), some (aI (M 25 0 (2 * k))), some (aI b), some (aL mo), none, some (aI ((i : Nat) : Int)), o12, none], [aI (M 25 0 (2 * k)), aI (2 * ((k : Nat) : Int)), aR 25 0], am_wr (am_wr (am_mix mo_S3 g M) 23 0 k (M 23 0 k)) 24 0 k ((i : Nat) : Int))
              refine hR _ ⟨(show 0 ≤ ((2 * ((k : Nat) : Int)) : Int) ∧ ((2 * ((k : Nat) : Int)) : Int) < 10 from (by omega)), ?_⟩
              show R (160, [some (aR 8 0), some (aI ((s : Nat) : Int)), some (aI ((k : Nat) : Int)), some (aI sw), some (aI 1), some (aI (M 23 0 k)), some (aI (M 24 0 k)), some (aI (M 25 0 (2 * k))), some (aI b), some (aL mo), none, some (aI ((i : Nat) : Int)), o12, none], [], am_wr (am_wr (am_wr (am_mix mo_S3 g M) 23 0 k (M 23 0 k)) 24 0 k ((i : Nat) : Int)) 25 0 (((2 * ((k : Nat) : Int))).toNat) (M 25 0 (2 * k)))
              rw [show (2 * ((k : Nat) : Int)).toNat = 2 * k by omega]
              have n23 : mo_but 23 k (am_wr (am_wr (am_wr (am_mix mo_S3 g M) 23 0 k (M 23 0 k)) 24 0 k ((i : Nat) : Int)) 25 0 (2 * k) (M 25 0 (2 * k))) M := mo_but.wr (g := am_mix mo_S3 g M) hb23
              have n24 : mo_but 24 k (am_wr (am_wr (am_wr (am_mix mo_S3 g M) 23 0 k (M 23 0 k)) 24 0 k ((i : Nat) : Int)) 25 0 (2 * k) (M 25 0 (2 * k))) M := mo_but.wr (g := am_mix mo_S3 g M) hb24
              have n25 : mo_but 25 (2 * k) (am_wr (am_wr (am_wr (am_mix mo_S3 g M) 23 0 k (M 23 0 k)) 24 0 k ((i : Nat) : Int)) 25 0 (2 * k) (M 25 0 (2 * k))) M := mo_but.wr (g := am_mix mo_S3 g M) hb25
              have v23 : (am_wr (am_wr (am_wr (am_mix mo_S3 g M) 23 0 k (M 23 0 k)) 24 0 k ((i : Nat) : Int)) 25 0 (2 * k) (M 25 0 (2 * k))) 23 0 k = (M 23 0 k) := (am_wr_ne (Or.inl (by decide))).trans ((am_wr_ne (Or.inl (by decide))).trans am_wr_eq)
              have v24 : (am_wr (am_wr (am_wr (am_mix mo_S3 g M) 23 0 k (M 23 0 k)) 24 0 k ((i : Nat) : Int)) 25 0 (2 * k) (M 25 0 (2 * k))) 24 0 k = ((i : Nat) : Int) := (am_wr_ne (Or.inl (by decide))).trans am_wr_eq
              have v25 : (am_wr (am_wr (am_wr (am_mix mo_S3 g M) 23 0 k (M 23 0 k)) 24 0 k ((i : Nat) : Int)) 25 0 (2 * k) (M 25 0 (2 * k))) 25 0 (2 * k) = (M 25 0 (2 * k)) := am_wr_eq
              have e9 : am_ag mo_S3 M (am_wr (am_wr (am_wr (am_mix mo_S3 g M) 23 0 k (M 23 0 k)) 24 0 k ((i : Nat) : Int)) 25 0 (2 * k) (M 25 0 (2 * k))) := (((am_ag.rf.mix rfl).wr rfl).wr rfl).wr rfl
              rw [e9.eq] at n23 n24 n25 v23 v24 v25 ⊢
              generalize am_wr (am_wr (am_wr (am_mix mo_S3 g M) 23 0 k (M 23 0 k)) 24 0 k ((i : Nat) : Int)) 25 0 (2 * k) (M 25 0 (2 * k)) = g1 at n23 n24 n25 v23 v24 v25 ⊢
              show R (160, [some (aR 8 0), some (aI ((s : Nat) : Int)), some (aI ((k : Nat) : Int)), some (aI sw), some (aI 1), some (aI (M 23 0 k)), some (aI (M 24 0 k)), some (aI (M 25 0 (2 * k))), some (aI b), some (aL mo), none, some (aI ((i : Nat) : Int)), o12, none], [], am_mix mo_S3 g1 M)
              obtain ⟨p1, hpp1⟩ : ∃ p1, p1 = jf_pf M k 1 ((i : Nat) : Int) := ⟨_, rfl⟩
              have hpf : jf_pf M k 1 ((i : Nat) : Int) = jf_pm M k ((i : Nat) : Int) := rfl
              have hp1 : mo_p (am_mix mo_S3 g1 M) k r p1 := by
                rw [hpp1, hpf]
                exact ⟨⟨hp0.1.1.trans v23.symm, v24.symm, hp0.1.2.2.1.trans v25.symm, hp0.1.2.2.2.trans (n25 0 (2 * k + 1) (by omega)).symm⟩, hp0.2⟩
              have hok1 : jf_ok p1 := by rw [hpp1]; exact hoki i (by omega)
              have hpm1 : p1.mk = M 22 0 0 := by rw [hpp1, hpf]; exact hpm0
              have hps1 : p1.st = 0 := by rw [hpp1, hpf]
              refine hR _ (hR _ (hR _ (?_)))
              show R (163, [some (aR 8 0), some (aI ((s : Nat) : Int)), some (aI ((k : Nat) : Int)), some (aI sw), some (aI 1), some (aI (M 23 0 k)), some (aI (M 24 0 k)), some (aI (M 25 0 (2 * k))), some (aI b), some (aL mo), none, some (aI ((i : Nat) : Int)), o12, none], [aI ((k : Nat) : Int), aI ((s : Nat) : Int), aR 8 0], am_mix mo_S3 g1 M)
              refine hR _ (sm_partsOf (p := p1) (r := r) (s := s) (c := M 21 s) (n := (M 181 s 0).toNat) (by omega) hsh hk hr hr6 hwt hp1 hok1 hpm1 hps1 (fun g184 => ?_))
              have hpbb := jf_pb_b hok1 (M 21 s) (M 181 s 0).toNat
              show R (166, [some (aR 8 0), some (aI ((s : Nat) : Int)), some (aI ((k : Nat) : Int)), some (aI sw), some (aI 1), some (aI (M 23 0 k)), some (aI (M 24 0 k)), some (aI (M 25 0 (2 * k))), some (aI b), some (aL mo), none, some (aI ((i : Nat) : Int)), o12, none], [aL (jf_pb p1 (M 21 s) (M 181 s 0).toNat)], am_mix mo_SM g184 (am_mix mo_S3 g1 M))
              refine hR _ (hR _ (hR _ (?_)))
              show R (172, [some (aR 8 0), some (aI ((s : Nat) : Int)), some (aI ((k : Nat) : Int)), some (aI sw), some (aI 1), some (aI (M 23 0 k)), some (aI (M 24 0 k)), some (aI (M 25 0 (2 * k))), some (aI b), some (aL mo), none, some (aI ((i : Nat) : Int)), some (aL (jf_pb p1 (M 21 s) (M 181 s 0).toNat)), none], [aL mo, aL (jf_pb p1 (M 21 s) (M 181 s 0).toNat)], am_mix mo_SM g184 (am_mix mo_S3 g1 M))
              refine am_lc (x := (jf_pb p1 (M 21 s) (M 181 s 0).toNat)) (y := mo) (P := (jf_pb p1 (M 21 s) (M 181 s 0).toNat) ≤ mo) (A := R (181, [some (aR 8 0), some (aI ((s : Nat) : Int)), some (aI ((k : Nat) : Int)), some (aI sw), some (aI 1), some (aI (M 23 0 k)), some (aI (M 24 0 k)), some (aI (M 25 0 (2 * k))), some (aI b), some (aL mo), none, some (aI ((i : Nat) : Int)), some (aL (jf_pb p1 (M 21 s) (M 181 s 0).toNat)), none], [], am_mix mo_SM g184 (am_mix mo_S3 g1 M))) (B := R (176, [some (aR 8 0), some (aI ((s : Nat) : Int)), some (aI ((k : Nat) : Int)), some (aI sw), some (aI 1), some (aI (M 23 0 k)), some (aI (M 24 0 k)), some (aI (M 25 0 (2 * k))), some (aI b), some (aL mo), none, some (aI ((i : Nat) : Int)), some (aL (jf_pb p1 (M 21 s) (M 181 s 0).toNat)), none], [], am_mix mo_SM g184 (am_mix mo_S3 g1 M))) (by omega) (fun hA hB => hR _ ⟨(by omega), (fun hz => hR _ (am_brt (P := (-1 : Int) ≤ 0) (A := R (181, [some (aR 8 0), some (aI ((s : Nat) : Int)), some (aI ((k : Nat) : Int)), some (aI sw), some (aI 1), some (aI (M 23 0 k)), some (aI (M 24 0 k)), some (aI (M 25 0 (2 * k))), some (aI b), some (aL mo), none, some (aI ((i : Nat) : Int)), some (aL (jf_pb p1 (M 21 s) (M 181 s 0).toNat)), none], [], am_mix mo_SM g184 (am_mix mo_S3 g1 M))) (B := R (176, [some (aR 8 0), some (aI ((s : Nat) : Int)), some (aI ((k : Nat) : Int)), some (aI sw), some (aI 1), some (aI (M 23 0 k)), some (aI (M 24 0 k)), some (aI (M 25 0 (2 * k))), some (aI b), some (aL mo), none, some (aI ((i : Nat) : Int)), some (aL (jf_pb p1 (M 21 s) (M 181 s 0).toNat)), none], [], am_mix mo_SM g184 (am_mix mo_S3 g1 M))) (by omega) (by omega) (hA (by omega)))), (fun hz => hR _ (am_brt (P := (0 : Int) ≤ 0) (A := R (181, [some (aR 8 0), some (aI ((s : Nat) : Int)), some (aI ((k : Nat) : Int)), some (aI sw), some (aI 1), some (aI (M 23 0 k)), some (aI (M 24 0 k)), some (aI (M 25 0 (2 * k))), some (aI b), some (aL mo), none, some (aI ((i : Nat) : Int)), some (aL (jf_pb p1 (M 21 s) (M 181 s 0).toNat)), none], [], am_mix mo_SM g184 (am_mix mo_S3 g1 M))) (B := R (176, [some (aR 8 0), some (aI ((s : Nat) : Int)), some (aI ((k : Nat) : Int)), some (aI sw), some (aI 1), some (aI (M 23 0 k)), some (aI (M 24 0 k)), some (aI (M 25 0 (2 * k))), some (aI b), some (aL mo), none, some (aI ((i : Nat) : Int)), some (aL (jf_pb p1 (M 21 s) (M 181 s 0).toNat)), none], [], am_mix mo_SM g184 (am_mix mo_S3 g1 M))) (by omega) (by omega) (hA (by omega)))), (fun hz => hR _ (am_brf (P := (1 : Int) ≤ 0) (A := R (181, [some (aR 8 0), some (aI ((s : Nat) : Int)), some (aI ((k : Nat) : Int)), some (aI sw), some (aI 1), some (aI (M 23 0 k)), some (aI (M 24 0 k)), some (aI (M 25 0 (2 * k))), some (aI b), some (aL mo), none, some (aI ((i : Nat) : Int)), some (aL (jf_pb p1 (M 21 s) (M 181 s 0).toNat)), none], [], am_mix mo_SM g184 (am_mix mo_S3 g1 M))) (B := R (176, [some (aR 8 0), some (aI ((s : Nat) : Int)), some (aI ((k : Nat) : Int)), some (aI sw), some (aI 1), some (aI (M 23 0 k)), some (aI (M 24 0 k)), some (aI (M 25 0 (2 * k))), some (aI b), some (aL mo), none, some (aI ((i : Nat) : Int)), some (aL (jf_pb p1 (M 21 s) (M 181 s 0).toNat)), none], [], am_mix mo_SM g184 (am_mix mo_S3 g1 M))) (by omega) (by omega) (hB (by omega))))⟩) (fun c172 => ?_) (fun c172 => ?_)
              · refine hR _ (hR _ (hR _ (hR _ (?_))))
                show R (189, [some (aR 8 0), some (aI ((s : Nat) : Int)), some (aI ((k : Nat) : Int)), some (aI sw), some (aI 1), some (aI (M 23 0 k)), some (aI (M 24 0 k)), some (aI (M 25 0 (2 * k))), some (aI b), some (aL mo), none, some (aI ((i : Nat) : Int)), some (aL (jf_pb p1 (M 21 s) (M 181 s 0).toNat)), none], [aL mo, aL (jf_pb p1 (M 21 s) (M 181 s 0).toNat)], am_mix mo_SM g184 (am_mix mo_S3 g1 M))
                refine am_lc (x := (jf_pb p1 (M 21 s) (M 181 s 0).toNat)) (y := mo) (P := (jf_pb p1 (M 21 s) (M 181 s 0).toNat) ≤ mo) (A := R (198, [some (aR 8 0), some (aI ((s : Nat) : Int)), some (aI ((k : Nat) : Int)), some (aI sw), some (aI 1), some (aI (M 23 0 k)), some (aI (M 24 0 k)), some (aI (M 25 0 (2 * k))), some (aI b), some (aL mo), none, some (aI ((i : Nat) : Int)), some (aL (jf_pb p1 (M 21 s) (M 181 s 0).toNat)), none], [], am_mix mo_SM g184 (am_mix mo_S3 g1 M))) (B := R (193, [some (aR 8 0), some (aI ((s : Nat) : Int)), some (aI ((k : Nat) : Int)), some (aI sw), some (aI 1), some (aI (M 23 0 k)), some (aI (M 24 0 k)), some (aI (M 25 0 (2 * k))), some (aI b), some (aL mo), none, some (aI ((i : Nat) : Int)), some (aL (jf_pb p1 (M 21 s) (M 181 s 0).toNat)), none], [], am_mix mo_SM g184 (am_mix mo_S3 g1 M))) (by omega) (fun hA hB => hR _ ⟨(by omega), (fun hz => hR _ (am_brt (P := (-1 : Int) ≤ 0) (A := R (198, [some (aR 8 0), some (aI ((s : Nat) : Int)), some (aI ((k : Nat) : Int)), some (aI sw), some (aI 1), some (aI (M 23 0 k)), some (aI (M 24 0 k)), some (aI (M 25 0 (2 * k))), some (aI b), some (aL mo), none, some (aI ((i : Nat) : Int)), some (aL (jf_pb p1 (M 21 s) (M 181 s 0).toNat)), none], [], am_mix mo_SM g184 (am_mix mo_S3 g1 M))) (B := R (193, [some (aR 8 0), some (aI ((s : Nat) : Int)), some (aI ((k : Nat) : Int)), some (aI sw), some (aI 1), some (aI (M 23 0 k)), some (aI (M 24 0 k)), some (aI (M 25 0 (2 * k))), some (aI b), some (aL mo), none, some (aI ((i : Nat) : Int)), some (aL (jf_pb p1 (M 21 s) (M 181 s 0).toNat)), none], [], am_mix mo_SM g184 (am_mix mo_S3 g1 M))) (by omega) (by omega) (hA (by omega)))), (fun hz => hR _ (am_brt (P := (0 : Int) ≤ 0) (A := R (198, [some (aR 8 0), some (aI ((s : Nat) : Int)), some (aI ((k : Nat) : Int)), some (aI sw), some (aI 1), some (aI (M 23 0 k)), some (aI (M 24 0 k)), some (aI (M 25 0 (2 * k))), some (aI b), some (aL mo), none, some (aI ((i : Nat) : Int)), some (aL (jf_pb p1 (M 21 s) (M 181 s 0).toNat)), none], [], am_mix mo_SM g184 (am_mix mo_S3 g1 M))) (B := R (193, [some (aR 8 0), some (aI ((s : Nat) : Int)), some (aI ((k : Nat) : Int)), some (aI sw), some (aI 1), some (aI (M 23 0 k)), some (aI (M 24 0 k)), some (aI (M 25 0 (2 * k))), some (aI b), some (aL mo), none, some (aI ((i : Nat) : Int)), some (aL (jf_pb p1 (M 21 s) (M 181 s 0).toNat)), none], [], am_mix mo_SM g184 (am_mix mo_S3 g1 M))) (by omega) (by omega) (hA (by omega)))), (fun hz => hR _ (am_brf (P := (1 : Int) ≤ 0) (A := R (198, [some (aR 8 0), some (aI ((s : Nat) : Int)), some (aI ((k : Nat) : Int)), some (aI sw), some (aI 1), some (aI (M 23 0 k)), some (aI (M 24 0 k)), some (aI (M 25 0 (2 * k))), some (aI b), some (aL mo), none, some (aI ((i : Nat) : Int)), some (aL (jf_pb p1 (M 21 s) (M 181 s 0).toNat)), none], [], am_mix mo_SM g184 (am_mix mo_S3 g1 M))) (B := R (193, [some (aR 8 0), some (aI ((s : Nat) : Int)), some (aI ((k : Nat) : Int)), some (aI sw), some (aI 1), some (aI (M 23 0 k)), some (aI (M 24 0 k)), some (aI (M 25 0 (2 * k))), some (aI b), some (aL mo), none, some (aI ((i : Nat) : Int)), some (aL (jf_pb p1 (M 21 s) (M 181 s 0).toNat)), none], [], am_mix mo_SM g184 (am_mix mo_S3 g1 M))) (by omega) (by omega) (hB (by omega))))⟩) (fun c189 => ?_) (fun c189 => ?_)
                · refine hR _ (hR _ (hR _ (hR _ (?_))))
                  show R (74, [some (aR 8 0), some (aI ((s : Nat) : Int)), some (aI ((k : Nat) : Int)), some (aI sw), some (aI 1), some (aI (M 23 0 k)), some (aI (M 24 0 k)), some (aI (M 25 0 (2 * k))), some (aI b), some (aL mo), none, some (aI (((i : Nat) : Int) + 1)), some (aL (jf_pb p1 (M 21 s) (M 181 s 0).toNat)), none], [], am_mix mo_SM g184 (am_mix mo_S3 g1 M))
                  have m23 : mo_but 23 k (am_mix mo_SM g184 (am_mix mo_S3 g1 M)) M := n23
                  have m24 : mo_but 24 k (am_mix mo_SM g184 (am_mix mo_S3 g1 M)) M := n24
                  have m25 : mo_but 25 (2 * k) (am_mix mo_SM g184 (am_mix mo_S3 g1 M)) M := n25
                  have e9 : am_ag mo_S3 M (am_mix mo_SM g184 (am_mix mo_S3 g1 M)) := ((am_ag.rf).mix rfl).mix rfl
                  rw [e9.eq] at m23 m24 m25 ⊢
                  rw [← hpp1] at hst1
                  have hcond : ¬ (i = 0 ∨ ((jf_bf M s k 1) i).2.1 < jf_pb p1 (M 21 s) (M 181 s 0).toNat) := by
                    by_cases h0 : i = 0
                    · rw [if_pos h0] at hmo
                      omega
                    · rw [if_neg h0] at hmo
                      omega
                  have e1 : (jf_bf M s k 1) (i + 1) = (jf_bf M s k 1) i := hst1.trans (if_neg hcond)
                  refine ih (i + 1) _ _ _ _ _ (by omega) (by omega) m23 m24 m25 ?_ ?_
                  · rw [e1]
                    exact hb
                  · rw [if_neg (by omega), e1]
                    rw [if_neg (by omega)] at hmo
                    exact hmo
                · refine hR _ (hR _ (hR _ (hR _ (hR _ (?_)))))
                  show R (74, [some (aR 8 0), some (aI ((s : Nat) : Int)), some (aI ((k : Nat) : Int)), some (aI sw), some (aI 1), some (aI (M 23 0 k)), some (aI (M 24 0 k)), some (aI (M 25 0 (2 * k))), some (aI b), some (aL (jf_pb p1 (M 21 s) (M 181 s 0).toNat)), none, some (aI (((i : Nat) : Int) + 1)), some (aL (jf_pb p1 (M 21 s) (M 181 s 0).toNat)), none], [], am_mix mo_SM g184 (am_mix mo_S3 g1 M))
                  exfalso
                  omega
              · refine hR _ (hR _ (hR _ (hR _ (hR _ (?_)))))
                show R (189, [some (aR 8 0), some (aI ((s : Nat) : Int)), some (aI ((k : Nat) : Int)), some (aI sw), some (aI 1), some (aI (M 23 0 k)), some (aI (M 24 0 k)), some (aI (M 25 0 (2 * k))), some (aI ((i : Nat) : Int)), some (aL mo), none, some (aI ((i : Nat) : Int)), some (aL (jf_pb p1 (M 21 s) (M 181 s 0).toNat)), none], [aL mo, aL (jf_pb p1 (M 21 s) (M 181 s 0).toNat)], am_mix mo_SM g184 (am_mix mo_S3 g1 M))
                refine am_lc (x := (jf_pb p1 (M 21 s) (M 181 s 0).toNat)) (y := mo) (P := (jf_pb p1 (M 21 s) (M 181 s 0).toNat) ≤ mo) (A := R (198, [some (aR 8 0), some (aI ((s : Nat) : Int)), some (aI ((k : Nat) : Int)), some (aI sw), some (aI 1), some (aI (M 23 0 k)), some (aI (M 24 0 k)), some (aI (M 25 0 (2 * k))), some (aI ((i : Nat) : Int)), some (aL mo), none, some (aI ((i : Nat) : Int)), some (aL (jf_pb p1 (M 21 s) (M 181 s 0).toNat)), none], [], am_mix mo_SM g184 (am_mix mo_S3 g1 M))) (B := R (193, [some (aR 8 0), some (aI ((s : Nat) : Int)), some (aI ((k : Nat) : Int)), some (aI sw), some (aI 1), some (aI (M 23 0 k)), some (aI (M 24 0 k)), some (aI (M 25 0 (2 * k))), some (aI ((i : Nat) : Int)), some (aL mo), none, some (aI ((i : Nat) : Int)), some (aL (jf_pb p1 (M 21 s) (M 181 s 0).toNat)), none], [], am_mix mo_SM g184 (am_mix mo_S3 g1 M))) (by omega) (fun hA hB => hR _ ⟨(by omega), (fun hz => hR _ (am_brt (P := (-1 : Int) ≤ 0) (A := R (198, [some (aR 8 0), some (aI ((s : Nat) : Int)), some (aI ((k : Nat) : Int)), some (aI sw), some (aI 1), some (aI (M 23 0 k)), some (aI (M 24 0 k)), some (aI (M 25 0 (2 * k))), some (aI ((i : Nat) : Int)), some (aL mo), none, some (aI ((i : Nat) : Int)), some (aL (jf_pb p1 (M 21 s) (M 181 s 0).toNat)), none], [], am_mix mo_SM g184 (am_mix mo_S3 g1 M))) (B := R (193, [some (aR 8 0), some (aI ((s : Nat) : Int)), some (aI ((k : Nat) : Int)), some (aI sw), some (aI 1), some (aI (M 23 0 k)), some (aI (M 24 0 k)), some (aI (M 25 0 (2 * k))), some (aI ((i : Nat) : Int)), some (aL mo), none, some (aI ((i : Nat) : Int)), some (aL (jf_pb p1 (M 21 s) (M 181 s 0).toNat)), none], [], am_mix mo_SM g184 (am_mix mo_S3 g1 M))) (by omega) (by omega) (hA (by omega)))), (fun hz => hR _ (am_brt (P := (0 : Int) ≤ 0) (A := R (198, [some (aR 8 0), some (aI ((s : Nat) : Int)), some (aI ((k : Nat) : Int)), some (aI sw), some (aI 1), some (aI (M 23 0 k)), some (aI (M 24 0 k)), some (aI (M 25 0 (2 * k))), some (aI ((i : Nat) : Int)), some (aL mo), none, some (aI ((i : Nat) : Int)), some (aL (jf_pb p1 (M 21 s) (M 181 s 0).toNat)), none], [], am_mix mo_SM g184 (am_mix mo_S3 g1 M))) (B := R (193, [some (aR 8 0), some (aI ((s : Nat) : Int)), some (aI ((k : Nat) : Int)), some (aI sw), some (aI 1), some (aI (M 23 0 k)), some (aI (M 24 0 k)), some (aI (M 25 0 (2 * k))), some (aI ((i : Nat) : Int)), some (aL mo), none, some (aI ((i : Nat) : Int)), some (aL (jf_pb p1 (M 21 s) (M 181 s 0).toNat)), none], [], am_mix mo_SM g184 (am_mix mo_S3 g1 M))) (by omega) (by omega) (hA (by omega)))), (fun hz => hR _ (am_brf (P := (1 : Int) ≤ 0) (A := R (198, [some (aR 8 0), some (aI ((s : Nat) : Int)), some (aI ((k : Nat) : Int)), some (aI sw), some (aI 1), some (aI (M 23 0 k)), some (aI (M 24 0 k)), some (aI (M 25 0 (2 * k))), some (aI ((i : Nat) : Int)), some (aL mo), none, some (aI ((i : Nat) : Int)), some (aL (jf_pb p1 (M 21 s) (M 181 s 0).toNat)), none], [], am_mix mo_SM g184 (am_mix mo_S3 g1 M))) (B := R (193, [some (aR 8 0), some (aI ((s : Nat) : Int)), some (aI ((k : Nat) : Int)), some (aI sw), some (aI 1), some (aI (M 23 0 k)), some (aI (M 24 0 k)), some (aI (M 25 0 (2 * k))), some (aI ((i : Nat) : Int)), some (aL mo), none, some (aI ((i : Nat) : Int)), some (aL (jf_pb p1 (M 21 s) (M 181 s 0).toNat)), none], [], am_mix mo_SM g184 (am_mix mo_S3 g1 M))) (by omega) (by omega) (hB (by omega))))⟩) (fun c189 => ?_) (fun c189 => ?_)
                · refine hR _ (hR _ (hR _ (hR _ (?_))))
                  show R (74, [some (aR 8 0), some (aI ((s : Nat) : Int)), some (aI ((k : Nat) : Int)), some (aI sw), some (aI 1), some (aI (M 23 0 k)), some (aI (M 24 0 k)), some (aI (M 25 0 (2 * k))), some (aI ((i : Nat) : Int)), some (aL mo), none, some (aI (((i : Nat) : Int) + 1)), some (aL (jf_pb p1 (M 21 s) (M 181 s 0).toNat)), none], [], am_mix mo_SM g184 (am_mix mo_S3 g1 M))
                  exfalso
                  omega
                · refine hR _ (hR _ (hR _ (hR _ (hR _ (?_)))))
                  show R (74, [some (aR 8 0), some (aI ((s : Nat) : Int)), some (aI ((k : Nat) : Int)), some (aI sw), some (aI 1), some (aI (M 23 0 k)), some (aI (M 24 0 k)), some (aI (M 25 0 (2 * k))), some (aI ((i : Nat) : Int)), some (aL (jf_pb p1 (M 21 s) (M 181 s 0).toNat)), none, some (aI (((i : Nat) : Int) + 1)), some (aL (jf_pb p1 (M 21 s) (M 181 s 0).toNat)), none], [], am_mix mo_SM g184 (am_mix mo_S3 g1 M))
                  have m23 : mo_but 23 k (am_mix mo_SM g184 (am_mix mo_S3 g1 M)) M := n23
                  have m24 : mo_but 24 k (am_mix mo_SM g184 (am_mix mo_S3 g1 M)) M := n24
                  have m25 : mo_but 25 (2 * k) (am_mix mo_SM g184 (am_mix mo_S3 g1 M)) M := n25
                  have e9 : am_ag mo_S3 M (am_mix mo_SM g184 (am_mix mo_S3 g1 M)) := ((am_ag.rf).mix rfl).mix rfl
                  rw [e9.eq] at m23 m24 m25 ⊢
                  rw [← hpp1] at hst1
                  have hcond : i = 0 ∨ ((jf_bf M s k 1) i).2.1 < jf_pb p1 (M 21 s) (M 181 s 0).toNat := by
                    by_cases h0 : i = 0
                    · exact Or.inl h0
                    · rw [if_neg h0] at hmo
                      exact Or.inr (by omega)
                  have e1 : (jf_bf M s k 1) (i + 1) = (((i : Nat) : Int), jf_pb p1 (M 21 s) (M 181 s 0).toNat, 1) := hst1.trans (if_pos hcond)
                  refine ih (i + 1) _ _ _ _ _ (by omega) (by omega) m23 m24 m25 ?_ ?_
                  · rw [e1]
                  · rw [if_neg (by omega), e1]
          have e9 : am_ag mo_S3 M M := am_ag.rf
          rw [e9.eq]
          exact key 10 0 _ _ _ _ _ rfl rfl (fun i j _ => rfl) (fun i j _ => rfl) (fun i j _ => rfl) rfl rfl
        · subst h0
          show R (35, [some (aR 8 0), some (aI ((s : Nat) : Int)), some (aI ((k : Nat) : Int)), some (aI sw), none, none, none, none, none, none, none, none, none, none], [aI 2], M)
          refine hR _ (hR _ (hR _ (hR _ (?_))))
          show R (42, [some (aR 8 0), some (aI ((s : Nat) : Int)), some (aI ((k : Nat) : Int)), some (aI sw), some (aI 2), none, none, none, none, none, none, none, none, none], [aI ((k : Nat) : Int), aR 23 0], M)
          refine hR _ ⟨(show 0 ≤ (((k : Nat) : Int) : Int) ∧ (((k : Nat) : Int) : Int) < 5 from (by omega)), ?_⟩
          show R (43, [some (aR 8 0), some (aI ((s : Nat) : Int)), some (aI ((k : Nat) : Int)), some (aI sw), some (aI 2), none, none, none, none, none, none, none, none, none], [aI (M 23 0 k)], M)
          refine hR _ (hR _ (hR _ (hR _ (?_))))
          show R (50, [some (aR 8 0), some (aI ((s : Nat) : Int)), some (aI ((k : Nat) : Int)), some (aI sw), some (aI 2), some (aI (M 23 0 k)), none, none, none, none, none, none, none, none], [aI ((k : Nat) : Int), aR 24 0], M)
          refine hR _ ⟨(show 0 ≤ (((k : Nat) : Int) : Int) ∧ (((k : Nat) : Int) : Int) < 5 from (by omega)), ?_⟩
          show R (51, [some (aR 8 0), some (aI ((s : Nat) : Int)), some (aI ((k : Nat) : Int)), some (aI sw), some (aI 2), some (aI (M 23 0 k)), none, none, none, none, none, none, none, none], [aI (M 24 0 k)], M)
          refine hR _ (hR _ (hR _ (hR _ (hR _ (hR _ (?_))))))
          show R (60, [some (aR 8 0), some (aI ((s : Nat) : Int)), some (aI ((k : Nat) : Int)), some (aI sw), some (aI 2), some (aI (M 23 0 k)), some (aI (M 24 0 k)), none, none, none, none, none, none, none], [aI (2 * ((k : Nat) : Int)), aR 25 0], M)
          refine hR _ ⟨(show 0 ≤ ((2 * ((k : Nat) : Int)) : Int) ∧ ((2 * ((k : Nat) : Int)) : Int) < 10 from (by omega)), ?_⟩
          show R (61, [some (aR 8 0), some (aI ((s : Nat) : Int)), some (aI ((k : Nat) : Int)), some (aI sw), some (aI 2), some (aI (M 23 0 k)), some (aI (M 24 0 k)), none, none, none, none, none, none, none], [aI (M 25 0 (((2 * ((k : Nat) : Int))).toNat))], M)
          rw [(show M 25 0 (((2 * ((k : Nat) : Int))).toNat) = M 25 0 (2 * k) by rw [show ((2 * ((k : Nat) : Int))).toNat = (2 * k) by omega])]
          show R (61, [some (aR 8 0), some (aI ((s : Nat) : Int)), some (aI ((k : Nat) : Int)), some (aI sw), some (aI 2), some (aI (M 23 0 k)), some (aI (M 24 0 k)), none, none, none, none, none, none, none], [aI (M 25 0 (2 * k))], M)
          refine hR _ (hR _ (hR _ (hR _ (hR _ (hR _ (hR _ (?_)))))))
          show R (74, [some (aR 8 0), some (aI ((s : Nat) : Int)), some (aI ((k : Nat) : Int)), some (aI sw), some (aI 2), some (aI (M 23 0 k)), some (aI (M 24 0 k)), some (aI (M 25 0 (2 * k))), some (aI (-1)), some (aL (-1)), none, some (aI 0), none, none], [], M)
          have hoki : ∀ q : Nat, q < 100 → jf_ok (jf_pf M k 2 q) := fun q hq => hJ.pf hk (by omega) (show 0 ≤ (q : Int) ∧ (q : Int) < jf_bfn 2 from ⟨by omega, by show (q : Int) < 100; omega⟩)
          have key : ∀ (f i : Nat) (x b mo : Int) (o12 : Option am_V) (g : am_M), x = (i : Int) → i + f = 100 → mo_but 23 k (am_mix mo_S3 g M) M → mo_but 24 k (am_mix mo_S3 g M) M → mo_but 25 (2 * k) (am_mix mo_S3 g M) M → b = ((jf_bf M s k 2) i).1 → mo = (if i = 0 then -1 else ((jf_bf M s k 2) i).2.1) → R (74, [some (aR 8 0), some (aI ((s : Nat) : Int)), some (aI ((k : Nat) : Int)), some (aI sw), some (aI 2), some (aI (M 23 0 k)), some (aI (M 24 0 k)), some (aI (M 25 0 (2 * k))), some (aI b), some (aL mo), none, some (aI x), o12, none], [], am_mix mo_S3 g M) := by
            intro f
            induction f with
            | zero =>
              intro i x b mo o12 g hx hin hb23 hb24 hb25 hb hmo
              subst hx
              have hbb : (-1 ≤ ((jf_bf M s k 2) i).1 ∧ ((jf_bf M s k 2) i).1 ≤ ((100 : Nat) : Int)) ∧ -1 ≤ ((jf_bf M s k 2) i).2.1 ∧ ((jf_bf M s k 2) i).2.1 ≤ 1000000000 := mo_bs_b (fun i => jf_pb (jf_pf M k 2 i) (M 21 s) (M 181 s 0).toNat) (by decide) (fun q hq => jf_pb_b (hoki q hq) _ _) i (by omega)
              have hbpi : -1 ≤ b ∧ b ≤ ((100 : Nat) : Int) := by rw [hb]; omega
              have hmoi : -1 ≤ mo ∧ mo ≤ 1000000000 := by rw [hmo]; split <;> omega
              refine hR _ (hR _ (hR _ (am_brt (rg := am_in 2) (P := (2 : Int) ≠ 0) (A := R (86, [some (aR 8 0), some (aI ((s : Nat) : Int)), some (aI ((k : Nat) : Int)), some (aI sw), some (aI 2), some (aI (M 23 0 k)), some (aI (M 24 0 k)), some (aI (M 25 0 (2 * k))), some (aI b), some (aL mo), none, some (aI ((i : Nat) : Int)), o12, none], [aI ((i : Nat) : Int)], am_mix mo_S3 g M)) (B := R (81, [some (aR 8 0), some (aI ((s : Nat) : Int)), some (aI ((k : Nat) : Int)), some (aI sw), some (aI 2), some (aI (M 23 0 k)), some (aI (M 24 0 k)), some (aI (M 25 0 (2 * k))), some (aI b), some (aL mo), none, some (aI ((i : Nat) : Int)), o12, none], [aI ((i : Nat) : Int)], am_mix mo_S3 g M)) (by omega) (by omega) ?_)))
              show R (86, [some (aR 8 0), some (aI ((s : Nat) : Int)), some (aI ((k : Nat) : Int)), some (aI sw), some (aI 2), some (aI (M 23 0 k)), some (aI (M 24 0 k)), some (aI (M 25 0 (2 * k))), some (aI b), some (aL mo), none, some (aI ((i : Nat) : Int)), o12, none], [aI ((i : Nat) : Int)], am_mix mo_S3 g M)
              refine hR _ (hR _ (hR _ (am_brt (rg := am_in 2 ∧ am_in 1) (P := (2 : Int) ≠ 1) (A := R (97, [some (aR 8 0), some (aI ((s : Nat) : Int)), some (aI ((k : Nat) : Int)), some (aI sw), some (aI 2), some (aI (M 23 0 k)), some (aI (M 24 0 k)), some (aI (M 25 0 (2 * k))), some (aI b), some (aL mo), none, some (aI ((i : Nat) : Int)), o12, none], [aI ((i : Nat) : Int)], am_mix mo_S3 g M)) (B := R (92, [some (aR 8 0), some (aI ((s : Nat) : Int)), some (aI ((k : Nat) : Int)), some (aI sw), some (aI 2), some (aI (M 23 0 k)), some (aI (M 24 0 k)), some (aI (M 25 0 (2 * k))), some (aI b), some (aL mo), none, some (aI ((i : Nat) : Int)), o12, none], [aI ((i : Nat) : Int)], am_mix mo_S3 g M)) (by omega) (by omega) ?_)))
              show R (97, [some (aR 8 0), some (aI ((s : Nat) : Int)), some (aI ((k : Nat) : Int)), some (aI sw), some (aI 2), some (aI (M 23 0 k)), some (aI (M 24 0 k)), some (aI (M 25 0 (2 * k))), some (aI b), some (aL mo), none, some (aI ((i : Nat) : Int)), o12, none], [aI ((i : Nat) : Int)], am_mix mo_S3 g M)
              refine hR _ (hR _ (am_brt (rg := am_in ((i : Nat) : Int) ∧ am_in 100) (P := 100 ≤ ((i : Nat) : Int)) (A := R (208, [some (aR 8 0), some (aI ((s : Nat) : Int)), some (aI ((k : Nat) : Int)), some (aI sw), some (aI 2), some (aI (M 23 0 k)), some (aI (M 24 0 k)), some (aI (M 25 0 (2 * k))), some (aI b), some (aL mo), none, some (aI ((i : Nat) : Int)), o12, none], [], am_mix mo_S3 g M)) (B := R (102, [some (aR 8 0), some (aI ((s : Nat) : Int)), some (aI ((k : Nat) : Int)), some (aI sw), some (aI 2), some (aI (M 23 0 k)), some (aI (M 24 0 k)), some (aI (M 25 0 (2 * k))), some (aI b), some (aL mo), none, some (aI ((i : Nat) : Int)), o12, none], [], am_mix mo_S3 g M)) (by omega) (by omega) ?_))
              show R (208, [some (aR 8 0), some (aI ((s : Nat) : Int)), some (aI ((k : Nat) : Int)), some (aI sw), some (aI 2), some (aI (M 23 0 k)), some (aI (M 24 0 k)), some (aI (M 25 0 (2 * k))), some (aI b), some (aL mo), none, some (aI ((i : Nat) : Int)), o12, none], [], am_mix mo_S3 g M)
              refine hR _ (hR _ (hR _ (hR _ (?_))))
              show R (215, [some (aR 8 0), some (aI ((s : Nat) : Int)), some (aI ((k : Nat) : Int)), some (aI sw), some (aI 2), some (aI (M 23 0 k)), some (aI (M 24 0 k)), some (aI (M 25 0 (2 * k))), some (aI b), some (aL mo), none, some (aI ((i : Nat) : Int)), o12, none], [aI (M 23 0 k), aI ((k : Nat) : Int), aR 23 0], am_mix mo_S3 g M)
              refine hR _ ⟨(show 0 ≤ (((k : Nat) : Int) : Int) ∧ (((k : Nat) : Int) : Int) < 5 from (by omega)), ?_⟩
              show R (216, [some (aR 8 0), some (aI ((s : Nat) : Int)), some (aI ((k : Nat) : Int)), some (aI sw), some (aI 2), some (aI (M 23 0 k)), some (aI (M 24 0 k)), some (aI (M 25 0 (2 * k))), some (aI b), some (aL mo), none, some (aI ((i : Nat) : Int)), o12, none], [], am_wr (am_mix mo_S3 g M) 23 0 k (M 23 0 k))
              refine hR _ (hR _ (hR _ (hR _ (?_))))
              show R (223, [some (aR 8 0), some (aI ((s : Nat) : Int)), some (aI ((k : Nat) : Int)), some (aI sw), some (aI 2), some (aI (M 23 0 k)), some (aI (M 24 0 k)), some (aI (M 25 0 (2 * k))), some (aI b), some (aL mo), none, some (aI ((i : Nat) : Int)), o12, none], [aI (M 24 0 k), aI ((k : Nat) : Int), aR 24 0], am_wr (am_mix mo_S3 g M) 23 0 k (M 23 0 k))
              refine hR _ ⟨(show 0 ≤ (((k : Nat) : Int) : Int) ∧ (((k : Nat) : Int) : Int) < 5 from (by omega)), ?_⟩
              show R (224, [some (aR 8 0), some (aI ((s : Nat) : Int)), some (aI ((k : Nat) : Int)), some (aI sw), some (aI 2), some (aI (M 23 0 k)), some (aI (M 24 0 k)), some (aI (M 25 0 (2 * k))), some (aI b), some (aL mo), none, some (aI ((i : Nat) : Int)), o12, none], [], am_wr (am_wr (am_mix mo_S3 g M) 23 0 k (M 23 0 k)) 24 0 k (M 24 0 k))
              refine hR _ (hR _ (hR _ (hR _ (hR _ (hR _ (?_))))))
              show R (233, [some (aR 8 0), some (aI ((s : Nat) : Int)), some (aI ((k : Nat) : Int)), some (aI sw), some (aI 2), some (aI (M 23 0 k)), some (aI (M 24 0 k)), some (aI (M 25 0 (2 * k))), some (aI b), some (aL mo), none, some (aI ((i : Nat) : Int)), o12, none], [aI (M 25 0 (2 * k)), aI (2 * ((k : Nat) : Int)), aR 25 0], am_wr (am_wr (am_mix mo_S3 g M) 23 0 k (M 23 0 k)) 24 0 k (M 24 0 k))
              refine hR _ ⟨(show 0 ≤ ((2 * ((k : Nat) : Int)) : Int) ∧ ((2 * ((k : Nat) : Int)) : Int) < 10 from (by omega)), ?_⟩
              show R (234, [some (aR 8 0), some (aI ((s : Nat) : Int)), some (aI ((k : Nat) : Int)), some (aI sw), some (aI 2), some (aI (M 23 0 k)), some (aI (M 24 0 k)), some (aI (M 25 0 (2 * k))), some (aI b), some (aL mo), none, some (aI ((i : Nat) : Int)), o12, none], [], am_wr (am_wr (am_wr (am_mix mo_S3 g M) 23 0 k (M 23 0 k)) 24 0 k (M 24 0 k)) 25 0 (((2 * ((k : Nat) : Int))).toNat) (M 25 0 (2 * k)))
              refine hR _ (hR _ (?_))
              show R (237, [some (aR 8 0), some (aI ((s : Nat) : Int)), some (aI ((k : Nat) : Int)), some (aI sw), some (aI 2), some (aI (M 23 0 k)), some (aI (M 24 0 k)), some (aI (M 25 0 (2 * k))), some (aI b), some (aL mo), none, some (aI ((i : Nat) : Int)), o12, none], [aI 10, aI sw], am_wr (am_wr (am_wr (am_mix mo_S3 g M) 23 0 k (M 23 0 k)) 24 0 k (M 24 0 k)) 25 0 (((2 * ((k : Nat) : Int))).toNat) (M 25 0 (2 * k)))
              refine hR _ ⟨(by omega), ?_⟩
              show R (238, [some (aR 8 0), some (aI ((s : Nat) : Int)), some (aI ((k : Nat) : Int)), some (aI sw), some (aI 2), some (aI (M 23 0 k)), some (aI (M 24 0 k)), some (aI (M 25 0 (2 * k))), some (aI b), some (aL mo), none, some (aI ((i : Nat) : Int)), o12, none], [aI (Int.tmod sw 10)], am_wr (am_wr (am_wr (am_mix mo_S3 g M) 23 0 k (M 23 0 k)) 24 0 k (M 24 0 k)) 25 0 (((2 * ((k : Nat) : Int))).toNat) (M 25 0 (2 * k)))
              refine hR _ (am_brc (rg := am_in (Int.tmod sw 10)) (P := (Int.tmod sw 10) ≠ 0) (A := R (247, [some (aR 8 0), some (aI ((s : Nat) : Int)), some (aI ((k : Nat) : Int)), some (aI sw), some (aI 2), some (aI (M 23 0 k)), some (aI (M 24 0 k)), some (aI (M 25 0 (2 * k))), some (aI b), some (aL mo), none, some (aI ((i : Nat) : Int)), o12, none], [], am_wr (am_wr (am_wr (am_mix mo_S3 g M) 23 0 k (M 23 0 k)) 24 0 k (M 24 0 k)) 25 0 (((2 * ((k : Nat) : Int))).toNat) (M 25 0 (2 * k)))) (B := R (241, [some (aR 8 0), some (aI ((s : Nat) : Int)), some (aI ((k : Nat) : Int)), some (aI sw), some (aI 2), some (aI (M 23 0 k)), some (aI (M 24 0 k)), some (aI (M 25 0 (2 * k))), some (aI b), some (aL mo), none, some (aI ((i : Nat) : Int)), o12, none], [], am_wr (am_wr (am_wr (am_mix mo_S3 g M) 23 0 k (M 23 0 k)) 24 0 k (M 24 0 k)) 25 0 (((2 * ((k : Nat) : Int))).toNat) (M 25 0 (2 * k)))) (by omega) (fun c238 => ?_) (fun c238 => ?_))
              · refine hR _ (?_)
                show R (249, [some (aR 8 0), some (aI ((s : Nat) : Int)), some (aI ((k : Nat) : Int)), some (aI sw), some (aI 2), some (aI (M 23 0 k)), some (aI (M 24 0 k)), some (aI (M 25 0 (2 * k))), some (aI b), some (aL mo), none, some (aI ((i : Nat) : Int)), o12, none], [aL mo], am_wr (am_wr (am_wr (am_mix mo_S3 g M) 23 0 k (M 23 0 k)) 24 0 k (M 24 0 k)) 25 0 (((2 * ((k : Nat) : Int))).toNat) (M 25 0 (2 * k)))
                refine hR _ (show K (some (aL mo)) (am_wr (am_wr (am_wr (am_mix mo_S3 g M) 23 0 k (M 23 0 k)) 24 0 k (M 24 0 k)) 25 0 (((2 * ((k : Nat) : Int))).toNat) (M 25 0 (2 * k))) from ?_)
                have hres : jx_fits M ((s : Nat) : Int) ((k : Nat) : Int) sw = mo := by
                  unfold jx_fits
                  simp only [Int.toNat_natCast]
                  rw [← hso]
                  rw [if_pos (by omega), if_neg hms, if_pos (by omega), show jf_bfn 2 = 100 from rfl]
                  have hi : i = 100 := by omega
                  rw [hi] at hb hmo
                  rw [if_neg (by decide)] at hmo
                  first | (rw [if_neg (by omega)]; exact hb.symm) | (rw [if_pos (by omega)]; exact hmo.symm)
                rw [hres] at hK
                have a1 := mo_back (S := 24 :: 25 :: mo_SM) (v := 23) (c := k) (M := M) (m := am_mix mo_S3 g M) (am_ag.rf.mix rfl) hb23
                have a2 := mo_back (S := 25 :: mo_SM) (v := 24) (c := k) (M := M) (m := am_wr (am_mix mo_S3 g M) 23 0 k (M 23 0 k)) a1 hb24
                have a3 := mo_back (S := mo_SM) (v := 25) (c := 2 * k) (M := M) (m := am_wr (am_wr (am_mix mo_S3 g M) 23 0 k (M 23 0 k)) 24 0 k (M 24 0 k)) a2 hb25
                rw [show (2 * ((k : Nat) : Int)).toNat = 2 * k by omega]
                rw [a3.eq]
                exact hK _
              · refine hR _ (?_)
                show R (243, [some (aR 8 0), some (aI ((s : Nat) : Int)), some (aI ((k : Nat) : Int)), some (aI sw), some (aI 2), some (aI (M 23 0 k)), some (aI (M 24 0 k)), some (aI (M 25 0 (2 * k))), some (aI b), some (aL mo), none, some (aI ((i : Nat) : Int)), o12, none], [aI b], am_wr (am_wr (am_wr (am_mix mo_S3 g M) 23 0 k (M 23 0 k)) 24 0 k (M 24 0 k)) 25 0 (((2 * ((k : Nat) : Int))).toNat) (M 25 0 (2 * k)))
                refine hR _ ⟨(by omega), ?_⟩
                show R (244, [some (aR 8 0), some (aI ((s : Nat) : Int)), some (aI ((k : Nat) : Int)), some (aI sw), some (aI 2), some (aI (M 23 0 k)), some (aI (M 24 0 k)), some (aI (M 25 0 (2 * k))), some (aI b), some (aL mo), none, some (aI ((i : Nat) : Int)), o12, none], [aL b], am_wr (am_wr (am_wr (am_mix mo_S3 g M) 23 0 k (M 23 0 k)) 24 0 k (M 24 0 k)) 25 0 (((2 * ((k : Nat) : Int))).toNat) (M 25 0 (2 * k)))
                refine hR _ (?_)
                show R (249, [some (aR 8 0), some (aI ((s : Nat) : Int)), some (aI ((k : Nat) : Int)), some (aI sw), some (aI 2), some (aI (M 23 0 k)), some (aI (M 24 0 k)), some (aI (M 25 0 (2 * k))), some (aI b), some (aL mo), none, some (aI ((i : Nat) : Int)), o12, none], [aL b], am_wr (am_wr (am_wr (am_mix mo_S3 g M) 23 0 k (M 23 0 k)) 24 0 k (M 24 0 k)) 25 0 (((2 * ((k : Nat) : Int))).toNat) (M 25 0 (2 * k)))
                refine hR _ (show K (some (aL b)) (am_wr (am_wr (am_wr (am_mix mo_S3 g M) 23 0 k (M 23 0 k)) 24 0 k (M 24 0 k)) 25 0 (((2 * ((k : Nat) : Int))).toNat) (M 25 0 (2 * k))) from ?_)
                have hres : jx_fits M ((s : Nat) : Int) ((k : Nat) : Int) sw = b := by
                  unfold jx_fits
                  simp only [Int.toNat_natCast]
                  rw [← hso]
                  rw [if_pos (by omega), if_neg hms, if_pos (by omega), show jf_bfn 2 = 100 from rfl]
                  have hi : i = 100 := by omega
                  rw [hi] at hb hmo
                  rw [if_neg (by decide)] at hmo
                  first | (rw [if_neg (by omega)]; exact hb.symm) | (rw [if_pos (by omega)]; exact hmo.symm)
                rw [hres] at hK
                have a1 := mo_back (S := 24 :: 25 :: mo_SM) (v := 23) (c := k) (M := M) (m := am_mix mo_S3 g M) (am_ag.rf.mix rfl) hb23
                have a2 := mo_back (S := 25 :: mo_SM) (v := 24) (c := k) (M := M) (m := am_wr (am_mix mo_S3 g M) 23 0 k (M 23 0 k)) a1 hb24
                have a3 := mo_back (S := mo_SM) (v := 25) (c := 2 * k) (M := M) (m := am_wr (am_wr (am_mix mo_S3 g M) 23 0 k (M 23 0 k)) 24 0 k (M 24 0 k)) a2 hb25
                rw [show (2 * ((k : Nat) : Int)).toNat = 2 * k by omega]
                rw [a3.eq]
                exact hK _
            | succ f ih =>
              intro i x b mo o12 g hx hin hb23 hb24 hb25 hb hmo
              subst hx
              have hbb : (-1 ≤ ((jf_bf M s k 2) i).1 ∧ ((jf_bf M s k 2) i).1 ≤ ((100 : Nat) : Int)) ∧ -1 ≤ ((jf_bf M s k 2) i).2.1 ∧ ((jf_bf M s k 2) i).2.1 ≤ 1000000000 := mo_bs_b (fun i => jf_pb (jf_pf M k 2 i) (M 21 s) (M 181 s 0).toNat) (by decide) (fun q hq => jf_pb_b (hoki q hq) _ _) i (by omega)
              have hbpi : -1 ≤ b ∧ b ≤ ((100 : Nat) : Int) := by rw [hb]; omega
              have hmoi : -1 ≤ mo ∧ mo ≤ 1000000000 := by rw [hmo]; split <;> omega
              have hst1 : (jf_bf M s k 2) (i + 1) = if i = 0 ∨ ((jf_bf M s k 2) i).2.1 < jf_pb (jf_pf M k 2 i) (M 21 s) (M 181 s 0).toNat then (((i : Nat) : Int), jf_pb (jf_pf M k 2 i) (M 21 s) (M 181 s 0).toNat, 1) else (jf_bf M s k 2) i := mo_bs_1 (fun i => jf_pb (jf_pf M k 2 i) (M 21 s) (M 181 s 0).toNat) i
              refine hR _ (hR _ (hR _ (am_brt (rg := am_in 2) (P := (2 : Int) ≠ 0) (A := R (86, [some (aR 8 0), some (aI ((s : Nat) : Int)), some (aI ((k : Nat) : Int)), some (aI sw), some (aI 2), some (aI (M 23 0 k)), some (aI (M 24 0 k)), some (aI (M 25 0 (2 * k))), some (aI b), some (aL mo), none, some (aI ((i : Nat) : Int)), o12, none], [aI ((i : Nat) : Int)], am_mix mo_S3 g M)) (B := R (81, [some (aR 8 0), some (aI ((s : Nat) : Int)), some (aI ((k : Nat) : Int)), some (aI sw), some (aI 2), some (aI (M 23 0 k)), some (aI (M 24 0 k)), some (aI (M 25 0 (2 * k))), some (aI b), some (aL mo), none, some (aI ((i : Nat) : Int)), o12, none], [aI ((i : Nat) : Int)], am_mix mo_S3 g M)) (by omega) (by omega) ?_)))
              show R (86, [some (aR 8 0), some (aI ((s : Nat) : Int)), some (aI ((k : Nat) : Int)), some (aI sw), some (aI 2), some (aI (M 23 0 k)), some (aI (M 24 0 k)), some (aI (M 25 0 (2 * k))), some (aI b), some (aL mo), none, some (aI ((i : Nat) : Int)), o12, none], [aI ((i : Nat) : Int)], am_mix mo_S3 g M)
              refine hR _ (hR _ (hR _ (am_brt (rg := am_in 2 ∧ am_in 1) (P := (2 : Int) ≠ 1) (A := R (97, [some (aR 8 0), some (aI ((s : Nat) : Int)), some (aI ((k : Nat) : Int)), some (aI sw), some (aI 2), some (aI (M 23 0 k)), some (aI (M 24 0 k)), some (aI (M 25 0 (2 * k))), some (aI b), some (aL mo), none, some (aI ((i : Nat) : Int)), o12, none], [aI ((i : Nat) : Int)], am_mix mo_S3 g M)) (B := R (92, [some (aR 8 0), some (aI ((s : Nat) : Int)), some (aI ((k : Nat) : Int)), some (aI sw), some (aI 2), some (aI (M 23 0 k)), some (aI (M 24 0 k)), some (aI (M 25 0 (2 * k))), some (aI b), some (aL mo), none, some (aI ((i : Nat) : Int)), o12, none], [aI ((i : Nat) : Int)], am_mix mo_S3 g M)) (by omega) (by omega) ?_)))
              show R (97, [some (aR 8 0), some (aI ((s : Nat) : Int)), some (aI ((k : Nat) : Int)), some (aI sw), some (aI 2), some (aI (M 23 0 k)), some (aI (M 24 0 k)), some (aI (M 25 0 (2 * k))), some (aI b), some (aL mo), none, some (aI ((i : Nat) : Int)), o12, none], [aI ((i : Nat) : Int)], am_mix mo_S3 g M)
              refine hR _ (hR _ (am_brf (rg := am_in ((i : Nat) : Int) ∧ am_in 100) (P := 100 ≤ ((i : Nat) : Int)) (A := R (208, [some (aR 8 0), some (aI ((s : Nat) : Int)), some (aI ((k : Nat) : Int)), some (aI sw), some (aI 2), some (aI (M 23 0 k)), some (aI (M 24 0 k)), some (aI (M 25 0 (2 * k))), some (aI b), some (aL mo), none, some (aI ((i : Nat) : Int)), o12, none], [], am_mix mo_S3 g M)) (B := R (102, [some (aR 8 0), some (aI ((s : Nat) : Int)), some (aI ((k : Nat) : Int)), some (aI sw), some (aI 2), some (aI (M 23 0 k)), some (aI (M 24 0 k)), some (aI (M 25 0 (2 * k))), some (aI b), some (aL mo), none, some (aI ((i : Nat) : Int)), o12, none], [], am_mix mo_S3 g M)) (by omega) (by omega) ?_))
              show R (102, [some (aR 8 0), some (aI ((s : Nat) : Int)), some (aI ((k : Nat) : Int)), some (aI sw), some (aI 2), some (aI (M 23 0 k)), some (aI (M 24 0 k)), some (aI (M 25 0 (2 * k))), some (aI b), some (aL mo), none, some (aI ((i : Nat) : Int)), o12, none], [], am_mix mo_S3 g M)
              refine hR _ (hR _ (hR _ (hR _ (hR _ (am_brt (rg := am_in 2) (P := (2 : Int) ≠ 0) (A := R (117, [some (aR 8 0), some (aI ((s : Nat) : Int)), some (aI ((k : Nat) : Int)), some (aI sw), some (aI 2), some (aI (M 23 0 k)), some (aI (M 24 0 k)), some (aI (M 25 0 (2 * k))), some (aI b), some (aL mo), none, some (aI ((i : Nat) : Int)), o12, none], [aI ((k : Nat) : Int), aR 23 0], am_mix mo_S3 g M)) (B := R (112, [some (aR 8 0), some (aI ((s : Nat) : Int)), some (aI ((k : Nat) : Int)), some (aI sw), some (aI 2), some (aI (M 23 0 k)), some (aI (M 24 0 k)), some (aI (M 25 0 (2 * k))), some (aI b), some (aL mo), none, some (aI ((i : Nat) : Int)), o12, none], [aI ((k : Nat) : Int), aR 23 0], am_mix mo_S3 g M)) (by omega) (by omega) ?_)))))
              show R (117, [some (aR 8 0), some (aI ((s : Nat) : Int)), some (aI ((k : Nat) : Int)), some (aI sw), some (aI 2), some (aI (M 23 0 k)), some (aI (M 24 0 k)), some (aI (M 25 0 (2 * k))), some (aI b), some (aL mo), none, some (aI ((i : Nat) : Int)), o12, none], [aI ((k : Nat) : Int), aR 23 0], am_mix mo_S3 g M)
              refine hR _ (?_)
              show R (119, [some (aR 8 0), some (aI ((s : Nat) : Int)), some (aI ((k : Nat) : Int)), some (aI sw), some (aI 2), some (aI (M 23 0 k)), some (aI (M 24 0 k)), some (aI (M 25 0 (2 * k))), some (aI b), some (aL mo), none, some (aI ((i : Nat) : Int)), o12, none], [aI (M 23 0 k), aI ((k : Nat) : Int), aR 23 0], am_mix mo_S3 g M)
              refine hR _ ⟨(show 0 ≤ (((k : Nat) : Int) : Int) ∧ (((k : Nat) : Int) : Int) < 5 from (by omega)), ?_⟩
              show R (120, [some (aR 8 0), some (aI ((s : Nat) : Int)), some (aI ((k : Nat) : Int)), some (aI sw), some (aI 2), some (aI (M 23 0 k)), some (aI (M 24 0 k)), some (aI (M 25 0 (2 * k))), some (aI b), some (aL mo), none, some (aI ((i : Nat) : Int)), o12, none], [], am_wr (am_mix mo_S3 g M) 23 0 k (M 23 0 k))
              refine hR _ (hR _ (hR _ (hR _ (hR _ (hR _ (am_brt (rg := am_in 2 ∧ am_in 1) (P := (2 : Int) ≠ 1) (A := R (136, [some (aR 8 0), some (aI ((s : Nat) : Int)), some (aI ((k : Nat) : Int)), some (aI sw), some (aI 2), some (aI (M 23 0 k)), some (aI (M 24 0 k)), some (aI (M 25 0 (2 * k))), some (aI b), some (aL mo), none, some (aI ((i : Nat) : Int)), o12, none], [aI ((k : Nat) : Int), aR 24 0], am_wr (am_mix mo_S3 g M) 23 0 k (M 23 0 k))) (B := R (131, [some (aR 8 0), some (aI ((s : Nat) : Int)), some (aI ((k : Nat) : Int)), some (aI sw), some (aI 2), some (aI (M 23 0 k)), some (aI (M 24 0 k)), some (aI (M 25 0 (2 * k))), some (aI b), some (aL mo), none, some (aI ((i : Nat) : Int)), o12, none], [aI ((k : Nat) : Int), aR 24 0], am_wr (am_mix mo_S3 g M) 23 0 k (M 23 0 k))) (by omega) (by omega) ?_))))))
              show R (136, [some (aR 8 0), some (aI ((s : Nat) : Int)), some (aI ((k : Nat) : Int)), some (aI sw), some (aI 2), some (aI (M 23 0 k)), some (aI (M 24 0 k)), some (aI (M 25 0 (2 * k))), some (aI b), some (aL mo), none, some (aI ((i : Nat) : Int)), o12, none], [aI ((k : Nat) : Int), aR 24 0], am_wr (am_mix mo_S3 g M) 23 0 k (M 23 0 k))
              refine hR _ (?_)
              show R (138, [some (aR 8 0), some (aI ((s : Nat) : Int)), some (aI ((k : Nat) : Int)), some (aI sw), some (aI 2), some (aI (M 23 0 k)), some (aI (M 24 0 k)), some (aI (M 25 0 (2 * k))), some (aI b), some (aL mo), none, some (aI ((i : Nat) : Int)), o12, none], [aI (M 24 0 k), aI ((k : Nat) : Int), aR 24 0], am_wr (am_mix mo_S3 g M) 23 0 k (M 23 0 k))
              refine hR _ ⟨(show 0 ≤ (((k : Nat) : Int) : Int) ∧ (((k : Nat) : Int) : Int) < 5 from (by omega)), ?_⟩
              show R (139, [some (aR 8 0), some (aI ((s : Nat) : Int)), some (aI ((k : Nat) : Int)), some (aI sw), some (aI 2), some (aI (M 23 0 k)), some (aI (M 24 0 k)), some (aI (M 25 0 (2 * k))), some (aI b), some (aL mo), none, some (aI ((i : Nat) : Int)), o12, none], [], am_wr (am_wr (am_mix mo_S3 g M) 23 0 k (M 23 0 k)) 24 0 k (M 24 0 k))
              refine hR _ (hR _ (hR _ (hR _ (hR _ (hR _ (hR _ (hR _ (am_brf (rg := am_in 2 ∧ am_in 2) (P := (2 : Int) ≠ 2) (A := R (157, [some (aR 8 0), some (aI ((s : Nat) : Int)), some (aI ((k : Nat) : Int)), some (aI sw), some (aI 2), some (aI (M 23 0 k)), some (aI (M 24 0 k)), some (aI (M 25 0 (2 * k))), some (aI b), some (aL mo), none, some (aI ((i : Nat) : Int)), o12, none], [aI (2 * ((k : Nat) : Int)), aR 25 0], am_wr (am_wr (am_mix mo_S3 g M) 23 0 k (M 23 0 k)) 24 0 k (M 24 0 k))) (B := R (152, [some (aR 8 0), some (aI ((s : Nat) : Int)), some (aI ((k : Nat) : Int)), some (aI sw), some (aI 2), some (aI (M 23 0 k)), some (aI (M 24 0 k)), some (aI (M 25 0 (2 * k))), some (aI b), some (aL mo), none, some (aI ((i : Nat) : Int)), o12, none], [aI (2 * ((k : Nat) : Int)), aR 25 0], am_wr (am_wr (am_mix mo_S3 g M) 23 0 k (M 23 0 k)) 24 0 k (M 24 0 k))) (by omega) (by omega) ?_))))))))
              show R (152, [some (aR 8 0), some (aI ((s : Nat) : Int)), some (aI ((k : Nat) : Int)), some (aI sw), some (aI 2), some (aI (M 23 0 k)), some (aI (M 24 0 k)), some (aI (M 25 0 (2 * k))), some (aI b), some (aL mo), none, some (aI ((i : Nat) : Int)), o12, none], [aI (2 * ((k : Nat) : Int)), aR 25 0], am_wr (am_wr (am_mix mo_S3 g M) 23 0 k (M 23 0 k)) 24 0 k (M 24 0 k))
              refine hR _ (hR _ (?_))
              show R (159, [some (aR 8 0), some (aI ((s : Nat) : Int)), some (aI ((k : Nat) : Int)), some (aI sw), some (aI 2), some (aI (M 23 0 k)), some (aI (M 24 0 k)), some (aI (M 25 0 (2 * k))), some (aI b), some (aL mo), none, some (aI ((i : Nat) : Int)), o12, none], [aI ((i : Nat) : Int), aI (2 * ((k : Nat) : Int)), aR 25 0], am_wr (am_wr (am_mix mo_S3 g M) 23 0 k (M 23 0 k)) 24 0 k (M 24 0 k))
              refine hR _ ⟨(show 0 ≤ ((2 * ((k : Nat) : Int)) : Int) ∧ ((2 * ((k : Nat) : Int)) : Int) < 10 from (by omega)), ?_⟩
              show R (160, [some (aR 8 0), some (aI ((s : Nat) : Int)), some (aI ((k : Nat) : Int)), some (aI sw), some (aI 2), some (aI (M 23 0 k)), some (aI (M 24 0 k)), some (aI (M 25 0 (2 * k))), some (aI b), some (aL mo), none, some (aI ((i : Nat) : Int)), o12, none], [], am_wr (am_wr (am_wr (am_mix mo_S3 g M) 23 0 k (M 23 0 k)) 24 0 k (M 24 0 k)) 25 0 (((2 * ((k : Nat) : Int))).toNat) ((i : Nat) : Int))
              rw [show (2 * ((k : Nat) : Int)).toNat = 2 * k by omega]
              have n23 : mo_but 23 k (am_wr (am_wr (am_wr (am_mix mo_S3 g M) 23 0 k (M 23 0 k)) 24 0 k (M 24 0 k)) 25 0 (2 * k) ((i : Nat) : Int)) M := mo_but.wr (g := am_mix mo_S3 g M) hb23
              have n24 : mo_but 24 k (am_wr (am_wr (am_wr (am_mix mo_S3 g M) 23 0 k (M 23 0 k)) 24 0 k (M 24 0 k)) 25 0 (2 * k) ((i : Nat) : Int)) M := mo_but.wr (g := am_mix mo_S3 g M) hb24
              have n25 : mo_but 25 (2 * k) (am_wr (am_wr (am_wr (am_mix mo_S3 g M) 23 0 k (M 23 0 k)) 24 0 k (M 24 0 k)) 25 0 (2 * k) ((i : Nat) : Int)) M := mo_but.wr (g := am_mix mo_S3 g M) hb25
              have v23 : (am_wr (am_wr (am_wr (am_mix mo_S3 g M) 23 0 k (M 23 0 k)) 24 0 k (M 24 0 k)) 25 0 (2 * k) ((i : Nat) : Int)) 23 0 k = (M 23 0 k) := (am_wr_ne (Or.inl (by decide))).trans ((am_wr_ne (Or.inl (by decide))).trans am_wr_eq)
              have v24 : (am_wr (am_wr (am_wr (am_mix mo_S3 g M) 23 0 k (M 23 0 k)) 24 0 k (M 24 0 k)) 25 0 (2 * k) ((i : Nat) : Int)) 24 0 k = (M 24 0 k) := (am_wr_ne (Or.inl (by decide))).trans am_wr_eq
              have v25 : (am_wr (am_wr (am_wr (am_mix mo_S3 g M) 23 0 k (M 23 0 k)) 24 0 k (M 24 0 k)) 25 0 (2 * k) ((i : Nat) : Int)) 25 0 (2 * k) = ((i : Nat) : Int) := am_wr_eq
              have e9 : am_ag mo_S3 M (am_wr (am_wr (am_wr (am_mix mo_S3 g M) 23 0 k (M 23 0 k)) 24 0 k (M 24 0 k)) 25 0 (2 * k) ((i : Nat) : Int)) := (((am_ag.rf.mix rfl).wr rfl).wr rfl).wr rfl
              rw [e9.eq] at n23 n24 n25 v23 v24 v25 ⊢
              generalize am_wr (am_wr (am_wr (am_mix mo_S3 g M) 23 0 k (M 23 0 k)) 24 0 k (M 24 0 k)) 25 0 (2 * k) ((i : Nat) : Int) = g1 at n23 n24 n25 v23 v24 v25 ⊢
              show R (160, [some (aR 8 0), some (aI ((s : Nat) : Int)), some (aI ((k : Nat) : Int)), some (aI sw), some (aI 2), some (aI (M 23 0 k)), some (aI (M 24 0 k)), some (aI (M 25 0 (2 * k))), some (aI b), some (aL mo), none, some (aI ((i : Nat) : Int)), o12, none], [], am_mix mo_S3 g1 M)
              obtain ⟨p1, hpp1⟩ : ∃ p1, p1 = jf_pf M k 2 ((i : Nat) : Int) := ⟨_, rfl⟩
              have hpf : jf_pf M k 2 ((i : Nat) : Int) = jf_pa M k ((i : Nat) : Int) := rfl
              have hp1 : mo_p (am_mix mo_S3 g1 M) k r p1 := by
                rw [hpp1, hpf]
                exact ⟨⟨hp0.1.1.trans v23.symm, hp0.1.2.1.trans v24.symm, v25.symm, hp0.1.2.2.2.trans (n25 0 (2 * k + 1) (by omega)).symm⟩, hp0.2⟩
              have hok1 : jf_ok p1 := by rw [hpp1]; exact hoki i (by omega)
              have hpm1 : p1.mk = M 22 0 0 := by rw [hpp1, hpf]; exact hpm0
              have hps1 : p1.st = 0 := by rw [hpp1, hpf]
              refine hR _ (hR _ (hR _ (?_)))
              show R (163, [some (aR 8 0), some (aI ((s : Nat) : Int)), some (aI ((k : Nat) : Int)), some (aI sw), some (aI 2), some (aI (M 23 0 k)), some (aI (M 24 0 k)), some (aI (M 25 0 (2 * k))), some (aI b), some (aL mo), none, some (aI ((i : Nat) : Int)), o12, none], [aI ((k : Nat) : Int), aI ((s : Nat) : Int), aR 8 0], am_mix mo_S3 g1 M)
              refine hR _ (sm_partsOf (p := p1) (r := r) (s := s) (c := M 21 s) (n := (M 181 s 0).toNat) (by omega) hsh hk hr hr6 hwt hp1 hok1 hpm1 hps1 (fun g185 => ?_))
              have hpbb := jf_pb_b hok1 (M 21 s) (M 181 s 0).toNat
              show R (166, [some (aR 8 0), some (aI ((s : Nat) : Int)), some (aI ((k : Nat) : Int)), some (aI sw), some (aI 2), some (aI (M 23 0 k)), some (aI (M 24 0 k)), some (aI (M 25 0 (2 * k))), some (aI b), some (aL mo), none, some (aI ((i : Nat) : Int)), o12, none], [aL (jf_pb p1 (M 21 s) (M 181 s 0).toNat)], am_mix mo_SM g185 (am_mix mo_S3 g1 M))
              refine hR _ (hR _ (hR _ (?_)))
              show R (172, [some (aR 8 0), some (aI ((s : Nat) : Int)), some (aI ((k : Nat) : Int)), some (aI sw), some (aI 2), some (aI (M 23 0 k)), some (aI (M 24 0 k)), some (aI (M 25 0 (2 * k))), some (aI b), some (aL mo), none, some (aI ((i : Nat) : Int)), some (aL (jf_pb p1 (M 21 s) (M 181 s 0).toNat)), none], [aL mo, aL (jf_pb p1 (M 21 s) (M 181 s 0).toNat)], am_mix mo_SM g185 (am_mix mo_S3 g1 M))
              refine am_lc (x := (jf_pb p1 (M 21 s) (M 181 s 0).toNat)) (y := mo) (P := (jf_pb p1 (M 21 s) (M 181 s 0).toNat) ≤ mo) (A := R (181, [some (aR 8 0), some (aI ((s : Nat) : Int)), some (aI ((k : Nat) : Int)), some (aI sw), some (aI 2), some (aI (M 23 0 k)), some (aI (M 24 0 k)), some (aI (M 25 0 (2 * k))), some (aI b), some (aL mo), none, some (aI ((i : Nat) : Int)), some (aL (jf_pb p1 (M 21 s) (M 181 s 0).toNat)), none], [], am_mix mo_SM g185 (am_mix mo_S3 g1 M))) (B := R (176, [some (aR 8 0), some (aI ((s : Nat) : Int)), some (aI ((k : Nat) : Int)), some (aI sw), some (aI 2), some (aI (M 23 0 k)), some (aI (M 24 0 k)), some (aI (M 25 0 (2 * k))), some (aI b), some (aL mo), none, some (aI ((i : Nat) : Int)), some (aL (jf_pb p1 (M 21 s) (M 181 s 0).toNat)), none], [], am_mix mo_SM g185 (am_mix mo_S3 g1 M))) (by omega) (fun hA hB => hR _ ⟨(by omega), (fun hz => hR _ (am_brt (P := (-1 : Int) ≤ 0) (A := R (181, [some (aR 8 0), some (aI ((s : Nat) : Int)), some (aI ((k : Nat) : Int)), some (aI sw), some (aI 2), some (aI (M 23 0 k)), some (aI (M 24 0 k)), some (aI (M 25 0 (2 * k))), some (aI b), some (aL mo), none, some (aI ((i : Nat) : Int)), some (aL (jf_pb p1 (M 21 s) (M 181 s 0).toNat)), none], [], am_mix mo_SM g185 (am_mix mo_S3 g1 M))) (B := R (176, [some (aR 8 0), some (aI ((s : Nat) : Int)), some (aI ((k : Nat) : Int)), some (aI sw), some (aI 2), some (aI (M 23 0 k)), some (aI (M 24 0 k)), some (aI (M 25 0 (2 * k))), some (aI b), some (aL mo), none, some (aI ((i : Nat) : Int)), some (aL (jf_pb p1 (M 21 s) (M 181 s 0).toNat)), none], [], am_mix mo_SM g185 (am_mix mo_S3 g1 M))) (by omega) (by omega) (hA (by omega)))), (fun hz => hR _ (am_brt (P := (0 : Int) ≤ 0) (A := R (181, [some (aR 8 0), some (aI ((s : Nat) : Int)), some (aI ((k : Nat) : Int)), some (aI sw), some (aI 2), some (aI (M 23 0 k)), some (aI (M 24 0 k)), some (aI (M 25 0 (2 * k))), some (aI b), some (aL mo), none, some (aI ((i : Nat) : Int)), some (aL (jf_pb p1 (M 21 s) (M 181 s 0).toNat)), none], [], am_mix mo_SM g185 (am_mix mo_S3 g1 M))) (B := R (176, [some (aR 8 0), some (aI ((s : Nat) : Int)), some (aI ((k : Nat) : Int)), some (aI sw), some (aI 2), some (aI (M 23 0 k)), some (aI (M 24 0 k)), some (aI (M 25 0 (2 * k))), some (aI b), some (aL mo), none, some (aI ((i : Nat) : Int)), some (aL (jf_pb p1 (M 21 s) (M 181 s 0).toNat)), none], [], am_mix mo_SM g185 (am_mix mo_S3 g1 M))) (by omega) (by omega) (hA (by omega)))), (fun hz => hR _ (am_brf (P := (1 : Int) ≤ 0) (A := R (181, [some (aR 8 0), some (aI ((s : Nat) : Int)), some (aI ((k : Nat) : Int)), some (aI sw), some (aI 2), some (aI (M 23 0 k)), some (aI (M 24 0 k)), some (aI (M 25 0 (2 * k))), some (aI b), some (aL mo), none, some (aI ((i : Nat) : Int)), some (aL (jf_pb p1 (M 21 s) (M 181 s 0).toNat)), none], [], am_mix mo_SM g185 (am_mix mo_S3 g1 M))) (B := R (176, [some (aR 8 0), some (aI ((s : Nat) : Int)), some (aI ((k : Nat) : Int)), some (aI sw), some (aI 2), some (aI (M 23 0 k)), some (aI (M 24 0 k)), some (aI (M 25 0 (2 * k))), some (aI b), some (aL mo), none, some (aI ((i : Nat) : Int)), some (aL (jf_pb p1 (M 21 s) (M 181 s 0).toNat)), none], [], am_mix mo_SM g185 (am_mix mo_S3 g1 M))) (by omega) (by omega) (hB (by omega))))⟩) (fun c172 => ?_) (fun c172 => ?_)
              · refine hR _ (hR _ (hR _ (hR _ (?_))))
                show R (189, [some (aR 8 0), some (aI ((s : Nat) : Int)), some (aI ((k : Nat) : Int)), some (aI sw), some (aI 2), some (aI (M 23 0 k)), some (aI (M 24 0 k)), some (aI (M 25 0 (2 * k))), some (aI b), some (aL mo), none, some (aI ((i : Nat) : Int)), some (aL (jf_pb p1 (M 21 s) (M 181 s 0).toNat)), none], [aL mo, aL (jf_pb p1 (M 21 s) (M 181 s 0).toNat)], am_mix mo_SM g185 (am_mix mo_S3 g1 M))
                refine am_lc (x := (jf_pb p1 (M 21 s) (M 181 s 0).toNat)) (y := mo) (P := (jf_pb p1 (M 21 s) (M 181 s 0).toNat) ≤ mo) (A := R (198, [some (aR 8 0), some (aI ((s : Nat) : Int)), some (aI ((k : Nat) : Int)), some (aI sw), some (aI 2), some (aI (M 23 0 k)), some (aI (M 24 0 k)), some (aI (M 25 0 (2 * k))), some (aI b), some (aL mo), none, some (aI ((i : Nat) : Int)), some (aL (jf_pb p1 (M 21 s) (M 181 s 0).toNat)), none], [], am_mix mo_SM g185 (am_mix mo_S3 g1 M))) (B := R (193, [some (aR 8 0), some (aI ((s : Nat) : Int)), some (aI ((k : Nat) : Int)), some (aI sw), some (aI 2), some (aI (M 23 0 k)), some (aI (M 24 0 k)), some (aI (M 25 0 (2 * k))), some (aI b), some (aL mo), none, some (aI ((i : Nat) : Int)), some (aL (jf_pb p1 (M 21 s) (M 181 s 0).toNat)), none], [], am_mix mo_SM g185 (am_mix mo_S3 g1 M))) (by omega) (fun hA hB => hR _ ⟨(by omega), (fun hz => hR _ (am_brt (P := (-1 : Int) ≤ 0) (A := R (198, [some (aR 8 0), some (aI ((s : Nat) : Int)), some (aI ((k : Nat) : Int)), some (aI sw), some (aI 2), some (aI (M 23 0 k)), some (aI (M 24 0 k)), some (aI (M 25 0 (2 * k))), some (aI b), some (aL mo), none, some (aI ((i : Nat) : Int)), some (aL (jf_pb p1 (M 21 s) (M 181 s 0).toNat)), none], [], am_mix mo_SM g185 (am_mix mo_S3 g1 M))) (B := R (193, [some (aR 8 0), some (aI ((s : Nat) : Int)), some (aI ((k : Nat) : Int)), some (aI sw), some (aI 2), some (aI (M 23 0 k)), some (aI (M 24 0 k)), some (aI (M 25 0 (2 * k))), some (aI b), some (aL mo), none, some (aI ((i : Nat) : Int)), some (aL (jf_pb p1 (M 21 s) (M 181 s 0).toNat)), none], [], am_mix mo_SM g185 (am_mix mo_S3 g1 M))) (by omega) (by omega) (hA (by omega)))), (fun hz => hR _ (am_brt (P := (0 : Int) ≤ 0) (A := R (198, [some (aR 8 0), some (aI ((s : Nat) : Int)), some (aI ((k : Nat) : Int)), some (aI sw), some (aI 2), some (aI (M 23 0 k)), some (aI (M 24 0 k)), some (aI (M 25 0 (2 * k))), some (aI b), some (aL mo), none, some (aI ((i : Nat) : Int)), some (aL (jf_pb p1 (M 21 s) (M 181 s 0).toNat)), none], [], am_mix mo_SM g185 (am_mix mo_S3 g1 M))) (B := R (193, [some (aR 8 0), some (aI ((s : Nat) : Int)), some (aI ((k : Nat) : Int)), some (aI sw), some (aI 2), some (aI (M 23 0 k)), some (aI (M 24 0 k)), some (aI (M 25 0 (2 * k))), some (aI b), some (aL mo), none, some (aI ((i : Nat) : Int)), some (aL (jf_pb p1 (M 21 s) (M 181 s 0).toNat)), none], [], am_mix mo_SM g185 (am_mix mo_S3 g1 M))) (by omega) (by omega) (hA (by omega)))), (fun hz => hR _ (am_brf (P := (1 : Int) ≤ 0) (A := R (198, [some (aR 8 0), some (aI ((s : Nat) : Int)), some (aI ((k : Nat) : Int)), some (aI sw), some (aI 2), some (aI (M 23 0 k)), some (aI (M 24 0 k)), some (aI (M 25 0 (2 * k))), some (aI b), some (aL mo), none, some (aI ((i : Nat) : Int)), some (aL (jf_pb p1 (M 21 s) (M 181 s 0).toNat)), none], [], am_mix mo_SM g185 (am_mix mo_S3 g1 M))) (B := R (193, [some (aR 8 0), some (aI ((s : Nat) : Int)), some (aI ((k : Nat) : Int)), some (aI sw), some (aI 2), some (aI (M 23 0 k)), some (aI (M 24 0 k)), some (aI (M 25 0 (2 * k))), some (aI b), some (aL mo), none, some (aI ((i : Nat) : Int)), some (aL (jf_pb p1 (M 21 s) (M 181 s 0).toNat)), none], [], am_mix mo_SM g185 (am_mix mo_S3 g1 M))) (by omega) (by omega) (hB (by omega))))⟩) (fun c189 => ?_) (fun c189 => ?_)
                · refine hR _ (hR _ (hR _ (hR _ (?_))))
                  show R (74, [some (aR 8 0), some (aI ((s : Nat) : Int)), some (aI ((k : Nat) : Int)), some (aI sw), some (aI 2), some (aI (M 23 0 k)), some (aI (M 24 0 k)), some (aI (M 25 0 (2 * k))), some (aI b), some (aL mo), none, some (aI (((i : Nat) : Int) + 1)), some (aL (jf_pb p1 (M 21 s) (M 181 s 0).toNat)), none], [], am_mix mo_SM g185 (am_mix mo_S3 g1 M))
                  have m23 : mo_but 23 k (am_mix mo_SM g185 (am_mix mo_S3 g1 M)) M := n23
                  have m24 : mo_but 24 k (am_mix mo_SM g185 (am_mix mo_S3 g1 M)) M := n24
                  have m25 : mo_but 25 (2 * k) (am_mix mo_SM g185 (am_mix mo_S3 g1 M)) M := n25
                  have e9 : am_ag mo_S3 M (am_mix mo_SM g185 (am_mix mo_S3 g1 M)) := ((am_ag.rf).mix rfl).mix rfl
                  rw [e9.eq] at m23 m24 m25 ⊢
                  rw [← hpp1] at hst1
                  have hcond : ¬ (i = 0 ∨ ((jf_bf M s k 2) i).2.1 < jf_pb p1 (M 21 s) (M 181 s 0).toNat) := by
                    by_cases h0 : i = 0
                    · rw [if_pos h0] at hmo
                      omega
                    · rw [if_neg h0] at hmo
                      omega
                  have e1 : (jf_bf M s k 2) (i + 1) = (jf_bf M s k 2) i := hst1.trans (if_neg hcond)
                  refine ih (i + 1) _ _ _ _ _ (by omega) (by omega) m23 m24 m25 ?_ ?_
                  · rw [e1]
                    exact hb
                  · rw [if_neg (by omega), e1]
                    rw [if_neg (by omega)] at hmo
                    exact hmo
                · refine hR _ (hR _ (hR _ (hR _ (hR _ (?_)))))
                  show R (74, [some (aR 8 0), some (aI ((s : Nat) : Int)), some (aI ((k : Nat) : Int)), some (aI sw), some (aI 2), some (aI (M 23 0 k)), some (aI (M 24 0 k)), some (aI (M 25 0 (2 * k))), some (aI b), some (aL (jf_pb p1 (M 21 s) (M 181 s 0).toNat)), none, some (aI (((i : Nat) : Int) + 1)), some (aL (jf_pb p1 (M 21 s) (M 181 s 0).toNat)), none], [], am_mix mo_SM g185 (am_mix mo_S3 g1 M))
                  exfalso
                  omega
              · refine hR _ (hR _ (hR _ (hR _ (hR _ (?_)))))
                show R (189, [some (aR 8 0), some (aI ((s : Nat) : Int)), some (aI ((k : Nat) : Int)), some (aI sw), some (aI 2), some (aI (M 23 0 k)), some (aI (M 24 0 k)), some (aI (M 25 0 (2 * k))), some (aI ((i : Nat) : Int)), some (aL mo), none, some (aI ((i : Nat) : Int)), some (aL (jf_pb p1 (M 21 s) (M 181 s 0).toNat)), none], [aL mo, aL (jf_pb p1 (M 21 s) (M 181 s 0).toNat)], am_mix mo_SM g185 (am_mix mo_S3 g1 M))
                refine am_lc (x := (jf_pb p1 (M 21 s) (M 181 s 0).toNat)) (y := mo) (P := (jf_pb p1 (M 21 s) (M 181 s 0).toNat) ≤ mo) (A := R (198, [some (aR 8 0), some (aI ((s : Nat) : Int)), some (aI ((k : Nat) : Int)), some (aI sw), some (aI 2), some (aI (M 23 0 k)), some (aI (M 24 0 k)), some (aI (M 25 0 (2 * k))), some (aI ((i : Nat) : Int)), some (aL mo), none, some (aI ((i : Nat) : Int)), some (aL (jf_pb p1 (M 21 s) (M 181 s 0).toNat)), none], [], am_mix mo_SM g185 (am_mix mo_S3 g1 M))) (B := R (193, [some (aR 8 0), some (aI ((s : Nat) : Int)), some (aI ((k : Nat) : Int)), some (aI sw), some (aI 2), some (aI (M 23 0 k)), some (aI (M 24 0 k)), some (aI (M 25 0 (2 * k))), some (aI ((i : Nat) : Int)), some (aL mo), none, some (aI ((i : Nat) : Int)), some (aL (jf_pb p1 (M 21 s) (M 181 s 0).toNat)), none], [], am_mix mo_SM g185 (am_mix mo_S3 g1 M))) (by omega) (fun hA hB => hR _ ⟨(by omega), (fun hz => hR _ (am_brt (P := (-1 : Int) ≤ 0) (A := R (198, [some (aR 8 0), some (aI ((s : Nat) : Int)), some (aI ((k : Nat) : Int)), some (aI sw), some (aI 2), some (aI (M 23 0 k)), some (aI (M 24 0 k)), some (aI (M 25 0 (2 * k))), some (aI ((i : Nat) : Int)), some (aL mo), none, some (aI ((i : Nat) : Int)), some (aL (jf_pb p1 (M 21 s) (M 181 s 0).toNat)), none], [], am_mix mo_SM g185 (am_mix mo_S3 g1 M))) (B := R (193, [some (aR 8 0), some (aI ((s : Nat) : Int)), some (aI ((k : Nat) : Int)), some (aI sw), some (aI 2), some (aI (M 23 0 k)), some (aI (M 24 0 k)), some (aI (M 25 0 (2 * k))), some (aI ((i : Nat) : Int)), some (aL mo), none, some (aI ((i : Nat) : Int)), some (aL (jf_pb p1 (M 21 s) (M 181 s 0).toNat)), none], [], am_mix mo_SM g185 (am_mix mo_S3 g1 M))) (by omega) (by omega) (hA (by omega)))), (fun hz => hR _ (am_brt (P := (0 : Int) ≤ 0) (A := R (198, [some (aR 8 0), some (aI ((s : Nat) : Int)), some (aI ((k : Nat) : Int)), some (aI sw), some (aI 2), some (aI (M 23 0 k)), some (aI (M 24 0 k)), some (aI (M 25 0 (2 * k))), some (aI ((i : Nat) : Int)), some (aL mo), none, some (aI ((i : Nat) : Int)), some (aL (jf_pb p1 (M 21 s) (M 181 s 0).toNat)), none], [], am_mix mo_SM g185 (am_mix mo_S3 g1 M))) (B := R (193, [some (aR 8 0), some (aI ((s : Nat) : Int)), some (aI ((k : Nat) : Int)), some (aI sw), some (aI 2), some (aI (M 23 0 k)), some (aI (M 24 0 k)), some (aI (M 25 0 (2 * k))), some (aI ((i : Nat) : Int)), some (aL mo), none, some (aI ((i : Nat) : Int)), some (aL (jf_pb p1 (M 21 s) (M 181 s 0).toNat)), none], [], am_mix mo_SM g185 (am_mix mo_S3 g1 M))) (by omega) (by omega) (hA (by omega)))), (fun hz => hR _ (am_brf (P := (1 : Int) ≤ 0) (A := R (198, [some (aR 8 0), some (aI ((s : Nat) : Int)), some (aI ((k : Nat) : Int)), some (aI sw), some (aI 2), some (aI (M 23 0 k)), some (aI (M 24 0 k)), some (aI (M 25 0 (2 * k))), some (aI ((i : Nat) : Int)), some (aL mo), none, some (aI ((i : Nat) : Int)), some (aL (jf_pb p1 (M 21 s) (M 181 s 0).toNat)), none], [], am_mix mo_SM g185 (am_mix mo_S3 g1 M))) (B := R (193, [some (aR 8 0), some (aI ((s : Nat) : Int)), some (aI ((k : Nat) : Int)), some (aI sw), some (aI 2), some (aI (M 23 0 k)), some (aI (M 24 0 k)), some (aI (M 25 0 (2 * k))), some (aI ((i : Nat) : Int)), some (aL mo), none, some (aI ((i : Nat) : Int)), some (aL (jf_pb p1 (M 21 s) (M 181 s 0).toNat)), none], [], am_mix mo_SM g185 (am_mix mo_S3 g1 M))) (by omega) (by omega) (hB (by omega))))⟩) (fun c189 => ?_) (fun c189 => ?_)
                · refine hR _ (hR _ (hR _ (hR _ (?_))))
                  show R (74, [some (aR 8 0), some (aI ((s : Nat) : Int)), some (aI ((k : Nat) : Int)), some (aI sw), some (aI 2), some (aI (M 23 0 k)), some (aI (M 24 0 k)), some (aI (M 25 0 (2 * k))), some (aI ((i : Nat) : Int)), some (aL mo), none, some (aI (((i : Nat) : Int) + 1)), some (aL (jf_pb p1 (M 21 s) (M 181 s 0).toNat)), none], [], am_mix mo_SM g185 (am_mix mo_S3 g1 M))
                  exfalso
                  omega
                · refine hR _ (hR _ (hR _ (hR _ (hR _ (?_)))))
                  show R (74, [some (aR 8 0), some (aI ((s : Nat) : Int)), some (aI ((k : Nat) : Int)), some (aI sw), some (aI 2), some (aI (M 23 0 k)), some (aI (M 24 0 k)), some (aI (M 25 0 (2 * k))), some (aI ((i : Nat) : Int)), some (aL (jf_pb p1 (M 21 s) (M 181 s 0).toNat)), none, some (aI (((i : Nat) : Int) + 1)), some (aL (jf_pb p1 (M 21 s) (M 181 s 0).toNat)), none], [], am_mix mo_SM g185 (am_mix mo_S3 g1 M))
                  have m23 : mo_but 23 k (am_mix mo_SM g185 (am_mix mo_S3 g1 M)) M := n23
                  have m24 : mo_but 24 k (am_mix mo_SM g185 (am_mix mo_S3 g1 M)) M := n24
                  have m25 : mo_but 25 (2 * k) (am_mix mo_SM g185 (am_mix mo_S3 g1 M)) M := n25
                  have e9 : am_ag mo_S3 M (am_mix mo_SM g185 (am_mix mo_S3 g1 M)) := ((am_ag.rf).mix rfl).mix rfl
                  rw [e9.eq] at m23 m24 m25 ⊢
                  rw [← hpp1] at hst1
                  have hcond : i = 0 ∨ ((jf_bf M s k 2) i).2.1 < jf_pb p1 (M 21 s) (M 181 s 0).toNat := by
                    by_cases h0 : i = 0
                    · exact Or.inl h0
                    · rw [if_neg h0] at hmo
                      exact Or.inr (by omega)
                  have e1 : (jf_bf M s k 2) (i + 1) = (((i : Nat) : Int), jf_pb p1 (M 21 s) (M 181 s 0).toNat, 1) := hst1.trans (if_pos hcond)
                  refine ih (i + 1) _ _ _ _ _ (by omega) (by omega) m23 m24 m25 ?_ ?_
                  · rw [e1]
                  · rw [if_neg (by omega), e1]
          have e9 : am_ag mo_S3 M M := am_ag.rf
          rw [e9.eq]
          exact key 100 0 _ _ _ _ _ rfl rfl (fun i j _ => rfl) (fun i j _ => rfl) (fun i j _ => rfl) rfl rfl
      · refine hR _ (?_)
        show R (30, [some (aR 8 0), some (aI ((s : Nat) : Int)), some (aI ((k : Nat) : Int)), some (aI sw), none, none, none, none, none, none, none, none, none, none], [aL (-4611686018427387904)], M)
        refine hR _ (show K (some (aL (-4611686018427387904))) M from ?_)
        have hres : jx_fits M ((s : Nat) : Int) ((k : Nat) : Int) sw = (-4611686018427387904) := by
          unfold jx_fits
          repeat' split
          all_goals first | rfl | omega | (exfalso; omega) | (exfalso; exact hms (by assumption))
        rw [hres] at hK
        have e9 : am_ag mo_SM M M := am_ag.rf
        rw [e9.eq]
        exact hK _
    · show R (16, [some (aR 8 0), some (aI ((s : Nat) : Int)), some (aI ((k : Nat) : Int)), some (aI sw), none, none, none, none, none, none, none, none, none, none], [aI 0], M)
      refine hR _ (am_brt (rg := am_in 0) (P := (0 : Int) = 0) (A := R (27, [some (aR 8 0), some (aI ((s : Nat) : Int)), some (aI ((k : Nat) : Int)), some (aI sw), none, none, none, none, none, none, none, none, none, none], [], M)) (B := R (19, [some (aR 8 0), some (aI ((s : Nat) : Int)), some (aI ((k : Nat) : Int)), some (aI sw), none, none, none, none, none, none, none, none, none, none], [], M)) (by omega) (by omega) ?_)
      show R (27, [some (aR 8 0), some (aI ((s : Nat) : Int)), some (aI ((k : Nat) : Int)), some (aI sw), none, none, none, none, none, none, none, none, none, none], [], M)
      refine hR _ (?_)
      show R (30, [some (aR 8 0), some (aI ((s : Nat) : Int)), some (aI ((k : Nat) : Int)), some (aI sw), none, none, none, none, none, none, none, none, none, none], [aL (-4611686018427387904)], M)
      refine hR _ (show K (some (aL (-4611686018427387904))) M from ?_)
      have hres : jx_fits M ((s : Nat) : Int) ((k : Nat) : Int) sw = (-4611686018427387904) := by
        unfold jx_fits
        repeat' split
        all_goals first | rfl | omega | (exfalso; omega) | (exfalso; exact hms (by assumption))
      rw [hres] at hK
      have e9 : am_ag mo_SM M M := am_ag.rf
      rw [e9.eq]
      exact hK _
  · show R (0, [some (aR 8 0), some (aI sa), some (aI h), some (aI sw), none, none, none, none, none, none, none, none, none, none], [], M)
    refine hR _ (hR _ (hR _ (?_)))
    show R (3, [some (aR 8 0), some (aI sa), some (aI h), some (aI sw), none, none, none, none, none, none, none, none, none, none], [aI h, aI sa, aR 8 0], M)
    refine hR _ (sm_toldWrong (by omega) hJ hW (by omega) (by omega) ?_)
    have htw := mo_tw_1 hbad
    show R (6, [some (aR 8 0), some (aI sa), some (aI h), some (aI sw), none, none, none, none, none, none, none, none, none, none], [aI (mo_tw M sa h)], M)
    refine hR _ (am_brt (rg := am_in (mo_tw M sa h)) (P := (mo_tw M sa h) ≠ 0) (A := R (27, [some (aR 8 0), some (aI sa), some (aI h), some (aI sw), none, none, none, none, none, none, none, none, none, none], [], M)) (B := R (9, [some (aR 8 0), some (aI sa), some (aI h), some (aI sw), none, none, none, none, none, none, none, none, none, none], [], M)) (by omega) (by omega) ?_)
    show R (27, [some (aR 8 0), some (aI sa), some (aI h), some (aI sw), none, none, none, none, none, none, none, none, none, none], [], M)
    refine hR _ (?_)
    show R (30, [some (aR 8 0), some (aI sa), some (aI h), some (aI sw), none, none, none, none, none, none, none, none, none, none], [aL (-4611686018427387904)], M)
    refine hR _ (show K (some (aL (-4611686018427387904))) M from ?_)
    have hres : jx_fits M sa h sw = (-4611686018427387904) := by
      unfold jx_fits
      repeat' split
      all_goals first | rfl | omega | (exfalso; apply hbad; exact ⟨by omega, by assumption, by omega⟩)
    rw [hres] at hK
    have e9 : am_ag mo_SM M M := am_ag.rf
    rw [e9.eq]
    exact hK _
