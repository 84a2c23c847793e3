/-! wb -/
/-! THE REFERENCE: change -/

set_option maxHeartbeats 1000000 in
theorem sm_changeOf {d : Nat} (hd : 9 ≤ d) {k : Nat} {gl : Int} {M : am_M} {K : am_K} (hJ : jf_J M) (hW : jf_C M) (hk : k < 5) (hgl : 0 ≤ gl ∧ gl ≤ 1) (hK : ∀ g, K (some (aI (jf_bc M k gl 51).1)) (am_mix mo_SM g M)) : am_Call true d 170 [aR 8 0, aI ((k : Nat) : Int), aI gl] M K := by
  obtain ⟨d, rfl⟩ : ∃ e, d = e + 1 := ⟨d - 1, by omega⟩
  refine ⟨rfl, fun R hR hC => ?_⟩
  replace hR : ∀ c, am_F true tb_f170 1 (am_Call true d) K R c → R c := hR
  have hn := hJ.1.1.2.2.2.2.2.2.2.1
  have hl0 := hJ.1.1.2.2.2.2.2.2.2.2
  have htc := hJ.2.2.1.1
  have hlt : 0 ≤ M 228 0 0 ∧ M 228 0 0 < 6 := by omega
  have hmk := hJ.1.1.1
  have hdr := hJ.1.1.2.1
  have hpr := hJ.1.1.2.2.1
  have hfu := hJ.1.1.2.2.2.1
  have hn' : 0 ≤ M 421 0 0 ∧ M 421 0 0 ≤ 5 := by rw [hW.1.2.1.1]; exact hn
  have h421 : M 421 0 0 = M 227 0 0 := hW.1.2.1.1
  obtain ⟨r, hrr⟩ : ∃ r, r = (M 228 0 0).toNat := ⟨_, rfl⟩
  have hr : M 431 0 0 = (r : Int) := by rw [hW.1.2.1.2.2.1]; omega
  have hr6 : r < 6 := by omega
  have hwt : mo_wt M r := (hW.2.1.2.2 r (by omega)).1
  obtain ⟨p, hpp⟩ : ∃ p, p = jf_px M k := ⟨_, rfl⟩
  have hp : mo_p M k r p := by rw [hpp, hrr]; exact jf_C.p hJ hW hk (by omega)
  have hok : jf_ok p := by rw [hpp]; exact hJ.px hk
  have hpm : p.mk = M 22 0 0 := by rw [hpp]; exact hW.1.1.1.symm
  have hps : p.st = 0 := by rw [hpp]
  have hpb := jf_P_b hok
  have hA := jf_A_b hok
  have hok0 := hok
  have hp0 := hp
  have hpm0 := hpm
  rw [hpp] at hok0 hp0 hpm0
  show R (0, [some (aR 8 0), some (aI ((k : Nat) : Int)), some (aI gl), none, none, none, none, none, none, none, none, none, none, none, none, none, none], [], M)
  refine hR _ (hR _ (?_))
  show R (2, [some (aR 8 0), some (aI ((k : Nat) : Int)), some (aI gl), none, none, none, none, none, none, none, none, none, none, none, none, none, none], [aI ((k : Nat) : Int), aR 8 0], M)
  refine hR _ (sm_goes (p := p) (r := r) (by omega) hk hr hr6 hwt hp hok hpm hps (fun g172 hth => ?_))
  have hthr := hth.1
  have hthA := hth.2.1
  have hthN := hth.2.2
  have hbO := fun a (ha : a < 5) => jf_O_b hok ha
  have hbE := fun a (ha : a < 5) => jf_E_b hok ha
  show R (5, [some (aR 8 0), some (aI ((k : Nat) : Int)), some (aI gl), none, none, none, none, none, none, none, none, none, none, none, none, none, none], [], am_mix mo_SM g172 M)
  refine hR _ (hR _ (hR _ (hR _ (?_))))
  show R (11, [some (aR 8 0), some (aI ((k : Nat) : Int)), some (aI gl), none, none, none, none, none, none, none, none, none, none, none, none, none, none], [aI 0, aR 22 0, aR 8 0], am_mix mo_SM g172 M)
  refine hR _ ⟨(show 0 ≤ (0 : Int) ∧ (0 : Int) < 4 from (by omega)), ?_⟩
  show R (12, [some (aR 8 0), some (aI ((k : Nat) : Int)), some (aI gl), none, none, none, none, none, none, none, none, none, none, none, none, none, none], [aI (M 22 0 0), aR 8 0], am_mix mo_SM g172 M)
  rw [(show M 22 0 0 = M 220 0 0 from hW.1.1.1)]
  show R (12, [some (aR 8 0), some (aI ((k : Nat) : Int)), some (aI gl), none, none, none, none, none, none, none, none, none, none, none, none, none, none], [aI (M 220 0 0), aR 8 0], am_mix mo_SM g172 M)
  refine hR _ (sm_oftenAt (by omega) hok hth (by omega) ?_)
  have hat12 := jf_at_b hok ((M 220 0 0))
  show R (15, [some (aR 8 0), some (aI ((k : Nat) : Int)), some (aI gl), none, none, none, none, none, none, none, none, none, none, none, none, none, none], [aL (jf_at p (M 220 0 0))], am_mix mo_SM g172 M)
  refine hR _ (hR _ (hR _ (?_)))
  show R (20, [some (aR 8 0), some (aI ((k : Nat) : Int)), some (aI gl), some (aL (jf_at p (M 220 0 0))), none, none, none, none, none, none, none, none, none, none, none, none, none], [aI (g172 454 0 0)], am_mix mo_SM g172 M)
  rw [(show g172 454 0 0 = jf_A p from hthA)]
  show R (20, [some (aR 8 0), some (aI ((k : Nat) : Int)), some (aI gl), some (aL (jf_at p (M 220 0 0))), none, none, none, none, none, none, none, none, none, none, none, none, none], [aI (jf_A p)], am_mix mo_SM g172 M)
  refine hR _ ⟨(by omega), ?_⟩
  show R (21, [some (aR 8 0), some (aI ((k : Nat) : Int)), some (aI gl), some (aL (jf_at p (M 220 0 0))), none, none, none, none, none, none, none, none, none, none, none, none, none], [aL (jf_A p)], am_mix mo_SM g172 M)
  refine hR _ (hR _ (hR _ (hR _ (hR _ (hR _ (hR _ (hR _ (?_))))))))
  show R (32, [some (aR 8 0), some (aI ((k : Nat) : Int)), some (aI gl), some (aL (jf_at p (M 220 0 0))), none, some (aL (jf_A p)), none, none, none, none, none, none, none, none, none, none, none], [aI ((2 * ((k : Nat) : Int)) + 1), aR 25 0], am_mix mo_SM g172 M)
  refine hR _ ⟨(show 0 ≤ (((2 * ((k : Nat) : Int)) + 1) : Int) ∧ (((2 * ((k : Nat) : Int)) + 1) : Int) < 10 from (by omega)), ?_⟩
  show R (33, [some (aR 8 0), some (aI ((k : Nat) : Int)), some (aI gl), some (aL (jf_at p (M 220 0 0))), none, some (aL (jf_A p)), none, none, none, none, none, none, none, none, none, none, none], [aI (M 25 0 ((((2 * ((k : Nat) : Int)) + 1)).toNat))], am_mix mo_SM g172 M)
  rw [(show M 25 0 ((((2 * ((k : Nat) : Int)) + 1)).toNat) = M 25 0 (2 * k + 1) by rw [show (((2 * ((k : Nat) : Int)) + 1)).toNat = (2 * k + 1) by omega])]
  show R (33, [some (aR 8 0), some (aI ((k : Nat) : Int)), some (aI gl), some (aL (jf_at p (M 220 0 0))), none, some (aL (jf_A p)), none, none, none, none, none, none, none, none, none, none, none], [aI (M 25 0 (2 * k + 1))], am_mix mo_SM g172 M)
  refine hR _ (hR _ (hR _ (hR _ (hR _ (hR _ (hR _ (hR _ (hR _ (?_)))))))))
  show R (47, [some (aR 8 0), some (aI ((k : Nat) : Int)), some (aI gl), some (aL (jf_at p (M 220 0 0))), none, some (aL (jf_A p)), none, some (aI (M 25 0 (2 * k + 1))), some (aI (-1)), some (aL 0), none, some (aL 1), none, some (aI 0), none, none, none], [], am_mix mo_SM g172 M)
  have hSi : (if gl ≠ 0 then (1 : Int) else 0) = gl := by split <;> omega
  have hoki : ∀ i : Nat, i < 51 → jf_ok (jf_pc M k (10 * (i : Int))) := fun i hi => ⟨hok0.1, hok0.2.1, hok0.2.2.1, (show 0 ≤ 10 * (i : Int) ∧ 10 * (i : Int) ≤ 500 by omega), hok0.2.2.2.2⟩
  have hbnd : ∀ i : Nat, i < 51 → (-1 ≤ 10 * (i : Int) ∧ 10 * (i : Int) ≤ 500) ∧ (-140010 ≤ jf_wo (jf_pc M k (10 * (i : Int))) (if gl ≠ 0 then 1 else 0) ∧ jf_wo (jf_pc M k (10 * (i : Int))) (if gl ≠ 0 then 1 else 0) ≤ 140010) ∧ 1 ≤ jf_A (jf_pc M k (10 * (i : Int))) ∧ jf_A (jf_pc M k (10 * (i : Int))) ≤ 65 := fun i hi => ⟨by omega, jf_wo_b (hoki i hi) _, jf_A_b (hoki i hi)⟩
  have key : ∀ (f i : Nat) (x b ab be : Int) (o14 o15 o16 : Option am_V) (g : am_M), x = 10 * (i : Int) → i + f = 51 → mo_but 25 (2 * k + 1) (am_mix mo_S25 g M) M → b = ((jf_bc M k gl) i).1 → ab = -((jf_bc M k gl) i).2.1 → be = ((jf_bc M k gl) i).2.2 → R (47, [some (aR 8 0), some (aI ((k : Nat) : Int)), some (aI gl), some (aL (jf_at p (M 220 0 0))), none, some (aL (jf_A p)), none, some (aI (M 25 0 (2 * k + 1))), some (aI b), some (aL ab), none, some (aL be), none, some (aI x), o14, o15, o16], [], am_mix mo_S25 g M) := by
    intro f
    induction f with
    | zero =>
      intro i x b ab be o14 o15 o16 g hx hin hbut hb hab hbe
      subst hx
      have hbp : jf_bp ((jf_bc M k gl) i) 140010 65 500 := jf_cb_b (by decide) (by decide) (by decide) hbnd i (by omega)
      obtain ⟨hbp1, hbp2, hbp3, hbp4⟩ := hbp
      rw [← hb] at hbp1
      rw [← hbe] at hbp3 hbp4
      refine hR _ (hR _ (hR _ (am_brt (rg := am_in (10 * ((i : Nat) : Int)) ∧ am_in 500) (P := 500 < (10 * ((i : Nat) : Int))) (A := R (189, [some (aR 8 0), some (aI ((k : Nat) : Int)), some (aI gl), some (aL (jf_at p (M 220 0 0))), none, some (aL (jf_A p)), none, some (aI (M 25 0 (2 * k + 1))), some (aI b), some (aL ab), none, some (aL be), none, some (aI (10 * ((i : Nat) : Int))), o14, o15, o16], [], am_mix mo_S25 g M)) (B := R (55, [some (aR 8 0), some (aI ((k : Nat) : Int)), some (aI gl), some (aL (jf_at p (M 220 0 0))), none, some (aL (jf_A p)), none, some (aI (M 25 0 (2 * k + 1))), some (aI b), some (aL ab), none, some (aL be), none, some (aI (10 * ((i : Nat) : Int))), o14, o15, o16], [], am_mix mo_S25 g M)) (by omega) (by omega) ?_)))
      show R (189, [some (aR 8 0), some (aI ((k : Nat) : Int)), some (aI gl), some (aL (jf_at p (M 220 0 0))), none, some (aL (jf_A p)), none, some (aI (M 25 0 (2 * k + 1))), some (aI b), some (aL ab), none, some (aL be), none, some (aI (10 * ((i : Nat) : Int))), o14, o15, o16], [], am_mix mo_S25 g M)
      refine hR _ (hR _ (hR _ (hR _ (hR _ (hR _ (hR _ (hR _ (?_))))))))
      show R (200, [some (aR 8 0), some (aI ((k : Nat) : Int)), some (aI gl), some (aL (jf_at p (M 220 0 0))), none, some (aL (jf_A p)), none, some (aI (M 25 0 (2 * k + 1))), some (aI b), some (aL ab), none, some (aL be), none, some (aI (10 * ((i : Nat) : Int))), o14, o15, o16], [aI (M 25 0 (2 * k + 1)), aI ((2 * ((k : Nat) : Int)) + 1), aR 25 0], am_mix mo_S25 g M)
      refine hR _ ⟨(show 0 ≤ (((2 * ((k : Nat) : Int)) + 1) : Int) ∧ (((2 * ((k : Nat) : Int)) + 1) : Int) < 10 from (by omega)), ?_⟩
      show R (201, [some (aR 8 0), some (aI ((k : Nat) : Int)), some (aI gl), some (aL (jf_at p (M 220 0 0))), none, some (aL (jf_A p)), none, some (aI (M 25 0 (2 * k + 1))), some (aI b), some (aL ab), none, some (aL be), none, some (aI (10 * ((i : Nat) : Int))), o14, o15, o16], [], am_wr (am_mix mo_S25 g M) 25 0 ((((2 * ((k : Nat) : Int)) + 1)).toNat) (M 25 0 (2 * k + 1)))
      refine hR _ (?_)
      show R (203, [some (aR 8 0), some (aI ((k : Nat) : Int)), some (aI gl), some (aL (jf_at p (M 220 0 0))), none, some (aL (jf_A p)), none, some (aI (M 25 0 (2 * k + 1))), some (aI b), some (aL ab), none, some (aL be), none, some (aI (10 * ((i : Nat) : Int))), o14, o15, o16], [aI b], am_wr (am_mix mo_S25 g M) 25 0 ((((2 * ((k : Nat) : Int)) + 1)).toNat) (M 25 0 (2 * k + 1)))
      refine hR _ (show K (some (aI b)) (am_wr (am_mix mo_S25 g M) 25 0 ((((2 * ((k : Nat) : Int)) + 1)).toNat) (M 25 0 (2 * k + 1))) from ?_)
      rw [show ((((2 * ((k : Nat) : Int)) + 1)).toNat) = 2 * k + 1 by omega]
      rw [hb, show i = 51 by omega]
      have e9 := mo_but.rest (S := mo_SM) (S2 := mo_S25) (g := g) hbut rfl (fun w h1 h2 => am_el_cons h1 h2)
      rw [e9.eq]
      exact hK _
    | succ f ih =>
      intro i x b ab be o14 o15 o16 g hx hin hbut hb hab hbe
      subst hx
      have hbp : jf_bp ((jf_bc M k gl) i) 140010 65 500 := jf_cb_b (by decide) (by decide) (by decide) hbnd i (by omega)
      obtain ⟨hbp1, hbp2, hbp3, hbp4⟩ := hbp
      rw [← hb] at hbp1
      rw [← hbe] at hbp3 hbp4
      refine hR _ (hR _ (hR _ (am_brf (rg := am_in (10 * ((i : Nat) : Int)) ∧ am_in 500) (P := 500 < (10 * ((i : Nat) : Int))) (A := R (189, [some (aR 8 0), some (aI ((k : Nat) : Int)), some (aI gl), some (aL (jf_at p (M 220 0 0))), none, some (aL (jf_A p)), none, some (aI (M 25 0 (2 * k + 1))), some (aI b), some (aL ab), none, some (aL be), none, some (aI (10 * ((i : Nat) : Int))), o14, o15, o16], [], am_mix mo_S25 g M)) (B := R (55, [some (aR 8 0), some (aI ((k : Nat) : Int)), some (aI gl), some (aL (jf_at p (M 220 0 0))), none, some (aL (jf_A p)), none, some (aI (M 25 0 (2 * k + 1))), some (aI b), some (aL ab), none, some (aL be), none, some (aI (10 * ((i : Nat) : Int))), o14, o15, o16], [], am_mix mo_S25 g M)) (by omega) (by omega) ?_)))
      show R (55, [some (aR 8 0), some (aI ((k : Nat) : Int)), some (aI gl), some (aL (jf_at p (M 220 0 0))), none, some (aL (jf_A p)), none, some (aI (M 25 0 (2 * k + 1))), some (aI b), some (aL ab), none, some (aL be), none, some (aI (10 * ((i : Nat) : Int))), o14, o15, o16], [], am_mix mo_S25 g M)
      refine hR _ (hR _ (hR _ (hR _ (hR _ (hR _ (hR _ (hR _ (?_))))))))
      show R (66, [some (aR 8 0), some (aI ((k : Nat) : Int)), some (aI gl), some (aL (jf_at p (M 220 0 0))), none, some (aL (jf_A p)), none, some (aI (M 25 0 (2 * k + 1))), some (aI b), some (aL ab), none, some (aL be), none, some (aI (10 * ((i : Nat) : Int))), o14, o15, o16], [aI (10 * ((i : Nat) : Int)), aI ((2 * ((k : Nat) : Int)) + 1), aR 25 0], am_mix mo_S25 g M)
      refine hR _ ⟨(show 0 ≤ (((2 * ((k : Nat) : Int)) + 1) : Int) ∧ (((2 * ((k : Nat) : Int)) + 1) : Int) < 10 from (by omega)), ?_⟩
      show R (67, [some (aR 8 0), some (aI ((k : Nat) : Int)), some (aI gl), some (aL (jf_at p (M 220 0 0))), none, some (aL (jf_A p)), none, some (aI (M 25 0 (2 * k + 1))), some (aI b), some (aL ab), none, some (aL be), none, some (aI (10 * ((i : Nat) : Int))), o14, o15, o16], [], am_wr (am_mix mo_S25 g M) 25 0 ((((2 * ((k : Nat) : Int)) + 1)).toNat) (10 * ((i : Nat) : Int)))
      rw [show ((((2 * ((k : Nat) : Int)) + 1)).toNat) = 2 * k + 1 by omega]
      have hb2 : mo_but 25 (2 * k + 1) (am_wr (am_mix mo_S25 g M) 25 0 (2 * k + 1) (10 * ((i : Nat) : Int))) M := mo_but.wr (g := am_mix mo_S25 g M) hbut
      have hv2 : (am_wr (am_mix mo_S25 g M) 25 0 (2 * k + 1) (10 * ((i : Nat) : Int))) 25 0 (2 * k + 1) = (10 * ((i : Nat) : Int)) := am_wr_eq
      have e9 : am_ag mo_S25 M (am_wr (am_mix mo_S25 g M) 25 0 (2 * k + 1) (10 * ((i : Nat) : Int))) := (am_ag.rf.mix rfl).wr rfl
      rw [e9.eq] at hb2 hv2 ⊢
      generalize am_wr (am_mix mo_S25 g M) 25 0 (2 * k + 1) (10 * ((i : Nat) : Int)) = g1 at hb2 hv2 ⊢
      show R (67, [some (aR 8 0), some (aI ((k : Nat) : Int)), some (aI gl), some (aL (jf_at p (M 220 0 0))), none, some (aL (jf_A p)), none, some (aI (M 25 0 (2 * k + 1))), some (aI b), some (aL ab), none, some (aL be), none, some (aI (10 * ((i : Nat) : Int))), o14, o15, o16], [], am_mix mo_S25 g1 M)
      obtain ⟨p1, hpp1⟩ : ∃ p1, p1 = jf_pc M k (10 * ((i : Nat) : Int)) := ⟨_, rfl⟩
      have hp1 : mo_p (am_mix mo_S25 g1 M) k r p1 := by
        rw [hpp1]
        exact ⟨⟨hp0.1.1, hp0.1.2.1, hp0.1.2.2.1.trans (hb2 0 (2 * k) (by omega)).symm, hv2.symm⟩, hp0.2⟩
      have hok1 : jf_ok p1 := by rw [hpp1]; exact hoki i (by omega)
      have hpm1 : p1.mk = M 22 0 0 := by rw [hpp1]; exact hpm0
      have hps1 : p1.st = 0 := by rw [hpp1]
      have hA1 := jf_A_b hok1
      have hwo := jf_wo_b hok1 gl
      have hat0 := jf_at_b hok (M 220 0 0)
      have hat1 := jf_at_b hok1 (M 220 0 0)
      have h0 : jf_bc M k gl (i + 1) = bif decide (gl = 1 ∧ ¬ jf_at (jf_px M k) (M 220 0 0) * jf_A (jf_pc M k (10 * (i : Int))) ≤ jf_at (jf_pc M k (10 * (i : Int))) (M 220 0 0) * jf_A (jf_px M k)) then jf_bc M k gl i else jf_bst (jf_bc M k gl i) (10 * (i : Int)) (jf_wo (jf_pc M k (10 * (i : Int))) (if gl ≠ 0 then 1 else 0)) (jf_A (jf_pc M k (10 * (i : Int)))) := rfl
      rw [hSi, ← hpp1, ← hpp] at h0
      have mb3 := jf_mb (a := jf_at p1 (M 220 0 0)) (b := jf_A p) (A := 65) (B := 65) (by omega) (by omega)
      have mb4 := jf_mb (a := jf_at p (M 220 0 0)) (b := jf_A p1) (A := 65) (B := 65) (by omega) (by omega)
      have em1 := Int.neg_mul (jf_wo p1 gl) be
      have em2 : ab * (jf_A p1) = -(((jf_bc M k gl) i).2.1 * (jf_A p1)) := by rw [hab]; exact Int.neg_mul _ _
      have mb1 := jf_mb (a := (jf_wo p1 gl)) (b := be) (A := 140010) (B := 65) (by omega) (by omega)
      have mb2 := jf_mb (a := ((jf_bc M k gl) i).2.1) (b := (jf_A p1)) (A := 140010) (B := 65) (by omega) (by omega)
      refine hR _ (hR _ (?_))
      show R (69, [some (aR 8 0), some (aI ((k : Nat) : Int)), some (aI gl), some (aL (jf_at p (M 220 0 0))), none, some (aL (jf_A p)), none, some (aI (M 25 0 (2 * k + 1))), some (aI b), some (aL ab), none, some (aL be), none, some (aI (10 * ((i : Nat) : Int))), o14, o15, o16], [aI ((k : Nat) : Int), aR 8 0], am_mix mo_S25 g1 M)
      refine hR _ (sm_goes (p := p1) (r := r) (by omega) hk hr hr6 hwt hp1 hok1 hpm1 hps1 (fun g173 hth1 => ?_))
      have hthA1 := hth1.2.1
      show R (72, [some (aR 8 0), some (aI ((k : Nat) : Int)), some (aI gl), some (aL (jf_at p (M 220 0 0))), none, some (aL (jf_A p)), none, some (aI (M 25 0 (2 * k + 1))), some (aI b), some (aL ab), none, some (aL be), none, some (aI (10 * ((i : Nat) : Int))), o14, o15, o16], [], am_mix mo_SM g173 (am_mix mo_S25 g1 M))
      refine hR _ (hR _ (am_brc (rg := am_in gl) (P := gl = 0) (A := R (100, [some (aR 8 0), some (aI ((k : Nat) : Int)), some (aI gl), some (aL (jf_at p (M 220 0 0))), none, some (aL (jf_A p)), none, some (aI (M 25 0 (2 * k + 1))), some (aI b), some (aL ab), none, some (aL be), none, some (aI (10 * ((i : Nat) : Int))), o14, o15, o16], [], am_mix mo_SM g173 (am_mix mo_S25 g1 M))) (B := R (76, [some (aR 8 0), some (aI ((k : Nat) : Int)), some (aI gl), some (aL (jf_at p (M 220 0 0))), none, some (aL (jf_A p)), none, some (aI (M 25 0 (2 * k + 1))), some (aI b), some (aL ab), none, some (aL be), none, some (aI (10 * ((i : Nat) : Int))), o14, o15, o16], [], am_mix mo_SM g173 (am_mix mo_S25 g1 M))) (by omega) (fun c73 => ?_) (fun c73 => ?_)))
      · refine hR _ (hR _ (hR _ (?_)))
        show R (103, [some (aR 8 0), some (aI ((k : Nat) : Int)), some (aI gl), some (aL (jf_at p (M 220 0 0))), none, some (aL (jf_A p)), none, some (aI (M 25 0 (2 * k + 1))), some (aI b), some (aL ab), none, some (aL be), none, some (aI (10 * ((i : Nat) : Int))), o14, o15, o16], [aI gl, aI ((k : Nat) : Int), aR 8 0], am_mix mo_SM g173 (am_mix mo_S25 g1 M))
        refine hR _ (sm_aboveOf (p := p1) (r := r) (by omega) hk hr hr6 hwt hp1 hok1 hth1 hpm1 (by omega) (fun g174 => ?_))
        show R (106, [some (aR 8 0), some (aI ((k : Nat) : Int)), some (aI gl), some (aL (jf_at p (M 220 0 0))), none, some (aL (jf_A p)), none, some (aI (M 25 0 (2 * k + 1))), some (aI b), some (aL ab), none, some (aL be), none, some (aI (10 * ((i : Nat) : Int))), o14, o15, o16], [aL (-(jf_wo p1 gl))], am_mix [37, 38] g174 (am_mix mo_SM g173 (am_mix mo_S25 g1 M)))
        refine hR _ (hR _ (hR _ (hR _ (am_brc (rg := am_in b ∧ am_in (-1)) (P := b = (-1)) (A := R (131, [some (aR 8 0), some (aI ((k : Nat) : Int)), some (aI gl), some (aL (jf_at p (M 220 0 0))), none, some (aL (jf_A p)), none, some (aI (M 25 0 (2 * k + 1))), some (aI b), some (aL ab), none, some (aL be), none, some (aI (10 * ((i : Nat) : Int))), some (aL (-(jf_wo p1 gl))), none, o16], [], am_mix [37, 38] g174 (am_mix mo_SM g173 (am_mix mo_S25 g1 M)))) (B := R (114, [some (aR 8 0), some (aI ((k : Nat) : Int)), some (aI gl), some (aL (jf_at p (M 220 0 0))), none, some (aL (jf_A p)), none, some (aI (M 25 0 (2 * k + 1))), some (aI b), some (aL ab), none, some (aL be), none, some (aI (10 * ((i : Nat) : Int))), some (aL (-(jf_wo p1 gl))), none, o16], [], am_mix [37, 38] g174 (am_mix mo_SM g173 (am_mix mo_S25 g1 M)))) (by omega) (fun c111 => ?_) (fun c111 => ?_)))))
        · refine hR _ (hR _ (hR _ (hR _ (hR _ (am_brf (rg := am_in 1) (P := (1 : Int) = 0) (A := R (148, [some (aR 8 0), some (aI ((k : Nat) : Int)), some (aI gl), some (aL (jf_at p (M 220 0 0))), none, some (aL (jf_A p)), none, some (aI (M 25 0 (2 * k + 1))), some (aI b), some (aL ab), none, some (aL be), none, some (aI (10 * ((i : Nat) : Int))), some (aL (-(jf_wo p1 gl))), none, some (aI 1)], [], am_mix [37, 38] g174 (am_mix mo_SM g173 (am_mix mo_S25 g1 M)))) (B := R (143, [some (aR 8 0), some (aI ((k : Nat) : Int)), some (aI gl), some (aL (jf_at p (M 220 0 0))), none, some (aL (jf_A p)), none, some (aI (M 25 0 (2 * k + 1))), some (aI b), some (aL ab), none, some (aL be), none, some (aI (10 * ((i : Nat) : Int))), some (aL (-(jf_wo p1 gl))), none, some (aI 1)], [], am_mix [37, 38] g174 (am_mix mo_SM g173 (am_mix mo_S25 g1 M)))) (by omega) (by omega) ?_)))))
          show R (143, [some (aR 8 0), some (aI ((k : Nat) : Int)), some (aI gl), some (aL (jf_at p (M 220 0 0))), none, some (aL (jf_A p)), none, some (aI (M 25 0 (2 * k + 1))), some (aI b), some (aL ab), none, some (aL be), none, some (aI (10 * ((i : Nat) : Int))), some (aL (-(jf_wo p1 gl))), none, some (aI 1)], [], am_mix [37, 38] g174 (am_mix mo_SM g173 (am_mix mo_S25 g1 M)))
          refine hR _ (hR _ (hR _ (hR _ (hR _ (am_brf (rg := am_in 1) (P := (1 : Int) = 0) (A := R (162, [some (aR 8 0), some (aI ((k : Nat) : Int)), some (aI gl), some (aL (jf_at p (M 220 0 0))), none, some (aL (jf_A p)), none, some (aI (M 25 0 (2 * k + 1))), some (aI (10 * ((i : Nat) : Int))), some (aL ab), none, some (aL be), none, some (aI (10 * ((i : Nat) : Int))), some (aL (-(jf_wo p1 gl))), none, some (aI 1)], [], am_mix [37, 38] g174 (am_mix mo_SM g173 (am_mix mo_S25 g1 M)))) (B := R (157, [some (aR 8 0), some (aI ((k : Nat) : Int)), some (aI gl), some (aL (jf_at p (M 220 0 0))), none, some (aL (jf_A p)), none, some (aI (M 25 0 (2 * k + 1))), some (aI (10 * ((i : Nat) : Int))), some (aL ab), none, some (aL be), none, some (aI (10 * ((i : Nat) : Int))), some (aL (-(jf_wo p1 gl))), none, some (aI 1)], [], am_mix [37, 38] g174 (am_mix mo_SM g173 (am_mix mo_S25 g1 M)))) (by omega) (by omega) ?_)))))
          show R (157, [some (aR 8 0), some (aI ((k : Nat) : Int)), some (aI gl), some (aL (jf_at p (M 220 0 0))), none, some (aL (jf_A p)), none, some (aI (M 25 0 (2 * k + 1))), some (aI (10 * ((i : Nat) : Int))), some (aL ab), none, some (aL be), none, some (aI (10 * ((i : Nat) : Int))), some (aL (-(jf_wo p1 gl))), none, some (aI 1)], [], am_mix [37, 38] g174 (am_mix mo_SM g173 (am_mix mo_S25 g1 M)))
          refine hR _ (hR _ (hR _ (hR _ (hR _ (am_brf (rg := am_in 1) (P := (1 : Int) = 0) (A := R (179, [some (aR 8 0), some (aI ((k : Nat) : Int)), some (aI gl), some (aL (jf_at p (M 220 0 0))), none, some (aL (jf_A p)), none, some (aI (M 25 0 (2 * k + 1))), some (aI (10 * ((i : Nat) : Int))), some (aL (-(jf_wo p1 gl))), none, some (aL be), none, some (aI (10 * ((i : Nat) : Int))), some (aL (-(jf_wo p1 gl))), none, some (aI 1)], [], am_mix [37, 38] g174 (am_mix mo_SM g173 (am_mix mo_S25 g1 M)))) (B := R (171, [some (aR 8 0), some (aI ((k : Nat) : Int)), some (aI gl), some (aL (jf_at p (M 220 0 0))), none, some (aL (jf_A p)), none, some (aI (M 25 0 (2 * k + 1))), some (aI (10 * ((i : Nat) : Int))), some (aL (-(jf_wo p1 gl))), none, some (aL be), none, some (aI (10 * ((i : Nat) : Int))), some (aL (-(jf_wo p1 gl))), none, some (aI 1)], [], am_mix [37, 38] g174 (am_mix mo_SM g173 (am_mix mo_S25 g1 M)))) (by omega) (by omega) ?_)))))
          show R (171, [some (aR 8 0), some (aI ((k : Nat) : Int)), some (aI gl), some (aL (jf_at p (M 220 0 0))), none, some (aL (jf_A p)), none, some (aI (M 25 0 (2 * k + 1))), some (aI (10 * ((i : Nat) : Int))), some (aL (-(jf_wo p1 gl))), none, some (aL be), none, some (aI (10 * ((i : Nat) : Int))), some (aL (-(jf_wo p1 gl))), none, some (aI 1)], [], am_mix [37, 38] g174 (am_mix mo_SM g173 (am_mix mo_S25 g1 M)))
          refine hR _ (hR _ (?_))
          show R (175, [some (aR 8 0), some (aI ((k : Nat) : Int)), some (aI gl), some (aL (jf_at p (M 220 0 0))), none, some (aL (jf_A p)), none, some (aI (M 25 0 (2 * k + 1))), some (aI (10 * ((i : Nat) : Int))), some (aL (-(jf_wo p1 gl))), none, some (aL be), none, some (aI (10 * ((i : Nat) : Int))), some (aL (-(jf_wo p1 gl))), none, some (aI 1)], [aI (g173 454 0 0)], am_mix [37, 38] g174 (am_mix mo_SM g173 (am_mix mo_S25 g1 M)))
          rw [(show g173 454 0 0 = jf_A p1 from hthA1)]
          show R (175, [some (aR 8 0), some (aI ((k : Nat) : Int)), some (aI gl), some (aL (jf_at p (M 220 0 0))), none, some (aL (jf_A p)), none, some (aI (M 25 0 (2 * k + 1))), some (aI (10 * ((i : Nat) : Int))), some (aL (-(jf_wo p1 gl))), none, some (aL be), none, some (aI (10 * ((i : Nat) : Int))), some (aL (-(jf_wo p1 gl))), none, some (aI 1)], [aI (jf_A p1)], am_mix [37, 38] g174 (am_mix mo_SM g173 (am_mix mo_S25 g1 M)))
          refine hR _ ⟨(by omega), ?_⟩
          show R (176, [some (aR 8 0), some (aI ((k : Nat) : Int)), some (aI gl), some (aL (jf_at p (M 220 0 0))), none, some (aL (jf_A p)), none, some (aI (M 25 0 (2 * k + 1))), some (aI (10 * ((i : Nat) : Int))), some (aL (-(jf_wo p1 gl))), none, some (aL be), none, some (aI (10 * ((i : Nat) : Int))), some (aL (-(jf_wo p1 gl))), none, some (aI 1)], [aL (jf_A p1)], am_mix [37, 38] g174 (am_mix mo_SM g173 (am_mix mo_S25 g1 M)))
          refine hR _ (hR _ (hR _ (hR _ (?_))))
          show R (47, [some (aR 8 0), some (aI ((k : Nat) : Int)), some (aI gl), some (aL (jf_at p (M 220 0 0))), none, some (aL (jf_A p)), none, some (aI (M 25 0 (2 * k + 1))), some (aI (10 * ((i : Nat) : Int))), some (aL (-(jf_wo p1 gl))), none, some (aL (jf_A p1)), none, some (aI ((10 * ((i : Nat) : Int)) + 10)), some (aL (-(jf_wo p1 gl))), none, some (aI 1)], [], am_mix [37, 38] g174 (am_mix mo_SM g173 (am_mix mo_S25 g1 M)))
          have hb3 : mo_but 25 (2 * k + 1) (am_mix [37, 38] g174 (am_mix mo_SM g173 (am_mix mo_S25 g1 M))) M := hb2
          have e9 : am_ag mo_S25 M (am_mix [37, 38] g174 (am_mix mo_SM g173 (am_mix mo_S25 g1 M))) := (((am_ag.rf).mix rfl).mix rfl).mix rfl
          rw [e9.eq] at hb3 ⊢
          have e1 : (jf_bc M k gl) (i + 1) = ((10 * ((i : Nat) : Int)), jf_wo p1 gl, jf_A p1) := by
            rw [h0, decide_eq_false (by omega), cond_false, jf_bst, if_pos (by rw [← hb, ← hbe]; omega)]
          refine ih (i + 1) _ _ _ _ _ _ _ _ (by omega) (by omega) hb3 ?_ ?_ ?_
          · rw [e1]
          · rw [e1]
          · rw [e1]
        · refine hR _ (hR _ (hR _ (hR _ (hR _ (hR _ (?_))))))
          show R (125, [some (aR 8 0), some (aI ((k : Nat) : Int)), some (aI gl), some (aL (jf_at p (M 220 0 0))), none, some (aL (jf_A p)), none, some (aI (M 25 0 (2 * k + 1))), some (aI b), some (aL ab), none, some (aL be), none, some (aI (10 * ((i : Nat) : Int))), some (aL (-(jf_wo p1 gl))), none, o16], [aI (g173 454 0 0), aL ab, aL ((-(jf_wo p1 gl)) * be)], am_mix [37, 38] g174 (am_mix mo_SM g173 (am_mix mo_S25 g1 M)))
          rw [(show g173 454 0 0 = jf_A p1 from hthA1)]
          show R (125, [some (aR 8 0), some (aI ((k : Nat) : Int)), some (aI gl), some (aL (jf_at p (M 220 0 0))), none, some (aL (jf_A p)), none, some (aI (M 25 0 (2 * k + 1))), some (aI b), some (aL ab), none, some (aL be), none, some (aI (10 * ((i : Nat) : Int))), some (aL (-(jf_wo p1 gl))), none, o16], [aI (jf_A p1), aL ab, aL ((-(jf_wo p1 gl)) * be)], am_mix [37, 38] g174 (am_mix mo_SM g173 (am_mix mo_S25 g1 M)))
          refine hR _ ⟨(by omega), ?_⟩
          show R (126, [some (aR 8 0), some (aI ((k : Nat) : Int)), some (aI gl), some (aL (jf_at p (M 220 0 0))), none, some (aL (jf_A p)), none, some (aI (M 25 0 (2 * k + 1))), some (aI b), some (aL ab), none, some (aL be), none, some (aI (10 * ((i : Nat) : Int))), some (aL (-(jf_wo p1 gl))), none, o16], [aL (jf_A p1), aL ab, aL ((-(jf_wo p1 gl)) * be)], am_mix [37, 38] g174 (am_mix mo_SM g173 (am_mix mo_S25 g1 M)))
          refine hR _ (?_)
          show R (127, [some (aR 8 0), some (aI ((k : Nat) : Int)), some (aI gl), some (aL (jf_at p (M 220 0 0))), none, some (aL (jf_A p)), none, some (aI (M 25 0 (2 * k + 1))), some (aI b), some (aL ab), none, some (aL be), none, some (aI (10 * ((i : Nat) : Int))), some (aL (-(jf_wo p1 gl))), none, o16], [aL (ab * (jf_A p1)), aL ((-(jf_wo p1 gl)) * be)], am_mix [37, 38] g174 (am_mix mo_SM g173 (am_mix mo_S25 g1 M)))
          refine am_lc (x := ((-(jf_wo p1 gl)) * be)) (y := (ab * (jf_A p1))) (P := (ab * (jf_A p1)) ≤ ((-(jf_wo p1 gl)) * be)) (A := R (135, [some (aR 8 0), some (aI ((k : Nat) : Int)), some (aI gl), some (aL (jf_at p (M 220 0 0))), none, some (aL (jf_A p)), none, some (aI (M 25 0 (2 * k + 1))), some (aI b), some (aL ab), none, some (aL be), none, some (aI (10 * ((i : Nat) : Int))), some (aL (-(jf_wo p1 gl))), none, o16], [], am_mix [37, 38] g174 (am_mix mo_SM g173 (am_mix mo_S25 g1 M)))) (B := R (131, [some (aR 8 0), some (aI ((k : Nat) : Int)), some (aI gl), some (aL (jf_at p (M 220 0 0))), none, some (aL (jf_A p)), none, some (aI (M 25 0 (2 * k + 1))), some (aI b), some (aL ab), none, some (aL be), none, some (aI (10 * ((i : Nat) : Int))), some (aL (-(jf_wo p1 gl))), none, o16], [], am_mix [37, 38] g174 (am_mix mo_SM g173 (am_mix mo_S25 g1 M)))) (by omega) (fun hA hB => hR _ ⟨(by omega), (fun hz => hR _ (am_brf (P := 0 ≤ (-1 : Int)) (A := R (135, [some (aR 8 0), some (aI ((k : Nat) : Int)), some (aI gl), some (aL (jf_at p (M 220 0 0))), none, some (aL (jf_A p)), none, some (aI (M 25 0 (2 * k + 1))), some (aI b), some (aL ab), none, some (aL be), none, some (aI (10 * ((i : Nat) : Int))), some (aL (-(jf_wo p1 gl))), none, o16], [], am_mix [37, 38] g174 (am_mix mo_SM g173 (am_mix mo_S25 g1 M)))) (B := R (131, [some (aR 8 0), some (aI ((k : Nat) : Int)), some (aI gl), some (aL (jf_at p (M 220 0 0))), none, some (aL (jf_A p)), none, some (aI (M 25 0 (2 * k + 1))), some (aI b), some (aL ab), none, some (aL be), none, some (aI (10 * ((i : Nat) : Int))), some (aL (-(jf_wo p1 gl))), none, o16], [], am_mix [37, 38] g174 (am_mix mo_SM g173 (am_mix mo_S25 g1 M)))) (by omega) (by omega) (hB (by omega)))), (fun hz => hR _ (am_brt (P := 0 ≤ (0 : Int)) (A := R (135, [some (aR 8 0), some (aI ((k : Nat) : Int)), some (aI gl), some (aL (jf_at p (M 220 0 0))), none, some (aL (jf_A p)), none, some (aI (M 25 0 (2 * k + 1))), some (aI b), some (aL ab), none, some (aL be), none, some (aI (10 * ((i : Nat) : Int))), some (aL (-(jf_wo p1 gl))), none, o16], [], am_mix [37, 38] g174 (am_mix mo_SM g173 (am_mix mo_S25 g1 M)))) (B := R (131, [some (aR 8 0), some (aI ((k : Nat) : Int)), some (aI gl), some (aL (jf_at p (M 220 0 0))), none, some (aL (jf_A p)), none, some (aI (M 25 0 (2 * k + 1))), some (aI b), some (aL ab), none, some (aL be), none, some (aI (10 * ((i : Nat) : Int))), some (aL (-(jf_wo p1 gl))), none, o16], [], am_mix [37, 38] g174 (am_mix mo_SM g173 (am_mix mo_S25 g1 M)))) (by omega) (by omega) (hA (by omega)))), (fun hz => hR _ (am_brt (P := 0 ≤ (1 : Int)) (A := R (135, [some (aR 8 0), some (aI ((k : Nat) : Int)), some (aI gl), some (aL (jf_at p (M 220 0 0))), none, some (aL (jf_A p)), none, some (aI (M 25 0 (2 * k + 1))), some (aI b), some (aL ab), none, some (aL be), none, some (aI (10 * ((i : Nat) : Int))), some (aL (-(jf_wo p1 gl))), none, o16], [], am_mix [37, 38] g174 (am_mix mo_SM g173 (am_mix mo_S25 g1 M)))) (B := R (131, [some (aR 8 0), some (aI ((k : Nat) : Int)), some (aI gl), some (aL (jf_at p (M 220 0 0))), none, some (aL (jf_A p)), none, some (aI (M 25 0 (2 * k + 1))), some (aI b), some (aL ab), none, some (aL be), none, some (aI (10 * ((i : Nat) : Int))), some (aL (-(jf_wo p1 gl))), none, o16], [], am_mix [37, 38] g174 (am_mix mo_SM g173 (am_mix mo_S25 g1 M)))) (by omega) (by omega) (hA (by omega))))⟩) (fun c127 => ?_) (fun c127 => ?_)
          · refine hR _ (hR _ (hR _ (hR _ (am_brt (rg := am_in 0) (P := (0 : Int) = 0) (A := R (148, [some (aR 8 0), some (aI ((k : Nat) : Int)), some (aI gl), some (aL (jf_at p (M 220 0 0))), none, some (aL (jf_A p)), none, some (aI (M 25 0 (2 * k + 1))), some (aI b), some (aL ab), none, some (aL be), none, some (aI (10 * ((i : Nat) : Int))), some (aL (-(jf_wo p1 gl))), none, some (aI 0)], [], am_mix [37, 38] g174 (am_mix mo_SM g173 (am_mix mo_S25 g1 M)))) (B := R (143, [some (aR 8 0), some (aI ((k : Nat) : Int)), some (aI gl), some (aL (jf_at p (M 220 0 0))), none, some (aL (jf_A p)), none, some (aI (M 25 0 (2 * k + 1))), some (aI b), some (aL ab), none, some (aL be), none, some (aI (10 * ((i : Nat) : Int))), some (aL (-(jf_wo p1 gl))), none, some (aI 0)], [], am_mix [37, 38] g174 (am_mix mo_SM g173 (am_mix mo_S25 g1 M)))) (by omega) (by omega) ?_))))
            show R (148, [some (aR 8 0), some (aI ((k : Nat) : Int)), some (aI gl), some (aL (jf_at p (M 220 0 0))), none, some (aL (jf_A p)), none, some (aI (M 25 0 (2 * k + 1))), some (aI b), some (aL ab), none, some (aL be), none, some (aI (10 * ((i : Nat) : Int))), some (aL (-(jf_wo p1 gl))), none, some (aI 0)], [], am_mix [37, 38] g174 (am_mix mo_SM g173 (am_mix mo_S25 g1 M)))
            refine hR _ (hR _ (hR _ (hR _ (am_brt (rg := am_in 0) (P := (0 : Int) = 0) (A := R (162, [some (aR 8 0), some (aI ((k : Nat) : Int)), some (aI gl), some (aL (jf_at p (M 220 0 0))), none, some (aL (jf_A p)), none, some (aI (M 25 0 (2 * k + 1))), some (aI b), some (aL ab), none, some (aL be), none, some (aI (10 * ((i : Nat) : Int))), some (aL (-(jf_wo p1 gl))), none, some (aI 0)], [], am_mix [37, 38] g174 (am_mix mo_SM g173 (am_mix mo_S25 g1 M)))) (B := R (157, [some (aR 8 0), some (aI ((k : Nat) : Int)), some (aI gl), some (aL (jf_at p (M 220 0 0))), none, some (aL (jf_A p)), none, some (aI (M 25 0 (2 * k + 1))), some (aI b), some (aL ab), none, some (aL be), none, some (aI (10 * ((i : Nat) : Int))), some (aL (-(jf_wo p1 gl))), none, some (aI 0)], [], am_mix [37, 38] g174 (am_mix mo_SM g173 (am_mix mo_S25 g1 M)))) (by omega) (by omega) ?_))))
            show R (162, [some (aR 8 0), some (aI ((k : Nat) : Int)), some (aI gl), some (aL (jf_at p (M 220 0 0))), none, some (aL (jf_A p)), none, some (aI (M 25 0 (2 * k + 1))), some (aI b), some (aL ab), none, some (aL be), none, some (aI (10 * ((i : Nat) : Int))), some (aL (-(jf_wo p1 gl))), none, some (aI 0)], [], am_mix [37, 38] g174 (am_mix mo_SM g173 (am_mix mo_S25 g1 M)))
            refine hR _ (hR _ (hR _ (hR _ (am_brt (rg := am_in 0) (P := (0 : Int) = 0) (A := R (179, [some (aR 8 0), some (aI ((k : Nat) : Int)), some (aI gl), some (aL (jf_at p (M 220 0 0))), none, some (aL (jf_A p)), none, some (aI (M 25 0 (2 * k + 1))), some (aI b), some (aL ab), none, some (aL be), none, some (aI (10 * ((i : Nat) : Int))), some (aL (-(jf_wo p1 gl))), none, some (aI 0)], [], am_mix [37, 38] g174 (am_mix mo_SM g173 (am_mix mo_S25 g1 M)))) (B := R (171, [some (aR 8 0), some (aI ((k : Nat) : Int)), some (aI gl), some (aL (jf_at p (M 220 0 0))), none, some (aL (jf_A p)), none, some (aI (M 25 0 (2 * k + 1))), some (aI b), some (aL ab), none, some (aL be), none, some (aI (10 * ((i : Nat) : Int))), some (aL (-(jf_wo p1 gl))), none, some (aI 0)], [], am_mix [37, 38] g174 (am_mix mo_SM g173 (am_mix mo_S25 g1 M)))) (by omega) (by omega) ?_))))
            show R (179, [some (aR 8 0), some (aI ((k : Nat) : Int)), some (aI gl), some (aL (jf_at p (M 220 0 0))), none, some (aL (jf_A p)), none, some (aI (M 25 0 (2 * k + 1))), some (aI b), some (aL ab), none, some (aL be), none, some (aI (10 * ((i : Nat) : Int))), some (aL (-(jf_wo p1 gl))), none, some (aI 0)], [], am_mix [37, 38] g174 (am_mix mo_SM g173 (am_mix mo_S25 g1 M)))
            refine hR _ (hR _ (hR _ (hR _ (?_))))
            show R (47, [some (aR 8 0), some (aI ((k : Nat) : Int)), some (aI gl), some (aL (jf_at p (M 220 0 0))), none, some (aL (jf_A p)), none, some (aI (M 25 0 (2 * k + 1))), some (aI b), some (aL ab), none, some (aL be), none, some (aI ((10 * ((i : Nat) : Int)) + 10)), some (aL (-(jf_wo p1 gl))), none, some (aI 0)], [], am_mix [37, 38] g174 (am_mix mo_SM g173 (am_mix mo_S25 g1 M)))
            have hb3 : mo_but 25 (2 * k + 1) (am_mix [37, 38] g174 (am_mix mo_SM g173 (am_mix mo_S25 g1 M))) M := hb2
            have e9 : am_ag mo_S25 M (am_mix [37, 38] g174 (am_mix mo_SM g173 (am_mix mo_S25 g1 M))) := (((am_ag.rf).mix rfl).mix rfl).mix rfl
            rw [e9.eq] at hb3 ⊢
            have e1 : (jf_bc M k gl) (i + 1) = (jf_bc M k gl) i := by
              rw [h0, decide_eq_false (by omega), cond_false, jf_bst, if_neg (by rw [← hb, ← hbe]; omega)]
            refine ih (i + 1) _ _ _ _ _ _ _ _ (by omega) (by omega) hb3 ?_ ?_ ?_
            · rw [e1]
              exact hb
            · rw [e1]
              exact hab
            · rw [e1]
              exact hbe
          · refine hR _ (hR _ (hR _ (hR _ (hR _ (am_brf (rg := am_in 1) (P := (1 : Int) = 0) (A := R (148, [some (aR 8 0), some (aI ((k : Nat) : Int)), some (aI gl), some (aL (jf_at p (M 220 0 0))), none, some (aL (jf_A p)), none, some (aI (M 25 0 (2 * k + 1))), some (aI b), some (aL ab), none, some (aL be), none, some (aI (10 * ((i : Nat) : Int))), some (aL (-(jf_wo p1 gl))), none, some (aI 1)], [], am_mix [37, 38] g174 (am_mix mo_SM g173 (am_mix mo_S25 g1 M)))) (B := R (143, [some (aR 8 0), some (aI ((k : Nat) : Int)), some (aI gl), some (aL (jf_at p (M 220 0 0))), none, some (aL (jf_A p)), none, some (aI (M 25 0 (2 * k + 1))), some (aI b), some (aL ab), none, some (aL be), none, some (aI (10 * ((i : Nat) : Int))), some (aL (-(jf_wo p1 gl))), none, some (aI 1)], [], am_mix [37, 38] g174 (am_mix mo_SM g173 (am_mix mo_S25 g1 M)))) (by omega) (by omega) ?_)))))
            show R (143, [some (aR 8 0), some (aI ((k : Nat) : Int)), some (aI gl), some (aL (jf_at p (M 220 0 0))), none, some (aL (jf_A p)), none, some (aI (M 25 0 (2 * k + 1))), some (aI b), some (aL ab), none, some (aL be), none, some (aI (10 * ((i : Nat) : Int))), some (aL (-(jf_wo p1 gl))), none, some (aI 1)], [], am_mix [37, 38] g174 (am_mix mo_SM g173 (am_mix mo_S25 g1 M)))
            refine hR _ (hR _ (hR _ (hR _ (hR _ (am_brf (rg := am_in 1) (P := (1 : Int) = 0) (A := R (162, [some (aR 8 0), some (aI ((k : Nat) : Int)), some (aI gl), some (aL (jf_at p (M 220 0 0))), none, some (aL (jf_A p)), none, some (aI (M 25 0 (2 * k + 1))), some (aI (10 * ((i : Nat) : Int))), some (aL ab), none, some (aL be), none, some (aI (10 * ((i : Nat) : Int))), some (aL (-(jf_wo p1 gl))), none, some (aI 1)], [], am_mix [37, 38] g174 (am_mix mo_SM g173 (am_mix mo_S25 g1 M)))) (B := R (157, [some (aR 8 0), some (aI ((k : Nat) : Int)), some (aI gl), some (aL (jf_at p (M 220 0 0))), none, some (aL (jf_A p)), none, some (aI (M 25 0 (2 * k + 1))), some (aI (10 * ((i : Nat) : Int))), some (aL ab), none, some (aL be), none, some (aI (10 * ((i : Nat) : Int))), some (aL (-(jf_wo p1 gl))), none, some (aI 1)], [], am_mix [37, 38] g174 (am_mix mo_SM g173 (am_mix mo_S25 g1 M)))) (by omega) (by omega) ?_)))))
            show R (157, [some (aR 8 0), some (aI ((k : Nat) : Int)), some (aI gl), some (aL (jf_at p (M 220 0 0))), none, some (aL (jf_A p)), none, some (aI (M 25 0 (2 * k + 1))), some (aI (10 * ((i : Nat) : Int))), some (aL ab), none, some (aL be), none, some (aI (10 * ((i : Nat) : Int))), some (aL (-(jf_wo p1 gl))), none, some (aI 1)], [], am_mix [37, 38] g174 (am_mix mo_SM g173 (am_mix mo_S25 g1 M)))
            refine hR _ (hR _ (hR _ (hR _ (hR _ (am_brf (rg := am_in 1) (P := (1 : Int) = 0) (A := R (179, [some (aR 8 0), some (aI ((k : Nat) : Int)), some (aI gl), some (aL (jf_at p (M 220 0 0))), none, some (aL (jf_A p)), none, some (aI (M 25 0 (2 * k + 1))), some (aI (10 * ((i : Nat) : Int))), some (aL (-(jf_wo p1 gl))), none, some (aL be), none, some (aI (10 * ((i : Nat) : Int))), some (aL (-(jf_wo p1 gl))), none, some (aI 1)], [], am_mix [37, 38] g174 (am_mix mo_SM g173 (am_mix mo_S25 g1 M)))) (B := R (171, [some (aR 8 0), some (aI ((k : Nat) : Int)), some (aI gl), some (aL (jf_at p (M 220 0 0))), none, some (aL (jf_A p)), none, some (aI (M 25 0 (2 * k + 1))), some (aI (10 * ((i : Nat) : Int))), some (aL (-(jf_wo p1 gl))), none, some (aL be), none, some (aI (10 * ((i : Nat) : Int))), some (aL (-(jf_wo p1 gl))), none, some (aI 1)], [], am_mix [37, 38] g174 (am_mix mo_SM g173 (am_mix mo_S25 g1 M)))) (by omega) (by omega) ?_)))))
            show R (171, [some (aR 8 0), some (aI ((k : Nat) : Int)), some (aI gl), some (aL (jf_at p (M 220 0 0))), none, some (aL (jf_A p)), none, some (aI (M 25 0 (2 * k + 1))), some (aI (10 * ((i : Nat) : Int))), some (aL (-(jf_wo p1 gl))), none, some (aL be), none, some (aI (10 * ((i : Nat) : Int))), some (aL (-(jf_wo p1 gl))), none, some (aI 1)], [], am_mix [37, 38] g174 (am_mix mo_SM g173 (am_mix mo_S25 g1 M)))
            refine hR _ (hR _ (?_))
            show R (175, [some (aR 8 0), some (aI ((k : Nat) : Int)), some (aI gl), some (aL (jf_at p (M 220 0 0))), none, some (aL (jf_A p)), none, some (aI (M 25 0 (2 * k + 1))), some (aI (10 * ((i : Nat) : Int))), some (aL (-(jf_wo p1 gl))), none, some (aL be), none, some (aI (10 * ((i : Nat) : Int))), some (aL (-(jf_wo p1 gl))), none, some (aI 1)], [aI (g173 454 0 0)], am_mix [37, 38] g174 (am_mix mo_SM g173 (am_mix mo_S25 g1 M)))
            rw [(show g173 454 0 0 = jf_A p1 from hthA1)]
            show R (175, [some (aR 8 0), some (aI ((k : Nat) : Int)), some (aI gl), some (aL (jf_at p (M 220 0 0))), none, some (aL (jf_A p)), none, some (aI (M 25 0 (2 * k + 1))), some (aI (10 * ((i : Nat) : Int))), some (aL (-(jf_wo p1 gl))), none, some (aL be), none, some (aI (10 * ((i : Nat) : Int))), some (aL (-(jf_wo p1 gl))), none, some (aI 1)], [aI (jf_A p1)], am_mix [37, 38] g174 (am_mix mo_SM g173 (am_mix mo_S25 g1 M)))
            refine hR _ ⟨(by omega), ?_⟩
            show R (176, [some (aR 8 0), some (aI ((k : Nat) : Int)), some (aI gl), some (aL (jf_at p (M 220 0 0))), none, some (aL (jf_A p)), none, some (aI (M 25 0 (2 * k + 1))), some (aI (10 * ((i : Nat) : Int))), some (aL (-(jf_wo p1 gl))), none, some (aL be), none, some (aI (10 * ((i : Nat) : Int))), some (aL (-(jf_wo p1 gl))), none, some (aI 1)], [aL (jf_A p1)], am_mix [37, 38] g174 (am_mix mo_SM g173 (am_mix mo_S25 g1 M)))
            refine hR _ (hR _ (hR _ (hR _ (?_))))
            show R (47, [some (aR 8 0), some (aI ((k : Nat) : Int)), some (aI gl), some (aL (jf_at p (M 220 0 0))), none, some (aL (jf_A p)), none, some (aI (M 25 0 (2 * k + 1))), some (aI (10 * ((i : Nat) : Int))), some (aL (-(jf_wo p1 gl))), none, some (aL (jf_A p1)), none, some (aI ((10 * ((i : Nat) : Int)) + 10)), some (aL (-(jf_wo p1 gl))), none, some (aI 1)], [], am_mix [37, 38] g174 (am_mix mo_SM g173 (am_mix mo_S25 g1 M)))
            have hb3 : mo_but 25 (2 * k + 1) (am_mix [37, 38] g174 (am_mix mo_SM g173 (am_mix mo_S25 g1 M))) M := hb2
            have e9 : am_ag mo_S25 M (am_mix [37, 38] g174 (am_mix mo_SM g173 (am_mix mo_S25 g1 M))) := (((am_ag.rf).mix rfl).mix rfl).mix rfl
            rw [e9.eq] at hb3 ⊢
            have e1 : (jf_bc M k gl) (i + 1) = ((10 * ((i : Nat) : Int)), jf_wo p1 gl, jf_A p1) := by
              rw [h0, decide_eq_false (by omega), cond_false, jf_bst, if_pos (by rw [← hb, ← hbe]; omega)]
            refine ih (i + 1) _ _ _ _ _ _ _ _ (by omega) (by omega) hb3 ?_ ?_ ?_
            · rw [e1]
            · rw [e1]
            · rw [e1]
      · refine hR _ (hR _ (hR _ (hR _ (?_))))
        show R (82, [some (aR 8 0), some (aI ((k : Nat) : Int)), some (aI gl), some (aL (jf_at p (M 220 0 0))), none, some (aL (jf_A p)), none, some (aI (M 25 0 (2 * k + 1))), some (aI b), some (aL ab), none, some (aL be), none, some (aI (10 * ((i : Nat) : Int))), o14, o15, o16], [aI 0, aR 22 0, aR 8 0], am_mix mo_SM g173 (am_mix mo_S25 g1 M))
        refine hR _ ⟨(show 0 ≤ (0 : Int) ∧ (0 : Int) < 4 from (by omega)), ?_⟩
        show R (83, [some (aR 8 0), some (aI ((k : Nat) : Int)), some (aI gl), some (aL (jf_at p (M 220 0 0))), none, some (aL (jf_A p)), none, some (aI (M 25 0 (2 * k + 1))), some (aI b), some (aL ab), none, some (aL be), none, some (aI (10 * ((i : Nat) : Int))), o14, o15, o16], [aI (M 22 0 0), aR 8 0], am_mix mo_SM g173 (am_mix mo_S25 g1 M))
        rw [(show M 22 0 0 = M 220 0 0 from hW.1.1.1)]
        show R (83, [some (aR 8 0), some (aI ((k : Nat) : Int)), some (aI gl), some (aL (jf_at p (M 220 0 0))), none, some (aL (jf_A p)), none, some (aI (M 25 0 (2 * k + 1))), some (aI b), some (aL ab), none, some (aL be), none, some (aI (10 * ((i : Nat) : Int))), o14, o15, o16], [aI (M 220 0 0), aR 8 0], am_mix mo_SM g173 (am_mix mo_S25 g1 M))
        refine hR _ (sm_oftenAt (p := p1) (by omega) hok1 hth1 (by omega) ?_)
        show R (86, [some (aR 8 0), some (aI ((k : Nat) : Int)), some (aI gl), some (aL (jf_at p (M 220 0 0))), none, some (aL (jf_A p)), none, some (aI (M 25 0 (2 * k + 1))), some (aI b), some (aL ab), none, some (aL be), none, some (aI (10 * ((i : Nat) : Int))), o14, o15, o16], [aL (jf_at p1 (M 220 0 0))], am_mix mo_SM g173 (am_mix mo_S25 g1 M))
        refine hR _ (hR _ (hR _ (hR _ (hR _ (?_)))))
        show R (94, [some (aR 8 0), some (aI ((k : Nat) : Int)), some (aI gl), some (aL (jf_at p (M 220 0 0))), none, some (aL (jf_A p)), none, some (aI (M 25 0 (2 * k + 1))), some (aI b), some (aL ab), none, some (aL be), none, some (aI (10 * ((i : Nat) : Int))), o14, o15, o16], [aI (g173 454 0 0), aL (jf_at p (M 220 0 0)), aL ((jf_at p1 (M 220 0 0)) * (jf_A p))], am_mix mo_SM g173 (am_mix mo_S25 g1 M))
        rw [(show g173 454 0 0 = jf_A p1 from hthA1)]
        show R (94, [some (aR 8 0), some (aI ((k : Nat) : Int)), some (aI gl), some (aL (jf_at p (M 220 0 0))), none, some (aL (jf_A p)), none, some (aI (M 25 0 (2 * k + 1))), some (aI b), some (aL ab), none, some (aL be), none, some (aI (10 * ((i : Nat) : Int))), o14, o15, o16], [aI (jf_A p1), aL (jf_at p (M 220 0 0)), aL ((jf_at p1 (M 220 0 0)) * (jf_A p))], am_mix mo_SM g173 (am_mix mo_S25 g1 M))
        refine hR _ ⟨(by omega), ?_⟩
        show R (95, [some (aR 8 0), some (aI ((k : Nat) : Int)), some (aI gl), some (aL (jf_at p (M 220 0 0))), none, some (aL (jf_A p)), none, some (aI (M 25 0 (2 * k + 1))), some (aI b), some (aL ab), none, some (aL be), none, some (aI (10 * ((i : Nat) : Int))), o14, o15, o16], [aL (jf_A p1), aL (jf_at p (M 220 0 0)), aL ((jf_at p1 (M 220 0 0)) * (jf_A p))], am_mix mo_SM g173 (am_mix mo_S25 g1 M))
        refine hR _ (?_)
        show R (96, [some (aR 8 0), some (aI ((k : Nat) : Int)), some (aI gl), some (aL (jf_at p (M 220 0 0))), none, some (aL (jf_A p)), none, some (aI (M 25 0 (2 * k + 1))), some (aI b), some (aL ab), none, some (aL be), none, some (aI (10 * ((i : Nat) : Int))), o14, o15, o16], [aL ((jf_at p (M 220 0 0)) * (jf_A p1)), aL ((jf_at p1 (M 220 0 0)) * (jf_A p))], am_mix mo_SM g173 (am_mix mo_S25 g1 M))
        refine am_lc (x := ((jf_at p1 (M 220 0 0)) * (jf_A p))) (y := ((jf_at p (M 220 0 0)) * (jf_A p1))) (P := ((jf_at p1 (M 220 0 0)) * (jf_A p)) < ((jf_at p (M 220 0 0)) * (jf_A p1))) (A := R (183, [some (aR 8 0), some (aI ((k : Nat) : Int)), some (aI gl), some (aL (jf_at p (M 220 0 0))), none, some (aL (jf_A p)), none, some (aI (M 25 0 (2 * k + 1))), some (aI b), some (aL ab), none, some (aL be), none, some (aI (10 * ((i : Nat) : Int))), o14, o15, o16], [], am_mix mo_SM g173 (am_mix mo_S25 g1 M))) (B := R (100, [some (aR 8 0), some (aI ((k : Nat) : Int)), some (aI gl), some (aL (jf_at p (M 220 0 0))), none, some (aL (jf_A p)), none, some (aI (M 25 0 (2 * k + 1))), some (aI b), some (aL ab), none, some (aL be), none, some (aI (10 * ((i : Nat) : Int))), o14, o15, o16], [], am_mix mo_SM g173 (am_mix mo_S25 g1 M))) (by omega) (fun hA hB => hR _ ⟨(by omega), (fun hz => hR _ (am_brt (P := (-1 : Int) < 0) (A := R (183, [some (aR 8 0), some (aI ((k : Nat) : Int)), some (aI gl), some (aL (jf_at p (M 220 0 0))), none, some (aL (jf_A p)), none, some (aI (M 25 0 (2 * k + 1))), some (aI b), some (aL ab), none, some (aL be), none, some (aI (10 * ((i : Nat) : Int))), o14, o15, o16], [], am_mix mo_SM g173 (am_mix mo_S25 g1 M))) (B := R (100, [some (aR 8 0), some (aI ((k : Nat) : Int)), some (aI gl), some (aL (jf_at p (M 220 0 0))), none, some (aL (jf_A p)), none, some (aI (M 25 0 (2 * k + 1))), some (aI b), some (aL ab), none, some (aL be), none, some (aI (10 * ((i : Nat) : Int))), o14, o15, o16], [], am_mix mo_SM g173 (am_mix mo_S25 g1 M))) (by omega) (by omega) (hA (by omega)))), (fun hz => hR _ (am_brf (P := (0 : Int) < 0) (A := R (183, [some (aR 8 0), some (aI ((k : Nat) : Int)), some (aI gl), some (aL (jf_at p (M 220 0 0))), none, some (aL (jf_A p)), none, some (aI (M 25 0 (2 * k + 1))), some (aI b), some (aL ab), none, some (aL be), none, some (aI (10 * ((i : Nat) : Int))), o14, o15, o16], [], am_mix mo_SM g173 (am_mix mo_S25 g1 M))) (B := R (100, [some (aR 8 0), some (aI ((k : Nat) : Int)), some (aI gl), some (aL (jf_at p (M 220 0 0))), none, some (aL (jf_A p)), none, some (aI (M 25 0 (2 * k + 1))), some (aI b), some (aL ab), none, some (aL be), none, some (aI (10 * ((i : Nat) : Int))), o14, o15, o16], [], am_mix mo_SM g173 (am_mix mo_S25 g1 M))) (by omega) (by omega) (hB (by omega)))), (fun hz => hR _ (am_brf (P := (1 : Int) < 0) (A := R (183, [some (aR 8 0), some (aI ((k : Nat) : Int)), some (aI gl), some (aL (jf_at p (M 220 0 0))), none, some (aL (jf_A p)), none, some (aI (M 25 0 (2 * k + 1))), some (aI b), some (aL ab), none, some (aL be), none, some (aI (10 * ((i : Nat) : Int))), o14, o15, o16], [], am_mix mo_SM g173 (am_mix mo_S25 g1 M))) (B := R (100, [some (aR 8 0), some (aI ((k : Nat) : Int)), some (aI gl), some (aL (jf_at p (M 220 0 0))), none, some (aL (jf_A p)), none, some (aI (M 25 0 (2 * k + 1))), some (aI b), some (aL ab), none, some (aL be), none, some (aI (10 * ((i : Nat) : Int))), o14, o15, o16], [], am_mix mo_SM g173 (am_mix mo_S25 g1 M))) (by omega) (by omega) (hB (by omega))))⟩) (fun c96 => ?_) (fun c96 => ?_)
        · refine hR _ (hR _ (?_))
          show R (47, [some (aR 8 0), some (aI ((k : Nat) : Int)), some (aI gl), some (aL (jf_at p (M 220 0 0))), none, some (aL (jf_A p)), none, some (aI (M 25 0 (2 * k + 1))), some (aI b), some (aL ab), none, some (aL be), none, some (aI ((10 * ((i : Nat) : Int)) + 10)), o14, o15, o16], [], am_mix mo_SM g173 (am_mix mo_S25 g1 M))
          have hb3 : mo_but 25 (2 * k + 1) (am_mix mo_SM g173 (am_mix mo_S25 g1 M)) M := hb2
          have e9 : am_ag mo_S25 M (am_mix mo_SM g173 (am_mix mo_S25 g1 M)) := ((am_ag.rf).mix rfl).mix rfl
          rw [e9.eq] at hb3 ⊢
          have e1 : (jf_bc M k gl) (i + 1) = (jf_bc M k gl) i := by
            rw [h0, decide_eq_true (by omega), cond_true]
          refine ih (i + 1) _ _ _ _ _ _ _ _ (by omega) (by omega) hb3 ?_ ?_ ?_
          · rw [e1]
            exact hb
          · rw [e1]
            exact hab
          · rw [e1]
            exact hbe
        · refine hR _ (hR _ (hR _ (?_)))
          show R (103, [some (aR 8 0), some (aI ((k : Nat) : Int)), some (aI gl), some (aL (jf_at p (M 220 0 0))), none, some (aL (jf_A p)), none, some (aI (M 25 0 (2 * k + 1))), some (aI b), some (aL ab), none, some (aL be), none, some (aI (10 * ((i : Nat) : Int))), o14, o15, o16], [aI gl, aI ((k : Nat) : Int), aR 8 0], am_mix mo_SM g173 (am_mix mo_S25 g1 M))
          refine hR _ (sm_aboveOf (p := p1) (r := r) (by omega) hk hr hr6 hwt hp1 hok1 hth1 hpm1 (by omega) (fun g175 => ?_))
          show R (106, [some (aR 8 0), some (aI ((k : Nat) : Int)), some (aI gl), some (aL (jf_at p (M 220 0 0))), none, some (aL (jf_A p)), none, some (aI (M 25 0 (2 * k + 1))), some (aI b), some (aL ab), none, some (aL be), none, some (aI (10 * ((i : Nat) : Int))), o14, o15, o16], [aL (-(jf_wo p1 gl))], am_mix [37, 38] g175 (am_mix mo_SM g173 (am_mix mo_S25 g1 M)))
          refine hR _ (hR _ (hR _ (hR _ (am_brc (rg := am_in b ∧ am_in (-1)) (P := b = (-1)) (A := R (131, [some (aR 8 0), some (aI ((k : Nat) : Int)), some (aI gl), some (aL (jf_at p (M 220 0 0))), none, some (aL (jf_A p)), none, some (aI (M 25 0 (2 * k + 1))), some (aI b), some (aL ab), none, some (aL be), none, some (aI (10 * ((i : Nat) : Int))), some (aL (-(jf_wo p1 gl))), none, o16], [], am_mix [37, 38] g175 (am_mix mo_SM g173 (am_mix mo_S25 g1 M)))) (B := R (114, [some (aR 8 0), some (aI ((k : Nat) : Int)), some (aI gl), some (aL (jf_at p (M 220 0 0))), none, some (aL (jf_A p)), none, some (aI (M 25 0 (2 * k + 1))), some (aI b), some (aL ab), none, some (aL be), none, some (aI (10 * ((i : Nat) : Int))), some (aL (-(jf_wo p1 gl))), none, o16], [], am_mix [37, 38] g175 (am_mix mo_SM g173 (am_mix mo_S25 g1 M)))) (by omega) (fun c111 => ?_) (fun c111 => ?_)))))
          · refine hR _ (hR _ (hR _ (hR _ (hR _ (am_brf (rg := am_in 1) (P := (1 : Int) = 0) (A := R (148, [some (aR 8 0), some (aI ((k : Nat) : Int)), some (aI gl), some (aL (jf_at p (M 220 0 0))), none, some (aL (jf_A p)), none, some (aI (M 25 0 (2 * k + 1))), some (aI b), some (aL ab), none, some (aL be), none, some (aI (10 * ((i : Nat) : Int))), some (aL (-(jf_wo p1 gl))), none, some (aI 1)], [], am_mix [37, 38] g175 (am_mix mo_SM g173 (am_mix mo_S25 g1 M)))) (B := R (143, [some (aR 8 0), some (aI ((k : Nat) : Int)), some (aI gl), some (aL (jf_at p (M 220 0 0))), none, some (aL (jf_A p)), none, some (aI (M 25 0 (2 * k + 1))), some (aI b), some (aL ab), none, some (aL be), none, some (aI (10 * ((i : Nat) : Int))), some (aL (-(jf_wo p1 gl))), none, some (aI 1)], [], am_mix [37, 38] g175 (am_mix mo_SM g173 (am_mix mo_S25 g1 M)))) (by omega) (by omega) ?_)))))
            show R (143, [some (aR 8 0), some (aI ((k : Nat) : Int)), some (aI gl), some (aL (jf_at p (M 220 0 0))), none, some (aL (jf_A p)), none, some (aI (M 25 0 (2 * k + 1))), some (aI b), some (aL ab), none, some (aL be), none, some (aI (10 * ((i : Nat) : Int))), some (aL (-(jf_wo p1 gl))), none, some (aI 1)], [], am_mix [37, 38] g175 (am_mix mo_SM g173 (am_mix mo_S25 g1 M)))
            refine hR _ (hR _ (hR _ (hR _ (hR _ (am_brf (rg := am_in 1) (P := (1 : Int) = 0) (A := R (162, [some (aR 8 0), some (aI ((k : Nat) : Int)), some (aI gl), some (aL (jf_at p (M 220 0 0))), none, some (aL (jf_A p)), none, some (aI (M 25 0 (2 * k + 1))), some (aI (10 * ((i : Nat) : Int))), some (aL ab), none, some (aL be), none, some (aI (10 * ((i : Nat) : Int))), some (aL (-(jf_wo p1 gl))), none, some (aI 1)], [], am_mix [37, 38] g175 (am_mix mo_SM g173 (am_mix mo_S25 g1 M)))) (B := R (157, [some (aR 8 0), some (aI ((k : Nat) : Int)), some (aI gl), some (aL (jf_at p (M 220 0 0))), none, some (aL (jf_A p)), none, some (aI (M 25 0 (2 * k + 1))), some (aI (10 * ((i : Nat) : Int))), some (aL ab), none, some (aL be), none, some (aI (10 * ((i : Nat) : Int))), some (aL (-(jf_wo p1 gl))), none, some (aI 1)], [], am_mix [37, 38] g175 (am_mix mo_SM g173 (am_mix mo_S25 g1 M)))) (by omega) (by omega) ?_)))))
            show R (157, [some (aR 8 0), some (aI ((k : Nat) : Int)), some (aI gl), some (aL (jf_at p (M 220 0 0))), none, some (aL (jf_A p)), none, some (aI (M 25 0 (2 * k + 1))), some (aI (10 * ((i : Nat) : Int))), some (aL ab), none, some (aL be), none, some (aI (10 * ((i : Nat) : Int))), some (aL (-(jf_wo p1 gl))), none, some (aI 1)], [], am_mix [37, 38] g175 (am_mix mo_SM g173 (am_mix mo_S25 g1 M)))
            refine hR _ (hR _ (hR _ (hR _ (hR _ (am_brf (rg := am_in 1) (P := (1 : Int) = 0) (A := R (179, [some (aR 8 0), some (aI ((k : Nat) : Int)), some (aI gl), some (aL (jf_at p (M 220 0 0))), none, some (aL (jf_A p)), none, some (aI (M 25 0 (2 * k + 1))), some (aI (10 * ((i : Nat) : Int))), some (aL (-(jf_wo p1 gl))), none, some (aL be), none, some (aI (10 * ((i : Nat) : Int))), some (aL (-(jf_wo p1 gl))), none, some (aI 1)], [], am_mix [37, 38] g175 (am_mix mo_SM g173 (am_mix mo_S25 g1 M)))) (B := R (171, [some (aR 8 0), some (aI ((k : Nat) : Int)), some (aI gl), some (aL (jf_at p (M 220 0 0))), none, some (aL (jf_A p)), none, some (aI (M 25 0 (2 * k + 1))), some (aI (10 * ((i : Nat) : Int))), some (aL (-(jf_wo p1 gl))), none, some (aL be), none, some (aI (10 * ((i : Nat) : Int))), some (aL (-(jf_wo p1 gl))), none, some (aI 1)], [], am_mix [37, 38] g175 (am_mix mo_SM g173 (am_mix mo_S25 g1 M)))) (by omega) (by omega) ?_)))))
            show R (171, [some (aR 8 0), some (aI ((k : Nat) : Int)), some (aI gl), some (aL (jf_at p (M 220 0 0))), none, some (aL (jf_A p)), none, some (aI (M 25 0 (2 * k + 1))), some (aI (10 * ((i : Nat) : Int))), some (aL (-(jf_wo p1 gl))), none, some (aL be), none, some (aI (10 * ((i : Nat) : Int))), some (aL (-(jf_wo p1 gl))), none, some (aI 1)], [], am_mix [37, 38] g175 (am_mix mo_SM g173 (am_mix mo_S25 g1 M)))
            refine hR _ (hR _ (?_))
            show R (175, [some (aR 8 0), some (aI ((k : Nat) : Int)), some (aI gl), some (aL (jf_at p (M 220 0 0))), none, some (aL (jf_A p)), none, some (aI (M 25 0 (2 * k + 1))), some (aI (10 * ((i : Nat) : Int))), some (aL (-(jf_wo p1 gl))), none, some (aL be), none, some (aI (10 * ((i : Nat) : Int))), some (aL (-(jf_wo p1 gl))), none, some (aI 1)], [aI (g173 454 0 0)], am_mix [37, 38] g175 (am_mix mo_SM g173 (am_mix mo_S25 g1 M)))
            rw [(show g173 454 0 0 = jf_A p1 from hthA1)]
            show R (175, [some (aR 8 0), some (aI ((k : Nat) : Int)), some (aI gl), some (aL (jf_at p (M 220 0 0))), none, some (aL (jf_A p)), none, some (aI (M 25 0 (2 * k + 1))), some (aI (10 * ((i : Nat) : Int))), some (aL (-(jf_wo p1 gl))), none, some (aL be), none, some (aI (10 * ((i : Nat) : Int))), some (aL (-(jf_wo p1 gl))), none, some (aI 1)], [aI (jf_A p1)], am_mix [37, 38] g175 (am_mix mo_SM g173 (am_mix mo_S25 g1 M)))
            refine hR _ ⟨(by omega), ?_⟩
            show R (176, [some (aR 8 0), some (aI ((k : Nat) : Int)), some (aI gl), some (aL (jf_at p (M 220 0 0))), none, some (aL (jf_A p)), none, some (aI (M 25 0 (2 * k + 1))), some (aI (10 * ((i : Nat) : Int))), some (aL (-(jf_wo p1 gl))), none, some (aL be), none, some (aI (10 * ((i : Nat) : Int))), some (aL (-(jf_wo p1 gl))), none, some (aI 1)], [aL (jf_A p1)], am_mix [37, 38] g175 (am_mix mo_SM g173 (am_mix mo_S25 g1 M)))
            refine hR _ (hR _ (hR _ (hR _ (?_))))
            show R (47, [some (aR 8 0), some (aI ((k : Nat) : Int)), some (aI gl), some (aL (jf_at p (M 220 0 0))), none, some (aL (jf_A p)), none, some (aI (M 25 0 (2 * k + 1))), some (aI (10 * ((i : Nat) : Int))), some (aL (-(jf_wo p1 gl))), none, some (aL (jf_A p1)), none, some (aI ((10 * ((i : Nat) : Int)) + 10)), some (aL (-(jf_wo p1 gl))), none, some (aI 1)], [], am_mix [37, 38] g175 (am_mix mo_SM g173 (am_mix mo_S25 g1 M)))
            have hb3 : mo_but 25 (2 * k + 1) (am_mix [37, 38] g175 (am_mix mo_SM g173 (am_mix mo_S25 g1 M))) M := hb2
            have e9 : am_ag mo_S25 M (am_mix [37, 38] g175 (am_mix mo_SM g173 (am_mix mo_S25 g1 M))) := (((am_ag.rf).mix rfl).mix rfl).mix rfl
            rw [e9.eq] at hb3 ⊢
            have e1 : (jf_bc M k gl) (i + 1) = ((10 * ((i : Nat) : Int)), jf_wo p1 gl, jf_A p1) := by
              rw [h0, decide_eq_false (by omega), cond_false, jf_bst, if_pos (by rw [← hb, ← hbe]; omega)]
            refine ih (i + 1) _ _ _ _ _ _ _ _ (by omega) (by omega) hb3 ?_ ?_ ?_
            · rw [e1]
            · rw [e1]
            · rw [e1]
          · refine hR _ (hR _ (hR _ (hR _ (hR _ (hR _ (?_))))))
            show R (125, [some (aR 8 0), some (aI ((k : Nat) : Int)), some (aI gl), some (aL (jf_at p (M 220 0 0))), none, some (aL (jf_A p)), none, some (aI (M 25 0 (2 * k + 1))), some (aI b), some (aL ab), none, some (aL be), none, some (aI (10 * ((i : Nat) : Int))), some (aL (-(jf_wo p1 gl))), none, o16], [aI (g173 454 0 0), aL ab, aL ((-(jf_wo p1 gl)) * be)], am_mix [37, 38] g175 (am_mix mo_SM g173 (am_mix mo_S25 g1 M)))
            rw [(show g173 454 0 0 = jf_A p1 from hthA1)]
            show R (125, [some (aR 8 0), some (aI ((k : Nat) : Int)), some (aI gl), some (aL (jf_at p (M 220 0 0))), none, some (aL (jf_A p)), none, some (aI (M 25 0 (2 * k + 1))), some (aI b), some (aL ab), none, some (aL be), none, some (aI (10 * ((i : Nat) : Int))), some (aL (-(jf_wo p1 gl))), none, o16], [aI (jf_A p1), aL ab, aL ((-(jf_wo p1 gl)) * be)], am_mix [37, 38] g175 (am_mix mo_SM g173 (am_mix mo_S25 g1 M)))
            refine hR _ ⟨(by omega), ?_⟩
            show R (126, [some (aR 8 0), some (aI ((k : Nat) : Int)), some (aI gl), some (aL (jf_at p (M 220 0 0))), none, some (aL (jf_A p)), none, some (aI (M 25 0 (2 * k + 1))), some (aI b), some (aL ab), none, some (aL be), none, some (aI (10 * ((i : Nat) : Int))), some (aL (-(jf_wo p1 gl))), none, o16], [aL (jf_A p1), aL ab, aL ((-(jf_wo p1 gl)) * be)], am_mix [37, 38] g175 (am_mix mo_SM g173 (am_mix mo_S25 g1 M)))
            refine hR _ (?_)
            show R (127, [some (aR 8 0), some (aI ((k : Nat) : Int)), some (aI gl), some (aL (jf_at p (M 220 0 0))), none, some (aL (jf_A p)), none, some (aI (M 25 0 (2 * k + 1))), some (aI b), some (aL ab), none, some (aL be), none, some (aI (10 * ((i : Nat) : Int))), some (aL (-(jf_wo p1 gl))), none, o16], [aL (ab * (jf_A p1)), aL ((-(jf_wo p1 gl)) * be)], am_mix [37, 38] g175 (am_mix mo_SM g173 (am_mix mo_S25 g1 M)))
            refine am_lc (x := ((-(jf_wo p1 gl)) * be)) (y := (ab * (jf_A p1))) (P := (ab * (jf_A p1)) ≤ ((-(jf_wo p1 gl)) * be)) (A := R (135, [some (aR 8 0), some (aI ((k : Nat) : Int)), some (aI gl), some (aL (jf_at p (M 220 0 0))), none, some (aL (jf_A p)), none, some (aI (M 25 0 (2 * k + 1))), some (aI b), some (aL ab), none, some (aL be), none, some (aI (10 * ((i : Nat) : Int))), some (aL (-(jf_wo p1 gl))), none, o16], [], am_mix [37, 38] g175 (am_mix mo_SM g173 (am_mix mo_S25 g1 M)))) (B := R (131, [some (aR 8 0), some (aI ((k : Nat) : Int)), some (aI gl), some (aL (jf_at p (M 220 0 0))), none, some (aL (jf_A p)), none, some (aI (M 25 0 (2 * k + 1))), some (aI b), some (aL ab), none, some (aL be), none, some (aI (10 * ((i : Nat) : Int))), some (aL (-(jf_wo p1 gl))), none, o16], [], am_mix [37, 38] g175 (am_mix mo_SM g173 (am_mix mo_S25 g1 M)))) (by omega) (fun hA hB => hR _ ⟨(by omega), (fun hz => hR _ (am_brf (P := 0 ≤ (-1 : Int)) (A := R (135, [some (aR 8 0), some (aI ((k : Nat) : Int)), some (aI gl), some (aL (jf_at p (M 220 0 0))), none, some (aL (jf_A p)), none, some (aI (M 25 0 (2 * k + 1))), some (aI b), some (aL ab), none, some (aL be), none, some (aI (10 * ((i : Nat) : Int))), some (aL (-(jf_wo p1 gl))), none, o16], [], am_mix [37, 38] g175 (am_mix mo_SM g173 (am_mix mo_S25 g1 M)))) (B := R (131, [some (aR 8 0), some (aI ((k : Nat) : Int)), some (aI gl), some (aL (jf_at p (M 220 0 0))), none, some (aL (jf_A p)), none, some (aI (M 25 0 (2 * k + 1))), some (aI b), some (aL ab), none, some (aL be), none, some (aI (10 * ((i : Nat) : Int))), some (aL (-(jf_wo p1 gl))), none, o16], [], am_mix [37, 38] g175 (am_mix mo_SM g173 (am_mix mo_S25 g1 M)))) (by omega) (by omega) (hB (by omega)))), (fun hz => hR _ (am_brt (P := 0 ≤ (0 : Int)) (A := R (135, [some (aR 8 0), some (aI ((k : Nat) : Int)), some (aI gl), some (aL (jf_at p (M 220 0 0))), none, some (aL (jf_A p)), none, some (aI (M 25 0 (2 * k + 1))), some (aI b), some (aL ab), none, some (aL be), none, some (aI (10 * ((i : Nat) : Int))), some (aL (-(jf_wo p1 gl))), none, o16], [], am_mix [37, 38] g175 (am_mix mo_SM g173 (am_mix mo_S25 g1 M)))) (B := R (131, [some (aR 8 0), some (aI ((k : Nat) : Int)), some (aI gl), some (aL (jf_at p (M 220 0 0))), none, some (aL (jf_A p)), none, some (aI (M 25 0 (2 * k + 1))), some (aI b), some (aL ab), none, some (aL be), none, some (aI (10 * ((i : Nat) : Int))), some (aL (-(jf_wo p1 gl))), none, o16], [], am_mix [37, 38] g175 (am_mix mo_SM g173 (am_mix mo_S25 g1 M)))) (by omega) (by omega) (hA (by omega)))), (fun hz => hR _ (am_brt (P := 0 ≤ (1 : Int)) (A := R (135, [some (aR 8 0), some (aI ((k : Nat) : Int)), some (aI gl), some (aL (jf_at p (M 220 0 0))), none, some (aL (jf_A p)), none, some (aI (M 25 0 (2 * k + 1))), some (aI b), some (aL ab), none, some (aL be), none, some (aI (10 * ((i : Nat) : Int))), some (aL (-(jf_wo p1 gl))), none, o16], [], am_mix [37, 38] g175 (am_mix mo_SM g173 (am_mix mo_S25 g1 M)))) (B := R (131, [some (aR 8 0), some (aI ((k : Nat) : Int)), some (aI gl), some (aL (jf_at p (M 220 0 0))), none, some (aL (jf_A p)), none, some (aI (M 25 0 (2 * k + 1))), some (aI b), some (aL ab), none, some (aL be), none, some (aI (10 * ((i : Nat) : Int))), some (aL (-(jf_wo p1 gl))), none, o16], [], am_mix [37, 38] g175 (am_mix mo_SM g173 (am_mix mo_S25 g1 M)))) (by omega) (by omega) (hA (by omega))))⟩) (fun c127 => ?_) (fun c127 => ?_)
            · refine hR _ (hR _ (hR _ (hR _ (am_brt (rg := am_in 0) (P := (0 : Int) = 0) (A := R (148, [some (aR 8 0), some (aI ((k : Nat) : Int)), some (aI gl), some (aL (jf_at p (M 220 0 0))), none, some (aL (jf_A p)), none, some (aI (M 25 0 (2 * k + 1))), some (aI b), some (aL ab), none, some (aL be), none, some (aI (10 * ((i : Nat) : Int))), some (aL (-(jf_wo p1 gl))), none, some (aI 0)], [], am_mix [37, 38] g175 (am_mix mo_SM g173 (am_mix mo_S25 g1 M)))) (B := R (143, [some (aR 8 0), some (aI ((k : Nat) : Int)), some (aI gl), some (aL (jf_at p (M 220 0 0))), none, some (aL (jf_A p)), none, some (aI (M 25 0 (2 * k + 1))), some (aI b), some (aL ab), none, some (aL be), none, some (aI (10 * ((i : Nat) : Int))), some (aL (-(jf_wo p1 gl))), none, some (aI 0)], [], am_mix [37, 38] g175 (am_mix mo_SM g173 (am_mix mo_S25 g1 M)))) (by omega) (by omega) ?_))))
              show R (148, [some (aR 8 0), some (aI ((k : Nat) : Int)), some (aI gl), some (aL (jf_at p (M 220 0 0))), none, some (aL (jf_A p)), none, some (aI (M 25 0 (2 * k + 1))), some (aI b), some (aL ab), none, some (aL be), none, some (aI (10 * ((i : Nat) : Int))), some (aL (-(jf_wo p1 gl))), none, some (aI 0)], [], am_mix [37, 38] g175 (am_mix mo_SM g173 (am_mix mo_S25 g1 M)))
              refine hR _ (hR _ (hR _ (hR _ (am_brt (rg := am_in 0) (P := (0 : Int) = 0) (A := R (162, [some (aR 8 0), some (aI ((k : Nat) : Int)), some (aI gl), some (aL (jf_at p (M 220 0 0))), none, some (aL (jf_A p)), none, some (aI (M 25 0 (2 * k + 1))), some (aI b), some (aL ab), none, some (aL be), none, some (aI (10 * ((i : Nat) : Int))), some (aL (-(jf_wo p1 gl))), none, some (aI 0)], [], am_mix [37, 38] g175 (am_mix mo_SM g173 (am_mix mo_S25 g1 M)))) (B := R (157, [some (aR 8 0), some (aI ((k : Nat) : Int)), some (aI gl), some (aL (jf_at p (M 220 0 0))), none, some (aL (jf_A p)), none, some (aI (M 25 0 (2 * k + 1))), some (aI b), some (aL ab), none, some (aL be), none, some (aI (10 * ((i : Nat) : Int))), some (aL (-(jf_wo p1 gl))), none, some (aI 0)], [], am_mix [37, 38] g175 (am_mix mo_SM g173 (am_mix mo_S25 g1 M)))) (by omega) (by omega) ?_))))
              show R (162, [some (aR 8 0), some (aI ((k : Nat) : Int)), some (aI gl), some (aL (jf_at p (M 220 0 0))), none, some (aL (jf_A p)), none, some (aI (M 25 0 (2 * k + 1))), some (aI b), some (aL ab), none, some (aL be), none, some (aI (10 * ((i : Nat) : Int))), some (aL (-(jf_wo p1 gl))), none, some (aI 0)], [], am_mix [37, 38] g175 (am_mix mo_SM g173 (am_mix mo_S25 g1 M)))
              refine hR _ (hR _ (hR _ (hR _ (am_brt (rg := am_in 0) (P := (0 : Int) = 0) (A := R (179, [some (aR 8 0), some (aI ((k : Nat) : Int)), some (aI gl), some (aL (jf_at p (M 220 0 0))), none, some (aL (jf_A p)), none, some (aI (M 25 0 (2 * k + 1))), some (aI b), some (aL ab), none, some (aL be), none, some (aI (10 * ((i : Nat) : Int))), some (aL (-(jf_wo p1 gl))), none, some (aI 0)], [], am_mix [37, 38] g175 (am_mix mo_SM g173 (am_mix mo_S25 g1 M)))) (B := R (171, [some (aR 8 0), some (aI ((k : Nat) : Int)), some (aI gl), some (aL (jf_at p (M 220 0 0))), none, some (aL (jf_A p)), none, some (aI (M 25 0 (2 * k + 1))), some (aI b), some (aL ab), none, some (aL be), none, some (aI (10 * ((i : Nat) : Int))), some (aL (-(jf_wo p1 gl))), none, some (aI 0)], [], am_mix [37, 38] g175 (am_mix mo_SM g173 (am_mix mo_S25 g1 M)))) (by omega) (by omega) ?_))))
              show R (179, [some (aR 8 0), some (aI ((k : Nat) : Int)), some (aI gl), some (aL (jf_at p (M 220 0 0))), none, some (aL (jf_A p)), none, some (aI (M 25 0 (2 * k + 1))), some (aI b), some (aL ab), none, some (aL be), none, some (aI (10 * ((i : Nat) : Int))), some (aL (-(jf_wo p1 gl))), none, some (aI 0)], [], am_mix [37, 38] g175 (am_mix mo_SM g173 (am_mix mo_S25 g1 M)))
              refine hR _ (hR _ (hR _ (hR _ (?_))))
              show R (47, [some (aR 8 0), some (aI ((k : Nat) : Int)), some (aI gl), some (aL (jf_at p (M 220 0 0))), none, some (aL (jf_A p)), none, some (aI (M 25 0 (2 * k + 1))), some (aI b), some (aL ab), none, some (aL be), none, some (aI ((10 * ((i : Nat) : Int)) + 10)), some (aL (-(jf_wo p1 gl))), none, some (aI 0)], [], am_mix [37, 38] g175 (am_mix mo_SM g173 (am_mix mo_S25 g1 M)))
              have hb3 : mo_but 25 (2 * k + 1) (am_mix [37, 38] g175 (am_mix mo_SM g173 (am_mix mo_S25 g1 M))) M := hb2
              have e9 : am_ag mo_S25 M (am_mix [37, 38] g175 (am_mix mo_SM g173 (am_mix mo_S25 g1 M))) := (((am_ag.rf).mix rfl).mix rfl).mix rfl
              rw [e9.eq] at hb3 ⊢
              have e1 : (jf_bc M k gl) (i + 1) = (jf_bc M k gl) i := by
                rw [h0, decide_eq_false (by omega), cond_false, jf_bst, if_neg (by rw [← hb, ← hbe]; omega)]
              refine ih (i + 1) _ _ _ _ _ _ _ _ (by omega) (by omega) hb3 ?_ ?_ ?_
              · rw [e1]
                exact hb
              · rw [e1]
                exact hab
              · rw [e1]
                exact hbe
            · refine hR _ (hR _ (hR _ (hR _ (hR _ (am_brf (rg := am_in 1) (P := (1 : Int) = 0) (A := R (148, [some (aR 8 0), some (aI ((k : Nat) : Int)), some (aI gl), some (aL (jf_at p (M 220 0 0))), none, some (aL (jf_A p)), none, some (aI (M 25 0 (2 * k + 1))), some (aI b), some (aL ab), none, some (aL be), none, some (aI (10 * ((i : Nat) : Int))), some (aL (-(jf_wo p1 gl))), none, some (aI 1)], [], am_mix [37, 38] g175 (am_mix mo_SM g173 (am_mix mo_S25 g1 M)))) (B := R (143, [some (aR 8 0), some (aI ((k : Nat) : Int)), some (aI gl), some (aL (jf_at p (M 220 0 0))), none, some (aL (jf_A p)), none, some (aI (M 25 0 (2 * k + 1))), some (aI b), some (aL ab), none, some (aL be), none, some (aI (10 * ((i : Nat) : Int))), some (aL (-(jf_wo p1 gl))), none, some (aI 1)], [], am_mix [37, 38] g175 (am_mix mo_SM g173 (am_mix mo_S25 g1 M)))) (by omega) (by omega) ?_)))))
              show R (143, [some (aR 8 0), some (aI ((k : Nat) : Int)), some (aI gl), some (aL (jf_at p (M 220 0 0))), none, some (aL (jf_A p)), none, some (aI (M 25 0 (2 * k + 1))), some (aI b), some (aL ab), none, some (aL be), none, some (aI (10 * ((i : Nat) : Int))), some (aL (-(jf_wo p1 gl))), none, some (aI 1)], [], am_mix [37, 38] g175 (am_mix mo_SM g173 (am_mix mo_S25 g1 M)))
              refine hR _ (hR _ (hR _ (hR _ (hR _ (am_brf (rg := am_in 1) (P := (1 : Int) = 0) (A := R (162, [some (aR 8 0), some (aI ((k : Nat) : Int)), some (aI gl), some (aL (jf_at p (M 220 0 0))), none, some (aL (jf_A p)), none, some (aI (M 25 0 (2 * k + 1))), some (aI (10 * ((i : Nat) : Int))), some (aL ab), none, some (aL be), none, some (aI (10 * ((i : Nat) : Int))), some (aL (-(jf_wo p1 gl))), none, some (aI 1)], [], am_mix [37, 38] g175 (am_mix mo_SM g173 (am_mix mo_S25 g1 M)))) (B := R (157, [some (aR 8 0), some (aI ((k : Nat) : Int)), some (aI gl), some (aL (jf_at p (M 220 0 0))), none, some (aL (jf_A p)), none, some (aI (M 25 0 (2 * k + 1))), some (aI (10 * ((i : Nat) : Int))), some (aL ab), none, some (aL be), none, some (aI (10 * ((i : Nat) : Int))), some (aL (-(jf_wo p1 gl))), none, some (aI 1)], [], am_mix [37, 38] g175 (am_mix mo_SM g173 (am_mix mo_S25 g1 M)))) (by omega) (by omega) ?_)))))
              show R (157, [some (aR 8 0), some (aI ((k : Nat) : Int)), some (aI gl), some (aL (jf_at p (M 220 0 0))), none, some (aL (jf_A p)), none, some (aI (M 25 0 (2 * k + 1))), some (aI (10 * ((i : Nat) : Int))), some (aL ab), none, some (aL be), none, some (aI (10 * ((i : Nat) : Int))), some (aL (-(jf_wo p1 gl))), none, some (aI 1)], [], am_mix [37, 38] g175 (am_mix mo_SM g173 (am_mix mo_S25 g1 M)))
              refine hR _ (hR _ (hR _ (hR _ (hR _ (am_brf (rg := am_in 1) (P := (1 : Int) = 0) (A := R (179, [some (aR 8 0), some (aI ((k : Nat) : Int)), some (aI gl), some (aL (jf_at p (M 220 0 0))), none, some (aL (jf_A p)), none, some (aI (M 25 0 (2 * k + 1))), some (aI (10 * ((i : Nat) : Int))), some (aL (-(jf_wo p1 gl))), none, some (aL be), none, some (aI (10 * ((i : Nat) : Int))), some (aL (-(jf_wo p1 gl))), none, some (aI 1)], [], am_mix [37, 38] g175 (am_mix mo_SM g173 (am_mix mo_S25 g1 M)))) (B := R (171, [some (aR 8 0), some (aI ((k : Nat) : Int)), some (aI gl), some (aL (jf_at p (M 220 0 0))), none, some (aL (jf_A p)), none, some (aI (M 25 0 (2 * k + 1))), some (aI (10 * ((i : Nat) : Int))), some (aL (-(jf_wo p1 gl))), none, some (aL be), none, some (aI (10 * ((i : Nat) : Int))), some (aL (-(jf_wo p1 gl))), none, some (aI 1)], [], am_mix [37, 38] g175 (am_mix mo_SM g173 (am_mix mo_S25 g1 M)))) (by omega) (by omega) ?_)))))
              show R (171, [some (aR 8 0), some (aI ((k : Nat) : Int)), some (aI gl), some (aL (jf_at p (M 220 0 0))), none, some (aL (jf_A p)), none, some (aI (M 25 0 (2 * k + 1))), some (aI (10 * ((i : Nat) : Int))), some (aL (-(jf_wo p1 gl))), none, some (aL be), none, some (aI (10 * ((i : Nat) : Int))), some (aL (-(jf_wo p1 gl))), none, some (aI 1)], [], am_mix [37, 38] g175 (am_mix mo_SM g173 (am_mix mo_S25 g1 M)))
              refine hR _ (hR _ (?_))
              show R (175, [some (aR 8 0), some (aI ((k : Nat) : Int)), some (aI gl), some (aL (jf_at p (M 220 0 0))), none, some (aL (jf_A p)), none, some (aI (M 25 0 (2 * k + 1))), some (aI (10 * ((i : Nat) : Int))), some (aL (-(jf_wo p1 gl))), none, some (aL be), none, some (aI (10 * ((i : Nat) : Int))), some (aL (-(jf_wo p1 gl))), none, some (aI 1)], [aI (g173 454 0 0)], am_mix [37, 38] g175 (am_mix mo_SM g173 (am_mix mo_S25 g1 M)))
              rw [(show g173 454 0 0 = jf_A p1 from hthA1)]
              show R (175, [some (aR 8 0), some (aI ((k : Nat) : Int)), some (aI gl), some (aL (jf_at p (M 220 0 0))), none, some (aL (jf_A p)), none, some (aI (M 25 0 (2 * k + 1))), some (aI (10 * ((i : Nat) : Int))), some (aL (-(jf_wo p1 gl))), none, some (aL be), none, some (aI (10 * ((i : Nat) : Int))), some (aL (-(jf_wo p1 gl))), none, some (aI 1)], [aI (jf_A p1)], am_mix [37, 38] g175 (am_mix mo_SM g173 (am_mix mo_S25 g1 M)))
              refine hR _ ⟨(by omega), ?_⟩
              show R (176, [some (aR 8 0), some (aI ((k : Nat) : Int)), some (aI gl), some (aL (jf_at p (M 220 0 0))), none, some (aL (jf_A p)), none, some (aI (M 25 0 (2 * k + 1))), some (aI (10 * ((i : Nat) : Int))), some (aL (-(jf_wo p1 gl))), none, some (aL be), none, some (aI (10 * ((i : Nat) : Int))), some (aL (-(jf_wo p1 gl))), none, some (aI 1)], [aL (jf_A p1)], am_mix [37, 38] g175 (am_mix mo_SM g173 (am_mix mo_S25 g1 M)))
              refine hR _ (hR _ (hR _ (hR _ (?_))))
              show R (47, [some (aR 8 0), some (aI ((k : Nat) : Int)), some (aI gl), some (aL (jf_at p (M 220 0 0))), none, some (aL (jf_A p)), none, some (aI (M 25 0 (2 * k + 1))), some (aI (10 * ((i : Nat) : Int))), some (aL (-(jf_wo p1 gl))), none, some (aL (jf_A p1)), none, some (aI ((10 * ((i : Nat) : Int)) + 10)), some (aL (-(jf_wo p1 gl))), none, some (aI 1)], [], am_mix [37, 38] g175 (am_mix mo_SM g173 (am_mix mo_S25 g1 M)))
              have hb3 : mo_but 25 (2 * k + 1) (am_mix [37, 38] g175 (am_mix mo_SM g173 (am_mix mo_S25 g1 M))) M := hb2
              have e9 : am_ag mo_S25 M (am_mix [37, 38] g175 (am_mix mo_SM g173 (am_mix mo_S25 g1 M))) := (((am_ag.rf).mix rfl).mix rfl).mix rfl
              rw [e9.eq] at hb3 ⊢
              have e1 : (jf_bc M k gl) (i + 1) = ((10 * ((i : Nat) : Int)), jf_wo p1 gl, jf_A p1) := by
                rw [h0, decide_eq_false (by omega), cond_false, jf_bst, if_pos (by rw [← hb, ← hbe]; omega)]
              refine ih (i + 1) _ _ _ _ _ _ _ _ (by omega) (by omega) hb3 ?_ ?_ ?_
              · rw [e1]
              · rw [e1]
              · rw [e1]
  have e9 : am_ag mo_S25 M (am_mix mo_SM g172 M) := (am_ag.rf).mix rfl
  rw [e9.eq]
  exact key 51 0 _ _ _ _ _ _ _ _ rfl rfl (fun i j _ => rfl) rfl rfl rfl

set_option maxHeartbeats 1000000 in
theorem sm_change {d : Nat} (hd : 10 ≤ d) {h gl : Int} {M : am_M} {K : am_K} (hJ : jf_J M) (hW : jf_C M) (ha_h : am_in h) (ha_gl : am_in gl) (hK : ∀ g, K (some (aI (jx_change M h gl))) (am_mix mo_SM g M)) : am_Call true d 169 [aR 8 0, aI h, aI gl] M K := by
  obtain ⟨d, rfl⟩ : ∃ e, d = e + 1 := ⟨d - 1, by omega⟩
  refine ⟨rfl, fun R hR hC => ?_⟩
  replace hR : ∀ c, am_F true tb_f169 1 (am_Call true d) K R c → R c := hR
  have hn := hJ.1.1.2.2.2.2.2.2.2.1
  have hl0 := hJ.1.1.2.2.2.2.2.2.2.2
  have htc := hJ.2.2.1.1
  have hlt : 0 ≤ M 228 0 0 ∧ M 228 0 0 < 6 := by omega
  have hmk := hJ.1.1.1
  have hdr := hJ.1.1.2.1
  have hpr := hJ.1.1.2.2.1
  have hfu := hJ.1.1.2.2.2.1
  have hn' : 0 ≤ M 421 0 0 ∧ M 421 0 0 ≤ 5 := by rw [hW.1.2.1.1]; exact hn
  have h421 : M 421 0 0 = M 227 0 0 := hW.1.2.1.1
  show R (0, [some (aR 8 0), some (aI h), some (aI gl)], [], M)
  rcases jf_hd (M := M) (h := h) hn with ⟨k, rfl, hk5, hk⟩ | hno
  · obtain ⟨r, hrr⟩ : ∃ r, r = (M 228 0 0).toNat := ⟨_, rfl⟩
    have hr : M 431 0 0 = (r : Int) := by rw [hW.1.2.1.2.2.1]; omega
    have hr6 : r < 6 := by omega
    have hwt : mo_wt M r := (hW.2.1.2.2 r (by omega)).1
    obtain ⟨p, hpp⟩ : ∃ p, p = jf_px M k := ⟨_, rfl⟩
    have hp : mo_p M k r p := by rw [hpp, hrr]; exact jf_C.p hJ hW hk (by omega)
    have hok : jf_ok p := by rw [hpp]; exact hJ.px hk
    have hpm : p.mk = M 22 0 0 := by rw [hpp]; exact hW.1.1.1.symm
    have hps : p.st = 0 := by rw [hpp]
    have hpb := jf_P_b hok
    have hA := jf_A_b hok
    show R (0, [some (aR 8 0), some (aI ((k : Nat) : Int)), some (aI gl)], [], M)
    refine hR _ (hR _ (?_))
    show R (2, [some (aR 8 0), some (aI ((k : Nat) : Int)), some (aI gl)], [aI ((k : Nat) : Int), aR 8 0], M)
    refine hR _ (sm_isHand (by omega) (show 0 ≤ M 421 0 0 ∧ M 421 0 0 ≤ 5 from hn') (by omega) (fun _ => ?_) (fun hz => absurd (show 0 ≤ ((k : Nat) : Int) ∧ ((k : Nat) : Int) < M 421 0 0 by omega) hz))
    show R (5, [some (aR 8 0), some (aI ((k : Nat) : Int)), some (aI gl)], [aI 1], M)
    refine hR _ (am_brt (rg := am_in 1) (P := (1 : Int) ≠ 0) (A := R (11, [some (aR 8 0), some (aI ((k : Nat) : Int)), some (aI gl)], [], M)) (B := R (8, [some (aR 8 0), some (aI ((k : Nat) : Int)), some (aI gl)], [], M)) (by omega) (by omega) ?_)
    show R (11, [some (aR 8 0), some (aI ((k : Nat) : Int)), some (aI gl)], [], M)
    refine hR _ (hR _ (hR _ (?_)))
    show R (14, [some (aR 8 0), some (aI ((k : Nat) : Int)), some (aI gl)], [aI 1, aI 0, aI gl], M)
    refine hR _ (sp_in (by omega) (by omega) (fun h14 => ?_) (fun h14 => ?_))
    · show R (17, [some (aR 8 0), some (aI ((k : Nat) : Int)), some (aI gl)], [aI 1], M)
      refine hR _ (am_brf (rg := am_in 1) (P := (1 : Int) = 0) (A := R (29, [some (aR 8 0), some (aI ((k : Nat) : Int)), some (aI gl)], [], M)) (B := R (20, [some (aR 8 0), some (aI ((k : Nat) : Int)), some (aI gl)], [], M)) (by omega) (by omega) ?_)
      show R (20, [some (aR 8 0), some (aI ((k : Nat) : Int)), some (aI gl)], [], M)
      refine hR _ (hR _ (hR _ (?_)))
      show R (23, [some (aR 8 0), some (aI ((k : Nat) : Int)), some (aI gl)], [aI gl, aI ((k : Nat) : Int), aR 8 0], M)
      refine hR _ (sm_changeOf (by omega) hJ hW hk (by omega) (fun g => ?_))
      show R (26, [some (aR 8 0), some (aI ((k : Nat) : Int)), some (aI gl)], [aI ((jf_bc M k gl 51).1)], am_mix mo_SM g M)
      refine hR _ (?_)
      show R (31, [some (aR 8 0), some (aI ((k : Nat) : Int)), some (aI gl)], [aI ((jf_bc M k gl 51).1)], am_mix mo_SM g M)
      refine hR _ (show K (some (aI ((jf_bc M k gl 51).1))) (am_mix mo_SM g M) from ?_)
      have hres : jx_change M ((k : Nat) : Int) gl = (jf_bc M k gl 51).1 := by
        subst hpp
        unfold jx_change
        repeat' split
        all_goals first | omega | rfl | exact jf_il_no (by omega)
      rw [hres] at hK
      have e9 : am_ag mo_SM M (am_mix mo_SM g M) := (am_ag.rf).mix rfl
      rw [e9.eq]
      exact hK _
    · show R (17, [some (aR 8 0), some (aI ((k : Nat) : Int)), some (aI gl)], [aI 0], M)
      refine hR _ (am_brt (rg := am_in 0) (P := (0 : Int) = 0) (A := R (29, [some (aR 8 0), some (aI ((k : Nat) : Int)), some (aI gl)], [], M)) (B := R (20, [some (aR 8 0), some (aI ((k : Nat) : Int)), some (aI gl)], [], M)) (by omega) (by omega) ?_)
      show R (29, [some (aR 8 0), some (aI ((k : Nat) : Int)), some (aI gl)], [], M)
      refine hR _ (?_)
      show R (31, [some (aR 8 0), some (aI ((k : Nat) : Int)), some (aI gl)], [aI (-7)], M)
      refine hR _ (show K (some (aI (-7))) M from ?_)
      have hres : jx_change M ((k : Nat) : Int) gl = (-7) := by
        unfold jx_change
        repeat' split
        all_goals first | omega | rfl | exact jf_il_no (by omega)
      rw [hres] at hK
      have e9 : am_ag mo_SM M M := am_ag.rf
      rw [e9.eq]
      exact hK _
  · show R (0, [some (aR 8 0), some (aI h), some (aI gl)], [], M)
    refine hR _ (hR _ (?_))
    show R (2, [some (aR 8 0), some (aI h), some (aI gl)], [aI h, aR 8 0], M)
    refine hR _ (sm_isHand (by omega) (show 0 ≤ M 421 0 0 ∧ M 421 0 0 ≤ 5 from hn') (by omega) (fun hz => absurd (show 0 ≤ h ∧ h < M 227 0 0 from ⟨hz.1, by rw [← h421]; exact hz.2⟩) hno) (fun _ => ?_))
    show R (5, [some (aR 8 0), some (aI h), some (aI gl)], [aI 0], M)
    refine hR _ (am_brf (rg := am_in 0) (P := (0 : Int) ≠ 0) (A := R (11, [some (aR 8 0), some (aI h), some (aI gl)], [], M)) (B := R (8, [some (aR 8 0), some (aI h), some (aI gl)], [], M)) (by omega) (by omega) ?_)
    show R (8, [some (aR 8 0), some (aI h), some (aI gl)], [], M)
    refine hR _ (?_)
    show R (10, [some (aR 8 0), some (aI h), some (aI gl)], [aI (-5)], M)
    refine hR _ (show K (some (aI (-5))) M from ?_)
    have hres : jx_change M h gl = (-5) := by
      unfold jx_change
      repeat' split
      all_goals first | omega | rfl | exact jf_il_no (by omega)
    rw [hres] at hK
    have e9 : am_ag mo_SM M M := am_ag.rf
    rw [e9.eq]
    exact hK _
