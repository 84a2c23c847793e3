/-! wb -/
/-! THE REFERENCE: who, next, ahead, change, on, both -/
abbrev mo_S25 : List Nat := [25, 37, 38, 39, 40, 41, 454, 455]
def mo_but (v c : Nat) (g M : am_M) : Prop := ∀ i j, ¬ (i = 0 ∧ j = c) → g v i j = M v i j
theorem mo_but.wr {v c : Nat} {g M : am_M} {x : Int} (h : mo_but v c g M) : mo_but v c (am_wr g v 0 c x) M := fun i j hij => by
  rw [am_wr_ne (by
    by_cases h1 : i = 0
    · exact Or.inr (Or.inr (fun h2 => hij ⟨h1, h2⟩))
    · exact Or.inr (Or.inl h1))]
  exact h i j hij
theorem mo_but.rest {S S2 : List Nat} {v c : Nat} {g M : am_M} (h : mo_but v c g M) (hS : am_el S v = false) (hS2 : ∀ w, am_el S w = false → w ≠ v → am_el S2 w = false) : am_ag S M (am_wr (am_mix S2 g M) v 0 c (M v 0 c)) := by
  intro w hw
  by_cases e : w = v
  · subst e
    funext i j
    by_cases hij : i = 0 ∧ j = c
    · rw [hij.1, hij.2, am_wr_eq]
    · rw [am_wr_ne (by
        by_cases h1 : i = 0
        · exact Or.inr (Or.inr (fun h2 => hij ⟨h1, h2⟩))
        · exact Or.inr (Or.inl h1))]
      cases h2 : am_el S2 w with
      | true =>
        rw [am_mix_in h2]
        exact h i j hij
      | false => rw [am_mix_out h2]
  · funext i j
    rw [am_wr_ne (Or.inl e), am_mix_out (hS2 w hw e)]

set_option maxHeartbeats 1000000 in
theorem sm_who {d : Nat} (hd : 9 ≤ d) {gl : Int} {M : am_M} {K : am_K} (hJ : jf_J M) (hW : jf_C M) (ha_g : am_in gl) (hK : ∀ g, K (some (aI (jx_who M gl))) (am_mix mo_SM g M)) : am_Call true d 171 [aR 8 0, aI gl] M K := by
  obtain ⟨d, rfl⟩ : ∃ e, d = e + 1 := ⟨d - 1, by omega⟩
  refine ⟨rfl, fun R hR hC => ?_⟩
  replace hR : ∀ c, am_F true tb_f171 1 (am_Call true d) K R c → R c := hR
  have hn := hJ.1.1.2.2.2.2.2.2.2.1
  have hl0 := hJ.1.1.2.2.2.2.2.2.2.2
  have htc := hJ.2.2.1.1
  have hlt : 0 ≤ M 228 0 0 ∧ M 228 0 0 < 6 := by omega
  have hmk := hJ.1.1.1
  have hdr := hJ.1.1.2.1
  have hpr := hJ.1.1.2.2.1
  have hfu := hJ.1.1.2.2.2.1
  have hn' : 0 ≤ M 421 0 0 ∧ M 421 0 0 ≤ 5 := by rw [hW.1.2.1.1]; exact hn
  have h421 : M 421 0 0 = M 227 0 0 := hW.1.2.1.1
  show R (0, [some (aR 8 0), some (aI gl), none, none, none, none, none, none, none, none, none], [], M)
  refine hR _ (hR _ (hR _ (?_)))
  show R (3, [some (aR 8 0), some (aI gl), none, none, none, none, none, none, none, none, none], [aI 2, aI 0, aI gl], M)
  refine hR _ (sp_in (by omega) (by omega) (fun h3 => ?_) (fun h3 => ?_))
  · show R (6, [some (aR 8 0), some (aI gl), none, none, none, none, none, none, none, none, none], [aI 1], M)
    refine hR _ (am_brt (rg := am_in 1) (P := (1 : Int) ≠ 0) (A := R (12, [some (aR 8 0), some (aI gl), none, none, none, none, none, none, none, none, none], [], M)) (B := R (9, [some (aR 8 0), some (aI gl), none, none, none, none, none, none, none, none, none], [], M)) (by omega) (by omega) ?_)
    show R (12, [some (aR 8 0), some (aI gl), none, none, none, none, none, none, none, none, none], [], M)
    refine hR _ (hR _ (hR _ (hR _ (hR _ (hR _ (hR _ (hR _ (?_))))))))
    show R (22, [some (aR 8 0), some (aI gl), some (aI (-1)), some (aL 0), none, some (aL 1), none, some (aI 0), none, none, none], [], M)
    have hbnd : ∀ i : Nat, i < 5 → (-1 ≤ (i : Int) ∧ (i : Int) ≤ 5) ∧ (-140010 ≤ jf_wo (jf_px M i) gl ∧ jf_wo (jf_px M i) gl ≤ 140010) ∧ 1 ≤ jf_A (jf_px M i) ∧ jf_A (jf_px M i) ≤ 65 := fun i hi => ⟨by omega, jf_wo_b (hJ.px hi) gl, jf_A_b (hJ.px hi)⟩
    have key : ∀ (f i : Nat) (x b ab be : Int) (o8 o9 o10 : Option am_V) (g : am_M), x = (i : Int) → (i : Int) + f = M 227 0 0 → b = ((jf_bw M gl) i).1 → ab = -((jf_bw M gl) i).2.1 → be = ((jf_bw M gl) i).2.2 → R (22, [some (aR 8 0), some (aI gl), some (aI b), some (aL ab), none, some (aL be), none, some (aI x), o8, o9, o10], [], am_mix mo_SM g M) := by
      intro f
      induction f with
      | zero =>
        intro i x b ab be o8 o9 o10 g hx hin hb hab hbe
        subst hx
        have hbp := jf_best_b (f := fun i => (jf_wo (jf_px M i) gl, jf_A (jf_px M i))) (v := fun i => (i : Int)) (by decide) (by decide) (by decide) hbnd i (by omega)
        replace hbp : jf_bp ((jf_bw M gl) i) 140010 65 5 := hbp
        obtain ⟨hbp1, hbp2, hbp3, hbp4⟩ := hbp
        rw [← hb] at hbp1
        rw [← hbe] at hbp3 hbp4
        refine hR _ (hR _ (hR _ (?_)))
        show R (28, [some (aR 8 0), some (aI gl), some (aI b), some (aL ab), none, some (aL be), none, some (aI ((i : Nat) : Int)), o8, o9, o10], [aI (M 421 0 0), aI ((i : Nat) : Int)], am_mix mo_SM g M)
        rw [(show M 421 0 0 = M 227 0 0 from hW.1.2.1.1)]
        show R (28, [some (aR 8 0), some (aI gl), some (aI b), some (aL ab), none, some (aL be), none, some (aI ((i : Nat) : Int)), o8, o9, o10], [aI (M 227 0 0), aI ((i : Nat) : Int)], am_mix mo_SM g M)
        refine hR _ (am_brt (rg := am_in ((i : Nat) : Int) ∧ am_in (M 227 0 0)) (P := (M 227 0 0) ≤ ((i : Nat) : Int)) (A := R (121, [some (aR 8 0), some (aI gl), some (aI b), some (aL ab), none, some (aL be), none, some (aI ((i : Nat) : Int)), o8, o9, o10], [], am_mix mo_SM g M)) (B := R (31, [some (aR 8 0), some (aI gl), some (aI b), some (aL ab), none, some (aL be), none, some (aI ((i : Nat) : Int)), o8, o9, o10], [], am_mix mo_SM g M)) (by omega) (by omega) ?_)
        show R (121, [some (aR 8 0), some (aI gl), some (aI b), some (aL ab), none, some (aL be), none, some (aI ((i : Nat) : Int)), o8, o9, o10], [], am_mix mo_SM g M)
        refine hR _ (?_)
        show R (122, [some (aR 8 0), some (aI gl), some (aI b), some (aL ab), none, some (aL be), none, some (aI ((i : Nat) : Int)), o8, o9, o10], [aI b], am_mix mo_SM g M)
        refine hR _ (show K (some (aI b)) (am_mix mo_SM g M) from ?_)
        have hres : jx_who M gl = b := by
          unfold jx_who
          rw [if_pos (by omega), hb, show i = (M 227 0 0).toNat by omega]
        rw [hres] at hK
        exact hK _
      | succ f ih =>
        intro i x b ab be o8 o9 o10 g hx hin hb hab hbe
        subst hx
        have hbp := jf_best_b (f := fun i => (jf_wo (jf_px M i) gl, jf_A (jf_px M i))) (v := fun i => (i : Int)) (by decide) (by decide) (by decide) hbnd i (by omega)
        replace hbp : jf_bp ((jf_bw M gl) i) 140010 65 5 := hbp
        obtain ⟨hbp1, hbp2, hbp3, hbp4⟩ := hbp
        rw [← hb] at hbp1
        rw [← hbe] at hbp3 hbp4
        have hk : i < 5 := by omega
        obtain ⟨r, hrr⟩ : ∃ r, r = (M 228 0 0).toNat := ⟨_, rfl⟩
        have hr : M 431 0 0 = (r : Int) := by rw [hW.1.2.1.2.2.1]; omega
        have hr6 : r < 6 := by omega
        have hwt : mo_wt M r := (hW.2.1.2.2 r (by omega)).1
        obtain ⟨p, hpp⟩ : ∃ p, p = jf_px M i := ⟨_, rfl⟩
        have hp : mo_p M i r p := by rw [hpp, hrr]; exact jf_C.p hJ hW hk (by omega)
        have hok : jf_ok p := by rw [hpp]; exact hJ.px hk
        have hpm : p.mk = M 22 0 0 := by rw [hpp]; exact hW.1.1.1.symm
        have hps : p.st = 0 := by rw [hpp]
        have hpb := jf_P_b hok
        have hA := jf_A_b hok
        have hwo := jf_wo_b hok gl
        have em1 := Int.neg_mul (jf_wo p gl) be
        have em2 : ab * (jf_A p) = -(((jf_bw M gl) i).2.1 * (jf_A p)) := by rw [hab]; exact Int.neg_mul _ _
        have mb1 := jf_mb (a := (jf_wo p gl)) (b := be) (A := 140010) (B := 65) (by omega) (by omega)
        have mb2 := jf_mb (a := ((jf_bw M gl) i).2.1) (b := (jf_A p)) (A := 140010) (B := 65) (by omega) (by omega)
        refine hR _ (hR _ (hR _ (?_)))
        show R (28, [some (aR 8 0), some (aI gl), some (aI b), some (aL ab), none, some (aL be), none, some (aI ((i : Nat) : Int)), o8, o9, o10], [aI (M 421 0 0), aI ((i : Nat) : Int)], am_mix mo_SM g M)
        rw [(show M 421 0 0 = M 227 0 0 from hW.1.2.1.1)]
        show R (28, [some (aR 8 0), some (aI gl), some (aI b), some (aL ab), none, some (aL be), none, some (aI ((i : Nat) : Int)), o8, o9, o10], [aI (M 227 0 0), aI ((i : Nat) : Int)], am_mix mo_SM g M)
        refine hR _ (am_brf (rg := am_in ((i : Nat) : Int) ∧ am_in (M 227 0 0)) (P := (M 227 0 0) ≤ ((i : Nat) : Int)) (A := R (121, [some (aR 8 0), some (aI gl), some (aI b), some (aL ab), none, some (aL be), none, some (aI ((i : Nat) : Int)), o8, o9, o10], [], am_mix mo_SM g M)) (B := R (31, [some (aR 8 0), some (aI gl), some (aI b), some (aL ab), none, some (aL be), none, some (aI ((i : Nat) : Int)), o8, o9, o10], [], am_mix mo_SM g M)) (by omega) (by omega) ?_)
        show R (31, [some (aR 8 0), some (aI gl), some (aI b), some (aL ab), none, some (aL be), none, some (aI ((i : Nat) : Int)), o8, o9, o10], [], am_mix mo_SM g M)
        refine hR _ (hR _ (?_))
        show R (34, [some (aR 8 0), some (aI gl), some (aI b), some (aL ab), none, some (aL be), none, some (aI ((i : Nat) : Int)), o8, o9, o10], [aI ((i : Nat) : Int), aR 8 0], am_mix mo_SM g M)
        refine hR _ (sm_goes (p := p) (r := r) (by omega) hk hr hr6 hwt hp hok hpm hps (fun g163 hth => ?_))
        rw [am_mix_sub (S := mo_SM) (S2 := mo_SM) rfl] at hth
        have hthr := hth.1
        have hthA := hth.2.1
        have hthN := hth.2.2
        have hbO := fun a (ha : a < 5) => jf_O_b hok ha
        have hbE := fun a (ha : a < 5) => jf_E_b hok ha
        dsimp only
        rw [am_mix_sub (S := mo_SM) (S2 := mo_SM) rfl]
        show R (37, [some (aR 8 0), some (aI gl), some (aI b), some (aL ab), none, some (aL be), none, some (aI ((i : Nat) : Int)), o8, o9, o10], [], am_mix mo_SM g163 M)
        refine hR _ (hR _ (hR _ (?_)))
        show R (41, [some (aR 8 0), some (aI gl), some (aI b), some (aL ab), none, some (aL be), none, some (aI ((i : Nat) : Int)), o8, o9, o10], [aI gl, aI ((i : Nat) : Int), aR 8 0], am_mix mo_SM g163 M)
        refine hR _ (sm_aboveOf (p := p) (r := r) (by omega) hk hr hr6 hwt hp hok hth hpm (by omega) (fun g164 => ?_))
        show R (44, [some (aR 8 0), some (aI gl), some (aI b), some (aL ab), none, some (aL be), none, some (aI ((i : Nat) : Int)), o8, o9, o10], [aL (-(jf_wo p gl))], am_mix [37, 38] g164 (am_mix mo_SM g163 M))
        refine hR _ (hR _ (hR _ (hR _ (am_brc (rg := am_in b ∧ am_in (-1)) (P := b = (-1)) (A := R (67, [some (aR 8 0), some (aI gl), some (aI b), some (aL ab), none, some (aL be), none, some (aI ((i : Nat) : Int)), some (aL (-(jf_wo p gl))), none, o10], [], am_mix [37, 38] g164 (am_mix mo_SM g163 M))) (B := R (51, [some (aR 8 0), some (aI gl), some (aI b), some (aL ab), none, some (aL be), none, some (aI ((i : Nat) : Int)), some (aL (-(jf_wo p gl))), none, o10], [], am_mix [37, 38] g164 (am_mix mo_SM g163 M))) (by omega) (fun c48 => ?_) (fun c48 => ?_)))))
        · refine hR _ (hR _ (hR _ (hR _ (hR _ (am_brf (rg := am_in 1) (P := (1 : Int) = 0) (A := R (84, [some (aR 8 0), some (aI gl), some (aI b), some (aL ab), none, some (aL be), none, some (aI ((i : Nat) : Int)), some (aL (-(jf_wo p gl))), none, some (aI 1)], [], am_mix [37, 38] g164 (am_mix mo_SM g163 M))) (B := R (79, [some (aR 8 0), some (aI gl), some (aI b), some (aL ab), none, some (aL be), none, some (aI ((i : Nat) : Int)), some (aL (-(jf_wo p gl))), none, some (aI 1)], [], am_mix [37, 38] g164 (am_mix mo_SM g163 M))) (by omega) (by omega) ?_)))))
          show R (79, [some (aR 8 0), some (aI gl), some (aI b), some (aL ab), none, some (aL be), none, some (aI ((i : Nat) : Int)), some (aL (-(jf_wo p gl))), none, some (aI 1)], [], am_mix [37, 38] g164 (am_mix mo_SM g163 M))
          refine hR _ (hR _ (hR _ (hR _ (hR _ (am_brf (rg := am_in 1) (P := (1 : Int) = 0) (A := R (96, [some (aR 8 0), some (aI gl), some (aI ((i : Nat) : Int)), some (aL ab), none, some (aL be), none, some (aI ((i : Nat) : Int)), some (aL (-(jf_wo p gl))), none, some (aI 1)], [], am_mix [37, 38] g164 (am_mix mo_SM g163 M))) (B := R (91, [some (aR 8 0), some (aI gl), some (aI ((i : Nat) : Int)), some (aL ab), none, some (aL be), none, some (aI ((i : Nat) : Int)), some (aL (-(jf_wo p gl))), none, some (aI 1)], [], am_mix [37, 38] g164 (am_mix mo_SM g163 M))) (by omega) (by omega) ?_)))))
          show R (91, [some (aR 8 0), some (aI gl), some (aI ((i : Nat) : Int)), some (aL ab), none, some (aL be), none, some (aI ((i : Nat) : Int)), some (aL (-(jf_wo p gl))), none, some (aI 1)], [], am_mix [37, 38] g164 (am_mix mo_SM g163 M))
          refine hR _ (hR _ (hR _ (hR _ (hR _ (am_brf (rg := am_in 1) (P := (1 : Int) = 0) (A := R (111, [some (aR 8 0), some (aI gl), some (aI ((i : Nat) : Int)), some (aL (-(jf_wo p gl))), none, some (aL be), none, some (aI ((i : Nat) : Int)), some (aL (-(jf_wo p gl))), none, some (aI 1)], [], am_mix [37, 38] g164 (am_mix mo_SM g163 M))) (B := R (103, [some (aR 8 0), some (aI gl), some (aI ((i : Nat) : Int)), some (aL (-(jf_wo p gl))), none, some (aL be), none, some (aI ((i : Nat) : Int)), some (aL (-(jf_wo p gl))), none, some (aI 1)], [], am_mix [37, 38] g164 (am_mix mo_SM g163 M))) (by omega) (by omega) ?_)))))
          show R (103, [some (aR 8 0), some (aI gl), some (aI ((i : Nat) : Int)), some (aL (-(jf_wo p gl))), none, some (aL be), none, some (aI ((i : Nat) : Int)), some (aL (-(jf_wo p gl))), none, some (aI 1)], [], am_mix [37, 38] g164 (am_mix mo_SM g163 M))
          refine hR _ (hR _ (?_))
          show R (107, [some (aR 8 0), some (aI gl), some (aI ((i : Nat) : Int)), some (aL (-(jf_wo p gl))), none, some (aL be), none, some (aI ((i : Nat) : Int)), some (aL (-(jf_wo p gl))), none, some (aI 1)], [aI (g163 454 0 0)], am_mix [37, 38] g164 (am_mix mo_SM g163 M))
          rw [(show g163 454 0 0 = jf_A p from hthA)]
          show R (107, [some (aR 8 0), some (aI gl), some (aI ((i : Nat) : Int)), some (aL (-(jf_wo p gl))), none, some (aL be), none, some (aI ((i : Nat) : Int)), some (aL (-(jf_wo p gl))), none, some (aI 1)], [aI (jf_A p)], am_mix [37, 38] g164 (am_mix mo_SM g163 M))
          refine hR _ ⟨(by omega), ?_⟩
          show R (108, [some (aR 8 0), some (aI gl), some (aI ((i : Nat) : Int)), some (aL (-(jf_wo p gl))), none, some (aL be), none, some (aI ((i : Nat) : Int)), some (aL (-(jf_wo p gl))), none, some (aI 1)], [aL (jf_A p)], am_mix [37, 38] g164 (am_mix mo_SM g163 M))
          refine hR _ (hR _ (hR _ (hR _ (?_))))
          show R (22, [some (aR 8 0), some (aI gl), some (aI ((i : Nat) : Int)), some (aL (-(jf_wo p gl))), none, some (aL (jf_A p)), none, some (aI (((i : Nat) : Int) + 1)), some (aL (-(jf_wo p gl))), none, some (aI 1)], [], am_mix [37, 38] g164 (am_mix mo_SM g163 M))
          have e9 : am_ag mo_SM M (am_mix [37, 38] g164 (am_mix mo_SM g163 M)) := ((am_ag.rf).mix rfl).mix rfl
          rw [e9.eq]
          have e1 : (jf_bw M gl) (i + 1) = (((i : Nat) : Int), (jf_wo p gl), (jf_A p)) := (show (jf_bw M gl) (i + 1) = jf_bst ((jf_bw M gl) i) ((i : Nat) : Int) (jf_wo p gl) (jf_A p) from by rw [hpp]; rfl).trans (if_pos (by rw [← hb, ← hbe]; omega))
          refine ih (i + 1) _ _ _ _ _ _ _ _ (by omega) (by omega) ?_ ?_ ?_
          · rw [e1]
          · rw [e1]
          · rw [e1]
        · refine hR _ (hR _ (hR _ (hR _ (hR _ (hR _ (?_))))))
          show R (61, [some (aR 8 0), some (aI gl), some (aI b), some (aL ab), none, some (aL be), none, some (aI ((i : Nat) : Int)), some (aL (-(jf_wo p gl))), none, o10], [aI (g163 454 0 0), aL ab, aL ((-(jf_wo p gl)) * be)], am_mix [37, 38] g164 (am_mix mo_SM g163 M))
          rw [(show g163 454 0 0 = jf_A p from hthA)]
          show R (61, [some (aR 8 0), some (aI gl), some (aI b), some (aL ab), none, some (aL be), none, some (aI ((i : Nat) : Int)), some (aL (-(jf_wo p gl))), none, o10], [aI (jf_A p), aL ab, aL ((-(jf_wo p gl)) * be)], am_mix [37, 38] g164 (am_mix mo_SM g163 M))
          refine hR _ ⟨(by omega), ?_⟩
          show R (62, [some (aR 8 0), some (aI gl), some (aI b), some (aL ab), none, some (aL be), none, some (aI ((i : Nat) : Int)), some (aL (-(jf_wo p gl))), none, o10], [aL (jf_A p), aL ab, aL ((-(jf_wo p gl)) * be)], am_mix [37, 38] g164 (am_mix mo_SM g163 M))
          refine hR _ (?_)
          show R (63, [some (aR 8 0), some (aI gl), some (aI b), some (aL ab), none, some (aL be), none, some (aI ((i : Nat) : Int)), some (aL (-(jf_wo p gl))), none, o10], [aL (ab * (jf_A p)), aL ((-(jf_wo p gl)) * be)], am_mix [37, 38] g164 (am_mix mo_SM g163 M))
          refine am_lc (x := ((-(jf_wo p gl)) * be)) (y := (ab * (jf_A p))) (P := (ab * (jf_A p)) ≤ ((-(jf_wo p gl)) * be)) (A := R (71, [some (aR 8 0), some (aI gl), some (aI b), some (aL ab), none, some (aL be), none, some (aI ((i : Nat) : Int)), some (aL (-(jf_wo p gl))), none, o10], [], am_mix [37, 38] g164 (am_mix mo_SM g163 M))) (B := R (67, [some (aR 8 0), some (aI gl), some (aI b), some (aL ab), none, some (aL be), none, some (aI ((i : Nat) : Int)), some (aL (-(jf_wo p gl))), none, o10], [], am_mix [37, 38] g164 (am_mix mo_SM g163 M))) (by omega) (fun hA hB => hR _ ⟨(by omega), (fun hz => hR _ (am_brf (P := 0 ≤ (-1 : Int)) (A := R (71, [some (aR 8 0), some (aI gl), some (aI b), some (aL ab), none, some (aL be), none, some (aI ((i : Nat) : Int)), some (aL (-(jf_wo p gl))), none, o10], [], am_mix [37, 38] g164 (am_mix mo_SM g163 M))) (B := R (67, [some (aR 8 0), some (aI gl), some (aI b), some (aL ab), none, some (aL be), none, some (aI ((i : Nat) : Int)), some (aL (-(jf_wo p gl))), none, o10], [], am_mix [37, 38] g164 (am_mix mo_SM g163 M))) (by omega) (by omega) (hB (by omega)))), (fun hz => hR _ (am_brt (P := 0 ≤ (0 : Int)) (A := R (71, [some (aR 8 0), some (aI gl), some (aI b), some (aL ab), none, some (aL be), none, some (aI ((i : Nat) : Int)), some (aL (-(jf_wo p gl))), none, o10], [], am_mix [37, 38] g164 (am_mix mo_SM g163 M))) (B := R (67, [some (aR 8 0), some (aI gl), some (aI b), some (aL ab), none, some (aL be), none, some (aI ((i : Nat) : Int)), some (aL (-(jf_wo p gl))), none, o10], [], am_mix [37, 38] g164 (am_mix mo_SM g163 M))) (by omega) (by omega) (hA (by omega)))), (fun hz => hR _ (am_brt (P := 0 ≤ (1 : Int)) (A := R (71, [some (aR 8 0), some (aI gl), some (aI b), some (aL ab), none, some (aL be), none, some (aI ((i : Nat) : Int)), some (aL (-(jf_wo p gl))), none, o10], [], am_mix [37, 38] g164 (am_mix mo_SM g163 M))) (B := R (67, [some (aR 8 0), some (aI gl), some (aI b), some (aL ab), none, some (aL be), none, some (aI ((i : Nat) : Int)), some (aL (-(jf_wo p gl))), none, o10], [], am_mix [37, 38] g164 (am_mix mo_SM g163 M))) (by omega) (by omega) (hA (by omega))))⟩) (fun c63 => ?_) (fun c63 => ?_)
          · refine hR _ (hR _ (hR _ (hR _ (am_brt (rg := am_in 0) (P := (0 : Int) = 0) (A := R (84, [some (aR 8 0), some (aI gl), some (aI b), some (aL ab), none, some (aL be), none, some (aI ((i : Nat) : Int)), some (aL (-(jf_wo p gl))), none, some (aI 0)], [], am_mix [37, 38] g164 (am_mix mo_SM g163 M))) (B := R (79, [some (aR 8 0), some (aI gl), some (aI b), some (aL ab), none, some (aL be), none, some (aI ((i : Nat) : Int)), some (aL (-(jf_wo p gl))), none, some (aI 0)], [], am_mix [37, 38] g164 (am_mix mo_SM g163 M))) (by omega) (by omega) ?_))))
            show R (84, [some (aR 8 0), some (aI gl), some (aI b), some (aL ab), none, some (aL be), none, some (aI ((i : Nat) : Int)), some (aL (-(jf_wo p gl))), none, some (aI 0)], [], am_mix [37, 38] g164 (am_mix mo_SM g163 M))
            refine hR _ (hR _ (hR _ (hR _ (am_brt (rg := am_in 0) (P := (0 : Int) = 0) (A := R (96, [some (aR 8 0), some (aI gl), some (aI b), some (aL ab), none, some (aL be), none, some (aI ((i : Nat) : Int)), some (aL (-(jf_wo p gl))), none, some (aI 0)], [], am_mix [37, 38] g164 (am_mix mo_SM g163 M))) (B := R (91, [some (aR 8 0), some (aI gl), some (aI b), some (aL ab), none, some (aL be), none, some (aI ((i : Nat) : Int)), some (aL (-(jf_wo p gl))), none, some (aI 0)], [], am_mix [37, 38] g164 (am_mix mo_SM g163 M))) (by omega) (by omega) ?_))))
            show R (96, [some (aR 8 0), some (aI gl), some (aI b), some (aL ab), none, some (aL be), none, some (aI ((i : Nat) : Int)), some (aL (-(jf_wo p gl))), none, some (aI 0)], [], am_mix [37, 38] g164 (am_mix mo_SM g163 M))
            refine hR _ (hR _ (hR _ (hR _ (am_brt (rg := am_in 0) (P := (0 : Int) = 0) (A := R (111, [some (aR 8 0), some (aI gl), some (aI b), some (aL ab), none, some (aL be), none, some (aI ((i : Nat) : Int)), some (aL (-(jf_wo p gl))), none, some (aI 0)], [], am_mix [37, 38] g164 (am_mix mo_SM g163 M))) (B := R (103, [some (aR 8 0), some (aI gl), some (aI b), some (aL ab), none, some (aL be), none, some (aI ((i : Nat) : Int)), some (aL (-(jf_wo p gl))), none, some (aI 0)], [], am_mix [37, 38] g164 (am_mix mo_SM g163 M))) (by omega) (by omega) ?_))))
            show R (111, [some (aR 8 0), some (aI gl), some (aI b), some (aL ab), none, some (aL be), none, some (aI ((i : Nat) : Int)), some (aL (-(jf_wo p gl))), none, some (aI 0)], [], am_mix [37, 38] g164 (am_mix mo_SM g163 M))
            refine hR _ (hR _ (hR _ (hR _ (?_))))
            show R (22, [some (aR 8 0), some (aI gl), some (aI b), some (aL ab), none, some (aL be), none, some (aI (((i : Nat) : Int) + 1)), some (aL (-(jf_wo p gl))), none, some (aI 0)], [], am_mix [37, 38] g164 (am_mix mo_SM g163 M))
            have e9 : am_ag mo_SM M (am_mix [37, 38] g164 (am_mix mo_SM g163 M)) := ((am_ag.rf).mix rfl).mix rfl
            rw [e9.eq]
            have e1 : (jf_bw M gl) (i + 1) = (jf_bw M gl) i := (show (jf_bw M gl) (i + 1) = jf_bst ((jf_bw M gl) i) ((i : Nat) : Int) (jf_wo p gl) (jf_A p) from by rw [hpp]; rfl).trans (if_neg (by rw [← hb, ← hbe]; omega))
            refine ih (i + 1) _ _ _ _ _ _ _ _ (by omega) (by omega) ?_ ?_ ?_
            · rw [e1]
              exact hb
            · rw [e1]
              exact hab
            · rw [e1]
              exact hbe
          · refine hR _ (hR _ (hR _ (hR _ (hR _ (am_brf (rg := am_in 1) (P := (1 : Int) = 0) (A := R (84, [some (aR 8 0), some (aI gl), some (aI b), some (aL ab), none, some (aL be), none, some (aI ((i : Nat) : Int)), some (aL (-(jf_wo p gl))), none, some (aI 1)], [], am_mix [37, 38] g164 (am_mix mo_SM g163 M))) (B := R (79, [some (aR 8 0), some (aI gl), some (aI b), some (aL ab), none, some (aL be), none, some (aI ((i : Nat) : Int)), some (aL (-(jf_wo p gl))), none, some (aI 1)], [], am_mix [37, 38] g164 (am_mix mo_SM g163 M))) (by omega) (by omega) ?_)))))
            show R (79, [some (aR 8 0), some (aI gl), some (aI b), some (aL ab), none, some (aL be), none, some (aI ((i : Nat) : Int)), some (aL (-(jf_wo p gl))), none, some (aI 1)], [], am_mix [37, 38] g164 (am_mix mo_SM g163 M))
            refine hR _ (hR _ (hR _ (hR _ (hR _ (am_brf (rg := am_in 1) (P := (1 : Int) = 0) (A := R (96, [some (aR 8 0), some (aI gl), some (aI ((i : Nat) : Int)), some (aL ab), none, some (aL be), none, some (aI ((i : Nat) : Int)), some (aL (-(jf_wo p gl))), none, some (aI 1)], [], am_mix [37, 38] g164 (am_mix mo_SM g163 M))) (B := R (91, [some (aR 8 0), some (aI gl), some (aI ((i : Nat) : Int)), some (aL ab), none, some (aL be), none, some (aI ((i : Nat) : Int)), some (aL (-(jf_wo p gl))), none, some (aI 1)], [], am_mix [37, 38] g164 (am_mix mo_SM g163 M))) (by omega) (by omega) ?_)))))
            show R (91, [some (aR 8 0), some (aI gl), some (aI ((i : Nat) : Int)), some (aL ab), none, some (aL be), none, some (aI ((i : Nat) : Int)), some (aL (-(jf_wo p gl))), none, some (aI 1)], [], am_mix [37, 38] g164 (am_mix mo_SM g163 M))
            refine hR _ (hR _ (hR _ (hR _ (hR _ (am_brf (rg := am_in 1) (P := (1 : Int) = 0) (A := R (111, [some (aR 8 0), some (aI gl), some (aI ((i : Nat) : Int)), some (aL (-(jf_wo p gl))), none, some (aL be), none, some (aI ((i : Nat) : Int)), some (aL (-(jf_wo p gl))), none, some (aI 1)], [], am_mix [37, 38] g164 (am_mix mo_SM g163 M))) (B := R (103, [some (aR 8 0), some (aI gl), some (aI ((i : Nat) : Int)), some (aL (-(jf_wo p gl))), none, some (aL be), none, some (aI ((i : Nat) : Int)), some (aL (-(jf_wo p gl))), none, some (aI 1)], [], am_mix [37, 38] g164 (am_mix mo_SM g163 M))) (by omega) (by omega) ?_)))))
            show R (103, [some (aR 8 0), some (aI gl), some (aI ((i : Nat) : Int)), some (aL (-(jf_wo p gl))), none, some (aL be), none, some (aI ((i : Nat) : Int)), some (aL (-(jf_wo p gl))), none, some (aI 1)], [], am_mix [37, 38] g164 (am_mix mo_SM g163 M))
            refine hR _ (hR _ (?_))
            show R (107, [some (aR 8 0), some (aI gl), some (aI ((i : Nat) : Int)), some (aL (-(jf_wo p gl))), none, some (aL be), none, some (aI ((i : Nat) : Int)), some (aL (-(jf_wo p gl))), none, some (aI 1)], [aI (g163 454 0 0)], am_mix [37, 38] g164 (am_mix mo_SM g163 M))
            rw [(show g163 454 0 0 = jf_A p from hthA)]
            show R (107, [some (aR 8 0), some (aI gl), some (aI ((i : Nat) : Int)), some (aL (-(jf_wo p gl))), none, some (aL be), none, some (aI ((i : Nat) : Int)), some (aL (-(jf_wo p gl))), none, some (aI 1)], [aI (jf_A p)], am_mix [37, 38] g164 (am_mix mo_SM g163 M))
            refine hR _ ⟨(by omega), ?_⟩
            show R (108, [some (aR 8 0), some (aI gl), some (aI ((i : Nat) : Int)), some (aL (-(jf_wo p gl))), none, some (aL be), none, some (aI ((i : Nat) : Int)), some (aL (-(jf_wo p gl))), none, some (aI 1)], [aL (jf_A p)], am_mix [37, 38] g164 (am_mix mo_SM g163 M))
            refine hR _ (hR _ (hR _ (hR _ (?_))))
            show R (22, [some (aR 8 0), some (aI gl), some (aI ((i : Nat) : Int)), some (aL (-(jf_wo p gl))), none, some (aL (jf_A p)), none, some (aI (((i : Nat) : Int) + 1)), some (aL (-(jf_wo p gl))), none, some (aI 1)], [], am_mix [37, 38] g164 (am_mix mo_SM g163 M))
            have e9 : am_ag mo_SM M (am_mix [37, 38] g164 (am_mix mo_SM g163 M)) := ((am_ag.rf).mix rfl).mix rfl
            rw [e9.eq]
            have e1 : (jf_bw M gl) (i + 1) = (((i : Nat) : Int), (jf_wo p gl), (jf_A p)) := (show (jf_bw M gl) (i + 1) = jf_bst ((jf_bw M gl) i) ((i : Nat) : Int) (jf_wo p gl) (jf_A p) from by rw [hpp]; rfl).trans (if_pos (by rw [← hb, ← hbe]; omega))
            refine ih (i + 1) _ _ _ _ _ _ _ _ (by omega) (by omega) ?_ ?_ ?_
            · rw [e1]
            · rw [e1]
            · rw [e1]
    have e9 : am_ag mo_SM M M := am_ag.rf
    rw [e9.eq]
    exact key (M 227 0 0).toNat 0 _ _ _ _ _ _ _ _ rfl (show ((0 : Nat) : Int) + (((M 227 0 0).toNat : Nat) : Int) = M 227 0 0 by omega) rfl rfl rfl
  · show R (6, [some (aR 8 0), some (aI gl), none, none, none, none, none, none, none, none, none], [aI 0], M)
    refine hR _ (am_brf (rg := am_in 0) (P := (0 : Int) ≠ 0) (A := R (12, [some (aR 8 0), some (aI gl), none, none, none, none, none, none, none, none, none], [], M)) (B := R (9, [some (aR 8 0), some (aI gl), none, none, none, none, none, none, none, none, none], [], M)) (by omega) (by omega) ?_)
    show R (9, [some (aR 8 0), some (aI gl), none, none, none, none, none, none, none, none, none], [], M)
    refine hR _ (?_)
    show R (11, [some (aR 8 0), some (aI gl), none, none, none, none, none, none, none, none, none], [aI (-2)], M)
    refine hR _ (show K (some (aI (-2))) M from ?_)
    have hres : jx_who M gl = (-2) := by
      unfold jx_who
      repeat' split
      all_goals first | omega | rfl | exact jf_il_no (by omega)
    rw [hres] at hK
    have e9 : am_ag mo_SM M M := am_ag.rf
    rw [e9.eq]
    exact hK _

theorem sm_both {d : Nat} (hd : 3 ≤ d) {e b : Int} {M : am_M} {K : am_K} (hJ : jf_J M) (hW : jf_C M) (ha_e : am_in e) (ha_b : am_in b) (hK : ∀ g, K (some (aI (jx_bo M e b))) (am_mix mo_SM g M)) : am_Call true d 176 [aR 8 0, aI e, aI b] M K := by
  obtain ⟨d, rfl⟩ : ∃ e, d = e + 1 := ⟨d - 1, by omega⟩
  refine ⟨rfl, fun R hR hC => ?_⟩
  replace hR : ∀ c, am_F true tb_f176 1 (am_Call true d) K R c → R c := hR
  have hn := hJ.1.1.2.2.2.2.2.2.2.1
  have hl0 := hJ.1.1.2.2.2.2.2.2.2.2
  have htc := hJ.2.2.1.1
  have hlt : 0 ≤ M 228 0 0 ∧ M 228 0 0 < 6 := by omega
  have hmk := hJ.1.1.1
  have hdr := hJ.1.1.2.1
  have hpr := hJ.1.1.2.2.1
  have hfu := hJ.1.1.2.2.2.1
  have hn' : 0 ≤ M 421 0 0 ∧ M 421 0 0 ≤ 5 := by rw [hW.1.2.1.1]; exact hn
  have h421 : M 421 0 0 = M 227 0 0 := hW.1.2.1.1
  show R (0, [some (aR 8 0), some (aI e), some (aI b), none], [], M)
  refine hR _ (hR _ (hR _ (?_)))
  show R (5, [some (aR 8 0), some (aI e), some (aI b), none], [aI 5000, aI 0, aI e], M)
  refine hR _ (sp_in (by omega) (by omega) (fun h5 => ?_) (fun h5 => ?_))
  · show R (8, [some (aR 8 0), some (aI e), some (aI b), none], [aI 1], M)
    refine hR _ (am_brf (rg := am_in 1) (P := (1 : Int) = 0) (A := R (21, [some (aR 8 0), some (aI e), some (aI b), none], [], M)) (B := R (11, [some (aR 8 0), some (aI e), some (aI b), none], [], M)) (by omega) (by omega) ?_)
    show R (11, [some (aR 8 0), some (aI e), some (aI b), none], [], M)
    refine hR _ (hR _ (hR _ (?_)))
    show R (15, [some (aR 8 0), some (aI e), some (aI b), none], [aI 100, aI 1, aI b], M)
    refine hR _ (sp_in (by omega) (by omega) (fun h15 => ?_) (fun h15 => ?_))
    · show R (18, [some (aR 8 0), some (aI e), some (aI b), none], [aI 1], M)
      refine hR _ (am_brt (rg := am_in 1) (P := (1 : Int) ≠ 0) (A := R (24, [some (aR 8 0), some (aI e), some (aI b), none], [], M)) (B := R (21, [some (aR 8 0), some (aI e), some (aI b), none], [], M)) (by omega) (by omega) ?_)
      show R (24, [some (aR 8 0), some (aI e), some (aI b), none], [], M)
      refine hR _ (hR _ (?_))
      show R (26, [some (aR 8 0), some (aI e), some (aI b), some (aI e)], [], M)
      have key : ∀ (f : Nat) (x : Int), x + f = e + 1001 → e ≤ x → jx_bo M e b = jf_bo b (M 222 0 0) f x → R (26, [some (aR 8 0), some (aI e), some (aI b), some (aI x)], [], M) := by
        intro f
        induction f with
        | zero =>
          intro x hin hex hx
          refine hR _ (hR _ (hR _ (hR _ (hR _ (am_brt (rg := am_in x ∧ am_in (e + 1000)) (P := (e + 1000) < x) (A := R (62, [some (aR 8 0), some (aI e), some (aI b), some (aI x)], [], M)) (B := R (35, [some (aR 8 0), some (aI e), some (aI b), some (aI x)], [], M)) (by omega) (by omega) ?_)))))
          show R (62, [some (aR 8 0), some (aI e), some (aI b), some (aI x)], [], M)
          refine hR _ (?_)
          show R (63, [some (aR 8 0), some (aI e), some (aI b), some (aI x)], [aI (-1)], M)
          refine hR _ (show K (some (aI (-1))) M from ?_)
          rw [hx] at hK
          have e9 : am_ag mo_SM M M := am_ag.rf
          rw [e9.eq]
          exact hK _
        | succ f ih =>
          intro x hin hex hx
          have t1 : 0 ≤ Int.tmod x b ∧ Int.tmod x b < b := by
            rw [jf_tm _ _ (by omega)]
            exact ⟨Int.emod_nonneg _ (by omega), Int.emod_lt_of_pos _ (by omega)⟩
          have t2 : 0 ≤ Int.tmod (4 * x) (M 222 0 0) ∧ Int.tmod (4 * x) (M 222 0 0) < M 222 0 0 := by
            rw [jf_tm _ _ (by omega)]
            exact ⟨Int.emod_nonneg _ (by omega), Int.emod_lt_of_pos _ (by omega)⟩
          refine hR _ (hR _ (hR _ (hR _ (hR _ (am_brf (rg := am_in x ∧ am_in (e + 1000)) (P := (e + 1000) < x) (A := R (62, [some (aR 8 0), some (aI e), some (aI b), some (aI x)], [], M)) (B := R (35, [some (aR 8 0), some (aI e), some (aI b), some (aI x)], [], M)) (by omega) (by omega) ?_)))))
          show R (35, [some (aR 8 0), some (aI e), some (aI b), some (aI x)], [], M)
          refine hR _ (hR _ (?_))
          show R (37, [some (aR 8 0), some (aI e), some (aI b), some (aI x)], [aI b, aI x], M)
          refine hR _ ⟨(by omega), ?_⟩
          show R (38, [some (aR 8 0), some (aI e), some (aI b), some (aI x)], [aI (Int.tmod x b)], M)
          refine hR _ (am_brc (rg := am_in (Int.tmod x b)) (P := (Int.tmod x b) ≠ 0) (A := R (56, [some (aR 8 0), some (aI e), some (aI b), some (aI x)], [], M)) (B := R (41, [some (aR 8 0), some (aI e), some (aI b), some (aI x)], [], M)) (by omega) (fun c38 => ?_) (fun c38 => ?_))
          · refine hR _ (hR _ (?_))
            show R (26, [some (aR 8 0), some (aI e), some (aI b), some (aI (x + 1))], [], M)
            rw [jf_bo, if_neg (by omega)] at hx
            exact ih _ (by omega) (by omega) hx
          · refine hR _ (hR _ (hR _ (hR _ (hR _ (hR _ (?_))))))
            show R (49, [some (aR 8 0), some (aI e), some (aI b), some (aI x)], [aI 2, aR 22 0, aI (4 * x)], M)
            refine hR _ ⟨(show 0 ≤ (2 : Int) ∧ (2 : Int) < 4 from (by omega)), ?_⟩
            show R (50, [some (aR 8 0), some (aI e), some (aI b), some (aI x)], [aI (M 22 0 2), aI (4 * x)], M)
            rw [(show M 22 0 2 = M 222 0 0 from hW.1.1.2.2.1)]
            show R (50, [some (aR 8 0), some (aI e), some (aI b), some (aI x)], [aI (M 222 0 0), aI (4 * x)], M)
            refine hR _ ⟨(by omega), ?_⟩
            show R (51, [some (aR 8 0), some (aI e), some (aI b), some (aI x)], [aI (Int.tmod (4 * x) (M 222 0 0))], M)
            refine hR _ (am_brc (rg := am_in (Int.tmod (4 * x) (M 222 0 0))) (P := (Int.tmod (4 * x) (M 222 0 0)) ≠ 0) (A := R (56, [some (aR 8 0), some (aI e), some (aI b), some (aI x)], [], M)) (B := R (54, [some (aR 8 0), some (aI e), some (aI b), some (aI x)], [], M)) (by omega) (fun c51 => ?_) (fun c51 => ?_))
            · refine hR _ (hR _ (?_))
              show R (26, [some (aR 8 0), some (aI e), some (aI b), some (aI (x + 1))], [], M)
              rw [jf_bo, if_neg (by omega)] at hx
              exact ih _ (by omega) (by omega) hx
            · refine hR _ (?_)
              show R (55, [some (aR 8 0), some (aI e), some (aI b), some (aI x)], [aI x], M)
              refine hR _ (show K (some (aI x)) M from ?_)
              rw [hx, jf_bo, if_pos ⟨by omega, by omega⟩] at hK
              have e9 : am_ag mo_SM M M := am_ag.rf
              rw [e9.eq]
              exact hK _
      exact key 1001 _ (by omega) (by omega) (by unfold jx_bo; rw [if_pos (by omega)])
    · show R (18, [some (aR 8 0), some (aI e), some (aI b), none], [aI 0], M)
      refine hR _ (am_brf (rg := am_in 0) (P := (0 : Int) ≠ 0) (A := R (24, [some (aR 8 0), some (aI e), some (aI b), none], [], M)) (B := R (21, [some (aR 8 0), some (aI e), some (aI b), none], [], M)) (by omega) (by omega) ?_)
      show R (21, [some (aR 8 0), some (aI e), some (aI b), none], [], M)
      refine hR _ (?_)
      show R (23, [some (aR 8 0), some (aI e), some (aI b), none], [aI (-2)], M)
      refine hR _ (show K (some (aI (-2))) M from ?_)
      have hres : jx_bo M e b = -2 := by
        unfold jx_bo
        rw [if_neg (by omega)]
      rw [hres] at hK
      have e9 : am_ag mo_SM M M := am_ag.rf
      rw [e9.eq]
      exact hK _
  · show R (8, [some (aR 8 0), some (aI e), some (aI b), none], [aI 0], M)
    refine hR _ (am_brt (rg := am_in 0) (P := (0 : Int) = 0) (A := R (21, [some (aR 8 0), some (aI e), some (aI b), none], [], M)) (B := R (11, [some (aR 8 0), some (aI e), some (aI b), none], [], M)) (by omega) (by omega) ?_)
    show R (21, [some (aR 8 0), some (aI e), some (aI b), none], [], M)
    refine hR _ (?_)
    show R (23, [some (aR 8 0), some (aI e), some (aI b), none], [aI (-2)], M)
    refine hR _ (show K (some (aI (-2))) M from ?_)
    have hres : jx_bo M e b = -2 := by
      unfold jx_bo
      rw [if_neg (by omega)]
    rw [hres] at hK
    have e9 : am_ag mo_SM M M := am_ag.rf
    rw [e9.eq]
    exact hK _

set_option maxHeartbeats 1000000 in
theorem sm_on {d : Nat} (hd : 9 ≤ d) {h e q : Int} {M : am_M} {K : am_K} (hJ : jf_J M) (hW : jf_C M) (ha_h : am_in h) (ha_e : am_in e) (ha_q : am_in q) (hK : ∀ g, K (some (aL (jx_on M h e q))) (am_mix mo_SM g M)) : am_Call true d 174 [aR 8 0, aI h, aI e, aI q] M K := by
  obtain ⟨d, rfl⟩ : ∃ e, d = e + 1 := ⟨d - 1, by omega⟩
  refine ⟨rfl, fun R hR hC => ?_⟩
  replace hR : ∀ c, am_F true tb_f174 5 (am_Call true d) K R c → R c := hR
  have hn := hJ.1.1.2.2.2.2.2.2.2.1
  have hl0 := hJ.1.1.2.2.2.2.2.2.2.2
  have htc := hJ.2.2.1.1
  have hlt : 0 ≤ M 228 0 0 ∧ M 228 0 0 < 6 := by omega
  have hmk := hJ.1.1.1
  have hdr := hJ.1.1.2.1
  have hpr := hJ.1.1.2.2.1
  have hfu := hJ.1.1.2.2.2.1
  have hn' : 0 ≤ M 421 0 0 ∧ M 421 0 0 ≤ 5 := by rw [hW.1.2.1.1]; exact hn
  have h421 : M 421 0 0 = M 227 0 0 := hW.1.2.1.1
  show R (0, [some (aR 8 0), some (aI h), some (aI e), some (aI q), none], [], M)
  rcases jf_hd (M := M) (h := h) hn with ⟨k, rfl, hk5, hk⟩ | hno
  · by_cases he : 0 ≤ e ∧ e ≤ 5000
    · obtain ⟨r, hrr⟩ : ∃ r, r = (M 228 0 0).toNat := ⟨_, rfl⟩
      have hr : M 431 0 0 = (r : Int) := by rw [hW.1.2.1.2.2.1]; omega
      have hr6 : r < 6 := by omega
      have hwt : mo_wt M r := (hW.2.1.2.2 r (by omega)).1
      have hmkb : 1 ≤ (Int.tdiv e 100 + 1) * 100 ∧ (Int.tdiv e 100 + 1) * 100 ≤ 5100 := by
        rw [jf_td e 100 he.1]
        omega
      have hdv := jf_td e 100 he.1
      obtain ⟨p, hpp⟩ : ∃ p, p = jf_po M k e := ⟨_, rfl⟩
      have hp : mo_p M k r p := by rw [hpp, hrr]; exact jf_C.p hJ hW hk (by omega)
      have hok : jf_ok p := by rw [hpp]; exact hJ.ok hk hmkb he
      have hpm : p.mk = (Int.tdiv e 100 + 1) * 100 := by rw [hpp]; rfl
      have hps : p.st = e := by rw [hpp]; rfl
      have hA := jf_A_b hok
      show R (0, [some (aR 8 0), some (aI ((k : Nat) : Int)), some (aI e), some (aI q), none], [], M)
      refine hR _ (hR _ (?_))
      show R (2, [some (aR 8 0), some (aI ((k : Nat) : Int)), some (aI e), some (aI q), none], [aI ((k : Nat) : Int), aR 8 0], M)
      refine hR _ (sm_isHand (by omega) (show 0 ≤ M 421 0 0 ∧ M 421 0 0 ≤ 5 from hn') (by omega) (fun _ => ?_) (fun hz => absurd (show 0 ≤ ((k : Nat) : Int) ∧ ((k : Nat) : Int) < M 421 0 0 by omega) hz))
      show R (5, [some (aR 8 0), some (aI ((k : Nat) : Int)), some (aI e), some (aI q), none], [aI 1], M)
      refine hR _ (am_brf (rg := am_in 1) (P := (1 : Int) = 0) (A := R (28, [some (aR 8 0), some (aI ((k : Nat) : Int)), some (aI e), some (aI q), none], [], M)) (B := R (8, [some (aR 8 0), some (aI ((k : Nat) : Int)), some (aI e), some (aI q), none], [], M)) (by omega) (by omega) ?_)
      show R (8, [some (aR 8 0), some (aI ((k : Nat) : Int)), some (aI e), some (aI q), none], [], M)
      refine hR _ (hR _ (hR _ (?_)))
      show R (13, [some (aR 8 0), some (aI ((k : Nat) : Int)), some (aI e), some (aI q), none], [aI 5000, aI 0, aI e], M)
      refine hR _ (sp_in (by omega) (by omega) (fun h13 => ?_) (fun h13 => ?_))
      · show R (16, [some (aR 8 0), some (aI ((k : Nat) : Int)), some (aI e), some (aI q), none], [aI 1], M)
        refine hR _ (am_brf (rg := am_in 1) (P := (1 : Int) = 0) (A := R (28, [some (aR 8 0), some (aI ((k : Nat) : Int)), some (aI e), some (aI q), none], [], M)) (B := R (19, [some (aR 8 0), some (aI ((k : Nat) : Int)), some (aI e), some (aI q), none], [], M)) (by omega) (by omega) ?_)
        show R (19, [some (aR 8 0), some (aI ((k : Nat) : Int)), some (aI e), some (aI q), none], [], M)
        refine hR _ (hR _ (hR _ (?_)))
        show R (22, [some (aR 8 0), some (aI ((k : Nat) : Int)), some (aI e), some (aI q), none], [aI 1, aI 0, aI q], M)
        refine hR _ (sp_in (by omega) (by omega) (fun h22 => ?_) (fun h22 => ?_))
        · show R (25, [some (aR 8 0), some (aI ((k : Nat) : Int)), some (aI e), some (aI q), none], [aI 1], M)
          refine hR _ (am_brt (rg := am_in 1) (P := (1 : Int) ≠ 0) (A := R (32, [some (aR 8 0), some (aI ((k : Nat) : Int)), some (aI e), some (aI q), none], [], M)) (B := R (28, [some (aR 8 0), some (aI ((k : Nat) : Int)), some (aI e), some (aI q), none], [], M)) (by omega) (by omega) ?_)
          show R (32, [some (aR 8 0), some (aI ((k : Nat) : Int)), some (aI e), some (aI q), none], [], M)
          refine hR _ (hR _ (?_))
          show R (35, [some (aR 8 0), some (aI ((k : Nat) : Int)), some (aI e), some (aI q), none], [aI 100, aI e], M)
          refine hR _ ⟨(by omega), ?_⟩
          show R (36, [some (aR 8 0), some (aI ((k : Nat) : Int)), some (aI e), some (aI q), none], [aI (Int.tdiv e 100)], M)
          refine hR _ (hR _ (hR _ (hR _ (hR _ (hR _ (hR _ (hR _ (hR _ (?_)))))))))
          show R (48, [some (aR 8 0), some (aI ((k : Nat) : Int)), some (aI e), some (aI q), some (aI (((Int.tdiv e 100) + 1) * 100))], [aI e, aI (((Int.tdiv e 100) + 1) * 100), aI ((k : Nat) : Int), aR 8 0], M)
          suffices hS : R (48, [some (aR 8 0), some (aI ((k : Nat) : Int)), some (aI e), some (aI q), some (aI (((Int.tdiv e 100) + 1) * 100))], [aI p.st, aI p.mk, aI ((k : Nat) : Int), aR 8 0], M) by
            rw [hpm, hps] at hS
            exact hS
          refine hR _ (sm_think2 (p := p) (r := r) (by omega) hk hr hr6 hwt hp hok (fun g165 hth => ?_))
          have hthr := hth.1
          have hthA := hth.2.1
          have hthN := hth.2.2
          show R (51, [some (aR 8 0), some (aI ((k : Nat) : Int)), some (aI e), some (aI q), some (aI (((Int.tdiv e 100) + 1) * 100))], [], am_mix mo_SM g165 M)
          refine hR _ (hR _ (hR _ (?_)))
          show R (55, [some (aR 8 0), some (aI ((k : Nat) : Int)), some (aI e), some (aI q), some (aI (((Int.tdiv e 100) + 1) * 100))], [aI (((Int.tdiv e 100) + 1) * 100), aI ((k : Nat) : Int), aR 8 0], am_mix mo_SM g165 M)
          refine hR _ (sm_costsBy (p := p) (r := r) (by omega) hk hr hr6 hwt hp hok hth (by omega) (fun g166 => ?_))
          have hcc55 := jf_cc_b hok (((Int.tdiv e 100) + 1) * 100)
          show R (58, [some (aR 8 0), some (aI ((k : Nat) : Int)), some (aI e), some (aI q), some (aI (((Int.tdiv e 100) + 1) * 100))], [aL (jf_cc p (((Int.tdiv e 100) + 1) * 100))], am_mix [37, 38] g166 (am_mix mo_SM g165 M))
          refine hR _ (hR _ (hR _ (hR _ (hR _ (hR _ (?_))))))
          show R (66, [some (aR 8 0), some (aI ((k : Nat) : Int)), some (aI e), some (aI q), some (aI (((Int.tdiv e 100) + 1) * 100))], [aI 0, aR 22 0, aI e, aI ((k : Nat) : Int), aR 8 0, aL (jf_cc p (((Int.tdiv e 100) + 1) * 100))], am_mix [37, 38] g166 (am_mix mo_SM g165 M))
          refine hR _ ⟨(show 0 ≤ (0 : Int) ∧ (0 : Int) < 4 from (by omega)), ?_⟩
          show R (67, [some (aR 8 0), some (aI ((k : Nat) : Int)), some (aI e), some (aI q), some (aI (((Int.tdiv e 100) + 1) * 100))], [aI (M 22 0 0), aI e, aI ((k : Nat) : Int), aR 8 0, aL (jf_cc p (((Int.tdiv e 100) + 1) * 100))], am_mix [37, 38] g166 (am_mix mo_SM g165 M))
          rw [(show M 22 0 0 = M 220 0 0 from hW.1.1.1)]
          show R (67, [some (aR 8 0), some (aI ((k : Nat) : Int)), some (aI e), some (aI q), some (aI (((Int.tdiv e 100) + 1) * 100))], [aI (M 220 0 0), aI e, aI ((k : Nat) : Int), aR 8 0, aL (jf_cc p (((Int.tdiv e 100) + 1) * 100))], am_mix [37, 38] g166 (am_mix mo_SM g165 M))
          refine hR _ (sm_costOf (p := p) (r := r) (by omega) hk hr hr6 hwt hp hok (by omega) (by omega) (fun g167 => ?_))
          have hco67 := jf_co_b p (M 220 0 0) e
          dsimp only
          rw [am_mix_sub (S := [37, 38]) (S2 := [37, 38]) rfl]
          show R (70, [some (aR 8 0), some (aI ((k : Nat) : Int)), some (aI e), some (aI q), some (aI (((Int.tdiv e 100) + 1) * 100))], [aI (jf_co p (M 220 0 0) e), aL (jf_cc p (((Int.tdiv e 100) + 1) * 100))], am_mix [37, 38] g167 (am_mix mo_SM g165 M))
          refine hR _ ⟨(by omega), ?_⟩
          show R (71, [some (aR 8 0), some (aI ((k : Nat) : Int)), some (aI e), some (aI q), some (aI (((Int.tdiv e 100) + 1) * 100))], [aL (jf_co p (M 220 0 0) e), aL (jf_cc p (((Int.tdiv e 100) + 1) * 100))], am_mix [37, 38] g167 (am_mix mo_SM g165 M))
          refine hR _ (hR _ (?_))
          show R (75, [some (aR 8 0), some (aI ((k : Nat) : Int)), some (aI e), some (aI q), some (aI (((Int.tdiv e 100) + 1) * 100))], [aI (g165 454 0 0), aL (jf_co p (M 220 0 0) e), aL (jf_cc p (((Int.tdiv e 100) + 1) * 100))], am_mix [37, 38] g167 (am_mix mo_SM g165 M))
          rw [(show g165 454 0 0 = jf_A p from hthA)]
          show R (75, [some (aR 8 0), some (aI ((k : Nat) : Int)), some (aI e), some (aI q), some (aI (((Int.tdiv e 100) + 1) * 100))], [aI (jf_A p), aL (jf_co p (M 220 0 0) e), aL (jf_cc p (((Int.tdiv e 100) + 1) * 100))], am_mix [37, 38] g167 (am_mix mo_SM g165 M))
          refine hR _ ⟨(by omega), ?_⟩
          show R (76, [some (aR 8 0), some (aI ((k : Nat) : Int)), some (aI e), some (aI q), some (aI (((Int.tdiv e 100) + 1) * 100))], [aL (jf_A p), aL (jf_co p (M 220 0 0) e), aL (jf_cc p (((Int.tdiv e 100) + 1) * 100))], am_mix [37, 38] g167 (am_mix mo_SM g165 M))
          refine hR _ (hR _ (hR _ (hR _ (?_))))
          show R (82, [some (aR 8 0), some (aI ((k : Nat) : Int)), some (aI e), some (aI q), some (aI (((Int.tdiv e 100) + 1) * 100))], [aI (g165 454 0 0), aL ((jf_cc p (((Int.tdiv e 100) + 1) * 100)) - ((jf_co p (M 220 0 0) e) * (jf_A p)))], am_mix [37, 38] g167 (am_mix mo_SM g165 M))
          rw [(show g165 454 0 0 = jf_A p from hthA)]
          show R (82, [some (aR 8 0), some (aI ((k : Nat) : Int)), some (aI e), some (aI q), some (aI (((Int.tdiv e 100) + 1) * 100))], [aI (jf_A p), aL ((jf_cc p (((Int.tdiv e 100) + 1) * 100)) - ((jf_co p (M 220 0 0) e) * (jf_A p)))], am_mix [37, 38] g167 (am_mix mo_SM g165 M))
          refine hR _ ⟨(by omega), ?_⟩
          show R (83, [some (aR 8 0), some (aI ((k : Nat) : Int)), some (aI e), some (aI q), some (aI (((Int.tdiv e 100) + 1) * 100))], [aL (jf_A p), aL ((jf_cc p (((Int.tdiv e 100) + 1) * 100)) - ((jf_co p (M 220 0 0) e) * (jf_A p)))], am_mix [37, 38] g167 (am_mix mo_SM g165 M))
          refine hR _ (?_)
          show R (84, [some (aR 8 0), some (aI ((k : Nat) : Int)), some (aI e), some (aI q), some (aI (((Int.tdiv e 100) + 1) * 100))], [aI q, aL (jf_A p), aL ((jf_cc p (((Int.tdiv e 100) + 1) * 100)) - ((jf_co p (M 220 0 0) e) * (jf_A p)))], am_mix [37, 38] g167 (am_mix mo_SM g165 M))
          have mb1 := jf_mb (a := jf_co p (M 220 0 0) e) (b := jf_A p) (A := 999) (B := 65) (by omega) (by omega)
          refine hR _ (sm_fraction (by omega) (by omega) (by omega) (by omega) ?_)
          show R (87, [some (aR 8 0), some (aI ((k : Nat) : Int)), some (aI e), some (aI q), some (aI (((Int.tdiv e 100) + 1) * 100))], [aL (jf_il ((jf_cc p (((Int.tdiv e 100) + 1) * 100)) - ((jf_co p (M 220 0 0) e) * (jf_A p))) (jf_A p) q)], am_mix [37, 38] g167 (am_mix mo_SM g165 M))
          refine hR _ (show K (some (aL (jf_il ((jf_cc p (((Int.tdiv e 100) + 1) * 100)) - ((jf_co p (M 220 0 0) e) * (jf_A p))) (jf_A p) q))) (am_mix [37, 38] g167 (am_mix mo_SM g165 M)) from ?_)
          have hres : jx_on M ((k : Nat) : Int) e q = (jf_il ((jf_cc p (((Int.tdiv e 100) + 1) * 100)) - ((jf_co p (M 220 0 0) e) * (jf_A p))) (jf_A p) q) := by
            rw [hpp]
            unfold jx_on
            rw [if_pos (show (0 ≤ ((k : Nat) : Int) ∧ ((k : Nat) : Int) < M 227 0 0) ∧ 0 ≤ e ∧ e ≤ 5000 by omega)]
            rfl
          rw [hres] at hK
          have e9 : am_ag mo_SM M (am_mix [37, 38] g167 (am_mix mo_SM g165 M)) := ((am_ag.rf).mix rfl).mix rfl
          rw [e9.eq]
          exact hK _
        · show R (25, [some (aR 8 0), some (aI ((k : Nat) : Int)), some (aI e), some (aI q), none], [aI 0], M)
          refine hR _ (am_brf (rg := am_in 0) (P := (0 : Int) ≠ 0) (A := R (32, [some (aR 8 0), some (aI ((k : Nat) : Int)), some (aI e), some (aI q), none], [], M)) (B := R (28, [some (aR 8 0), some (aI ((k : Nat) : Int)), some (aI e), some (aI q), none], [], M)) (by omega) (by omega) ?_)
          show R (28, [some (aR 8 0), some (aI ((k : Nat) : Int)), some (aI e), some (aI q), none], [], M)
          refine hR _ (?_)
          show R (31, [some (aR 8 0), some (aI ((k : Nat) : Int)), some (aI e), some (aI q), none], [aL (-4611686018427387904)], M)
          refine hR _ (show K (some (aL (-4611686018427387904))) M from ?_)
          have hres : jx_on M ((k : Nat) : Int) e q = (-4611686018427387904) := by
            unfold jx_on
            repeat' split
            all_goals first | omega | rfl | exact jf_il_no (by omega)
          rw [hres] at hK
          have e9 : am_ag mo_SM M M := am_ag.rf
          rw [e9.eq]
          exact hK _
      · show R (16, [some (aR 8 0), some (aI ((k : Nat) : Int)), some (aI e), some (aI q), none], [aI 0], M)
        refine hR _ (am_brt (rg := am_in 0) (P := (0 : Int) = 0) (A := R (28, [some (aR 8 0), some (aI ((k : Nat) : Int)), some (aI e), some (aI q), none], [], M)) (B := R (19, [some (aR 8 0), some (aI ((k : Nat) : Int)), some (aI e), some (aI q), none], [], M)) (by omega) (by omega) ?_)
        show R (28, [some (aR 8 0), some (aI ((k : Nat) : Int)), some (aI e), some (aI q), none], [], M)
        refine hR _ (?_)
        show R (31, [some (aR 8 0), some (aI ((k : Nat) : Int)), some (aI e), some (aI q), none], [aL (-4611686018427387904)], M)
        refine hR _ (show K (some (aL (-4611686018427387904))) M from ?_)
        have hres : jx_on M ((k : Nat) : Int) e q = (-4611686018427387904) := by
          unfold jx_on
          repeat' split
          all_goals first | omega | rfl | exact jf_il_no (by omega)
        rw [hres] at hK
        have e9 : am_ag mo_SM M M := am_ag.rf
        rw [e9.eq]
        exact hK _
    · obtain ⟨r, hrr⟩ : ∃ r, r = (M 228 0 0).toNat := ⟨_, rfl⟩
      have hr : M 431 0 0 = (r : Int) := by rw [hW.1.2.1.2.2.1]; omega
      have hr6 : r < 6 := by omega
      have hwt : mo_wt M r := (hW.2.1.2.2 r (by omega)).1
      show R (0, [some (aR 8 0), some (aI ((k : Nat) : Int)), some (aI e), some (aI q), none], [], M)
      refine hR _ (hR _ (?_))
      show R (2, [some (aR 8 0), some (aI ((k : Nat) : Int)), some (aI e), some (aI q), none], [aI ((k : Nat) : Int), aR 8 0], M)
      refine hR _ (sm_isHand (by omega) (show 0 ≤ M 421 0 0 ∧ M 421 0 0 ≤ 5 from hn') (by omega) (fun _ => ?_) (fun hz => absurd (show 0 ≤ ((k : Nat) : Int) ∧ ((k : Nat) : Int) < M 421 0 0 by omega) hz))
      show R (5, [some (aR 8 0), some (aI ((k : Nat) : Int)), some (aI e), some (aI q), none], [aI 1], M)
      refine hR _ (am_brf (rg := am_in 1) (P := (1 : Int) = 0) (A := R (28, [some (aR 8 0), some (aI ((k : Nat) : Int)), some (aI e), some (aI q), none], [], M)) (B := R (8, [some (aR 8 0), some (aI ((k : Nat) : Int)), some (aI e), some (aI q), none], [], M)) (by omega) (by omega) ?_)
      show R (8, [some (aR 8 0), some (aI ((k : Nat) : Int)), some (aI e), some (aI q), none], [], M)
      refine hR _ (hR _ (hR _ (?_)))
      show R (13, [some (aR 8 0), some (aI ((k : Nat) : Int)), some (aI e), some (aI q), none], [aI 5000, aI 0, aI e], M)
      refine hR _ (sp_in (by omega) (by omega) (fun hz => absurd hz he) (fun _ => ?_))
      show R (16, [some (aR 8 0), some (aI ((k : Nat) : Int)), some (aI e), some (aI q), none], [aI 0], M)
      refine hR _ (am_brt (rg := am_in 0) (P := (0 : Int) = 0) (A := R (28, [some (aR 8 0), some (aI ((k : Nat) : Int)), some (aI e), some (aI q), none], [], M)) (B := R (19, [some (aR 8 0), some (aI ((k : Nat) : Int)), some (aI e), some (aI q), none], [], M)) (by omega) (by omega) ?_)
      show R (28, [some (aR 8 0), some (aI ((k : Nat) : Int)), some (aI e), some (aI q), none], [], M)
      refine hR _ (?_)
      show R (31, [some (aR 8 0), some (aI ((k : Nat) : Int)), some (aI e), some (aI q), none], [aL (-4611686018427387904)], M)
      refine hR _ (show K (some (aL (-4611686018427387904))) M from ?_)
      have hres : jx_on M ((k : Nat) : Int) e q = (-4611686018427387904) := by
        unfold jx_on
        repeat' split
        all_goals first | omega | rfl | exact jf_il_no (by omega)
      rw [hres] at hK
      have e9 : am_ag mo_SM M M := am_ag.rf
      rw [e9.eq]
      exact hK _
  · show R (0, [some (aR 8 0), some (aI h), some (aI e), some (aI q), none], [], M)
    refine hR _ (hR _ (?_))
    show R (2, [some (aR 8 0), some (aI h), some (aI e), some (aI q), none], [aI h, aR 8 0], M)
    refine hR _ (sm_isHand (by omega) (show 0 ≤ M 421 0 0 ∧ M 421 0 0 ≤ 5 from hn') (by omega) (fun hz => absurd (show 0 ≤ h ∧ h < M 227 0 0 from ⟨hz.1, by rw [← h421]; exact hz.2⟩) hno) (fun _ => ?_))
    show R (5, [some (aR 8 0), some (aI h), some (aI e), some (aI q), none], [aI 0], M)
    refine hR _ (am_brt (rg := am_in 0) (P := (0 : Int) = 0) (A := R (28, [some (aR 8 0), some (aI h), some (aI e), some (aI q), none], [], M)) (B := R (8, [some (aR 8 0), some (aI h), some (aI e), some (aI q), none], [], M)) (by omega) (by omega) ?_)
    show R (28, [some (aR 8 0), some (aI h), some (aI e), some (aI q), none], [], M)
    refine hR _ (?_)
    show R (31, [some (aR 8 0), some (aI h), some (aI e), some (aI q), none], [aL (-4611686018427387904)], M)
    refine hR _ (show K (some (aL (-4611686018427387904))) M from ?_)
    have hres : jx_on M h e q = (-4611686018427387904) := by
      unfold jx_on
      repeat' split
      all_goals first | omega | rfl | exact jf_il_no (by omega)
    rw [hres] at hK
    have e9 : am_ag mo_SM M M := am_ag.rf
    rw [e9.eq]
    exact hK _
