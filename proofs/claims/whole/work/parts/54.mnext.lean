/-! wb -/
/-! THE REFERENCE: next, ahead, change -/
theorem am_el_cons {S : List Nat} {v w : Nat} (h1 : am_el S w = false) (h2 : w ≠ v) : am_el (v :: S) w = false := by
  show (bif Nat.beq v w then true else am_el S w) = false
  rw [h1]
  cases hb : Nat.beq v w with
  | false => rfl
  | true => exact absurd (Nat.eq_of_beq_eq_true hb).symm h2

set_option maxHeartbeats 1000000 in
theorem sm_nextOf {d : Nat} (hd : 9 ≤ d) {k : Nat} {M : am_M} {K : am_K} (hJ : jf_J M) (hW : jf_C M) (hk : k < 5) (hK : ∀ g, K (some (aI (jf_bn M k 10).1)) (am_mix mo_SM g M)) : am_Call true d 173 [aR 8 0, aI ((k : Nat) : Int)] M K := by
  obtain ⟨d, rfl⟩ : ∃ e, d = e + 1 := ⟨d - 1, by omega⟩
  refine ⟨rfl, fun R hR hC => ?_⟩
  replace hR : ∀ c, am_F true tb_f173 1 (am_Call true d) K R c → R c := hR
  have hn := hJ.1.1.2.2.2.2.2.2.2.1
  have hl0 := hJ.1.1.2.2.2.2.2.2.2.2
  have htc := hJ.2.2.1.1
  have hlt : 0 ≤ M 228 0 0 ∧ M 228 0 0 < 6 := by omega
  have hmk := hJ.1.1.1
  have hdr := hJ.1.1.2.1
  have hpr := hJ.1.1.2.2.1
  have hfu := hJ.1.1.2.2.2.1
  have hn' : 0 ≤ M 421 0 0 ∧ M 421 0 0 ≤ 5 := by rw [hW.1.2.1.1]; exact hn
  have h421 : M 421 0 0 = M 227 0 0 := hW.1.2.1.1
  obtain ⟨r, hrr⟩ : ∃ r, r = (M 228 0 0).toNat := ⟨_, rfl⟩
  have hr : M 431 0 0 = (r : Int) := by rw [hW.1.2.1.2.2.1]; omega
  have hr6 : r < 6 := by omega
  have hwt : mo_wt M r := (hW.2.1.2.2 r (by omega)).1
  show R (0, [some (aR 8 0), some (aI ((k : Nat) : Int)), none, none, none, none, none, none, none, none, none, none], [], M)
  refine hR _ (hR _ (hR _ (hR _ (hR _ (hR _ (hR _ (hR _ (?_))))))))
  show R (10, [some (aR 8 0), some (aI ((k : Nat) : Int)), some (aI (-1)), some (aL 0), none, some (aL 1), none, some (aI 0), none, none, none, none], [], M)
  have hoki : ∀ i : Nat, i < 10 → jf_ok (jf_pn M k i) := fun i hi => hJ.ok hk (by omega) (by omega)
  have hbnd : ∀ i : Nat, i < 10 → (-1 ≤ M 220 0 0 + 100 * (i : Int) ∧ M 220 0 0 + 100 * (i : Int) ≤ 2900) ∧ (-140010 ≤ -jf_cc (jf_pn M k i) (M 220 0 0 + 100 * (i : Int)) ∧ -jf_cc (jf_pn M k i) (M 220 0 0 + 100 * (i : Int)) ≤ 140010) ∧ 1 ≤ jf_A (jf_pn M k i) ∧ jf_A (jf_pn M k i) ≤ 65 := fun i hi => ⟨by omega, by have := jf_cc_b (hoki i hi) (M 220 0 0 + 100 * (i : Int)); omega, jf_A_b (hoki i hi)⟩
  have key : ∀ (f i : Nat) (x b ab be : Int) (o8 o9 o10 o11 : Option am_V) (g : am_M), x = (i : Int) → i + f = 10 → b = ((jf_bn M k) i).1 → ab = -((jf_bn M k) i).2.1 → be = ((jf_bn M k) i).2.2 → R (10, [some (aR 8 0), some (aI ((k : Nat) : Int)), some (aI b), some (aL ab), none, some (aL be), none, some (aI x), o8, o9, o10, o11], [], am_mix mo_SM g M) := by
    intro f
    induction f with
    | zero =>
      intro i x b ab be o8 o9 o10 o11 g hx hin hb hab hbe
      subst hx
      have hbp : jf_bp ((jf_bn M k) i) 140010 65 2900 := jf_best_b (by decide) (by decide) (by decide) hbnd i (by omega)
      obtain ⟨hbp1, hbp2, hbp3, hbp4⟩ := hbp
      rw [← hb] at hbp1
      rw [← hbe] at hbp3 hbp4
      refine hR _ (hR _ (hR _ (am_brt (rg := am_in ((i : Nat) : Int) ∧ am_in 10) (P := 10 ≤ ((i : Nat) : Int)) (A := R (123, [some (aR 8 0), some (aI ((k : Nat) : Int)), some (aI b), some (aL ab), none, some (aL be), none, some (aI ((i : Nat) : Int)), o8, o9, o10, o11], [], am_mix mo_SM g M)) (B := R (17, [some (aR 8 0), some (aI ((k : Nat) : Int)), some (aI b), some (aL ab), none, some (aL be), none, some (aI ((i : Nat) : Int)), o8, o9, o10, o11], [], am_mix mo_SM g M)) (by omega) (by omega) ?_)))
      show R (123, [some (aR 8 0), some (aI ((k : Nat) : Int)), some (aI b), some (aL ab), none, some (aL be), none, some (aI ((i : Nat) : Int)), o8, o9, o10, o11], [], am_mix mo_SM g M)
      refine hR _ (?_)
      show R (124, [some (aR 8 0), some (aI ((k : Nat) : Int)), some (aI b), some (aL ab), none, some (aL be), none, some (aI ((i : Nat) : Int)), o8, o9, o10, o11], [aI b], am_mix mo_SM g M)
      refine hR _ (show K (some (aI b)) (am_mix mo_SM g M) from ?_)
      rw [hb, show i = 10 by omega]
      exact hK _
    | succ f ih =>
      intro i x b ab be o8 o9 o10 o11 g hx hin hb hab hbe
      subst hx
      have hbp : jf_bp ((jf_bn M k) i) 140010 65 2900 := jf_best_b (by decide) (by decide) (by decide) hbnd i (by omega)
      obtain ⟨hbp1, hbp2, hbp3, hbp4⟩ := hbp
      rw [← hb] at hbp1
      rw [← hbe] at hbp3 hbp4
      obtain ⟨p, hpp⟩ : ∃ p, p = jf_pn M k i := ⟨_, rfl⟩
      have hp : mo_p M k r p := by rw [hpp, hrr]; exact jf_C.p hJ hW hk (by omega)
      have hok : jf_ok p := by rw [hpp]; exact hoki i (by omega)
      have hpm : p.mk = (M 220 0 0 + 100 * ((i : Nat) : Int)) := by rw [hpp]
      have hps : p.st = 0 := by rw [hpp]
      have hA := jf_A_b hok
      have hcc := jf_cc_b hok (M 220 0 0 + 100 * ((i : Nat) : Int))
      have em0 := Int.neg_mul (jf_cc p (M 220 0 0 + 100 * ((i : Nat) : Int))) be
      have em2 : ab * (jf_A p) = -(((jf_bn M k) i).2.1 * (jf_A p)) := by rw [hab]; exact Int.neg_mul _ _
      have mb1 := jf_mb (a := (-jf_cc p (M 220 0 0 + 100 * ((i : Nat) : Int)))) (b := be) (A := 140010) (B := 65) (by omega) (by omega)
      have mb2 := jf_mb (a := ((jf_bn M k) i).2.1) (b := (jf_A p)) (A := 140010) (B := 65) (by omega) (by omega)
      refine hR _ (hR _ (hR _ (am_brf (rg := am_in ((i : Nat) : Int) ∧ am_in 10) (P := 10 ≤ ((i : Nat) : Int)) (A := R (123, [some (aR 8 0), some (aI ((k : Nat) : Int)), some (aI b), some (aL ab), none, some (aL be), none, some (aI ((i : Nat) : Int)), o8, o9, o10, o11], [], am_mix mo_SM g M)) (B := R (17, [some (aR 8 0), some (aI ((k : Nat) : Int)), some (aI b), some (aL ab), none, some (aL be), none, some (aI ((i : Nat) : Int)), o8, o9, o10, o11], [], am_mix mo_SM g M)) (by omega) (by omega) ?_)))
      show R (17, [some (aR 8 0), some (aI ((k : Nat) : Int)), some (aI b), some (aL ab), none, some (aL be), none, some (aI ((i : Nat) : Int)), o8, o9, o10, o11], [], am_mix mo_SM g M)
      refine hR _ (hR _ (hR _ (?_)))
      show R (22, [some (aR 8 0), some (aI ((k : Nat) : Int)), some (aI b), some (aL ab), none, some (aL be), none, some (aI ((i : Nat) : Int)), o8, o9, o10, o11], [aI 0, aR 22 0], am_mix mo_SM g M)
      refine hR _ ⟨(show 0 ≤ (0 : Int) ∧ (0 : Int) < 4 from (by omega)), ?_⟩
      show R (23, [some (aR 8 0), some (aI ((k : Nat) : Int)), some (aI b), some (aL ab), none, some (aL be), none, some (aI ((i : Nat) : Int)), o8, o9, o10, o11], [aI (M 22 0 0)], am_mix mo_SM g M)
      rw [(show M 22 0 0 = M 220 0 0 from hW.1.1.1)]
      show R (23, [some (aR 8 0), some (aI ((k : Nat) : Int)), some (aI b), some (aL ab), none, some (aL be), none, some (aI ((i : Nat) : Int)), o8, o9, o10, o11], [aI (M 220 0 0)], am_mix mo_SM g M)
      refine hR _ (hR _ (hR _ (hR _ (hR _ (hR _ (hR _ (hR _ (hR _ (?_)))))))))
      show R (36, [some (aR 8 0), some (aI ((k : Nat) : Int)), some (aI b), some (aL ab), none, some (aL be), none, some (aI ((i : Nat) : Int)), some (aI ((M 220 0 0) + (100 * ((i : Nat) : Int)))), o9, o10, o11], [aI 0, aI ((M 220 0 0) + (100 * ((i : Nat) : Int))), aI ((k : Nat) : Int), aR 8 0], am_mix mo_SM g M)
      suffices hS : R (36, [some (aR 8 0), some (aI ((k : Nat) : Int)), some (aI b), some (aL ab), none, some (aL be), none, some (aI ((i : Nat) : Int)), some (aI ((M 220 0 0) + (100 * ((i : Nat) : Int)))), o9, o10, o11], [aI p.st, aI p.mk, aI ((k : Nat) : Int), aR 8 0], am_mix mo_SM g M) by
        rw [hpm, hps] at hS
        exact hS
      refine hR _ (sm_think2 (p := p) (r := r) (by omega) hk hr hr6 hwt hp hok (fun g168 hth => ?_))
      rw [am_mix_sub (S := mo_SM) (S2 := mo_SM) rfl] at hth
      have hthr := hth.1
      have hthA := hth.2.1
      have hthN := hth.2.2
      dsimp only
      rw [am_mix_sub (S := mo_SM) (S2 := mo_SM) rfl]
      show R (39, [some (aR 8 0), some (aI ((k : Nat) : Int)), some (aI b), some (aL ab), none, some (aL be), none, some (aI ((i : Nat) : Int)), some (aI ((M 220 0 0) + (100 * ((i : Nat) : Int)))), o9, o10, o11], [], am_mix mo_SM g168 M)
      refine hR _ (hR _ (hR _ (?_)))
      show R (43, [some (aR 8 0), some (aI ((k : Nat) : Int)), some (aI b), some (aL ab), none, some (aL be), none, some (aI ((i : Nat) : Int)), some (aI ((M 220 0 0) + (100 * ((i : Nat) : Int)))), o9, o10, o11], [aI ((M 220 0 0) + (100 * ((i : Nat) : Int))), aI ((k : Nat) : Int), aR 8 0], am_mix mo_SM g168 M)
      refine hR _ (sm_costsBy (p := p) (r := r) (by omega) hk hr hr6 hwt hp hok hth (by omega) (fun g169 => ?_))
      have hcc43 := jf_cc_b hok ((M 220 0 0) + (100 * ((i : Nat) : Int)))
      show R (46, [some (aR 8 0), some (aI ((k : Nat) : Int)), some (aI b), some (aL ab), none, some (aL be), none, some (aI ((i : Nat) : Int)), some (aI ((M 220 0 0) + (100 * ((i : Nat) : Int)))), o9, o10, o11], [aL (jf_cc p ((M 220 0 0) + (100 * ((i : Nat) : Int))))], am_mix [37, 38] g169 (am_mix mo_SM g168 M))
      refine hR _ (hR _ (hR _ (hR _ (am_brc (rg := am_in b ∧ am_in (-1)) (P := b = (-1)) (A := R (69, [some (aR 8 0), some (aI ((k : Nat) : Int)), some (aI b), some (aL ab), none, some (aL be), none, some (aI ((i : Nat) : Int)), some (aI ((M 220 0 0) + (100 * ((i : Nat) : Int)))), some (aL (jf_cc p ((M 220 0 0) + (100 * ((i : Nat) : Int))))), none, o11], [], am_mix [37, 38] g169 (am_mix mo_SM g168 M))) (B := R (53, [some (aR 8 0), some (aI ((k : Nat) : Int)), some (aI b), some (aL ab), none, some (aL be), none, some (aI ((i : Nat) : Int)), some (aI ((M 220 0 0) + (100 * ((i : Nat) : Int)))), some (aL (jf_cc p ((M 220 0 0) + (100 * ((i : Nat) : Int))))), none, o11], [], am_mix [37, 38] g169 (am_mix mo_SM g168 M))) (by omega) (fun c50 => ?_) (fun c50 => ?_)))))
      · refine hR _ (hR _ (hR _ (hR _ (hR _ (am_brf (rg := am_in 1) (P := (1 : Int) = 0) (A := R (86, [some (aR 8 0), some (aI ((k : Nat) : Int)), some (aI b), some (aL ab), none, some (aL be), none, some (aI ((i : Nat) : Int)), some (aI ((M 220 0 0) + (100 * ((i : Nat) : Int)))), some (aL (jf_cc p ((M 220 0 0) + (100 * ((i : Nat) : Int))))), none, some (aI 1)], [], am_mix [37, 38] g169 (am_mix mo_SM g168 M))) (B := R (81, [some (aR 8 0), some (aI ((k : Nat) : Int)), some (aI b), some (aL ab), none, some (aL be), none, some (aI ((i : Nat) : Int)), some (aI ((M 220 0 0) + (100 * ((i : Nat) : Int)))), some (aL (jf_cc p ((M 220 0 0) + (100 * ((i : Nat) : Int))))), none, some (aI 1)], [], am_mix [37, 38] g169 (am_mix mo_SM g168 M))) (by omega) (by omega) ?_)))))
        show R (81, [some (aR 8 0), some (aI ((k : Nat) : Int)), some (aI b), some (aL ab), none, some (aL be), none, some (aI ((i : Nat) : Int)), some (aI ((M 220 0 0) + (100 * ((i : Nat) : Int)))), some (aL (jf_cc p ((M 220 0 0) + (100 * ((i : Nat) : Int))))), none, some (aI 1)], [], am_mix [37, 38] g169 (am_mix mo_SM g168 M))
        refine hR _ (hR _ (hR _ (hR _ (hR _ (am_brf (rg := am_in 1) (P := (1 : Int) = 0) (A := R (98, [some (aR 8 0), some (aI ((k : Nat) : Int)), some (aI ((M 220 0 0) + (100 * ((i : Nat) : Int)))), some (aL ab), none, some (aL be), none, some (aI ((i : Nat) : Int)), some (aI ((M 220 0 0) + (100 * ((i : Nat) : Int)))), some (aL (jf_cc p ((M 220 0 0) + (100 * ((i : Nat) : Int))))), none, some (aI 1)], [], am_mix [37, 38] g169 (am_mix mo_SM g168 M))) (B := R (93, [some (aR 8 0), some (aI ((k : Nat) : Int)), some (aI ((M 220 0 0) + (100 * ((i : Nat) : Int)))), some (aL ab), none, some (aL be), none, some (aI ((i : Nat) : Int)), some (aI ((M 220 0 0) + (100 * ((i : Nat) : Int)))), some (aL (jf_cc p ((M 220 0 0) + (100 * ((i : Nat) : Int))))), none, some (aI 1)], [], am_mix [37, 38] g169 (am_mix mo_SM g168 M))) (by omega) (by omega) ?_)))))
        show R (93, [some (aR 8 0), some (aI ((k : Nat) : Int)), some (aI ((M 220 0 0) + (100 * ((i : Nat) : Int)))), some (aL ab), none, some (aL be), none, some (aI ((i : Nat) : Int)), some (aI ((M 220 0 0) + (100 * ((i : Nat) : Int)))), some (aL (jf_cc p ((M 220 0 0) + (100 * ((i : Nat) : Int))))), none, some (aI 1)], [], am_mix [37, 38] g169 (am_mix mo_SM g168 M))
        refine hR _ (hR _ (hR _ (hR _ (hR _ (am_brf (rg := am_in 1) (P := (1 : Int) = 0) (A := R (113, [some (aR 8 0), some (aI ((k : Nat) : Int)), some (aI ((M 220 0 0) + (100 * ((i : Nat) : Int)))), some (aL (jf_cc p ((M 220 0 0) + (100 * ((i : Nat) : Int))))), none, some (aL be), none, some (aI ((i : Nat) : Int)), some (aI ((M 220 0 0) + (100 * ((i : Nat) : Int)))), some (aL (jf_cc p ((M 220 0 0) + (100 * ((i : Nat) : Int))))), none, some (aI 1)], [], am_mix [37, 38] g169 (am_mix mo_SM g168 M))) (B := R (105, [some (aR 8 0), some (aI ((k : Nat) : Int)), some (aI ((M 220 0 0) + (100 * ((i : Nat) : Int)))), some (aL (jf_cc p ((M 220 0 0) + (100 * ((i : Nat) : Int))))), none, some (aL be), none, some (aI ((i : Nat) : Int)), some (aI ((M 220 0 0) + (100 * ((i : Nat) : Int)))), some (aL (jf_cc p ((M 220 0 0) + (100 * ((i : Nat) : Int))))), none, some (aI 1)], [], am_mix [37, 38] g169 (am_mix mo_SM g168 M))) (by omega) (by omega) ?_)))))
        show R (105, [some (aR 8 0), some (aI ((k : Nat) : Int)), some (aI ((M 220 0 0) + (100 * ((i : Nat) : Int)))), some (aL (jf_cc p ((M 220 0 0) + (100 * ((i : Nat) : Int))))), none, some (aL be), none, some (aI ((i : Nat) : Int)), some (aI ((M 220 0 0) + (100 * ((i : Nat) : Int)))), some (aL (jf_cc p ((M 220 0 0) + (100 * ((i : Nat) : Int))))), none, some (aI 1)], [], am_mix [37, 38] g169 (am_mix mo_SM g168 M))
        refine hR _ (hR _ (?_))
        show R (109, [some (aR 8 0), some (aI ((k : Nat) : Int)), some (aI ((M 220 0 0) + (100 * ((i : Nat) : Int)))), some (aL (jf_cc p ((M 220 0 0) + (100 * ((i : Nat) : Int))))), none, some (aL be), none, some (aI ((i : Nat) : Int)), some (aI ((M 220 0 0) + (100 * ((i : Nat) : Int)))), some (aL (jf_cc p ((M 220 0 0) + (100 * ((i : Nat) : Int))))), none, some (aI 1)], [aI (g168 454 0 0)], am_mix [37, 38] g169 (am_mix mo_SM g168 M))
        rw [(show g168 454 0 0 = jf_A p from hthA)]
        show R (109, [some (aR 8 0), some (aI ((k : Nat) : Int)), some (aI ((M 220 0 0) + (100 * ((i : Nat) : Int)))), some (aL (jf_cc p ((M 220 0 0) + (100 * ((i : Nat) : Int))))), none, some (aL be), none, some (aI ((i : Nat) : Int)), some (aI ((M 220 0 0) + (100 * ((i : Nat) : Int)))), some (aL (jf_cc p ((M 220 0 0) + (100 * ((i : Nat) : Int))))), none, some (aI 1)], [aI (jf_A p)], am_mix [37, 38] g169 (am_mix mo_SM g168 M))
        refine hR _ ⟨(by omega), ?_⟩
        show R (110, [some (aR 8 0), some (aI ((k : Nat) : Int)), some (aI ((M 220 0 0) + (100 * ((i : Nat) : Int)))), some (aL (jf_cc p ((M 220 0 0) + (100 * ((i : Nat) : Int))))), none, some (aL be), none, some (aI ((i : Nat) : Int)), some (aI ((M 220 0 0) + (100 * ((i : Nat) : Int)))), some (aL (jf_cc p ((M 220 0 0) + (100 * ((i : Nat) : Int))))), none, some (aI 1)], [aL (jf_A p)], am_mix [37, 38] g169 (am_mix mo_SM g168 M))
        refine hR _ (hR _ (hR _ (hR _ (?_))))
        show R (10, [some (aR 8 0), some (aI ((k : Nat) : Int)), some (aI ((M 220 0 0) + (100 * ((i : Nat) : Int)))), some (aL (jf_cc p ((M 220 0 0) + (100 * ((i : Nat) : Int))))), none, some (aL (jf_A p)), none, some (aI (((i : Nat) : Int) + 1)), some (aI ((M 220 0 0) + (100 * ((i : Nat) : Int)))), some (aL (jf_cc p ((M 220 0 0) + (100 * ((i : Nat) : Int))))), none, some (aI 1)], [], am_mix [37, 38] g169 (am_mix mo_SM g168 M))
        have e9 : am_ag mo_SM M (am_mix [37, 38] g169 (am_mix mo_SM g168 M)) := ((am_ag.rf).mix rfl).mix rfl
        rw [e9.eq]
        have e1 : (jf_bn M k) (i + 1) = ((M 220 0 0 + 100 * ((i : Nat) : Int)), (-jf_cc p (M 220 0 0 + 100 * ((i : Nat) : Int))), (jf_A p)) := (show (jf_bn M k) (i + 1) = jf_bst ((jf_bn M k) i) (M 220 0 0 + 100 * ((i : Nat) : Int)) (-jf_cc p (M 220 0 0 + 100 * ((i : Nat) : Int))) (jf_A p) from by rw [hpp]; rfl).trans (if_pos (by rw [← hb, ← hbe]; omega))
        refine ih (i + 1) _ _ _ _ _ _ _ _ _ (by omega) (by omega) ?_ ?_ ?_
        · rw [e1]
        · first | (rw [e1]; done) | (rw [e1]; exact (Int.neg_neg _).symm)
        · rw [e1]
      · refine hR _ (hR _ (hR _ (hR _ (hR _ (hR _ (?_))))))
        show R (63, [some (aR 8 0), some (aI ((k : Nat) : Int)), some (aI b), some (aL ab), none, some (aL be), none, some (aI ((i : Nat) : Int)), some (aI ((M 220 0 0) + (100 * ((i : Nat) : Int)))), some (aL (jf_cc p ((M 220 0 0) + (100 * ((i : Nat) : Int))))), none, o11], [aI (g168 454 0 0), aL ab, aL ((jf_cc p ((M 220 0 0) + (100 * ((i : Nat) : Int)))) * be)], am_mix [37, 38] g169 (am_mix mo_SM g168 M))
        rw [(show g168 454 0 0 = jf_A p from hthA)]
        show R (63, [some (aR 8 0), some (aI ((k : Nat) : Int)), some (aI b), some (aL ab), none, some (aL be), none, some (aI ((i : Nat) : Int)), some (aI ((M 220 0 0) + (100 * ((i : Nat) : Int)))), some (aL (jf_cc p ((M 220 0 0) + (100 * ((i : Nat) : Int))))), none, o11], [aI (jf_A p), aL ab, aL ((jf_cc p ((M 220 0 0) + (100 * ((i : Nat) : Int)))) * be)], am_mix [37, 38] g169 (am_mix mo_SM g168 M))
        refine hR _ ⟨(by omega), ?_⟩
        show R (64, [some (aR 8 0), some (aI ((k : Nat) : Int)), some (aI b), some (aL ab), none, some (aL be), none, some (aI ((i : Nat) : Int)), some (aI ((M 220 0 0) + (100 * ((i : Nat) : Int)))), some (aL (jf_cc p ((M 220 0 0) + (100 * ((i : Nat) : Int))))), none, o11], [aL (jf_A p), aL ab, aL ((jf_cc p ((M 220 0 0) + (100 * ((i : Nat) : Int)))) * be)], am_mix [37, 38] g169 (am_mix mo_SM g168 M))
        refine hR _ (?_)
        show R (65, [some (aR 8 0), some (aI ((k : Nat) : Int)), some (aI b), some (aL ab), none, some (aL be), none, some (aI ((i : Nat) : Int)), some (aI ((M 220 0 0) + (100 * ((i : Nat) : Int)))), some (aL (jf_cc p ((M 220 0 0) + (100 * ((i : Nat) : Int))))), none, o11], [aL (ab * (jf_A p)), aL ((jf_cc p ((M 220 0 0) + (100 * ((i : Nat) : Int)))) * be)], am_mix [37, 38] g169 (am_mix mo_SM g168 M))
        refine am_lc (x := ((jf_cc p ((M 220 0 0) + (100 * ((i : Nat) : Int)))) * be)) (y := (ab * (jf_A p))) (P := (ab * (jf_A p)) ≤ ((jf_cc p ((M 220 0 0) + (100 * ((i : Nat) : Int)))) * be)) (A := R (73, [some (aR 8 0), some (aI ((k : Nat) : Int)), some (aI b), some (aL ab), none, some (aL be), none, some (aI ((i : Nat) : Int)), some (aI ((M 220 0 0) + (100 * ((i : Nat) : Int)))), some (aL (jf_cc p ((M 220 0 0) + (100 * ((i : Nat) : Int))))), none, o11], [], am_mix [37, 38] g169 (am_mix mo_SM g168 M))) (B := R (69, [some (aR 8 0), some (aI ((k : Nat) : Int)), some (aI b), some (aL ab), none, some (aL be), none, some (aI ((i : Nat) : Int)), some (aI ((M 220 0 0) + (100 * ((i : Nat) : Int)))), some (aL (jf_cc p ((M 220 0 0) + (100 * ((i : Nat) : Int))))), none, o11], [], am_mix [37, 38] g169 (am_mix mo_SM g168 M))) (by omega) (fun hA hB => hR _ ⟨(by omega), (fun hz => hR _ (am_brf (P := 0 ≤ (-1 : Int)) (A := R (73, [some (aR 8 0), some (aI ((k : Nat) : Int)), some (aI b), some (aL ab), none, some (aL be), none, some (aI ((i : Nat) : Int)), some (aI ((M 220 0 0) + (100 * ((i : Nat) : Int)))), some (aL (jf_cc p ((M 220 0 0) + (100 * ((i : Nat) : Int))))), none, o11], [], am_mix [37, 38] g169 (am_mix mo_SM g168 M))) (B := R (69, [some (aR 8 0), some (aI ((k : Nat) : Int)), some (aI b), some (aL ab), none, some (aL be), none, some (aI ((i : Nat) : Int)), some (aI ((M 220 0 0) + (100 * ((i : Nat) : Int)))), some (aL (jf_cc p ((M 220 0 0) + (100 * ((i : Nat) : Int))))), none, o11], [], am_mix [37, 38] g169 (am_mix mo_SM g168 M))) (by omega) (by omega) (hB (by omega)))), (fun hz => hR _ (am_brt (P := 0 ≤ (0 : Int)) (A := R (73, [some (aR 8 0), some (aI ((k : Nat) : Int)), some (aI b), some (aL ab), none, some (aL be), none, some (aI ((i : Nat) : Int)), some (aI ((M 220 0 0) + (100 * ((i : Nat) : Int)))), some (aL (jf_cc p ((M 220 0 0) + (100 * ((i : Nat) : Int))))), none, o11], [], am_mix [37, 38] g169 (am_mix mo_SM g168 M))) (B := R (69, [some (aR 8 0), some (aI ((k : Nat) : Int)), some (aI b), some (aL ab), none, some (aL be), none, some (aI ((i : Nat) : Int)), some (aI ((M 220 0 0) + (100 * ((i : Nat) : Int)))), some (aL (jf_cc p ((M 220 0 0) + (100 * ((i : Nat) : Int))))), none, o11], [], am_mix [37, 38] g169 (am_mix mo_SM g168 M))) (by omega) (by omega) (hA (by omega)))), (fun hz => hR _ (am_brt (P := 0 ≤ (1 : Int)) (A := R (73, [some (aR 8 0), some (aI ((k : Nat) : Int)), some (aI b), some (aL ab), none, some (aL be), none, some (aI ((i : Nat) : Int)), some (aI ((M 220 0 0) + (100 * ((i : Nat) : Int)))), some (aL (jf_cc p ((M 220 0 0) + (100 * ((i : Nat) : Int))))), none, o11], [], am_mix [37, 38] g169 (am_mix mo_SM g168 M))) (B := R (69, [some (aR 8 0), some (aI ((k : Nat) : Int)), some (aI b), some (aL ab), none, some (aL be), none, some (aI ((i : Nat) : Int)), some (aI ((M 220 0 0) + (100 * ((i : Nat) : Int)))), some (aL (jf_cc p ((M 220 0 0) + (100 * ((i : Nat) : Int))))), none, o11], [], am_mix [37, 38] g169 (am_mix mo_SM g168 M))) (by omega) (by omega) (hA (by omega))))⟩) (fun c65 => ?_) (fun c65 => ?_)
        · refine hR _ (hR _ (hR _ (hR _ (am_brt (rg := am_in 0) (P := (0 : Int) = 0) (A := R (86, [some (aR 8 0), some (aI ((k : Nat) : Int)), some (aI b), some (aL ab), none, some (aL be), none, some (aI ((i : Nat) : Int)), some (aI ((M 220 0 0) + (100 * ((i : Nat) : Int)))), some (aL (jf_cc p ((M 220 0 0) + (100 * ((i : Nat) : Int))))), none, some (aI 0)], [], am_mix [37, 38] g169 (am_mix mo_SM g168 M))) (B := R (81, [some (aR 8 0), some (aI ((k : Nat) : Int)), some (aI b), some (aL ab), none, some (aL be), none, some (aI ((i : Nat) : Int)), some (aI ((M 220 0 0) + (100 * ((i : Nat) : Int)))), some (aL (jf_cc p ((M 220 0 0) + (100 * ((i : Nat) : Int))))), none, some (aI 0)], [], am_mix [37, 38] g169 (am_mix mo_SM g168 M))) (by omega) (by omega) ?_))))
          show R (86, [some (aR 8 0), some (aI ((k : Nat) : Int)), some (aI b), some (aL ab), none, some (aL be), none, some (aI ((i : Nat) : Int)), some (aI ((M 220 0 0) + (100 * ((i : Nat) : Int)))), some (aL (jf_cc p ((M 220 0 0) + (100 * ((i : Nat) : Int))))), none, some (aI 0)], [], am_mix [37, 38] g169 (am_mix mo_SM g168 M))
          refine hR _ (hR _ (hR _ (hR _ (am_brt (rg := am_in 0) (P := (0 : Int) = 0) (A := R (98, [some (aR 8 0), some (aI ((k : Nat) : Int)), some (aI b), some (aL ab), none, some (aL be), none, some (aI ((i : Nat) : Int)), some (aI ((M 220 0 0) + (100 * ((i : Nat) : Int)))), some (aL (jf_cc p ((M 220 0 0) + (100 * ((i : Nat) : Int))))), none, some (aI 0)], [], am_mix [37, 38] g169 (am_mix mo_SM g168 M))) (B := R (93, [some (aR 8 0), some (aI ((k : Nat) : Int)), some (aI b), some (aL ab), none, some (aL be), none, some (aI ((i : Nat) : Int)), some (aI ((M 220 0 0) + (100 * ((i : Nat) : Int)))), some (aL (jf_cc p ((M 220 0 0) + (100 * ((i : Nat) : Int))))), none, some (aI 0)], [], am_mix [37, 38] g169 (am_mix mo_SM g168 M))) (by omega) (by omega) ?_))))
          show R (98, [some (aR 8 0), some (aI ((k : Nat) : Int)), some (aI b), some (aL ab), none, some (aL be), none, some (aI ((i : Nat) : Int)), some (aI ((M 220 0 0) + (100 * ((i : Nat) : Int)))), some (aL (jf_cc p ((M 220 0 0) + (100 * ((i : Nat) : Int))))), none, some (aI 0)], [], am_mix [37, 38] g169 (am_mix mo_SM g168 M))
          refine hR _ (hR _ (hR _ (hR _ (am_brt (rg := am_in 0) (P := (0 : Int) = 0) (A := R (113, [some (aR 8 0), some (aI ((k : Nat) : Int)), some (aI b), some (aL ab), none, some (aL be), none, some (aI ((i : Nat) : Int)), some (aI ((M 220 0 0) + (100 * ((i : Nat) : Int)))), some (aL (jf_cc p ((M 220 0 0) + (100 * ((i : Nat) : Int))))), none, some (aI 0)], [], am_mix [37, 38] g169 (am_mix mo_SM g168 M))) (B := R (105, [some (aR 8 0), some (aI ((k : Nat) : Int)), some (aI b), some (aL ab), none, some (aL be), none, some (aI ((i : Nat) : Int)), some (aI ((M 220 0 0) + (100 * ((i : Nat) : Int)))), some (aL (jf_cc p ((M 220 0 0) + (100 * ((i : Nat) : Int))))), none, some (aI 0)], [], am_mix [37, 38] g169 (am_mix mo_SM g168 M))) (by omega) (by omega) ?_))))
          show R (113, [some (aR 8 0), some (aI ((k : Nat) : Int)), some (aI b), some (aL ab), none, some (aL be), none, some (aI ((i : Nat) : Int)), some (aI ((M 220 0 0) + (100 * ((i : Nat) : Int)))), some (aL (jf_cc p ((M 220 0 0) + (100 * ((i : Nat) : Int))))), none, some (aI 0)], [], am_mix [37, 38] g169 (am_mix mo_SM g168 M))
          refine hR _ (hR _ (hR _ (hR _ (?_))))
          show R (10, [some (aR 8 0), some (aI ((k : Nat) : Int)), some (aI b), some (aL ab), none, some (aL be), none, some (aI (((i : Nat) : Int) + 1)), some (aI ((M 220 0 0) + (100 * ((i : Nat) : Int)))), some (aL (jf_cc p ((M 220 0 0) + (100 * ((i : Nat) : Int))))), none, some (aI 0)], [], am_mix [37, 38] g169 (am_mix mo_SM g168 M))
          have e9 : am_ag mo_SM M (am_mix [37, 38] g169 (am_mix mo_SM g168 M)) := ((am_ag.rf).mix rfl).mix rfl
          rw [e9.eq]
          have e1 : (jf_bn M k) (i + 1) = (jf_bn M k) i := (show (jf_bn M k) (i + 1) = jf_bst ((jf_bn M k) i) (M 220 0 0 + 100 * ((i : Nat) : Int)) (-jf_cc p (M 220 0 0 + 100 * ((i : Nat) : Int))) (jf_A p) from by rw [hpp]; rfl).trans (if_neg (by rw [← hb, ← hbe]; omega))
          refine ih (i + 1) _ _ _ _ _ _ _ _ _ (by omega) (by omega) ?_ ?_ ?_
          · rw [e1]
            exact hb
          · rw [e1]
            exact hab
          · rw [e1]
            exact hbe
        · refine hR _ (hR _ (hR _ (hR _ (hR _ (am_brf (rg := am_in 1) (P := (1 : Int) = 0) (A := R (86, [some (aR 8 0), some (aI ((k : Nat) : Int)), some (aI b), some (aL ab), none, some (aL be), none, some (aI ((i : Nat) : Int)), some (aI ((M 220 0 0) + (100 * ((i : Nat) : Int)))), some (aL (jf_cc p ((M 220 0 0) + (100 * ((i : Nat) : Int))))), none, some (aI 1)], [], am_mix [37, 38] g169 (am_mix mo_SM g168 M))) (B := R (81, [some (aR 8 0), some (aI ((k : Nat) : Int)), some (aI b), some (aL ab), none, some (aL be), none, some (aI ((i : Nat) : Int)), some (aI ((M 220 0 0) + (100 * ((i : Nat) : Int)))), some (aL (jf_cc p ((M 220 0 0) + (100 * ((i : Nat) : Int))))), none, some (aI 1)], [], am_mix [37, 38] g169 (am_mix mo_SM g168 M))) (by omega) (by omega) ?_)))))
          show R (81, [some (aR 8 0), some (aI ((k : Nat) : Int)), some (aI b), some (aL ab), none, some (aL be), none, some (aI ((i : Nat) : Int)), some (aI ((M 220 0 0) + (100 * ((i : Nat) : Int)))), some (aL (jf_cc p ((M 220 0 0) + (100 * ((i : Nat) : Int))))), none, some (aI 1)], [], am_mix [37, 38] g169 (am_mix mo_SM g168 M))
          refine hR _ (hR _ (hR _ (hR _ (hR _ (am_brf (rg := am_in 1) (P := (1 : Int) = 0) (A := R (98, [some (aR 8 0), some (aI ((k : Nat) : Int)), some (aI ((M 220 0 0) + (100 * ((i : Nat) : Int)))), some (aL ab), none, some (aL be), none, some (aI ((i : Nat) : Int)), some (aI ((M 220 0 0) + (100 * ((i : Nat) : Int)))), some (aL (jf_cc p ((M 220 0 0) + (100 * ((i : Nat) : Int))))), none, some (aI 1)], [], am_mix [37, 38] g169 (am_mix mo_SM g168 M))) (B := R (93, [some (aR 8 0), some (aI ((k : Nat) : Int)), some (aI ((M 220 0 0) + (100 * ((i : Nat) : Int)))), some (aL ab), none, some (aL be), none, some (aI ((i : Nat) : Int)), some (aI ((M 220 0 0) + (100 * ((i : Nat) : Int)))), some (aL (jf_cc p ((M 220 0 0) + (100 * ((i : Nat) : Int))))), none, some (aI 1)], [], am_mix [37, 38] g169 (am_mix mo_SM g168 M))) (by omega) (by omega) ?_)))))
          show R (93, [some (aR 8 0), some (aI ((k : Nat) : Int)), some (aI ((M 220 0 0) + (100 * ((i : Nat) : Int)))), some (aL ab), none, some (aL be), none, some (aI ((i : Nat) : Int)), some (aI ((M 220 0 0) + (100 * ((i : Nat) : Int)))), some (aL (jf_cc p ((M 220 0 0) + (100 * ((i : Nat) : Int))))), none, some (aI 1)], [], am_mix [37, 38] g169 (am_mix mo_SM g168 M))
          refine hR _ (hR _ (hR _ (hR _ (hR _ (am_brf (rg := am_in 1) (P := (1 : Int) = 0) (A := R (113, [some (aR 8 0), some (aI ((k : Nat) : Int)), some (aI ((M 220 0 0) + (100 * ((i : Nat) : Int)))), some (aL (jf_cc p ((M 220 0 0) + (100 * ((i : Nat) : Int))))), none, some (aL be), none, some (aI ((i : Nat) : Int)), some (aI ((M 220 0 0) + (100 * ((i : Nat) : Int)))), some (aL (jf_cc p ((M 220 0 0) + (100 * ((i : Nat) : Int))))), none, some (aI 1)], [], am_mix [37, 38] g169 (am_mix mo_SM g168 M))) (B := R (105, [some (aR 8 0), some (aI ((k : Nat) : Int)), some (aI ((M 220 0 0) + (100 * ((i : Nat) : Int)))), some (aL (jf_cc p ((M 220 0 0) + (100 * ((i : Nat) : Int))))), none, some (aL be), none, some (aI ((i : Nat) : Int)), some (aI ((M 220 0 0) + (100 * ((i : Nat) : Int)))), some (aL (jf_cc p ((M 220 0 0) + (100 * ((i : Nat) : Int))))), none, some (aI 1)], [], am_mix [37, 38] g169 (am_mix mo_SM g168 M))) (by omega) (by omega) ?_)))))
          show R (105, [some (aR 8 0), some (aI ((k : Nat) : Int)), some (aI ((M 220 0 0) + (100 * ((i : Nat) : Int)))), some (aL (jf_cc p ((M 220 0 0) + (100 * ((i : Nat) : Int))))), none, some (aL be), none, some (aI ((i : Nat) : Int)), some (aI ((M 220 0 0) + (100 * ((i : Nat) : Int)))), some (aL (jf_cc p ((M 220 0 0) + (100 * ((i : Nat) : Int))))), none, some (aI 1)], [], am_mix [37, 38] g169 (am_mix mo_SM g168 M))
          refine hR _ (hR _ (?_))
          show R (109, [some (aR 8 0), some (aI ((k : Nat) : Int)), some (aI ((M 220 0 0) + (100 * ((i : Nat) : Int)))), some (aL (jf_cc p ((M 220 0 0) + (100 * ((i : Nat) : Int))))), none, some (aL be), none, some (aI ((i : Nat) : Int)), some (aI ((M 220 0 0) + (100 * ((i : Nat) : Int)))), some (aL (jf_cc p ((M 220 0 0) + (100 * ((i : Nat) : Int))))), none, some (aI 1)], [aI (g168 454 0 0)], am_mix [37, 38] g169 (am_mix mo_SM g168 M))
          rw [(show g168 454 0 0 = jf_A p from hthA)]
          show R (109, [some (aR 8 0), some (aI ((k : Nat) : Int)), some (aI ((M 220 0 0) + (100 * ((i : Nat) : Int)))), some (aL (jf_cc p ((M 220 0 0) + (100 * ((i : Nat) : Int))))), none, some (aL be), none, some (aI ((i : Nat) : Int)), some (aI ((M 220 0 0) + (100 * ((i : Nat) : Int)))), some (aL (jf_cc p ((M 220 0 0) + (100 * ((i : Nat) : Int))))), none, some (aI 1)], [aI (jf_A p)], am_mix [37, 38] g169 (am_mix mo_SM g168 M))
          refine hR _ ⟨(by omega), ?_⟩
          show R (110, [some (aR 8 0), some (aI ((k : Nat) : Int)), some (aI ((M 220 0 0) + (100 * ((i : Nat) : Int)))), some (aL (jf_cc p ((M 220 0 0) + (100 * ((i : Nat) : Int))))), none, some (aL be), none, some (aI ((i : Nat) : Int)), some (aI ((M 220 0 0) + (100 * ((i : Nat) : Int)))), some (aL (jf_cc p ((M 220 0 0) + (100 * ((i : Nat) : Int))))), none, some (aI 1)], [aL (jf_A p)], am_mix [37, 38] g169 (am_mix mo_SM g168 M))
          refine hR _ (hR _ (hR _ (hR _ (?_))))
          show R (10, [some (aR 8 0), some (aI ((k : Nat) : Int)), some (aI ((M 220 0 0) + (100 * ((i : Nat) : Int)))), some (aL (jf_cc p ((M 220 0 0) + (100 * ((i : Nat) : Int))))), none, some (aL (jf_A p)), none, some (aI (((i : Nat) : Int) + 1)), some (aI ((M 220 0 0) + (100 * ((i : Nat) : Int)))), some (aL (jf_cc p ((M 220 0 0) + (100 * ((i : Nat) : Int))))), none, some (aI 1)], [], am_mix [37, 38] g169 (am_mix mo_SM g168 M))
          have e9 : am_ag mo_SM M (am_mix [37, 38] g169 (am_mix mo_SM g168 M)) := ((am_ag.rf).mix rfl).mix rfl
          rw [e9.eq]
          have e1 : (jf_bn M k) (i + 1) = ((M 220 0 0 + 100 * ((i : Nat) : Int)), (-jf_cc p (M 220 0 0 + 100 * ((i : Nat) : Int))), (jf_A p)) := (show (jf_bn M k) (i + 1) = jf_bst ((jf_bn M k) i) (M 220 0 0 + 100 * ((i : Nat) : Int)) (-jf_cc p (M 220 0 0 + 100 * ((i : Nat) : Int))) (jf_A p) from by rw [hpp]; rfl).trans (if_pos (by rw [← hb, ← hbe]; omega))
          refine ih (i + 1) _ _ _ _ _ _ _ _ _ (by omega) (by omega) ?_ ?_ ?_
          · rw [e1]
          · first | (rw [e1]; done) | (rw [e1]; exact (Int.neg_neg _).symm)
          · rw [e1]
  have e9 : am_ag mo_SM M M := am_ag.rf
  rw [e9.eq]
  exact key 10 0 _ _ _ _ _ _ _ _ _ rfl rfl rfl rfl rfl

set_option maxHeartbeats 1000000 in
theorem sm_next {d : Nat} (hd : 10 ≤ d) {h : Int} {M : am_M} {K : am_K} (hJ : jf_J M) (hW : jf_C M) (ha_h : am_in h) (hK : ∀ g, K (some (aI (jx_next M h))) (am_mix mo_SM g M)) : am_Call true d 172 [aR 8 0, aI h] M K := by
  obtain ⟨d, rfl⟩ : ∃ e, d = e + 1 := ⟨d - 1, by omega⟩
  refine ⟨rfl, fun R hR hC => ?_⟩
  replace hR : ∀ c, am_F true tb_f172 1 (am_Call true d) K R c → R c := hR
  have hn := hJ.1.1.2.2.2.2.2.2.2.1
  have hl0 := hJ.1.1.2.2.2.2.2.2.2.2
  have htc := hJ.2.2.1.1
  have hlt : 0 ≤ M 228 0 0 ∧ M 228 0 0 < 6 := by omega
  have hmk := hJ.1.1.1
  have hdr := hJ.1.1.2.1
  have hpr := hJ.1.1.2.2.1
  have hfu := hJ.1.1.2.2.2.1
  have hn' : 0 ≤ M 421 0 0 ∧ M 421 0 0 ≤ 5 := by rw [hW.1.2.1.1]; exact hn
  have h421 : M 421 0 0 = M 227 0 0 := hW.1.2.1.1
  show R (0, [some (aR 8 0), some (aI h)], [], M)
  rcases jf_hd (M := M) (h := h) hn with ⟨k, rfl, hk5, hk⟩ | hno
  · obtain ⟨r, hrr⟩ : ∃ r, r = (M 228 0 0).toNat := ⟨_, rfl⟩
    have hr : M 431 0 0 = (r : Int) := by rw [hW.1.2.1.2.2.1]; omega
    have hr6 : r < 6 := by omega
    have hwt : mo_wt M r := (hW.2.1.2.2 r (by omega)).1
    obtain ⟨p, hpp⟩ : ∃ p, p = jf_px M k := ⟨_, rfl⟩
    have hp : mo_p M k r p := by rw [hpp, hrr]; exact jf_C.p hJ hW hk (by omega)
    have hok : jf_ok p := by rw [hpp]; exact hJ.px hk
    have hpm : p.mk = M 22 0 0 := by rw [hpp]; exact hW.1.1.1.symm
    have hps : p.st = 0 := by rw [hpp]
    have hpb := jf_P_b hok
    have hA := jf_A_b hok
    show R (0, [some (aR 8 0), some (aI ((k : Nat) : Int))], [], M)
    refine hR _ (hR _ (?_))
    show R (2, [some (aR 8 0), some (aI ((k : Nat) : Int))], [aI ((k : Nat) : Int), aR 8 0], M)
    refine hR _ (sm_isHand (by omega) (show 0 ≤ M 421 0 0 ∧ M 421 0 0 ≤ 5 from hn') (by omega) (fun _ => ?_) (fun hz => absurd (show 0 ≤ ((k : Nat) : Int) ∧ ((k : Nat) : Int) < M 421 0 0 by omega) hz))
    show R (5, [some (aR 8 0), some (aI ((k : Nat) : Int))], [aI 1], M)
    refine hR _ (am_brf (rg := am_in 1) (P := (1 : Int) = 0) (A := R (16, [some (aR 8 0), some (aI ((k : Nat) : Int))], [], M)) (B := R (8, [some (aR 8 0), some (aI ((k : Nat) : Int))], [], M)) (by omega) (by omega) ?_)
    show R (8, [some (aR 8 0), some (aI ((k : Nat) : Int))], [], M)
    refine hR _ (hR _ (?_))
    show R (10, [some (aR 8 0), some (aI ((k : Nat) : Int))], [aI ((k : Nat) : Int), aR 8 0], M)
    refine hR _ (sm_nextOf (by omega) hJ hW hk (fun g => ?_))
    show R (13, [some (aR 8 0), some (aI ((k : Nat) : Int))], [aI ((jf_bn M k 10).1)], am_mix mo_SM g M)
    refine hR _ (?_)
    show R (18, [some (aR 8 0), some (aI ((k : Nat) : Int))], [aI ((jf_bn M k 10).1)], am_mix mo_SM g M)
    refine hR _ (show K (some (aI ((jf_bn M k 10).1))) (am_mix mo_SM g M) from ?_)
    have hres : jx_next M ((k : Nat) : Int) = (jf_bn M k 10).1 := by
      subst hpp
      unfold jx_next
      repeat' split
      all_goals first | omega | rfl | exact jf_il_no (by omega)
    rw [hres] at hK
    have e9 : am_ag mo_SM M (am_mix mo_SM g M) := (am_ag.rf).mix rfl
    rw [e9.eq]
    exact hK _
  · show R (0, [some (aR 8 0), some (aI h)], [], M)
    refine hR _ (hR _ (?_))
    show R (2, [some (aR 8 0), some (aI h)], [aI h, aR 8 0], M)
    refine hR _ (sm_isHand (by omega) (show 0 ≤ M 421 0 0 ∧ M 421 0 0 ≤ 5 from hn') (by omega) (fun hz => absurd (show 0 ≤ h ∧ h < M 227 0 0 from ⟨hz.1, by rw [← h421]; exact hz.2⟩) hno) (fun _ => ?_))
    show R (5, [some (aR 8 0), some (aI h)], [aI 0], M)
    refine hR _ (am_brt (rg := am_in 0) (P := (0 : Int) = 0) (A := R (16, [some (aR 8 0), some (aI h)], [], M)) (B := R (8, [some (aR 8 0), some (aI h)], [], M)) (by omega) (by omega) ?_)
    show R (16, [some (aR 8 0), some (aI h)], [], M)
    refine hR _ (?_)
    show R (18, [some (aR 8 0), some (aI h)], [aI (-5)], M)
    refine hR _ (show K (some (aI (-5))) M from ?_)
    have hres : jx_next M h = (-5) := by
      unfold jx_next
      repeat' split
      all_goals first | omega | rfl | exact jf_il_no (by omega)
    rw [hres] at hK
    have e9 : am_ag mo_SM M M := am_ag.rf
    rw [e9.eq]
    exact hK _

set_option maxHeartbeats 1000000 in
theorem sm_ahead {d : Nat} (hd : 9 ≤ d) {h gl : Int} {M : am_M} {K : am_K} (hJ : jf_J M) (hW : jf_C M) (ha_h : am_in h) (ha_gl : am_in gl) (hK : ∀ g, K (some (aI (jx_ahead M h gl))) (am_mix mo_SM g M)) : am_Call true d 167 [aR 8 0, aI h, aI gl] M K := by
  obtain ⟨d, rfl⟩ : ∃ e, d = e + 1 := ⟨d - 1, by omega⟩
  refine ⟨rfl, fun R hR hC => ?_⟩
  replace hR : ∀ c, am_F true tb_f167 1 (am_Call true d) K R c → R c := hR
  have hn := hJ.1.1.2.2.2.2.2.2.2.1
  have hl0 := hJ.1.1.2.2.2.2.2.2.2.2
  have htc := hJ.2.2.1.1
  have hlt : 0 ≤ M 228 0 0 ∧ M 228 0 0 < 6 := by omega
  have hmk := hJ.1.1.1
  have hdr := hJ.1.1.2.1
  have hpr := hJ.1.1.2.2.1
  have hfu := hJ.1.1.2.2.2.1
  have hn' : 0 ≤ M 421 0 0 ∧ M 421 0 0 ≤ 5 := by rw [hW.1.2.1.1]; exact hn
  have h421 : M 421 0 0 = M 227 0 0 := hW.1.2.1.1
  show R (0, [some (aR 8 0), some (aI h), some (aI gl), none, none, none, none, none, none, none, none, none, none], [], M)
  rcases jf_hd (M := M) (h := h) hn with ⟨k, rfl, hk5, hk⟩ | hno
  · obtain ⟨r, hrr⟩ : ∃ r, r = (M 228 0 0).toNat := ⟨_, rfl⟩
    have hr : M 431 0 0 = (r : Int) := by rw [hW.1.2.1.2.2.1]; omega
    have hr6 : r < 6 := by omega
    have hwt : mo_wt M r := (hW.2.1.2.2 r (by omega)).1
    obtain ⟨p, hpp⟩ : ∃ p, p = jf_px M k := ⟨_, rfl⟩
    have hp : mo_p M k r p := by rw [hpp, hrr]; exact jf_C.p hJ hW hk (by omega)
    have hok : jf_ok p := by rw [hpp]; exact hJ.px hk
    have hpm : p.mk = M 22 0 0 := by rw [hpp]; exact hW.1.1.1.symm
    have hps : p.st = 0 := by rw [hpp]
    have hpb := jf_P_b hok
    have hA := jf_A_b hok
    show R (0, [some (aR 8 0), some (aI ((k : Nat) : Int)), some (aI gl), none, none, none, none, none, none, none, none, none, none], [], M)
    have hok0 := hok
    have hp0 := hp
    have hpm0 := hpm
    rw [hpp] at hok0 hp0 hpm0
    refine hR _ (hR _ (?_))
    show R (2, [some (aR 8 0), some (aI ((k : Nat) : Int)), some (aI gl), none, none, none, none, none, none, none, none, none, none], [aI ((k : Nat) : Int), aR 8 0], M)
    refine hR _ (sm_isHand (by omega) (show 0 ≤ M 421 0 0 ∧ M 421 0 0 ≤ 5 from hn') (by omega) (fun _ => ?_) (fun hz => absurd (show 0 ≤ ((k : Nat) : Int) ∧ ((k : Nat) : Int) < M 421 0 0 by omega) hz))
    show R (5, [some (aR 8 0), some (aI ((k : Nat) : Int)), some (aI gl), none, none, none, none, none, none, none, none, none, none], [aI 1], M)
    refine hR _ (am_brt (rg := am_in 1) (P := (1 : Int) ≠ 0) (A := R (11, [some (aR 8 0), some (aI ((k : Nat) : Int)), some (aI gl), none, none, none, none, none, none, none, none, none, none], [], M)) (B := R (8, [some (aR 8 0), some (aI ((k : Nat) : Int)), some (aI gl), none, none, none, none, none, none, none, none, none, none], [], M)) (by omega) (by omega) ?_)
    show R (11, [some (aR 8 0), some (aI ((k : Nat) : Int)), some (aI gl), none, none, none, none, none, none, none, none, none, none], [], M)
    refine hR _ (hR _ (hR _ (?_)))
    show R (14, [some (aR 8 0), some (aI ((k : Nat) : Int)), some (aI gl), none, none, none, none, none, none, none, none, none, none], [aI 1, aI 0, aI gl], M)
    refine hR _ (sp_in (by omega) (by omega) (fun h14 => ?_) (fun h14 => ?_))
    · show R (17, [some (aR 8 0), some (aI ((k : Nat) : Int)), some (aI gl), none, none, none, none, none, none, none, none, none, none], [aI 1], M)
      refine hR _ (am_brt (rg := am_in 1) (P := (1 : Int) ≠ 0) (A := R (23, [some (aR 8 0), some (aI ((k : Nat) : Int)), some (aI gl), none, none, none, none, none, none, none, none, none, none], [], M)) (B := R (20, [some (aR 8 0), some (aI ((k : Nat) : Int)), some (aI gl), none, none, none, none, none, none, none, none, none, none], [], M)) (by omega) (by omega) ?_)
      show R (23, [some (aR 8 0), some (aI ((k : Nat) : Int)), some (aI gl), none, none, none, none, none, none, none, none, none, none], [], M)
      refine hR _ (hR _ (hR _ (hR _ (hR _ (?_)))))
      show R (30, [some (aR 8 0), some (aI ((k : Nat) : Int)), some (aI gl), none, none, none, none, none, none, none, none, none, none], [aI (2 * ((k : Nat) : Int)), aR 25 0], M)
      refine hR _ ⟨(show 0 ≤ ((2 * ((k : Nat) : Int)) : Int) ∧ ((2 * ((k : Nat) : Int)) : Int) < 10 from (by omega)), ?_⟩
      show R (31, [some (aR 8 0), some (aI ((k : Nat) : Int)), some (aI gl), none, none, none, none, none, none, none, none, none, none], [aI (M 25 0 (((2 * ((k : Nat) : Int))).toNat))], M)
      rw [(show M 25 0 (((2 * ((k : Nat) : Int))).toNat) = M 25 0 (2 * k) by rw [show ((2 * ((k : Nat) : Int))).toNat = (2 * k) by omega])]
      show R (31, [some (aR 8 0), some (aI ((k : Nat) : Int)), some (aI gl), none, none, none, none, none, none, none, none, none, none], [aI (M 25 0 (2 * k))], M)
      refine hR _ (hR _ (hR _ (hR _ (hR _ (hR _ (hR _ (hR _ (hR _ (?_)))))))))
      show R (44, [some (aR 8 0), some (aI ((k : Nat) : Int)), some (aI gl), some (aI (M 25 0 (2 * k))), some (aI (-1)), some (aL 0), none, some (aL 1), none, some (aI 0), none, none, none], [], M)
      obtain ⟨gg, hgg⟩ : ∃ gg : Int, gg = (if gl ≠ 0 then 2 else 0) := ⟨_, rfl⟩
      have hg2 : 2 * gl = gg := by rw [hgg]; split <;> omega
      have hgr : 0 ≤ gg ∧ gg ≤ 2 := by omega
      have hoki : ∀ i : Nat, i < 100 → jf_ok (jf_pa M k i) := fun i hi => ⟨hok0.1, hok0.2.1, (show 0 ≤ (i : Int) ∧ (i : Int) ≤ 99 by omega), hok0.2.2.2⟩
      have hbnd : ∀ i : Nat, i < 100 → (-1 ≤ (i : Int) ∧ (i : Int) ≤ 100) ∧ (-140010 ≤ jf_wo (jf_pa M k i) (if gl ≠ 0 then 2 else 0) ∧ jf_wo (jf_pa M k i) (if gl ≠ 0 then 2 else 0) ≤ 140010) ∧ 1 ≤ jf_A (jf_pa M k i) ∧ jf_A (jf_pa M k i) ≤ 65 := fun i hi => ⟨by omega, jf_wo_b (hoki i hi) _, jf_A_b (hoki i hi)⟩
      have key : ∀ (f i : Nat) (x b ab be : Int) (o10 o11 o12 : Option am_V) (g : am_M), x = (i : Int) → i + f = 100 → mo_but 25 (2 * k) (am_mix mo_S25 g M) M → b = ((jf_ba M k gl) i).1 → ab = -((jf_ba M k gl) i).2.1 → be = ((jf_ba M k gl) i).2.2 → R (44, [some (aR 8 0), some (aI ((k : Nat) : Int)), some (aI gl), some (aI (M 25 0 (2 * k))), some (aI b), some (aL ab), none, some (aL be), none, some (aI x), o10, o11, o12], [], am_mix mo_S25 g M) := by
        intro f
        induction f with
        | zero =>
          intro i x b ab be o10 o11 o12 g hx hin hbut hb hab hbe
          subst hx
          have hbp : jf_bp ((jf_ba M k gl) i) 140010 65 100 := jf_best_b (by decide) (by decide) (by decide) hbnd i (by omega)
          obtain ⟨hbp1, hbp2, hbp3, hbp4⟩ := hbp
          rw [← hb] at hbp1
          rw [← hbe] at hbp3 hbp4
          refine hR _ (hR _ (hR _ (am_brt (rg := am_in ((i : Nat) : Int) ∧ am_in 100) (P := 100 ≤ ((i : Nat) : Int)) (A := R (157, [some (aR 8 0), some (aI ((k : Nat) : Int)), some (aI gl), some (aI (M 25 0 (2 * k))), some (aI b), some (aL ab), none, some (aL be), none, some (aI ((i : Nat) : Int)), o10, o11, o12], [], am_mix mo_S25 g M)) (B := R (51, [some (aR 8 0), some (aI ((k : Nat) : Int)), some (aI gl), some (aI (M 25 0 (2 * k))), some (aI b), some (aL ab), none, some (aL be), none, some (aI ((i : Nat) : Int)), o10, o11, o12], [], am_mix mo_S25 g M)) (by omega) (by omega) ?_)))
          show R (157, [some (aR 8 0), some (aI ((k : Nat) : Int)), some (aI gl), some (aI (M 25 0 (2 * k))), some (aI b), some (aL ab), none, some (aL be), none, some (aI ((i : Nat) : Int)), o10, o11, o12], [], am_mix mo_S25 g M)
          refine hR _ (hR _ (hR _ (hR _ (hR _ (hR _ (?_))))))
          show R (165, [some (aR 8 0), some (aI ((k : Nat) : Int)), some (aI gl), some (aI (M 25 0 (2 * k))), some (aI b), some (aL ab), none, some (aL be), none, some (aI ((i : Nat) : Int)), o10, o11, o12], [aI (M 25 0 (2 * k)), aI (2 * ((k : Nat) : Int)), aR 25 0], am_mix mo_S25 g M)
          refine hR _ ⟨(show 0 ≤ ((2 * ((k : Nat) : Int)) : Int) ∧ ((2 * ((k : Nat) : Int)) : Int) < 10 from (by omega)), ?_⟩
          show R (166, [some (aR 8 0), some (aI ((k : Nat) : Int)), some (aI gl), some (aI (M 25 0 (2 * k))), some (aI b), some (aL ab), none, some (aL be), none, some (aI ((i : Nat) : Int)), o10, o11, o12], [], am_wr (am_mix mo_S25 g M) 25 0 (((2 * ((k : Nat) : Int))).toNat) (M 25 0 (2 * k)))
          refine hR _ (?_)
          show R (168, [some (aR 8 0), some (aI ((k : Nat) : Int)), some (aI gl), some (aI (M 25 0 (2 * k))), some (aI b), some (aL ab), none, some (aL be), none, some (aI ((i : Nat) : Int)), o10, o11, o12], [aI b], am_wr (am_mix mo_S25 g M) 25 0 (((2 * ((k : Nat) : Int))).toNat) (M 25 0 (2 * k)))
          refine hR _ (show K (some (aI b)) (am_wr (am_mix mo_S25 g M) 25 0 (((2 * ((k : Nat) : Int))).toNat) (M 25 0 (2 * k))) from ?_)
          rw [show (((2 * ((k : Nat) : Int))).toNat) = 2 * k by omega]
          have hres : jx_ahead M ((k : Nat) : Int) gl = b := by
            unfold jx_ahead
            rw [if_pos (by omega), if_pos (by omega), hb, show i = 100 by omega]
            rfl
          rw [hres] at hK
          have e9 := mo_but.rest (S := mo_SM) (S2 := mo_S25) (g := g) hbut rfl (fun w h1 h2 => am_el_cons h1 h2)
          rw [e9.eq]
          exact hK _
        | succ f ih =>
          intro i x b ab be o10 o11 o12 g hx hin hbut hb hab hbe
          subst hx
          have hbp : jf_bp ((jf_ba M k gl) i) 140010 65 100 := jf_best_b (by decide) (by decide) (by decide) hbnd i (by omega)
          obtain ⟨hbp1, hbp2, hbp3, hbp4⟩ := hbp
          rw [← hb] at hbp1
          rw [← hbe] at hbp3 hbp4
          refine hR _ (hR _ (hR _ (am_brf (rg := am_in ((i : Nat) : Int) ∧ am_in 100) (P := 100 ≤ ((i : Nat) : Int)) (A := R (157, [some (aR 8 0), some (aI ((k : Nat) : Int)), some (aI gl), some (aI (M 25 0 (2 * k))), some (aI b), some (aL ab), none, some (aL be), none, some (aI ((i : Nat) : Int)), o10, o11, o12], [], am_mix mo_S25 g M)) (B := R (51, [some (aR 8 0), some (aI ((k : Nat) : Int)), some (aI gl), some (aI (M 25 0 (2 * k))), some (aI b), some (aL ab), none, some (aL be), none, some (aI ((i : Nat) : Int)), o10, o11, o12], [], am_mix mo_S25 g M)) (by omega) (by omega) ?_)))
          show R (51, [some (aR 8 0), some (aI ((k : Nat) : Int)), some (aI gl), some (aI (M 25 0 (2 * k))), some (aI b), some (aL ab), none, some (aL be), none, some (aI ((i : Nat) : Int)), o10, o11, o12], [], am_mix mo_S25 g M)
          refine hR _ (hR _ (hR _ (hR _ (hR _ (hR _ (?_))))))
          show R (60, [some (aR 8 0), some (aI ((k : Nat) : Int)), some (aI gl), some (aI (M 25 0 (2 * k))), some (aI b), some (aL ab), none, some (aL be), none, some (aI ((i : Nat) : Int)), o10, o11, o12], [aI ((i : Nat) : Int), aI (2 * ((k : Nat) : Int)), aR 25 0], am_mix mo_S25 g M)
          refine hR _ ⟨(show 0 ≤ ((2 * ((k : Nat) : Int)) : Int) ∧ ((2 * ((k : Nat) : Int)) : Int) < 10 from (by omega)), ?_⟩
          show R (61, [some (aR 8 0), some (aI ((k : Nat) : Int)), some (aI gl), some (aI (M 25 0 (2 * k))), some (aI b), some (aL ab), none, some (aL be), none, some (aI ((i : Nat) : Int)), o10, o11, o12], [], am_wr (am_mix mo_S25 g M) 25 0 (((2 * ((k : Nat) : Int))).toNat) ((i : Nat) : Int))
          rw [show (((2 * ((k : Nat) : Int))).toNat) = 2 * k by omega]
          have hb2 : mo_but 25 (2 * k) (am_wr (am_mix mo_S25 g M) 25 0 (2 * k) ((i : Nat) : Int)) M := mo_but.wr (g := am_mix mo_S25 g M) hbut
          have hv2 : (am_wr (am_mix mo_S25 g M) 25 0 (2 * k) ((i : Nat) : Int)) 25 0 (2 * k) = ((i : Nat) : Int) := am_wr_eq
          have e9 : am_ag mo_S25 M (am_wr (am_mix mo_S25 g M) 25 0 (2 * k) ((i : Nat) : Int)) := (am_ag.rf.mix rfl).wr rfl
          rw [e9.eq] at hb2 hv2 ⊢
          generalize am_wr (am_mix mo_S25 g M) 25 0 (2 * k) ((i : Nat) : Int) = g1 at hb2 hv2 ⊢
          show R (61, [some (aR 8 0), some (aI ((k : Nat) : Int)), some (aI gl), some (aI (M 25 0 (2 * k))), some (aI b), some (aL ab), none, some (aL be), none, some (aI ((i : Nat) : Int)), o10, o11, o12], [], am_mix mo_S25 g1 M)
          obtain ⟨p, hpp⟩ : ∃ p, p = jf_pa M k i := ⟨_, rfl⟩
          have hp : mo_p (am_mix mo_S25 g1 M) k r p := by
            rw [hpp]
            exact ⟨⟨hp0.1.1, hp0.1.2.1, hv2.symm, hp0.1.2.2.2.trans (hb2 0 (2 * k + 1) (by omega)).symm⟩, hp0.2⟩
          have hok : jf_ok p := by rw [hpp]; exact hoki i (by omega)
          have hpm : p.mk = M 22 0 0 := by rw [hpp]; exact hpm0
          have hps : p.st = 0 := by rw [hpp]
          have hA := jf_A_b hok
          have hwo := jf_wo_b hok gg
          have em1 := Int.neg_mul (jf_wo p gg) be
          have em2 : ab * (jf_A p) = -(((jf_ba M k gl) i).2.1 * (jf_A p)) := by rw [hab]; exact Int.neg_mul _ _
          have mb1 := jf_mb (a := (jf_wo p gg)) (b := be) (A := 140010) (B := 65) (by omega) (by omega)
          have mb2 := jf_mb (a := ((jf_ba M k gl) i).2.1) (b := (jf_A p)) (A := 140010) (B := 65) (by omega) (by omega)
          refine hR _ (hR _ (?_))
          show R (63, [some (aR 8 0), some (aI ((k : Nat) : Int)), some (aI gl), some (aI (M 25 0 (2 * k))), some (aI b), some (aL ab), none, some (aL be), none, some (aI ((i : Nat) : Int)), o10, o11, o12], [aI ((k : Nat) : Int), aR 8 0], am_mix mo_S25 g1 M)
          refine hR _ (sm_goes (p := p) (r := r) (by omega) hk hr hr6 hwt hp hok hpm hps (fun g170 hth => ?_))
          have hthr := hth.1
          have hthA := hth.2.1
          have hthN := hth.2.2
          show R (66, [some (aR 8 0), some (aI ((k : Nat) : Int)), some (aI gl), some (aI (M 25 0 (2 * k))), some (aI b), some (aL ab), none, some (aL be), none, some (aI ((i : Nat) : Int)), o10, o11, o12], [], am_mix mo_SM g170 (am_mix mo_S25 g1 M))
          refine hR _ (hR _ (hR _ (hR _ (hR _ (?_)))))
          show R (71, [some (aR 8 0), some (aI ((k : Nat) : Int)), some (aI gl), some (aI (M 25 0 (2 * k))), some (aI b), some (aL ab), none, some (aL be), none, some (aI ((i : Nat) : Int)), o10, o11, o12], [aI (2 * gl), aI ((k : Nat) : Int), aR 8 0], am_mix mo_SM g170 (am_mix mo_S25 g1 M))
          rw [hg2]
          show R (71, [some (aR 8 0), some (aI ((k : Nat) : Int)), some (aI gl), some (aI (M 25 0 (2 * k))), some (aI b), some (aL ab), none, some (aL be), none, some (aI ((i : Nat) : Int)), o10, o11, o12], [aI gg, aI ((k : Nat) : Int), aR 8 0], am_mix mo_SM g170 (am_mix mo_S25 g1 M))
          refine hR _ (sm_aboveOf (p := p) (r := r) (by omega) hk hr hr6 hwt hp hok hth hpm (by omega) (fun g171 => ?_))
          show R (74, [some (aR 8 0), some (aI ((k : Nat) : Int)), some (aI gl), some (aI (M 25 0 (2 * k))), some (aI b), some (aL ab), none, some (aL be), none, some (aI ((i : Nat) : Int)), o10, o11, o12], [aL (-(jf_wo p gg))], am_mix [37, 38] g171 (am_mix mo_SM g170 (am_mix mo_S25 g1 M)))
          refine hR _ (hR _ (hR _ (hR _ (am_brc (rg := am_in b ∧ am_in (-1)) (P := b = (-1)) (A := R (99, [some (aR 8 0), some (aI ((k : Nat) : Int)), some (aI gl), some (aI (M 25 0 (2 * k))), some (aI b), some (aL ab), none, some (aL be), none, some (aI ((i : Nat) : Int)), some (aL (-(jf_wo p gg))), none, o12], [], am_mix [37, 38] g171 (am_mix mo_SM g170 (am_mix mo_S25 g1 M)))) (B := R (82, [some (aR 8 0), some (aI ((k : Nat) : Int)), some (aI gl), some (aI (M 25 0 (2 * k))), some (aI b), some (aL ab), none, some (aL be), none, some (aI ((i : Nat) : Int)), some (aL (-(jf_wo p gg))), none, o12], [], am_mix [37, 38] g171 (am_mix mo_SM g170 (am_mix mo_S25 g1 M)))) (by omega) (fun c79 => ?_) (fun c79 => ?_)))))
          · refine hR _ (hR _ (hR _ (hR _ (hR _ (am_brf (rg := am_in 1) (P := (1 : Int) = 0) (A := R (116, [some (aR 8 0), some (aI ((k : Nat) : Int)), some (aI gl), some (aI (M 25 0 (2 * k))), some (aI b), some (aL ab), none, some (aL be), none, some (aI ((i : Nat) : Int)), some (aL (-(jf_wo p gg))), none, some (aI 1)], [], am_mix [37, 38] g171 (am_mix mo_SM g170 (am_mix mo_S25 g1 M)))) (B := R (111, [some (aR 8 0), some (aI ((k : Nat) : Int)), some (aI gl), some (aI (M 25 0 (2 * k))), some (aI b), some (aL ab), none, some (aL be), none, some (aI ((i : Nat) : Int)), some (aL (-(jf_wo p gg))), none, some (aI 1)], [], am_mix [37, 38] g171 (am_mix mo_SM g170 (am_mix mo_S25 g1 M)))) (by omega) (by omega) ?_)))))
            show R (111, [some (aR 8 0), some (aI ((k : Nat) : Int)), some (aI gl), some (aI (M 25 0 (2 * k))), some (aI b), some (aL ab), none, some (aL be), none, some (aI ((i : Nat) : Int)), some (aL (-(jf_wo p gg))), none, some (aI 1)], [], am_mix [37, 38] g171 (am_mix mo_SM g170 (am_mix mo_S25 g1 M)))
            refine hR _ (hR _ (hR _ (hR _ (hR _ (am_brf (rg := am_in 1) (P := (1 : Int) = 0) (A := R (130, [some (aR 8 0), some (aI ((k : Nat) : Int)), some (aI gl), some (aI (M 25 0 (2 * k))), some (aI ((i : Nat) : Int)), some (aL ab), none, some (aL be), none, some (aI ((i : Nat) : Int)), some (aL (-(jf_wo p gg))), none, some (aI 1)], [], am_mix [37, 38] g171 (am_mix mo_SM g170 (am_mix mo_S25 g1 M)))) (B := R (125, [some (aR 8 0), some (aI ((k : Nat) : Int)), some (aI gl), some (aI (M 25 0 (2 * k))), some (aI ((i : Nat) : Int)), some (aL ab), none, some (aL be), none, some (aI ((i : Nat) : Int)), some (aL (-(jf_wo p gg))), none, some (aI 1)], [], am_mix [37, 38] g171 (am_mix mo_SM g170 (am_mix mo_S25 g1 M)))) (by omega) (by omega) ?_)))))
            show R (125, [some (aR 8 0), some (aI ((k : Nat) : Int)), some (aI gl), some (aI (M 25 0 (2 * k))), some (aI ((i : Nat) : Int)), some (aL ab), none, some (aL be), none, some (aI ((i : Nat) : Int)), some (aL (-(jf_wo p gg))), none, some (aI 1)], [], am_mix [37, 38] g171 (am_mix mo_SM g170 (am_mix mo_S25 g1 M)))
            refine hR _ (hR _ (hR _ (hR _ (hR _ (am_brf (rg := am_in 1) (P := (1 : Int) = 0) (A := R (147, [some (aR 8 0), some (aI ((k : Nat) : Int)), some (aI gl), some (aI (M 25 0 (2 * k))), some (aI ((i : Nat) : Int)), some (aL (-(jf_wo p gg))), none, some (aL be), none, some (aI ((i : Nat) : Int)), some (aL (-(jf_wo p gg))), none, some (aI 1)], [], am_mix [37, 38] g171 (am_mix mo_SM g170 (am_mix mo_S25 g1 M)))) (B := R (139, [some (aR 8 0), some (aI ((k : Nat) : Int)), some (aI gl), some (aI (M 25 0 (2 * k))), some (aI ((i : Nat) : Int)), some (aL (-(jf_wo p gg))), none, some (aL be), none, some (aI ((i : Nat) : Int)), some (aL (-(jf_wo p gg))), none, some (aI 1)], [], am_mix [37, 38] g171 (am_mix mo_SM g170 (am_mix mo_S25 g1 M)))) (by omega) (by omega) ?_)))))
            show R (139, [some (aR 8 0), some (aI ((k : Nat) : Int)), some (aI gl), some (aI (M 25 0 (2 * k))), some (aI ((i : Nat) : Int)), some (aL (-(jf_wo p gg))), none, some (aL be), none, some (aI ((i : Nat) : Int)), some (aL (-(jf_wo p gg))), none, some (aI 1)], [], am_mix [37, 38] g171 (am_mix mo_SM g170 (am_mix mo_S25 g1 M)))
            refine hR _ (hR _ (?_))
            show R (143, [some (aR 8 0), some (aI ((k : Nat) : Int)), some (aI gl), some (aI (M 25 0 (2 * k))), some (aI ((i : Nat) : Int)), some (aL (-(jf_wo p gg))), none, some (aL be), none, some (aI ((i : Nat) : Int)), some (aL (-(jf_wo p gg))), none, some (aI 1)], [aI (g170 454 0 0)], am_mix [37, 38] g171 (am_mix mo_SM g170 (am_mix mo_S25 g1 M)))
            rw [(show g170 454 0 0 = jf_A p from hthA)]
            show R (143, [some (aR 8 0), some (aI ((k : Nat) : Int)), some (aI gl), some (aI (M 25 0 (2 * k))), some (aI ((i : Nat) : Int)), some (aL (-(jf_wo p gg))), none, some (aL be), none, some (aI ((i : Nat) : Int)), some (aL (-(jf_wo p gg))), none, some (aI 1)], [aI (jf_A p)], am_mix [37, 38] g171 (am_mix mo_SM g170 (am_mix mo_S25 g1 M)))
            refine hR _ ⟨(by omega), ?_⟩
            show R (144, [some (aR 8 0), some (aI ((k : Nat) : Int)), some (aI gl), some (aI (M 25 0 (2 * k))), some (aI ((i : Nat) : Int)), some (aL (-(jf_wo p gg))), none, some (aL be), none, some (aI ((i : Nat) : Int)), some (aL (-(jf_wo p gg))), none, some (aI 1)], [aL (jf_A p)], am_mix [37, 38] g171 (am_mix mo_SM g170 (am_mix mo_S25 g1 M)))
            refine hR _ (hR _ (hR _ (hR _ (?_))))
            show R (44, [some (aR 8 0), some (aI ((k : Nat) : Int)), some (aI gl), some (aI (M 25 0 (2 * k))), some (aI ((i : Nat) : Int)), some (aL (-(jf_wo p gg))), none, some (aL (jf_A p)), none, some (aI (((i : Nat) : Int) + 1)), some (aL (-(jf_wo p gg))), none, some (aI 1)], [], am_mix [37, 38] g171 (am_mix mo_SM g170 (am_mix mo_S25 g1 M)))
            have hb3 : mo_but 25 (2 * k) (am_mix [37, 38] g171 (am_mix mo_SM g170 (am_mix mo_S25 g1 M))) M := hb2
            have e9 : am_ag mo_S25 M (am_mix [37, 38] g171 (am_mix mo_SM g170 (am_mix mo_S25 g1 M))) := (((am_ag.rf).mix rfl).mix rfl).mix rfl
            rw [e9.eq] at hb3 ⊢
            have e1 : (jf_ba M k gl) (i + 1) = (((i : Nat) : Int), (jf_wo p gg), (jf_A p)) := (show (jf_ba M k gl) (i + 1) = jf_bst ((jf_ba M k gl) i) ((i : Nat) : Int) (jf_wo p gg) (jf_A p) from by rw [hpp, hgg]; rfl).trans (if_pos (by rw [← hb, ← hbe]; omega))
            refine ih (i + 1) _ _ _ _ _ _ _ _ (by omega) (by omega) hb3 ?_ ?_ ?_
            · rw [e1]
            · first | (rw [e1]; done) | (rw [e1]; exact (Int.neg_neg _).symm)
            · rw [e1]
          · refine hR _ (hR _ (hR _ (hR _ (hR _ (hR _ (?_))))))
            show R (93, [some (aR 8 0), some (aI ((k : Nat) : Int)), some (aI gl), some (aI (M 25 0 (2 * k))), some (aI b), some (aL ab), none, some (aL be), none, some (aI ((i : Nat) : Int)), some (aL (-(jf_wo p gg))), none, o12], [aI (g170 454 0 0), aL ab, aL ((-(jf_wo p gg)) * be)], am_mix [37, 38] g171 (am_mix mo_SM g170 (am_mix mo_S25 g1 M)))
            rw [(show g170 454 0 0 = jf_A p from hthA)]
            show R (93, [some (aR 8 0), some (aI ((k : Nat) : Int)), some (aI gl), some (aI (M 25 0 (2 * k))), some (aI b), some (aL ab), none, some (aL be), none, some (aI ((i : Nat) : Int)), some (aL (-(jf_wo p gg))), none, o12], [aI (jf_A p), aL ab, aL ((-(jf_wo p gg)) * be)], am_mix [37, 38] g171 (am_mix mo_SM g170 (am_mix mo_S25 g1 M)))
            refine hR _ ⟨(by omega), ?_⟩
            show R (94, [some (aR 8 0), some (aI ((k : Nat) : Int)), some (aI gl), some (aI (M 25 0 (2 * k))), some (aI b), some (aL ab), none, some (aL be), none, some (aI ((i : Nat) : Int)), some (aL (-(jf_wo p gg))), none, o12], [aL (jf_A p), aL ab, aL ((-(jf_wo p gg)) * be)], am_mix [37, 38] g171 (am_mix mo_SM g170 (am_mix mo_S25 g1 M)))
            refine hR _ (?_)
            show R (95, [some (aR 8 0), some (aI ((k : Nat) : Int)), some (aI gl), some (aI (M 25 0 (2 * k))), some (aI b), some (aL ab), none, some (aL be), none, some (aI ((i : Nat) : Int)), some (aL (-(jf_wo p gg))), none, o12], [aL (ab * (jf_A p)), aL ((-(jf_wo p gg)) * be)], am_mix [37, 38] g171 (am_mix mo_SM g170 (am_mix mo_S25 g1 M)))
            refine am_lc (x := ((-(jf_wo p gg)) * be)) (y := (ab * (jf_A p))) (P := (ab * (jf_A p)) ≤ ((-(jf_wo p gg)) * be)) (A := R (103, [some (aR 8 0), some (aI ((k : Nat) : Int)), some (aI gl), some (aI (M 25 0 (2 * k))), some (aI b), some (aL ab), none, some (aL be), none, some (aI ((i : Nat) : Int)), some (aL (-(jf_wo p gg))), none, o12], [], am_mix [37, 38] g171 (am_mix mo_SM g170 (am_mix mo_S25 g1 M)))) (B := R (99, [some (aR 8 0), some (aI ((k : Nat) : Int)), some (aI gl), some (aI (M 25 0 (2 * k))), some (aI b), some (aL ab), none, some (aL be), none, some (aI ((i : Nat) : Int)), some (aL (-(jf_wo p gg))), none, o12], [], am_mix [37, 38] g171 (am_mix mo_SM g170 (am_mix mo_S25 g1 M)))) (by omega) (fun hA hB => hR _ ⟨(by omega), (fun hz => hR _ (am_brf (P := 0 ≤ (-1 : Int)) (A := R (103, [some (aR 8 0), some (aI ((k : Nat) : Int)), some (aI gl), some (aI (M 25 0 (2 * k))), some (aI b), some (aL ab), none, some (aL be), none, some (aI ((i : Nat) : Int)), some (aL (-(jf_wo p gg))), none, o12], [], am_mix [37, 38] g171 (am_mix mo_SM g170 (am_mix mo_S25 g1 M)))) (B := R (99, [some (aR 8 0), some (aI ((k : Nat) : Int)), some (aI gl), some (aI (M 25 0 (2 * k))), some (aI b), some (aL ab), none, some (aL be), none, some (aI ((i : Nat) : Int)), some (aL (-(jf_wo p gg))), none, o12], [], am_mix [37, 38] g171 (am_mix mo_SM g170 (am_mix mo_S25 g1 M)))) (by omega) (by omega) (hB (by omega)))), (fun hz => hR _ (am_brt (P := 0 ≤ (0 : Int)) (A := R (103, [some (aR 8 0), some (aI ((k : Nat) : Int)), some (aI gl), some (aI (M 25 0 (2 * k))), some (aI b), some (aL ab), none, some (aL be), none, some (aI ((i : Nat) : Int)), some (aL (-(jf_wo p gg))), none, o12], [], am_mix [37, 38] g171 (am_mix mo_SM g170 (am_mix mo_S25 g1 M)))) (B := R (99, [some (aR 8 0), some (aI ((k : Nat) : Int)), some (aI gl), some (aI (M 25 0 (2 * k))), some (aI b), some (aL ab), none, some (aL be), none, some (aI ((i : Nat) : Int)), some (aL (-(jf_wo p gg))), none, o12], [], am_mix [37, 38] g171 (am_mix mo_SM g170 (am_mix mo_S25 g1 M)))) (by omega) (by omega) (hA (by omega)))), (fun hz => hR _ (am_brt (P := 0 ≤ (1 : Int)) (A := R (103, [some (aR 8 0), some (aI ((k : Nat) : Int)), some (aI gl), some (aI (M 25 0 (2 * k))), some (aI b), some (aL ab), none, some (aL be), none, some (aI ((i : Nat) : Int)), some (aL (-(jf_wo p gg))), none, o12], [], am_mix [37, 38] g171 (am_mix mo_SM g170 (am_mix mo_S25 g1 M)))) (B := R (99, [some (aR 8 0), some (aI ((k : Nat) : Int)), some (aI gl), some (aI (M 25 0 (2 * k))), some (aI b), some (aL ab), none, some (aL be), none, some (aI ((i : Nat) : Int)), some (aL (-(jf_wo p gg))), none, o12], [], am_mix [37, 38] g171 (am_mix mo_SM g170 (am_mix mo_S25 g1 M)))) (by omega) (by omega) (hA (by omega))))⟩) (fun c95 => ?_) (fun c95 => ?_)
            · refine hR _ (hR _ (hR _ (hR _ (am_brt (rg := am_in 0) (P := (0 : Int) = 0) (A := R (116, [some (aR 8 0), some (aI ((k : Nat) : Int)), some (aI gl), some (aI (M 25 0 (2 * k))), some (aI b), some (aL ab), none, some (aL be), none, some (aI ((i : Nat) : Int)), some (aL (-(jf_wo p gg))), none, some (aI 0)], [], am_mix [37, 38] g171 (am_mix mo_SM g170 (am_mix mo_S25 g1 M)))) (B := R (111, [some (aR 8 0), some (aI ((k : Nat) : Int)), some (aI gl), some (aI (M 25 0 (2 * k))), some (aI b), some (aL ab), none, some (aL be), none, some (aI ((i : Nat) : Int)), some (aL (-(jf_wo p gg))), none, some (aI 0)], [], am_mix [37, 38] g171 (am_mix mo_SM g170 (am_mix mo_S25 g1 M)))) (by omega) (by omega) ?_))))
              show R (116, [some (aR 8 0), some (aI ((k : Nat) : Int)), some (aI gl), some (aI (M 25 0 (2 * k))), some (aI b), some (aL ab), none, some (aL be), none, some (aI ((i : Nat) : Int)), some (aL (-(jf_wo p gg))), none, some (aI 0)], [], am_mix [37, 38] g171 (am_mix mo_SM g170 (am_mix mo_S25 g1 M)))
              refine hR _ (hR _ (hR _ (hR _ (am_brt (rg := am_in 0) (P := (0 : Int) = 0) (A := R (130, [some (aR 8 0), some (aI ((k : Nat) : Int)), some (aI gl), some (aI (M 25 0 (2 * k))), some (aI b), some (aL ab), none, some (aL be), none, some (aI ((i : Nat) : Int)), some (aL (-(jf_wo p gg))), none, some (aI 0)], [], am_mix [37, 38] g171 (am_mix mo_SM g170 (am_mix mo_S25 g1 M)))) (B := R (125, [some (aR 8 0), some (aI ((k : Nat) : Int)), some (aI gl), some (aI (M 25 0 (2 * k))), some (aI b), some (aL ab), none, some (aL be), none, some (aI ((i : Nat) : Int)), some (aL (-(jf_wo p gg))), none, some (aI 0)], [], am_mix [37, 38] g171 (am_mix mo_SM g170 (am_mix mo_S25 g1 M)))) (by omega) (by omega) ?_))))
              show R (130, [some (aR 8 0), some (aI ((k : Nat) : Int)), some (aI gl), some (aI (M 25 0 (2 * k))), some (aI b), some (aL ab), none, some (aL be), none, some (aI ((i : Nat) : Int)), some (aL (-(jf_wo p gg))), none, some (aI 0)], [], am_mix [37, 38] g171 (am_mix mo_SM g170 (am_mix mo_S25 g1 M)))
              refine hR _ (hR _ (hR _ (hR _ (am_brt (rg := am_in 0) (P := (0 : Int) = 0) (A := R (147, [some (aR 8 0), some (aI ((k : Nat) : Int)), some (aI gl), some (aI (M 25 0 (2 * k))), some (aI b), some (aL ab), none, some (aL be), none, some (aI ((i : Nat) : Int)), some (aL (-(jf_wo p gg))), none, some (aI 0)], [], am_mix [37, 38] g171 (am_mix mo_SM g170 (am_mix mo_S25 g1 M)))) (B := R (139, [some (aR 8 0), some (aI ((k : Nat) : Int)), some (aI gl), some (aI (M 25 0 (2 * k))), some (aI b), some (aL ab), none, some (aL be), none, some (aI ((i : Nat) : Int)), some (aL (-(jf_wo p gg))), none, some (aI 0)], [], am_mix [37, 38] g171 (am_mix mo_SM g170 (am_mix mo_S25 g1 M)))) (by omega) (by omega) ?_))))
              show R (147, [some (aR 8 0), some (aI ((k : Nat) : Int)), some (aI gl), some (aI (M 25 0 (2 * k))), some (aI b), some (aL ab), none, some (aL be), none, some (aI ((i : Nat) : Int)), some (aL (-(jf_wo p gg))), none, some (aI 0)], [], am_mix [37, 38] g171 (am_mix mo_SM g170 (am_mix mo_S25 g1 M)))
              refine hR _ (hR _ (hR _ (hR _ (?_))))
              show R (44, [some (aR 8 0), some (aI ((k : Nat) : Int)), some (aI gl), some (aI (M 25 0 (2 * k))), some (aI b), some (aL ab), none, some (aL be), none, some (aI (((i : Nat) : Int) + 1)), some (aL (-(jf_wo p gg))), none, some (aI 0)], [], am_mix [37, 38] g171 (am_mix mo_SM g170 (am_mix mo_S25 g1 M)))
              have hb3 : mo_but 25 (2 * k) (am_mix [37, 38] g171 (am_mix mo_SM g170 (am_mix mo_S25 g1 M))) M := hb2
              have e9 : am_ag mo_S25 M (am_mix [37, 38] g171 (am_mix mo_SM g170 (am_mix mo_S25 g1 M))) := (((am_ag.rf).mix rfl).mix rfl).mix rfl
              rw [e9.eq] at hb3 ⊢
              have e1 : (jf_ba M k gl) (i + 1) = (jf_ba M k gl) i := (show (jf_ba M k gl) (i + 1) = jf_bst ((jf_ba M k gl) i) ((i : Nat) : Int) (jf_wo p gg) (jf_A p) from by rw [hpp, hgg]; rfl).trans (if_neg (by rw [← hb, ← hbe]; omega))
              refine ih (i + 1) _ _ _ _ _ _ _ _ (by omega) (by omega) hb3 ?_ ?_ ?_
              · rw [e1]
                exact hb
              · rw [e1]
                exact hab
              · rw [e1]
                exact hbe
            · refine hR _ (hR _ (hR _ (hR _ (hR _ (am_brf (rg := am_in 1) (P := (1 : Int) = 0) (A := R (116, [some (aR 8 0), some (aI ((k : Nat) : Int)), some (aI gl), some (aI (M 25 0 (2 * k))), some (aI b), some (aL ab), none, some (aL be), none, some (aI ((i : Nat) : Int)), some (aL (-(jf_wo p gg))), none, some (aI 1)], [], am_mix [37, 38] g171 (am_mix mo_SM g170 (am_mix mo_S25 g1 M)))) (B := R (111, [some (aR 8 0), some (aI ((k : Nat) : Int)), some (aI gl), some (aI (M 25 0 (2 * k))), some (aI b), some (aL ab), none, some (aL be), none, some (aI ((i : Nat) : Int)), some (aL (-(jf_wo p gg))), none, some (aI 1)], [], am_mix [37, 38] g171 (am_mix mo_SM g170 (am_mix mo_S25 g1 M)))) (by omega) (by omega) ?_)))))
              show R (111, [some (aR 8 0), some (aI ((k : Nat) : Int)), some (aI gl), some (aI (M 25 0 (2 * k))), some (aI b), some (aL ab), none, some (aL be), none, some (aI ((i : Nat) : Int)), some (aL (-(jf_wo p gg))), none, some (aI 1)], [], am_mix [37, 38] g171 (am_mix mo_SM g170 (am_mix mo_S25 g1 M)))
              refine hR _ (hR _ (hR _ (hR _ (hR _ (am_brf (rg := am_in 1) (P := (1 : Int) = 0) (A := R (130, [some (aR 8 0), some (aI ((k : Nat) : Int)), some (aI gl), some (aI (M 25 0 (2 * k))), some (aI ((i : Nat) : Int)), some (aL ab), none, some (aL be), none, some (aI ((i : Nat) : Int)), some (aL (-(jf_wo p gg))), none, some (aI 1)], [], am_mix [37, 38] g171 (am_mix mo_SM g170 (am_mix mo_S25 g1 M)))) (B := R (125, [some (aR 8 0), some (aI ((k : Nat) : Int)), some (aI gl), some (aI (M 25 0 (2 * k))), some (aI ((i : Nat) : Int)), some (aL ab), none, some (aL be), none, some (aI ((i : Nat) : Int)), some (aL (-(jf_wo p gg))), none, some (aI 1)], [], am_mix [37, 38] g171 (am_mix mo_SM g170 (am_mix mo_S25 g1 M)))) (by omega) (by omega) ?_)))))
              show R (125, [some (aR 8 0), some (aI ((k : Nat) : Int)), some (aI gl), some (aI (M 25 0 (2 * k))), some (aI ((i : Nat) : Int)), some (aL ab), none, some (aL be), none, some (aI ((i : Nat) : Int)), some (aL (-(jf_wo p gg))), none, some (aI 1)], [], am_mix [37, 38] g171 (am_mix mo_SM g170 (am_mix mo_S25 g1 M)))
              refine hR _ (hR _ (hR _ (hR _ (hR _ (am_brf (rg := am_in 1) (P := (1 : Int) = 0) (A := R (147, [some (aR 8 0), some (aI ((k : Nat) : Int)), some (aI gl), some (aI (M 25 0 (2 * k))), some (aI ((i : Nat) : Int)), some (aL (-(jf_wo p gg))), none, some (aL be), none, some (aI ((i : Nat) : Int)), some (aL (-(jf_wo p gg))), none, some (aI 1)], [], am_mix [37, 38] g171 (am_mix mo_SM g170 (am_mix mo_S25 g1 M)))) (B := R (139, [some (aR 8 0), some (aI ((k : Nat) : Int)), some (aI gl), some (aI (M 25 0 (2 * k))), some (aI ((i : Nat) : Int)), some (aL (-(jf_wo p gg))), none, some (aL be), none, some (aI ((i : Nat) : Int)), some (aL (-(jf_wo p gg))), none, some (aI 1)], [], am_mix [37, 38] g171 (am_mix mo_SM g170 (am_mix mo_S25 g1 M)))) (by omega) (by omega) ?_)))))
              show R (139, [some (aR 8 0), some (aI ((k : Nat) : Int)), some (aI gl), some (aI (M 25 0 (2 * k))), some (aI ((i : Nat) : Int)), some (aL (-(jf_wo p gg))), none, some (aL be), none, some (aI ((i : Nat) : Int)), some (aL (-(jf_wo p gg))), none, some (aI 1)], [], am_mix [37, 38] g171 (am_mix mo_SM g170 (am_mix mo_S25 g1 M)))
              refine hR _ (hR _ (?_))
              show R (143, [some (aR 8 0), some (aI ((k : Nat) : Int)), some (aI gl), some (aI (M 25 0 (2 * k))), some (aI ((i : Nat) : Int)), some (aL (-(jf_wo p gg))), none, some (aL be), none, some (aI ((i : Nat) : Int)), some (aL (-(jf_wo p gg))), none, some (aI 1)], [aI (g170 454 0 0)], am_mix [37, 38] g171 (am_mix mo_SM g170 (am_mix mo_S25 g1 M)))
              rw [(show g170 454 0 0 = jf_A p from hthA)]
              show R (143, [some (aR 8 0), some (aI ((k : Nat) : Int)), some (aI gl), some (aI (M 25 0 (2 * k))), some (aI ((i : Nat) : Int)), some (aL (-(jf_wo p gg))), none, some (aL be), none, some (aI ((i : Nat) : Int)), some (aL (-(jf_wo p gg))), none, some (aI 1)], [aI (jf_A p)], am_mix [37, 38] g171 (am_mix mo_SM g170 (am_mix mo_S25 g1 M)))
              refine hR _ ⟨(by omega), ?_⟩
              show R (144, [some (aR 8 0), some (aI ((k : Nat) : Int)), some (aI gl), some (aI (M 25 0 (2 * k))), some (aI ((i : Nat) : Int)), some (aL (-(jf_wo p gg))), none, some (aL be), none, some (aI ((i : Nat) : Int)), some (aL (-(jf_wo p gg))), none, some (aI 1)], [aL (jf_A p)], am_mix [37, 38] g171 (am_mix mo_SM g170 (am_mix mo_S25 g1 M)))
              refine hR _ (hR _ (hR _ (hR _ (?_))))
              show R (44, [some (aR 8 0), some (aI ((k : Nat) : Int)), some (aI gl), some (aI (M 25 0 (2 * k))), some (aI ((i : Nat) : Int)), some (aL (-(jf_wo p gg))), none, some (aL (jf_A p)), none, some (aI (((i : Nat) : Int) + 1)), some (aL (-(jf_wo p gg))), none, some (aI 1)], [], am_mix [37, 38] g171 (am_mix mo_SM g170 (am_mix mo_S25 g1 M)))
              have hb3 : mo_but 25 (2 * k) (am_mix [37, 38] g171 (am_mix mo_SM g170 (am_mix mo_S25 g1 M))) M := hb2
              have e9 : am_ag mo_S25 M (am_mix [37, 38] g171 (am_mix mo_SM g170 (am_mix mo_S25 g1 M))) := (((am_ag.rf).mix rfl).mix rfl).mix rfl
              rw [e9.eq] at hb3 ⊢
              have e1 : (jf_ba M k gl) (i + 1) = (((i : Nat) : Int), (jf_wo p gg), (jf_A p)) := (show (jf_ba M k gl) (i + 1) = jf_bst ((jf_ba M k gl) i) ((i : Nat) : Int) (jf_wo p gg) (jf_A p) from by rw [hpp, hgg]; rfl).trans (if_pos (by rw [← hb, ← hbe]; omega))
              refine ih (i + 1) _ _ _ _ _ _ _ _ (by omega) (by omega) hb3 ?_ ?_ ?_
              · rw [e1]
              · first | (rw [e1]; done) | (rw [e1]; exact (Int.neg_neg _).symm)
              · rw [e1]
      have e9 : am_ag mo_S25 M M := am_ag.rf
      rw [e9.eq]
      exact key 100 0 _ _ _ _ _ _ _ _ rfl rfl (fun i j _ => rfl) rfl rfl rfl
    · show R (17, [some (aR 8 0), some (aI ((k : Nat) : Int)), some (aI gl), none, none, none, none, none, none, none, none, none, none], [aI 0], M)
      refine hR _ (am_brf (rg := am_in 0) (P := (0 : Int) ≠ 0) (A := R (23, [some (aR 8 0), some (aI ((k : Nat) : Int)), some (aI gl), none, none, none, none, none, none, none, none, none, none], [], M)) (B := R (20, [some (aR 8 0), some (aI ((k : Nat) : Int)), some (aI gl), none, none, none, none, none, none, none, none, none, none], [], M)) (by omega) (by omega) ?_)
      show R (20, [some (aR 8 0), some (aI ((k : Nat) : Int)), some (aI gl), none, none, none, none, none, none, none, none, none, none], [], M)
      refine hR _ (?_)
      show R (22, [some (aR 8 0), some (aI ((k : Nat) : Int)), some (aI gl), none, none, none, none, none, none, none, none, none, none], [aI (-7)], M)
      refine hR _ (show K (some (aI (-7))) M from ?_)
      have hres : jx_ahead M ((k : Nat) : Int) gl = (-7) := by
        unfold jx_ahead
        repeat' split
        all_goals first | omega | rfl | exact jf_il_no (by omega)
      rw [hres] at hK
      have e9 : am_ag mo_SM M M := am_ag.rf
      rw [e9.eq]
      exact hK _
  · show R (0, [some (aR 8 0), some (aI h), some (aI gl), none, none, none, none, none, none, none, none, none, none], [], M)
    refine hR _ (hR _ (?_))
    show R (2, [some (aR 8 0), some (aI h), some (aI gl), none, none, none, none, none, none, none, none, none, none], [aI h, aR 8 0], M)
    refine hR _ (sm_isHand (by omega) (show 0 ≤ M 421 0 0 ∧ M 421 0 0 ≤ 5 from hn') (by omega) (fun hz => absurd (show 0 ≤ h ∧ h < M 227 0 0 from ⟨hz.1, by rw [← h421]; exact hz.2⟩) hno) (fun _ => ?_))
    show R (5, [some (aR 8 0), some (aI h), some (aI gl), none, none, none, none, none, none, none, none, none, none], [aI 0], M)
    refine hR _ (am_brf (rg := am_in 0) (P := (0 : Int) ≠ 0) (A := R (11, [some (aR 8 0), some (aI h), some (aI gl), none, none, none, none, none, none, none, none, none, none], [], M)) (B := R (8, [some (aR 8 0), some (aI h), some (aI gl), none, none, none, none, none, none, none, none, none, none], [], M)) (by omega) (by omega) ?_)
    show R (8, [some (aR 8 0), some (aI h), some (aI gl), none, none, none, none, none, none, none, none, none, none], [], M)
    refine hR _ (?_)
    show R (10, [some (aR 8 0), some (aI h), some (aI gl), none, none, none, none, none, none, none, none, none, none], [aI (-5)], M)
    refine hR _ (show K (some (aI (-5))) M from ?_)
    have hres : jx_ahead M h gl = (-5) := by
      unfold jx_ahead
      repeat' split
      all_goals first | omega | rfl | exact jf_il_no (by omega)
    rw [hres] at hK
    have e9 : am_ag mo_SM M M := am_ag.rf
    rw [e9.eq]
    exact hK _
