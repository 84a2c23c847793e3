/-! wb -/
/-! THE REFERENCE: chance, spread, odds, alike -/
def mo_cf (p : jf_par) (mk s : Int) (a : Nat) : Int := if (if jf_E p a = mk then 0 else if mk < jf_E p a then 1 else 2) = s then jf_O p a else 0
theorem jf_ch {p : jf_par} (hok : jf_ok p) (mk s : Int) (hs : 0 ≤ s ∧ s ≤ 2) : jf_su (mo_cf p mk s) = if s = 0 then jf_at p mk else if s = 1 then jf_ab p mk else jf_A p - jf_at p mk - jf_ab p mk := by
  rw [jf_A_sum hok]
  have key : ∀ a, mo_cf p mk s a = if s = 0 then (if jf_E p a = mk then jf_O p a else 0) else if s = 1 then (if mk < jf_E p a then jf_O p a else 0) else jf_O p a - (if jf_E p a = mk then jf_O p a else 0) - (if mk < jf_E p a then jf_O p a else 0) := by
    intro a
    unfold mo_cf
    repeat' split
    all_goals omega
  unfold jf_su jf_at jf_ab jf_su
  dsimp only
  rw [key 0, key 1, key 2, key 3, key 4]
  by_cases h0 : s = 0
  · simp only [if_pos h0]
  · simp only [if_neg h0]
    by_cases h1 : s = 1
    · simp only [if_pos h1]
    · simp only [if_neg h1]
      omega
theorem mo_cf_b {p : jf_par} (hok : jf_ok p) (mk s : Int) : ∀ a, a < 5 → 0 ≤ mo_cf p mk s a ∧ mo_cf p mk s a ≤ 13 := fun a ha => by
  have := jf_O_b hok ha
  unfold mo_cf
  split <;> omega
theorem jf_fi_1 {p : jf_par} {a : Nat} : ∀ n, (∀ b, b < n → jf_E p b ≠ jf_E p a) → jf_fi p a n = 1
  | 0, _ => rfl
  | n + 1, h => by
    unfold jf_fi
    rw [jf_fi_1 n (fun b hb => h b (by omega)), if_neg (by decide), if_neg (h n (by omega))]
theorem jf_fi_0 {p : jf_par} {a b : Nat} (h : jf_E p b = jf_E p a) : ∀ n, b < n → jf_fi p a n = 0
  | 0, hb => absurd hb (Nat.not_lt_zero b)
  | n + 1, hb => by
    unfold jf_fi
    by_cases e : b = n
    · rw [← e, if_pos h]
      split <;> rfl
    · rw [jf_fi_0 h n (by omega), if_pos rfl]

set_option maxHeartbeats 1000000 in
theorem sm_chance {d : Nat} (hd : 9 ≤ d) {h s q : Int} {M : am_M} {K : am_K} (hJ : jf_J M) (hW : jf_C M) (ha_h : am_in h) (ha_s : am_in s) (ha_q : am_in q) (hK : ∀ g, K (some (aL (jx_chance M h s q))) (am_mix mo_SM g M)) : am_Call true d 158 [aR 8 0, aI h, aI s, aI q] M K := by
  obtain ⟨d, rfl⟩ : ∃ e, d = e + 1 := ⟨d - 1, by omega⟩
  refine ⟨rfl, fun R hR hC => ?_⟩
  replace hR : ∀ c, am_F true tb_f158 5 (am_Call true d) K R c → R c := hR
  have hn := hJ.1.1.2.2.2.2.2.2.2.1
  have hl0 := hJ.1.1.2.2.2.2.2.2.2.2
  have htc := hJ.2.2.1.1
  have hlt : 0 ≤ M 228 0 0 ∧ M 228 0 0 < 6 := by omega
  have hmk := hJ.1.1.1
  have hdr := hJ.1.1.2.1
  have hpr := hJ.1.1.2.2.1
  have hfu := hJ.1.1.2.2.2.1
  have hn' : 0 ≤ M 421 0 0 ∧ M 421 0 0 ≤ 5 := by rw [hW.1.2.1.1]; exact hn
  have h421 : M 421 0 0 = M 227 0 0 := hW.1.2.1.1
  show R (0, [some (aR 8 0), some (aI h), some (aI s), some (aI q), none, none, none, none], [], M)
  rcases jf_hd (M := M) (h := h) hn with ⟨k, rfl, hk5, hk⟩ | hno
  · obtain ⟨r, hrr⟩ : ∃ r, r = (M 228 0 0).toNat := ⟨_, rfl⟩
    have hr : M 431 0 0 = (r : Int) := by rw [hW.1.2.1.2.2.1]; omega
    have hr6 : r < 6 := by omega
    have hwt : mo_wt M r := (hW.2.1.2.2 r (by omega)).1
    obtain ⟨p, hpp⟩ : ∃ p, p = jf_px M k := ⟨_, rfl⟩
    have hp : mo_p M k r p := by rw [hpp, hrr]; exact jf_C.p hJ hW hk (by omega)
    have hok : jf_ok p := by rw [hpp]; exact hJ.px hk
    have hpm : p.mk = M 22 0 0 := by rw [hpp]; exact hW.1.1.1.symm
    have hps : p.st = 0 := by rw [hpp]
    have hpb := jf_P_b hok
    have hA := jf_A_b hok
    show R (0, [some (aR 8 0), some (aI ((k : Nat) : Int)), some (aI s), some (aI q), none, none, none, none], [], M)
    refine hR _ (hR _ (?_))
    show R (2, [some (aR 8 0), some (aI ((k : Nat) : Int)), some (aI s), some (aI q), none, none, none, none], [aI ((k : Nat) : Int), aR 8 0], M)
    refine hR _ (sm_isHand (by omega) (show 0 ≤ M 421 0 0 ∧ M 421 0 0 ≤ 5 from hn') (by omega) (fun _ => ?_) (fun hz => absurd (show 0 ≤ ((k : Nat) : Int) ∧ ((k : Nat) : Int) < M 421 0 0 by omega) hz))
    show R (5, [some (aR 8 0), some (aI ((k : Nat) : Int)), some (aI s), some (aI q), none, none, none, none], [aI 1], M)
    refine hR _ (am_brf (rg := am_in 1) (P := (1 : Int) = 0) (A := R (26, [some (aR 8 0), some (aI ((k : Nat) : Int)), some (aI s), some (aI q), none, none, none, none], [], M)) (B := R (8, [some (aR 8 0), some (aI ((k : Nat) : Int)), some (aI s), some (aI q), none, none, none, none], [], M)) (by omega) (by omega) ?_)
    show R (8, [some (aR 8 0), some (aI ((k : Nat) : Int)), some (aI s), some (aI q), none, none, none, none], [], M)
    refine hR _ (hR _ (hR _ (?_)))
    show R (11, [some (aR 8 0), some (aI ((k : Nat) : Int)), some (aI s), some (aI q), none, none, none, none], [aI 2, aI 0, aI s], M)
    refine hR _ (sp_in (by omega) (by omega) (fun h11 => ?_) (fun h11 => ?_))
    · show R (14, [some (aR 8 0), some (aI ((k : Nat) : Int)), some (aI s), some (aI q), none, none, none, none], [aI 1], M)
      refine hR _ (am_brf (rg := am_in 1) (P := (1 : Int) = 0) (A := R (26, [some (aR 8 0), some (aI ((k : Nat) : Int)), some (aI s), some (aI q), none, none, none, none], [], M)) (B := R (17, [some (aR 8 0), some (aI ((k : Nat) : Int)), some (aI s), some (aI q), none, none, none, none], [], M)) (by omega) (by omega) ?_)
      show R (17, [some (aR 8 0), some (aI ((k : Nat) : Int)), some (aI s), some (aI q), none, none, none, none], [], M)
      refine hR _ (hR _ (hR _ (?_)))
      show R (20, [some (aR 8 0), some (aI ((k : Nat) : Int)), some (aI s), some (aI q), none, none, none, none], [aI 1, aI 0, aI q], M)
      refine hR _ (sp_in (by omega) (by omega) (fun h20 => ?_) (fun h20 => ?_))
      · show R (23, [some (aR 8 0), some (aI ((k : Nat) : Int)), some (aI s), some (aI q), none, none, none, none], [aI 1], M)
        refine hR _ (am_brt (rg := am_in 1) (P := (1 : Int) ≠ 0) (A := R (30, [some (aR 8 0), some (aI ((k : Nat) : Int)), some (aI s), some (aI q), none, none, none, none], [], M)) (B := R (26, [some (aR 8 0), some (aI ((k : Nat) : Int)), some (aI s), some (aI q), none, none, none, none], [], M)) (by omega) (by omega) ?_)
        show R (30, [some (aR 8 0), some (aI ((k : Nat) : Int)), some (aI s), some (aI q), none, none, none, none], [], M)
        refine hR _ (hR _ (?_))
        show R (32, [some (aR 8 0), some (aI ((k : Nat) : Int)), some (aI s), some (aI q), none, none, none, none], [aI ((k : Nat) : Int), aR 8 0], M)
        refine hR _ (sm_goes (p := p) (r := r) (by omega) hk hr hr6 hwt hp hok hpm hps (fun g159 hth => ?_))
        have hthr := hth.1
        have hthA := hth.2.1
        have hthN := hth.2.2
        have hbO := fun a (ha : a < 5) => jf_O_b hok ha
        have hbE := fun a (ha : a < 5) => jf_E_b hok ha
        show R (35, [some (aR 8 0), some (aI ((k : Nat) : Int)), some (aI s), some (aI q), none, none, none, none], [], am_mix mo_SM g159 M)
        refine hR _ (hR _ (hR _ (hR _ (?_))))
        show R (41, [some (aR 8 0), some (aI ((k : Nat) : Int)), some (aI s), some (aI q), some (aL 0), none, some (aI 0), none], [], am_mix mo_SM g159 M)
        have key : ∀ (n a : Nat) (x acc : Int) (o7 : Option am_V), x = (a : Int) → a + n = 5 → acc = mo_ps (mo_cf p (M 220 0 0) s) a → R (41, [some (aR 8 0), some (aI ((k : Nat) : Int)), some (aI s), some (aI q), some (aL acc), none, some (aI x), o7], [], am_mix mo_SM g159 M) := by
          intro n
          induction n with
          | zero =>
            intro a x acc o7 hx hin hacc
            subst hx
            have ha5 : a = 5 := by omega
            have hb := mo_ps_b (mo_cf_b hok (M 220 0 0) s) a (by omega)
            rw [← hacc] at hb
            refine hR _ (hR _ (hR _ (am_brt (rg := am_in ((a : Nat) : Int) ∧ am_in 5) (P := 5 ≤ ((a : Nat) : Int)) (A := R (119, [some (aR 8 0), some (aI ((k : Nat) : Int)), some (aI s), some (aI q), some (aL acc), none, some (aI ((a : Nat) : Int)), o7], [], am_mix mo_SM g159 M)) (B := R (47, [some (aR 8 0), some (aI ((k : Nat) : Int)), some (aI s), some (aI q), some (aL acc), none, some (aI ((a : Nat) : Int)), o7], [], am_mix mo_SM g159 M)) (by omega) (by omega) ?_)))
            show R (119, [some (aR 8 0), some (aI ((k : Nat) : Int)), some (aI s), some (aI q), some (aL acc), none, some (aI ((a : Nat) : Int)), o7], [], am_mix mo_SM g159 M)
            refine hR _ (hR _ (hR _ (?_)))
            show R (125, [some (aR 8 0), some (aI ((k : Nat) : Int)), some (aI s), some (aI q), some (aL acc), none, some (aI ((a : Nat) : Int)), o7], [aI (g159 454 0 0), aL acc], am_mix mo_SM g159 M)
            rw [(show g159 454 0 0 = jf_A p from hthA)]
            show R (125, [some (aR 8 0), some (aI ((k : Nat) : Int)), some (aI s), some (aI q), some (aL acc), none, some (aI ((a : Nat) : Int)), o7], [aI (jf_A p), aL acc], am_mix mo_SM g159 M)
            refine hR _ ⟨(by omega), ?_⟩
            show R (126, [some (aR 8 0), some (aI ((k : Nat) : Int)), some (aI s), some (aI q), some (aL acc), none, some (aI ((a : Nat) : Int)), o7], [aL (jf_A p), aL acc], am_mix mo_SM g159 M)
            refine hR _ (?_)
            show R (127, [some (aR 8 0), some (aI ((k : Nat) : Int)), some (aI s), some (aI q), some (aL acc), none, some (aI ((a : Nat) : Int)), o7], [aI q, aL (jf_A p), aL acc], am_mix mo_SM g159 M)
            refine hR _ (sm_lowest (by omega) (by omega) (by omega) (by omega) ?_)
            show R (130, [some (aR 8 0), some (aI ((k : Nat) : Int)), some (aI s), some (aI q), some (aL acc), none, some (aI ((a : Nat) : Int)), o7], [aL (jf_il acc (jf_A p) q)], am_mix mo_SM g159 M)
            refine hR _ (show K (some (aL (jf_il acc (jf_A p) q))) (am_mix mo_SM g159 M) from ?_)
            have hres : jx_chance M ((k : Nat) : Int) s q = (jf_il acc (jf_A p) q) := by
              rw [hacc, ha5, mo_ps_5, jf_ch hok _ _ (by omega)]
              subst hpp
              unfold jx_chance
              rw [if_pos (show (0 ≤ ((k : Nat) : Int) ∧ ((k : Nat) : Int) < M 227 0 0) ∧ 0 ≤ s ∧ s ≤ 2 by omega)]
              rfl
            rw [hres] at hK
            have e9 : am_ag mo_SM M (am_mix mo_SM g159 M) := (am_ag.rf).mix rfl
            rw [e9.eq]
            exact hK _
          | succ n ih =>
            intro a x acc o7 hx hin hacc
            subst hx
            have h1 := hbO a (by omega)
            have h2 := hbE a (by omega)
            have hb := mo_ps_b (mo_cf_b hok (M 220 0 0) s) a (by omega)
            rw [← hacc] at hb
            refine hR _ (hR _ (hR _ (am_brf (rg := am_in ((a : Nat) : Int) ∧ am_in 5) (P := 5 ≤ ((a : Nat) : Int)) (A := R (119, [some (aR 8 0), some (aI ((k : Nat) : Int)), some (aI s), some (aI q), some (aL acc), none, some (aI ((a : Nat) : Int)), o7], [], am_mix mo_SM g159 M)) (B := R (47, [some (aR 8 0), some (aI ((k : Nat) : Int)), some (aI s), some (aI q), some (aL acc), none, some (aI ((a : Nat) : Int)), o7], [], am_mix mo_SM g159 M)) (by omega) (by omega) ?_)))
            show R (47, [some (aR 8 0), some (aI ((k : Nat) : Int)), some (aI s), some (aI q), some (aL acc), none, some (aI ((a : Nat) : Int)), o7], [], am_mix mo_SM g159 M)
            refine hR _ (hR _ (hR _ (?_)))
            show R (53, [some (aR 8 0), some (aI ((k : Nat) : Int)), some (aI s), some (aI q), some (aL acc), none, some (aI ((a : Nat) : Int)), o7], [aI ((a : Nat) : Int), aR 39 0], am_mix mo_SM g159 M)
            refine hR _ ⟨(show 0 ≤ (((a : Nat) : Int) : Int) ∧ (((a : Nat) : Int) : Int) < 5 from (by omega)), ?_⟩
            show R (54, [some (aR 8 0), some (aI ((k : Nat) : Int)), some (aI s), some (aI q), some (aL acc), none, some (aI ((a : Nat) : Int)), o7], [aI (g159 39 0 a)], am_mix mo_SM g159 M)
            rw [(show g159 39 0 a = jf_E p a from (hthr a (by omega)).1)]
            show R (54, [some (aR 8 0), some (aI ((k : Nat) : Int)), some (aI s), some (aI q), some (aL acc), none, some (aI ((a : Nat) : Int)), o7], [aI (jf_E p a)], am_mix mo_SM g159 M)
            refine hR _ (hR _ (hR _ (?_)))
            show R (59, [some (aR 8 0), some (aI ((k : Nat) : Int)), some (aI s), some (aI q), some (aL acc), none, some (aI ((a : Nat) : Int)), o7], [aI 0, aR 22 0, aI (jf_E p a)], am_mix mo_SM g159 M)
            refine hR _ ⟨(show 0 ≤ (0 : Int) ∧ (0 : Int) < 4 from (by omega)), ?_⟩
            show R (60, [some (aR 8 0), some (aI ((k : Nat) : Int)), some (aI s), some (aI q), some (aL acc), none, some (aI ((a : Nat) : Int)), o7], [aI (M 22 0 0), aI (jf_E p a)], am_mix mo_SM g159 M)
            rw [(show M 22 0 0 = M 220 0 0 from hW.1.1.1)]
            show R (60, [some (aR 8 0), some (aI ((k : Nat) : Int)), some (aI s), some (aI q), some (aL acc), none, some (aI ((a : Nat) : Int)), o7], [aI (M 220 0 0), aI (jf_E p a)], am_mix mo_SM g159 M)
            refine hR _ (am_brc (rg := am_in (jf_E p a) ∧ am_in (M 220 0 0)) (P := (jf_E p a) ≠ (M 220 0 0)) (A := R (67, [some (aR 8 0), some (aI ((k : Nat) : Int)), some (aI s), some (aI q), some (aL acc), none, some (aI ((a : Nat) : Int)), o7], [], am_mix mo_SM g159 M)) (B := R (63, [some (aR 8 0), some (aI ((k : Nat) : Int)), some (aI s), some (aI q), some (aL acc), none, some (aI ((a : Nat) : Int)), o7], [], am_mix mo_SM g159 M)) (by omega) (fun c60 => ?_) (fun c60 => ?_))
            · refine hR _ (hR _ (hR _ (?_)))
              show R (73, [some (aR 8 0), some (aI ((k : Nat) : Int)), some (aI s), some (aI q), some (aL acc), none, some (aI ((a : Nat) : Int)), o7], [aI ((a : Nat) : Int), aR 39 0], am_mix mo_SM g159 M)
              refine hR _ ⟨(show 0 ≤ (((a : Nat) : Int) : Int) ∧ (((a : Nat) : Int) : Int) < 5 from (by omega)), ?_⟩
              show R (74, [some (aR 8 0), some (aI ((k : Nat) : Int)), some (aI s), some (aI q), some (aL acc), none, some (aI ((a : Nat) : Int)), o7], [aI (g159 39 0 a)], am_mix mo_SM g159 M)
              rw [(show g159 39 0 a = jf_E p a from (hthr a (by omega)).1)]
              show R (74, [some (aR 8 0), some (aI ((k : Nat) : Int)), some (aI s), some (aI q), some (aL acc), none, some (aI ((a : Nat) : Int)), o7], [aI (jf_E p a)], am_mix mo_SM g159 M)
              refine hR _ (hR _ (hR _ (?_)))
              show R (79, [some (aR 8 0), some (aI ((k : Nat) : Int)), some (aI s), some (aI q), some (aL acc), none, some (aI ((a : Nat) : Int)), o7], [aI 0, aR 22 0, aI (jf_E p a)], am_mix mo_SM g159 M)
              refine hR _ ⟨(show 0 ≤ (0 : Int) ∧ (0 : Int) < 4 from (by omega)), ?_⟩
              show R (80, [some (aR 8 0), some (aI ((k : Nat) : Int)), some (aI s), some (aI q), some (aL acc), none, some (aI ((a : Nat) : Int)), o7], [aI (M 22 0 0), aI (jf_E p a)], am_mix mo_SM g159 M)
              rw [(show M 22 0 0 = M 220 0 0 from hW.1.1.1)]
              show R (80, [some (aR 8 0), some (aI ((k : Nat) : Int)), some (aI s), some (aI q), some (aL acc), none, some (aI ((a : Nat) : Int)), o7], [aI (M 220 0 0), aI (jf_E p a)], am_mix mo_SM g159 M)
              refine hR _ (am_brc (rg := am_in (jf_E p a) ∧ am_in (M 220 0 0)) (P := (jf_E p a) ≤ (M 220 0 0)) (A := R (87, [some (aR 8 0), some (aI ((k : Nat) : Int)), some (aI s), some (aI q), some (aL acc), none, some (aI ((a : Nat) : Int)), o7], [], am_mix mo_SM g159 M)) (B := R (83, [some (aR 8 0), some (aI ((k : Nat) : Int)), some (aI s), some (aI q), some (aL acc), none, some (aI ((a : Nat) : Int)), o7], [], am_mix mo_SM g159 M)) (by omega) (fun c80 => ?_) (fun c80 => ?_))
              · refine hR _ (hR _ (hR _ (hR _ (hR _ (hR _ (am_brc (rg := am_in 2 ∧ am_in s) (P := 2 ≠ s) (A := R (109, [some (aR 8 0), some (aI ((k : Nat) : Int)), some (aI s), some (aI q), some (aL acc), none, some (aI ((a : Nat) : Int)), some (aI 2)], [aL acc], am_mix mo_SM g159 M)) (B := R (98, [some (aR 8 0), some (aI ((k : Nat) : Int)), some (aI s), some (aI q), some (aL acc), none, some (aI ((a : Nat) : Int)), some (aI 2)], [aL acc], am_mix mo_SM g159 M)) (by omega) (fun c95 => ?_) (fun c95 => ?_)))))))
                · refine hR _ (hR _ (hR _ (hR _ (hR _ (?_)))))
                  show R (41, [some (aR 8 0), some (aI ((k : Nat) : Int)), some (aI s), some (aI q), some (aL (acc + 0)), none, some (aI (((a : Nat) : Int) + 1)), some (aI 2)], [], am_mix mo_SM g159 M)
                  refine ih (a + 1) _ _ _ (by omega) (by omega) ?_
                  rw [hacc]
                  show _ = mo_ps (mo_cf p (M 220 0 0) s) a + mo_cf p (M 220 0 0) s a
                  unfold mo_cf
                  repeat' split
                  all_goals omega
                · refine hR _ (hR _ (hR _ (?_)))
                  show R (104, [some (aR 8 0), some (aI ((k : Nat) : Int)), some (aI s), some (aI q), some (aL acc), none, some (aI ((a : Nat) : Int)), some (aI 2)], [aI ((a : Nat) : Int), aR 41 0, aL acc], am_mix mo_SM g159 M)
                  refine hR _ ⟨(show 0 ≤ (((a : Nat) : Int) : Int) ∧ (((a : Nat) : Int) : Int) < 5 from (by omega)), ?_⟩
                  show R (105, [some (aR 8 0), some (aI ((k : Nat) : Int)), some (aI s), some (aI q), some (aL acc), none, some (aI ((a : Nat) : Int)), some (aI 2)], [aI (g159 41 0 a), aL acc], am_mix mo_SM g159 M)
                  rw [(show g159 41 0 a = jf_O p a from (hthr a (by omega)).2.2)]
                  show R (105, [some (aR 8 0), some (aI ((k : Nat) : Int)), some (aI s), some (aI q), some (aL acc), none, some (aI ((a : Nat) : Int)), some (aI 2)], [aI (jf_O p a), aL acc], am_mix mo_SM g159 M)
                  refine hR _ ⟨(by omega), ?_⟩
                  show R (106, [some (aR 8 0), some (aI ((k : Nat) : Int)), some (aI s), some (aI q), some (aL acc), none, some (aI ((a : Nat) : Int)), some (aI 2)], [aL (jf_O p a), aL acc], am_mix mo_SM g159 M)
                  refine hR _ (hR _ (hR _ (hR _ (hR _ (?_)))))
                  show R (41, [some (aR 8 0), some (aI ((k : Nat) : Int)), some (aI s), some (aI q), some (aL (acc + (jf_O p a))), none, some (aI (((a : Nat) : Int) + 1)), some (aI 2)], [], am_mix mo_SM g159 M)
                  refine ih (a + 1) _ _ _ (by omega) (by omega) ?_
                  rw [hacc]
                  show _ = mo_ps (mo_cf p (M 220 0 0) s) a + mo_cf p (M 220 0 0) s a
                  unfold mo_cf
                  repeat' split
                  all_goals omega
              · refine hR _ (hR _ (hR _ (hR _ (hR _ (hR _ (hR _ (am_brc (rg := am_in 1 ∧ am_in s) (P := 1 ≠ s) (A := R (109, [some (aR 8 0), some (aI ((k : Nat) : Int)), some (aI s), some (aI q), some (aL acc), none, some (aI ((a : Nat) : Int)), some (aI 1)], [aL acc], am_mix mo_SM g159 M)) (B := R (98, [some (aR 8 0), some (aI ((k : Nat) : Int)), some (aI s), some (aI q), some (aL acc), none, some (aI ((a : Nat) : Int)), some (aI 1)], [aL acc], am_mix mo_SM g159 M)) (by omega) (fun c95 => ?_) (fun c95 => ?_))))))))
                · refine hR _ (hR _ (hR _ (hR _ (hR _ (?_)))))
                  show R (41, [some (aR 8 0), some (aI ((k : Nat) : Int)), some (aI s), some (aI q), some (aL (acc + 0)), none, some (aI (((a : Nat) : Int) + 1)), some (aI 1)], [], am_mix mo_SM g159 M)
                  refine ih (a + 1) _ _ _ (by omega) (by omega) ?_
                  rw [hacc]
                  show _ = mo_ps (mo_cf p (M 220 0 0) s) a + mo_cf p (M 220 0 0) s a
                  unfold mo_cf
                  repeat' split
                  all_goals omega
                · refine hR _ (hR _ (hR _ (?_)))
                  show R (104, [some (aR 8 0), some (aI ((k : Nat) : Int)), some (aI s), some (aI q), some (aL acc), none, some (aI ((a : Nat) : Int)), some (aI 1)], [aI ((a : Nat) : Int), aR 41 0, aL acc], am_mix mo_SM g159 M)
                  refine hR _ ⟨(show 0 ≤ (((a : Nat) : Int) : Int) ∧ (((a : Nat) : Int) : Int) < 5 from (by omega)), ?_⟩
                  show R (105, [some (aR 8 0), some (aI ((k : Nat) : Int)), some (aI s), some (aI q), some (aL acc), none, some (aI ((a : Nat) : Int)), some (aI 1)], [aI (g159 41 0 a), aL acc], am_mix mo_SM g159 M)
                  rw [(show g159 41 0 a = jf_O p a from (hthr a (by omega)).2.2)]
                  show R (105, [some (aR 8 0), some (aI ((k : Nat) : Int)), some (aI s), some (aI q), some (aL acc), none, some (aI ((a : Nat) : Int)), some (aI 1)], [aI (jf_O p a), aL acc], am_mix mo_SM g159 M)
                  refine hR _ ⟨(by omega), ?_⟩
                  show R (106, [some (aR 8 0), some (aI ((k : Nat) : Int)), some (aI s), some (aI q), some (aL acc), none, some (aI ((a : Nat) : Int)), some (aI 1)], [aL (jf_O p a), aL acc], am_mix mo_SM g159 M)
                  refine hR _ (hR _ (hR _ (hR _ (hR _ (?_)))))
                  show R (41, [some (aR 8 0), some (aI ((k : Nat) : Int)), some (aI s), some (aI q), some (aL (acc + (jf_O p a))), none, some (aI (((a : Nat) : Int) + 1)), some (aI 1)], [], am_mix mo_SM g159 M)
                  refine ih (a + 1) _ _ _ (by omega) (by omega) ?_
                  rw [hacc]
                  show _ = mo_ps (mo_cf p (M 220 0 0) s) a + mo_cf p (M 220 0 0) s a
                  unfold mo_cf
                  repeat' split
                  all_goals omega
            · refine hR _ (hR _ (hR _ (hR _ (hR _ (hR _ (hR _ (am_brc (rg := am_in 0 ∧ am_in s) (P := 0 ≠ s) (A := R (109, [some (aR 8 0), some (aI ((k : Nat) : Int)), some (aI s), some (aI q), some (aL acc), none, some (aI ((a : Nat) : Int)), some (aI 0)], [aL acc], am_mix mo_SM g159 M)) (B := R (98, [some (aR 8 0), some (aI ((k : Nat) : Int)), some (aI s), some (aI q), some (aL acc), none, some (aI ((a : Nat) : Int)), some (aI 0)], [aL acc], am_mix mo_SM g159 M)) (by omega) (fun c95 => ?_) (fun c95 => ?_))))))))
              · refine hR _ (hR _ (hR _ (hR _ (hR _ (?_)))))
                show R (41, [some (aR 8 0), some (aI ((k : Nat) : Int)), some (aI s), some (aI q), some (aL (acc + 0)), none, some (aI (((a : Nat) : Int) + 1)), some (aI 0)], [], am_mix mo_SM g159 M)
                refine ih (a + 1) _ _ _ (by omega) (by omega) ?_
                rw [hacc]
                show _ = mo_ps (mo_cf p (M 220 0 0) s) a + mo_cf p (M 220 0 0) s a
                unfold mo_cf
                repeat' split
                all_goals omega
              · refine hR _ (hR _ (hR _ (?_)))
                show R (104, [some (aR 8 0), some (aI ((k : Nat) : Int)), some (aI s), some (aI q), some (aL acc), none, some (aI ((a : Nat) : Int)), some (aI 0)], [aI ((a : Nat) : Int), aR 41 0, aL acc], am_mix mo_SM g159 M)
                refine hR _ ⟨(show 0 ≤ (((a : Nat) : Int) : Int) ∧ (((a : Nat) : Int) : Int) < 5 from (by omega)), ?_⟩
                show R (105, [some (aR 8 0), some (aI ((k : Nat) : Int)), some (aI s), some (aI q), some (aL acc), none, some (aI ((a : Nat) : Int)), some (aI 0)], [aI (g159 41 0 a), aL acc], am_mix mo_SM g159 M)
                rw [(show g159 41 0 a = jf_O p a from (hthr a (by omega)).2.2)]
                show R (105, [some (aR 8 0), some (aI ((k : Nat) : Int)), some (aI s), some (aI q), some (aL acc), none, some (aI ((a : Nat) : Int)), some (aI 0)], [aI (jf_O p a), aL acc], am_mix mo_SM g159 M)
                refine hR _ ⟨(by omega), ?_⟩
                show R (106, [some (aR 8 0), some (aI ((k : Nat) : Int)), some (aI s), some (aI q), some (aL acc), none, some (aI ((a : Nat) : Int)), some (aI 0)], [aL (jf_O p a), aL acc], am_mix mo_SM g159 M)
                refine hR _ (hR _ (hR _ (hR _ (hR _ (?_)))))
                show R (41, [some (aR 8 0), some (aI ((k : Nat) : Int)), some (aI s), some (aI q), some (aL (acc + (jf_O p a))), none, some (aI (((a : Nat) : Int) + 1)), some (aI 0)], [], am_mix mo_SM g159 M)
                refine ih (a + 1) _ _ _ (by omega) (by omega) ?_
                rw [hacc]
                show _ = mo_ps (mo_cf p (M 220 0 0) s) a + mo_cf p (M 220 0 0) s a
                unfold mo_cf
                repeat' split
                all_goals omega
        exact key 5 0 _ _ _ rfl rfl rfl
      · show R (23, [some (aR 8 0), some (aI ((k : Nat) : Int)), some (aI s), some (aI q), none, none, none, none], [aI 0], M)
        refine hR _ (am_brf (rg := am_in 0) (P := (0 : Int) ≠ 0) (A := R (30, [some (aR 8 0), some (aI ((k : Nat) : Int)), some (aI s), some (aI q), none, none, none, none], [], M)) (B := R (26, [some (aR 8 0), some (aI ((k : Nat) : Int)), some (aI s), some (aI q), none, none, none, none], [], M)) (by omega) (by omega) ?_)
        show R (26, [some (aR 8 0), some (aI ((k : Nat) : Int)), some (aI s), some (aI q), none, none, none, none], [], M)
        refine hR _ (?_)
        show R (29, [some (aR 8 0), some (aI ((k : Nat) : Int)), some (aI s), some (aI q), none, none, none, none], [aL (-4611686018427387904)], M)
        refine hR _ (show K (some (aL (-4611686018427387904))) M from ?_)
        have hres : jx_chance M ((k : Nat) : Int) s q = (-4611686018427387904) := by
          unfold jx_chance
          repeat' split
          all_goals first | omega | rfl | exact jf_il_no (by omega)
        rw [hres] at hK
        have e9 : am_ag mo_SM M M := am_ag.rf
        rw [e9.eq]
        exact hK _
    · show R (14, [some (aR 8 0), some (aI ((k : Nat) : Int)), some (aI s), some (aI q), none, none, none, none], [aI 0], M)
      refine hR _ (am_brt (rg := am_in 0) (P := (0 : Int) = 0) (A := R (26, [some (aR 8 0), some (aI ((k : Nat) : Int)), some (aI s), some (aI q), none, none, none, none], [], M)) (B := R (17, [some (aR 8 0), some (aI ((k : Nat) : Int)), some (aI s), some (aI q), none, none, none, none], [], M)) (by omega) (by omega) ?_)
      show R (26, [some (aR 8 0), some (aI ((k : Nat) : Int)), some (aI s), some (aI q), none, none, none, none], [], M)
      refine hR _ (?_)
      show R (29, [some (aR 8 0), some (aI ((k : Nat) : Int)), some (aI s), some (aI q), none, none, none, none], [aL (-4611686018427387904)], M)
      refine hR _ (show K (some (aL (-4611686018427387904))) M from ?_)
      have hres : jx_chance M ((k : Nat) : Int) s q = (-4611686018427387904) := by
        unfold jx_chance
        repeat' split
        all_goals first | omega | rfl | exact jf_il_no (by omega)
      rw [hres] at hK
      have e9 : am_ag mo_SM M M := am_ag.rf
      rw [e9.eq]
      exact hK _
  · show R (0, [some (aR 8 0), some (aI h), some (aI s), some (aI q), none, none, none, none], [], M)
    refine hR _ (hR _ (?_))
    show R (2, [some (aR 8 0), some (aI h), some (aI s), some (aI q), none, none, none, none], [aI h, aR 8 0], M)
    refine hR _ (sm_isHand (by omega) (show 0 ≤ M 421 0 0 ∧ M 421 0 0 ≤ 5 from hn') (by omega) (fun hz => absurd (show 0 ≤ h ∧ h < M 227 0 0 from ⟨hz.1, by rw [← h421]; exact hz.2⟩) hno) (fun _ => ?_))
    show R (5, [some (aR 8 0), some (aI h), some (aI s), some (aI q), none, none, none, none], [aI 0], M)
    refine hR _ (am_brt (rg := am_in 0) (P := (0 : Int) = 0) (A := R (26, [some (aR 8 0), some (aI h), some (aI s), some (aI q), none, none, none, none], [], M)) (B := R (8, [some (aR 8 0), some (aI h), some (aI s), some (aI q), none, none, none, none], [], M)) (by omega) (by omega) ?_)
    show R (26, [some (aR 8 0), some (aI h), some (aI s), some (aI q), none, none, none, none], [], M)
    refine hR _ (?_)
    show R (29, [some (aR 8 0), some (aI h), some (aI s), some (aI q), none, none, none, none], [aL (-4611686018427387904)], M)
    refine hR _ (show K (some (aL (-4611686018427387904))) M from ?_)
    have hres : jx_chance M h s q = (-4611686018427387904) := by
      unfold jx_chance
      repeat' split
      all_goals first | omega | rfl | exact jf_il_no (by omega)
    rw [hres] at hK
    have e9 : am_ag mo_SM M M := am_ag.rf
    rw [e9.eq]
    exact hK _

set_option maxHeartbeats 1000000 in
theorem sm_spread {d : Nat} (hd : 9 ≤ d) {h : Int} {M : am_M} {K : am_K} (hJ : jf_J M) (hW : jf_C M) (ha_h : am_in h) (hK : ∀ g, K (some (aI (jx_spread M h))) (am_mix mo_SM g M)) : am_Call true d 178 [aR 8 0, aI h] M K := by
  obtain ⟨d, rfl⟩ : ∃ e, d = e + 1 := ⟨d - 1, by omega⟩
  refine ⟨rfl, fun R hR hC => ?_⟩
  replace hR : ∀ c, am_F true tb_f178 1 (am_Call true d) K R c → R c := hR
  have hn := hJ.1.1.2.2.2.2.2.2.2.1
  have hl0 := hJ.1.1.2.2.2.2.2.2.2.2
  have htc := hJ.2.2.1.1
  have hlt : 0 ≤ M 228 0 0 ∧ M 228 0 0 < 6 := by omega
  have hmk := hJ.1.1.1
  have hdr := hJ.1.1.2.1
  have hpr := hJ.1.1.2.2.1
  have hfu := hJ.1.1.2.2.2.1
  have hn' : 0 ≤ M 421 0 0 ∧ M 421 0 0 ≤ 5 := by rw [hW.1.2.1.1]; exact hn
  have h421 : M 421 0 0 = M 227 0 0 := hW.1.2.1.1
  show R (0, [some (aR 8 0), some (aI h), none, none, none], [], M)
  rcases jf_hd (M := M) (h := h) hn with ⟨k, rfl, hk5, hk⟩ | hno
  · obtain ⟨r, hrr⟩ : ∃ r, r = (M 228 0 0).toNat := ⟨_, rfl⟩
    have hr : M 431 0 0 = (r : Int) := by rw [hW.1.2.1.2.2.1]; omega
    have hr6 : r < 6 := by omega
    have hwt : mo_wt M r := (hW.2.1.2.2 r (by omega)).1
    obtain ⟨p, hpp⟩ : ∃ p, p = jf_px M k := ⟨_, rfl⟩
    have hp : mo_p M k r p := by rw [hpp, hrr]; exact jf_C.p hJ hW hk (by omega)
    have hok : jf_ok p := by rw [hpp]; exact hJ.px hk
    have hpm : p.mk = M 22 0 0 := by rw [hpp]; exact hW.1.1.1.symm
    have hps : p.st = 0 := by rw [hpp]
    have hpb := jf_P_b hok
    have hA := jf_A_b hok
    show R (0, [some (aR 8 0), some (aI ((k : Nat) : Int)), none, none, none], [], M)
    refine hR _ (hR _ (?_))
    show R (2, [some (aR 8 0), some (aI ((k : Nat) : Int)), none, none, none], [aI ((k : Nat) : Int), aR 8 0], M)
    refine hR _ (sm_isHand (by omega) (show 0 ≤ M 421 0 0 ∧ M 421 0 0 ≤ 5 from hn') (by omega) (fun _ => ?_) (fun hz => absurd (show 0 ≤ ((k : Nat) : Int) ∧ ((k : Nat) : Int) < M 421 0 0 by omega) hz))
    show R (5, [some (aR 8 0), some (aI ((k : Nat) : Int)), none, none, none], [aI 1], M)
    refine hR _ (am_brt (rg := am_in 1) (P := (1 : Int) ≠ 0) (A := R (11, [some (aR 8 0), some (aI ((k : Nat) : Int)), none, none, none], [], M)) (B := R (8, [some (aR 8 0), some (aI ((k : Nat) : Int)), none, none, none], [], M)) (by omega) (by omega) ?_)
    show R (11, [some (aR 8 0), some (aI ((k : Nat) : Int)), none, none, none], [], M)
    refine hR _ (hR _ (?_))
    show R (13, [some (aR 8 0), some (aI ((k : Nat) : Int)), none, none, none], [aI ((k : Nat) : Int), aR 8 0], M)
    refine hR _ (sm_goes (p := p) (r := r) (by omega) hk hr hr6 hwt hp hok hpm hps (fun g160 hth => ?_))
    have hthr := hth.1
    have hthA := hth.2.1
    have hthN := hth.2.2
    have hbO := fun a (ha : a < 5) => jf_O_b hok ha
    have hbE := fun a (ha : a < 5) => jf_E_b hok ha
    show R (16, [some (aR 8 0), some (aI ((k : Nat) : Int)), none, none, none], [], am_mix mo_SM g160 M)
    refine hR _ (hR _ (hR _ (hR _ (hR _ (hR _ (?_))))))
    show R (23, [some (aR 8 0), some (aI ((k : Nat) : Int)), some (aI (-1)), some (aI (-1)), some (aI 0)], [], am_mix mo_SM g160 M)
    have key : ∀ (n a : Nat) (x lo hi : Int), x = (a : Int) → a + n = 5 → ((lo = -1 ∧ hi = -1 ∧ jf_ls p a = 5000 ∧ jf_ms p a = 0 ∧ ∀ b, b < a → jf_O p b ≤ 0) ∨ (0 ≤ lo ∧ lo = jf_ls p a ∧ hi = jf_ms p a)) → R (23, [some (aR 8 0), some (aI ((k : Nat) : Int)), some (aI lo), some (aI hi), some (aI x)], [], am_mix mo_SM g160 M) := by
      intro n
      induction n with
      | zero =>
        intro a x lo hi hx hin hinv
        subst hx
        have ha5 : a = 5 := by omega
        have hlb := jf_ls_b hok a (by omega)
        have hlr : -1 ≤ lo ∧ lo ≤ 5000 ∧ -1 ≤ hi ∧ hi ≤ 5000 := by rcases hinv with hq | hq <;> omega
        refine hR _ (hR _ (hR _ (am_brt (rg := am_in ((a : Nat) : Int) ∧ am_in 5) (P := 5 ≤ ((a : Nat) : Int)) (A := R (96, [some (aR 8 0), some (aI ((k : Nat) : Int)), some (aI lo), some (aI hi), some (aI ((a : Nat) : Int))], [], am_mix mo_SM g160 M)) (B := R (29, [some (aR 8 0), some (aI ((k : Nat) : Int)), some (aI lo), some (aI hi), some (aI ((a : Nat) : Int))], [], am_mix mo_SM g160 M)) (by omega) (by omega) ?_)))
        show R (96, [some (aR 8 0), some (aI ((k : Nat) : Int)), some (aI lo), some (aI hi), some (aI ((a : Nat) : Int))], [], am_mix mo_SM g160 M)
        refine hR _ (hR _ (hR _ (?_)))
        show R (99, [some (aR 8 0), some (aI ((k : Nat) : Int)), some (aI lo), some (aI hi), some (aI ((a : Nat) : Int))], [aI (hi - lo)], am_mix mo_SM g160 M)
        refine hR _ (show K (some (aI (hi - lo))) (am_mix mo_SM g160 M) from ?_)
        have hres : jx_spread M ((k : Nat) : Int) = (hi - lo) := by
          have hlh : lo = jf_ls p 5 ∧ hi = jf_ms p 5 := by
            rw [ha5] at hinv
            rcases hinv with hq | hq
            · exfalso
              have q0 := hq.2.2.2.2 0 (by decide)
              have q1 := hq.2.2.2.2 1 (by decide)
              have q2 := hq.2.2.2.2 2 (by decide)
              have q3 := hq.2.2.2.2 3 (by decide)
              have q4 := hq.2.2.2.2 4 (by decide)
              have hAs := jf_A_sum hok
              omega
            · exact hq.2
          rw [hlh.1, hlh.2]
          subst hpp
          unfold jx_spread
          rw [if_pos (show 0 ≤ ((k : Nat) : Int) ∧ ((k : Nat) : Int) < M 227 0 0 by omega)]
          rfl
        rw [hres] at hK
        have e9 : am_ag mo_SM M (am_mix mo_SM g160 M) := (am_ag.rf).mix rfl
        rw [e9.eq]
        exact hK _
      | succ n ih =>
        intro a x lo hi hx hin hinv
        subst hx
        have h1 := hbO a (by omega)
        have h2 := hbE a (by omega)
        have hlb := jf_ls_b hok a (by omega)
        have hlr : -1 ≤ lo ∧ lo ≤ 5000 ∧ -1 ≤ hi ∧ hi ≤ 5000 := by rcases hinv with hq | hq <;> omega
        have hl1 : jf_ls p (a + 1) = if jf_O p a ≤ 0 then jf_ls p a else min (jf_ls p a) (jf_E p a) := rfl
        have hm1 : jf_ms p (a + 1) = if jf_O p a ≤ 0 then jf_ms p a else max (jf_ms p a) (jf_E p a) := rfl
        refine hR _ (hR _ (hR _ (am_brf (rg := am_in ((a : Nat) : Int) ∧ am_in 5) (P := 5 ≤ ((a : Nat) : Int)) (A := R (96, [some (aR 8 0), some (aI ((k : Nat) : Int)), some (aI lo), some (aI hi), some (aI ((a : Nat) : Int))], [], am_mix mo_SM g160 M)) (B := R (29, [some (aR 8 0), some (aI ((k : Nat) : Int)), some (aI lo), some (aI hi), some (aI ((a : Nat) : Int))], [], am_mix mo_SM g160 M)) (by omega) (by omega) ?_)))
        show R (29, [some (aR 8 0), some (aI ((k : Nat) : Int)), some (aI lo), some (aI hi), some (aI ((a : Nat) : Int))], [], am_mix mo_SM g160 M)
        refine hR _ (hR _ (hR _ (?_)))
        show R (35, [some (aR 8 0), some (aI ((k : Nat) : Int)), some (aI lo), some (aI hi), some (aI ((a : Nat) : Int))], [aI ((a : Nat) : Int), aR 41 0], am_mix mo_SM g160 M)
        refine hR _ ⟨(show 0 ≤ (((a : Nat) : Int) : Int) ∧ (((a : Nat) : Int) : Int) < 5 from (by omega)), ?_⟩
        show R (36, [some (aR 8 0), some (aI ((k : Nat) : Int)), some (aI lo), some (aI hi), some (aI ((a : Nat) : Int))], [aI (g160 41 0 a)], am_mix mo_SM g160 M)
        rw [(show g160 41 0 a = jf_O p a from (hthr a (by omega)).2.2)]
        show R (36, [some (aR 8 0), some (aI ((k : Nat) : Int)), some (aI lo), some (aI hi), some (aI ((a : Nat) : Int))], [aI (jf_O p a)], am_mix mo_SM g160 M)
        refine hR _ (am_brc (rg := am_in (jf_O p a)) (P := (jf_O p a) ≤ 0) (A := R (90, [some (aR 8 0), some (aI ((k : Nat) : Int)), some (aI lo), some (aI hi), some (aI ((a : Nat) : Int))], [], am_mix mo_SM g160 M)) (B := R (39, [some (aR 8 0), some (aI ((k : Nat) : Int)), some (aI lo), some (aI hi), some (aI ((a : Nat) : Int))], [], am_mix mo_SM g160 M)) (by omega) (fun c36 => ?_) (fun c36 => ?_))
        · refine hR _ (hR _ (?_))
          show R (23, [some (aR 8 0), some (aI ((k : Nat) : Int)), some (aI lo), some (aI hi), some (aI (((a : Nat) : Int) + 1))], [], am_mix mo_SM g160 M)
          refine ih (a + 1) _ _ _ (by omega) (by omega) ?_
          by_cases hO : jf_O p a ≤ 0
          · rw [if_pos hO] at hl1 hm1
            rcases hinv with hq | hq
            · first | (exfalso; omega) | exact Or.inl ⟨hq.1, hq.2.1, by omega, by omega, fun b hb => by
                by_cases e : b = a
                · rw [e]; exact hO
                · exact hq.2.2.2.2 b (by omega)⟩
            · first | (exfalso; omega) | exact Or.inr ⟨hq.1, by omega, by omega⟩
          · rw [if_neg hO] at hl1 hm1
            first | (exfalso; omega) | skip
            all_goals (rcases hinv with hq | hq <;> (obtain ⟨hq1, hq2, hq3⟩ := hq; first | (exfalso; omega) | exact Or.inr ⟨by omega, by omega, by omega⟩))
        · refine hR _ (hR _ (hR _ (am_brc (rg := am_in lo ∧ am_in (-1)) (P := lo = (-1)) (A := R (55, [some (aR 8 0), some (aI ((k : Nat) : Int)), some (aI lo), some (aI hi), some (aI ((a : Nat) : Int))], [], am_mix mo_SM g160 M)) (B := R (44, [some (aR 8 0), some (aI ((k : Nat) : Int)), some (aI lo), some (aI hi), some (aI ((a : Nat) : Int))], [], am_mix mo_SM g160 M)) (by omega) (fun c41 => ?_) (fun c41 => ?_))))
          · refine hR _ (hR _ (hR _ (?_)))
            show R (61, [some (aR 8 0), some (aI ((k : Nat) : Int)), some (aI lo), some (aI hi), some (aI ((a : Nat) : Int))], [aI ((a : Nat) : Int), aR 39 0], am_mix mo_SM g160 M)
            refine hR _ ⟨(show 0 ≤ (((a : Nat) : Int) : Int) ∧ (((a : Nat) : Int) : Int) < 5 from (by omega)), ?_⟩
            show R (62, [some (aR 8 0), some (aI ((k : Nat) : Int)), some (aI lo), some (aI hi), some (aI ((a : Nat) : Int))], [aI (g160 39 0 a)], am_mix mo_SM g160 M)
            rw [(show g160 39 0 a = jf_E p a from (hthr a (by omega)).1)]
            show R (62, [some (aR 8 0), some (aI ((k : Nat) : Int)), some (aI lo), some (aI hi), some (aI ((a : Nat) : Int))], [aI (jf_E p a)], am_mix mo_SM g160 M)
            refine hR _ (hR _ (hR _ (hR _ (hR _ (?_)))))
            show R (73, [some (aR 8 0), some (aI ((k : Nat) : Int)), some (aI (jf_E p a)), some (aI hi), some (aI ((a : Nat) : Int))], [aI ((a : Nat) : Int), aR 39 0], am_mix mo_SM g160 M)
            refine hR _ ⟨(show 0 ≤ (((a : Nat) : Int) : Int) ∧ (((a : Nat) : Int) : Int) < 5 from (by omega)), ?_⟩
            show R (74, [some (aR 8 0), some (aI ((k : Nat) : Int)), some (aI (jf_E p a)), some (aI hi), some (aI ((a : Nat) : Int))], [aI (g160 39 0 a)], am_mix mo_SM g160 M)
            rw [(show g160 39 0 a = jf_E p a from (hthr a (by omega)).1)]
            show R (74, [some (aR 8 0), some (aI ((k : Nat) : Int)), some (aI (jf_E p a)), some (aI hi), some (aI ((a : Nat) : Int))], [aI (jf_E p a)], am_mix mo_SM g160 M)
            refine hR _ (hR _ (am_brc (rg := am_in (jf_E p a) ∧ am_in hi) (P := (jf_E p a) ≤ hi) (A := R (88, [some (aR 8 0), some (aI ((k : Nat) : Int)), some (aI (jf_E p a)), some (aI hi), some (aI ((a : Nat) : Int))], [], am_mix mo_SM g160 M)) (B := R (78, [some (aR 8 0), some (aI ((k : Nat) : Int)), some (aI (jf_E p a)), some (aI hi), some (aI ((a : Nat) : Int))], [], am_mix mo_SM g160 M)) (by omega) (fun c75 => ?_) (fun c75 => ?_)))
            · refine hR _ (hR _ (hR _ (hR _ (?_))))
              show R (23, [some (aR 8 0), some (aI ((k : Nat) : Int)), some (aI (jf_E p a)), some (aI hi), some (aI (((a : Nat) : Int) + 1))], [], am_mix mo_SM g160 M)
              refine ih (a + 1) _ _ _ (by omega) (by omega) ?_
              by_cases hO : jf_O p a ≤ 0
              · rw [if_pos hO] at hl1 hm1
                rcases hinv with hq | hq
                · first | (exfalso; omega) | exact Or.inl ⟨hq.1, hq.2.1, by omega, by omega, fun b hb => by
                    by_cases e : b = a
                    · rw [e]; exact hO
                    · exact hq.2.2.2.2 b (by omega)⟩
                · first | (exfalso; omega) | exact Or.inr ⟨hq.1, by omega, by omega⟩
              · rw [if_neg hO] at hl1 hm1
                first | (exfalso; omega) | skip
                all_goals (rcases hinv with hq | hq <;> (obtain ⟨hq1, hq2, hq3⟩ := hq; first | (exfalso; omega) | exact Or.inr ⟨by omega, by omega, by omega⟩))
            · refine hR _ (hR _ (hR _ (?_)))
              show R (84, [some (aR 8 0), some (aI ((k : Nat) : Int)), some (aI (jf_E p a)), some (aI hi), some (aI ((a : Nat) : Int))], [aI ((a : Nat) : Int), aR 39 0], am_mix mo_SM g160 M)
              refine hR _ ⟨(show 0 ≤ (((a : Nat) : Int) : Int) ∧ (((a : Nat) : Int) : Int) < 5 from (by omega)), ?_⟩
              show R (85, [some (aR 8 0), some (aI ((k : Nat) : Int)), some (aI (jf_E p a)), some (aI hi), some (aI ((a : Nat) : Int))], [aI (g160 39 0 a)], am_mix mo_SM g160 M)
              rw [(show g160 39 0 a = jf_E p a from (hthr a (by omega)).1)]
              show R (85, [some (aR 8 0), some (aI ((k : Nat) : Int)), some (aI (jf_E p a)), some (aI hi), some (aI ((a : Nat) : Int))], [aI (jf_E p a)], am_mix mo_SM g160 M)
              refine hR _ (hR _ (hR _ (hR _ (?_))))
              show R (23, [some (aR 8 0), some (aI ((k : Nat) : Int)), some (aI (jf_E p a)), some (aI (jf_E p a)), some (aI (((a : Nat) : Int) + 1))], [], am_mix mo_SM g160 M)
              refine ih (a + 1) _ _ _ (by omega) (by omega) ?_
              by_cases hO : jf_O p a ≤ 0
              · rw [if_pos hO] at hl1 hm1
                rcases hinv with hq | hq
                · first | (exfalso; omega) | exact Or.inl ⟨hq.1, hq.2.1, by omega, by omega, fun b hb => by
                    by_cases e : b = a
                    · rw [e]; exact hO
                    · exact hq.2.2.2.2 b (by omega)⟩
                · first | (exfalso; omega) | exact Or.inr ⟨hq.1, by omega, by omega⟩
              · rw [if_neg hO] at hl1 hm1
                first | (exfalso; omega) | skip
                all_goals (rcases hinv with hq | hq <;> (obtain ⟨hq1, hq2, hq3⟩ := hq; first | (exfalso; omega) | exact Or.inr ⟨by omega, by omega, by omega⟩))
          · refine hR _ (hR _ (hR _ (?_)))
            show R (50, [some (aR 8 0), some (aI ((k : Nat) : Int)), some (aI lo), some (aI hi), some (aI ((a : Nat) : Int))], [aI ((a : Nat) : Int), aR 39 0], am_mix mo_SM g160 M)
            refine hR _ ⟨(show 0 ≤ (((a : Nat) : Int) : Int) ∧ (((a : Nat) : Int) : Int) < 5 from (by omega)), ?_⟩
            show R (51, [some (aR 8 0), some (aI ((k : Nat) : Int)), some (aI lo), some (aI hi), some (aI ((a : Nat) : Int))], [aI (g160 39 0 a)], am_mix mo_SM g160 M)
            rw [(show g160 39 0 a = jf_E p a from (hthr a (by omega)).1)]
            show R (51, [some (aR 8 0), some (aI ((k : Nat) : Int)), some (aI lo), some (aI hi), some (aI ((a : Nat) : Int))], [aI (jf_E p a)], am_mix mo_SM g160 M)
            refine hR _ (hR _ (am_brc (rg := am_in (jf_E p a) ∧ am_in lo) (P := lo ≤ (jf_E p a)) (A := R (65, [some (aR 8 0), some (aI ((k : Nat) : Int)), some (aI lo), some (aI hi), some (aI ((a : Nat) : Int))], [], am_mix mo_SM g160 M)) (B := R (55, [some (aR 8 0), some (aI ((k : Nat) : Int)), some (aI lo), some (aI hi), some (aI ((a : Nat) : Int))], [], am_mix mo_SM g160 M)) (by omega) (fun c52 => ?_) (fun c52 => ?_)))
            · refine hR _ (hR _ (hR _ (hR _ (hR _ (?_)))))
              show R (73, [some (aR 8 0), some (aI ((k : Nat) : Int)), some (aI lo), some (aI hi), some (aI ((a : Nat) : Int))], [aI ((a : Nat) : Int), aR 39 0], am_mix mo_SM g160 M)
              refine hR _ ⟨(show 0 ≤ (((a : Nat) : Int) : Int) ∧ (((a : Nat) : Int) : Int) < 5 from (by omega)), ?_⟩
              show R (74, [some (aR 8 0), some (aI ((k : Nat) : Int)), some (aI lo), some (aI hi), some (aI ((a : Nat) : Int))], [aI (g160 39 0 a)], am_mix mo_SM g160 M)
              rw [(show g160 39 0 a = jf_E p a from (hthr a (by omega)).1)]
              show R (74, [some (aR 8 0), some (aI ((k : Nat) : Int)), some (aI lo), some (aI hi), some (aI ((a : Nat) : Int))], [aI (jf_E p a)], am_mix mo_SM g160 M)
              refine hR _ (hR _ (am_brc (rg := am_in (jf_E p a) ∧ am_in hi) (P := (jf_E p a) ≤ hi) (A := R (88, [some (aR 8 0), some (aI ((k : Nat) : Int)), some (aI lo), some (aI hi), some (aI ((a : Nat) : Int))], [], am_mix mo_SM g160 M)) (B := R (78, [some (aR 8 0), some (aI ((k : Nat) : Int)), some (aI lo), some (aI hi), some (aI ((a : Nat) : Int))], [], am_mix mo_SM g160 M)) (by omega) (fun c75 => ?_) (fun c75 => ?_)))
              · refine hR _ (hR _ (hR _ (hR _ (?_))))
                show R (23, [some (aR 8 0), some (aI ((k : Nat) : Int)), some (aI lo), some (aI hi), some (aI (((a : Nat) : Int) + 1))], [], am_mix mo_SM g160 M)
                refine ih (a + 1) _ _ _ (by omega) (by omega) ?_
                by_cases hO : jf_O p a ≤ 0
                · rw [if_pos hO] at hl1 hm1
                  rcases hinv with hq | hq
                  · first | (exfalso; omega) | exact Or.inl ⟨hq.1, hq.2.1, by omega, by omega, fun b hb => by
                      by_cases e : b = a
                      · rw [e]; exact hO
                      · exact hq.2.2.2.2 b (by omega)⟩
                  · first | (exfalso; omega) | exact Or.inr ⟨hq.1, by omega, by omega⟩
                · rw [if_neg hO] at hl1 hm1
                  first | (exfalso; omega) | skip
                  all_goals (rcases hinv with hq | hq <;> (obtain ⟨hq1, hq2, hq3⟩ := hq; first | (exfalso; omega) | exact Or.inr ⟨by omega, by omega, by omega⟩))
              · refine hR _ (hR _ (hR _ (?_)))
                show R (84, [some (aR 8 0), some (aI ((k : Nat) : Int)), some (aI lo), some (aI hi), some (aI ((a : Nat) : Int))], [aI ((a : Nat) : Int), aR 39 0], am_mix mo_SM g160 M)
                refine hR _ ⟨(show 0 ≤ (((a : Nat) : Int) : Int) ∧ (((a : Nat) : Int) : Int) < 5 from (by omega)), ?_⟩
                show R (85, [some (aR 8 0), some (aI ((k : Nat) : Int)), some (aI lo), some (aI hi), some (aI ((a : Nat) : Int))], [aI (g160 39 0 a)], am_mix mo_SM g160 M)
                rw [(show g160 39 0 a = jf_E p a from (hthr a (by omega)).1)]
                show R (85, [some (aR 8 0), some (aI ((k : Nat) : Int)), some (aI lo), some (aI hi), some (aI ((a : Nat) : Int))], [aI (jf_E p a)], am_mix mo_SM g160 M)
                refine hR _ (hR _ (hR _ (hR _ (?_))))
                show R (23, [some (aR 8 0), some (aI ((k : Nat) : Int)), some (aI lo), some (aI (jf_E p a)), some (aI (((a : Nat) : Int) + 1))], [], am_mix mo_SM g160 M)
                refine ih (a + 1) _ _ _ (by omega) (by omega) ?_
                by_cases hO : jf_O p a ≤ 0
                · rw [if_pos hO] at hl1 hm1
                  rcases hinv with hq | hq
                  · first | (exfalso; omega) | exact Or.inl ⟨hq.1, hq.2.1, by omega, by omega, fun b hb => by
                      by_cases e : b = a
                      · rw [e]; exact hO
                      · exact hq.2.2.2.2 b (by omega)⟩
                  · first | (exfalso; omega) | exact Or.inr ⟨hq.1, by omega, by omega⟩
                · rw [if_neg hO] at hl1 hm1
                  first | (exfalso; omega) | skip
                  all_goals (rcases hinv with hq | hq <;> (obtain ⟨hq1, hq2, hq3⟩ := hq; first | (exfalso; omega) | exact Or.inr ⟨by omega, by omega, by omega⟩))
            · refine hR _ (hR _ (hR _ (?_)))
              show R (61, [some (aR 8 0), some (aI ((k : Nat) : Int)), some (aI lo), some (aI hi), some (aI ((a : Nat) : Int))], [aI ((a : Nat) : Int), aR 39 0], am_mix mo_SM g160 M)
              refine hR _ ⟨(show 0 ≤ (((a : Nat) : Int) : Int) ∧ (((a : Nat) : Int) : Int) < 5 from (by omega)), ?_⟩
              show R (62, [some (aR 8 0), some (aI ((k : Nat) : Int)), some (aI lo), some (aI hi), some (aI ((a : Nat) : Int))], [aI (g160 39 0 a)], am_mix mo_SM g160 M)
              rw [(show g160 39 0 a = jf_E p a from (hthr a (by omega)).1)]
              show R (62, [some (aR 8 0), some (aI ((k : Nat) : Int)), some (aI lo), some (aI hi), some (aI ((a : Nat) : Int))], [aI (jf_E p a)], am_mix mo_SM g160 M)
              refine hR _ (hR _ (hR _ (hR _ (hR _ (?_)))))
              show R (73, [some (aR 8 0), some (aI ((k : Nat) : Int)), some (aI (jf_E p a)), some (aI hi), some (aI ((a : Nat) : Int))], [aI ((a : Nat) : Int), aR 39 0], am_mix mo_SM g160 M)
              refine hR _ ⟨(show 0 ≤ (((a : Nat) : Int) : Int) ∧ (((a : Nat) : Int) : Int) < 5 from (by omega)), ?_⟩
              show R (74, [some (aR 8 0), some (aI ((k : Nat) : Int)), some (aI (jf_E p a)), some (aI hi), some (aI ((a : Nat) : Int))], [aI (g160 39 0 a)], am_mix mo_SM g160 M)
              rw [(show g160 39 0 a = jf_E p a from (hthr a (by omega)).1)]
              show R (74, [some (aR 8 0), some (aI ((k : Nat) : Int)), some (aI (jf_E p a)), some (aI hi), some (aI ((a : Nat) : Int))], [aI (jf_E p a)], am_mix mo_SM g160 M)
              refine hR _ (hR _ (am_brc (rg := am_in (jf_E p a) ∧ am_in hi) (P := (jf_E p a) ≤ hi) (A := R (88, [some (aR 8 0), some (aI ((k : Nat) : Int)), some (aI (jf_E p a)), some (aI hi), some (aI ((a : Nat) : Int))], [], am_mix mo_SM g160 M)) (B := R (78, [some (aR 8 0), some (aI ((k : Nat) : Int)), some (aI (jf_E p a)), some (aI hi), some (aI ((a : Nat) : Int))], [], am_mix mo_SM g160 M)) (by omega) (fun c75 => ?_) (fun c75 => ?_)))
              · refine hR _ (hR _ (hR _ (hR _ (?_))))
                show R (23, [some (aR 8 0), some (aI ((k : Nat) : Int)), some (aI (jf_E p a)), some (aI hi), some (aI (((a : Nat) : Int) + 1))], [], am_mix mo_SM g160 M)
                refine ih (a + 1) _ _ _ (by omega) (by omega) ?_
                by_cases hO : jf_O p a ≤ 0
                · rw [if_pos hO] at hl1 hm1
                  rcases hinv with hq | hq
                  · first | (exfalso; omega) | exact Or.inl ⟨hq.1, hq.2.1, by omega, by omega, fun b hb => by
                      by_cases e : b = a
                      · rw [e]; exact hO
                      · exact hq.2.2.2.2 b (by omega)⟩
                  · first | (exfalso; omega) | exact Or.inr ⟨hq.1, by omega, by omega⟩
                · rw [if_neg hO] at hl1 hm1
                  first | (exfalso; omega) | skip
                  all_goals (rcases hinv with hq | hq <;> (obtain ⟨hq1, hq2, hq3⟩ := hq; first | (exfalso; omega) | exact Or.inr ⟨by omega, by omega, by omega⟩))
              · refine hR _ (hR _ (hR _ (?_)))
                show R (84, [some (aR 8 0), some (aI ((k : Nat) : Int)), some (aI (jf_E p a)), some (aI hi), some (aI ((a : Nat) : Int))], [aI ((a : Nat) : Int), aR 39 0], am_mix mo_SM g160 M)
                refine hR _ ⟨(show 0 ≤ (((a : Nat) : Int) : Int) ∧ (((a : Nat) : Int) : Int) < 5 from (by omega)), ?_⟩
                show R (85, [some (aR 8 0), some (aI ((k : Nat) : Int)), some (aI (jf_E p a)), some (aI hi), some (aI ((a : Nat) : Int))], [aI (g160 39 0 a)], am_mix mo_SM g160 M)
                rw [(show g160 39 0 a = jf_E p a from (hthr a (by omega)).1)]
                show R (85, [some (aR 8 0), some (aI ((k : Nat) : Int)), some (aI (jf_E p a)), some (aI hi), some (aI ((a : Nat) : Int))], [aI (jf_E p a)], am_mix mo_SM g160 M)
                refine hR _ (hR _ (hR _ (hR _ (?_))))
                show R (23, [some (aR 8 0), some (aI ((k : Nat) : Int)), some (aI (jf_E p a)), some (aI (jf_E p a)), some (aI (((a : Nat) : Int) + 1))], [], am_mix mo_SM g160 M)
                refine ih (a + 1) _ _ _ (by omega) (by omega) ?_
                by_cases hO : jf_O p a ≤ 0
                · rw [if_pos hO] at hl1 hm1
                  rcases hinv with hq | hq
                  · first | (exfalso; omega) | exact Or.inl ⟨hq.1, hq.2.1, by omega, by omega, fun b hb => by
                      by_cases e : b = a
                      · rw [e]; exact hO
                      · exact hq.2.2.2.2 b (by omega)⟩
                  · first | (exfalso; omega) | exact Or.inr ⟨hq.1, by omega, by omega⟩
                · rw [if_neg hO] at hl1 hm1
                  first | (exfalso; omega) | skip
                  all_goals (rcases hinv with hq | hq <;> (obtain ⟨hq1, hq2, hq3⟩ := hq; first | (exfalso; omega) | exact Or.inr ⟨by omega, by omega, by omega⟩))
    exact key 5 0 _ _ _ rfl rfl (Or.inl ⟨rfl, rfl, rfl, rfl, fun b hb => absurd hb (Nat.not_lt_zero b)⟩)
  · show R (0, [some (aR 8 0), some (aI h), none, none, none], [], M)
    refine hR _ (hR _ (?_))
    show R (2, [some (aR 8 0), some (aI h), none, none, none], [aI h, aR 8 0], M)
    refine hR _ (sm_isHand (by omega) (show 0 ≤ M 421 0 0 ∧ M 421 0 0 ≤ 5 from hn') (by omega) (fun hz => absurd (show 0 ≤ h ∧ h < M 227 0 0 from ⟨hz.1, by rw [← h421]; exact hz.2⟩) hno) (fun _ => ?_))
    show R (5, [some (aR 8 0), some (aI h), none, none, none], [aI 0], M)
    refine hR _ (am_brf (rg := am_in 0) (P := (0 : Int) ≠ 0) (A := R (11, [some (aR 8 0), some (aI h), none, none, none], [], M)) (B := R (8, [some (aR 8 0), some (aI h), none, none, none], [], M)) (by omega) (by omega) ?_)
    show R (8, [some (aR 8 0), some (aI h), none, none, none], [], M)
    refine hR _ (?_)
    show R (10, [some (aR 8 0), some (aI h), none, none, none], [aI (-5)], M)
    refine hR _ (show K (some (aI (-5))) M from ?_)
    have hres : jx_spread M h = (-5) := by
      unfold jx_spread
      repeat' split
      all_goals first | omega | rfl | exact jf_il_no (by omega)
    rw [hres] at hK
    have e9 : am_ag mo_SM M M := am_ag.rf
    rw [e9.eq]
    exact hK _

set_option maxHeartbeats 1000000 in
theorem sm_odds {d : Nat} (hd : 9 ≤ d) {sd n h q : Int} {M : am_M} {K : am_K} (hJ : jf_J M) (hW : jf_C M) (ha_sd : am_in sd) (ha_n : am_in n) (ha_h : am_in h) (ha_q : am_in q) (hK : ∀ g, K (some (aL (jx_odds M sd n h q))) (am_mix mo_SM g M)) : am_Call true d 194 [aR 8 0, aI sd, aI n, aI h, aI q] M K := by
  obtain ⟨d, rfl⟩ : ∃ e, d = e + 1 := ⟨d - 1, by omega⟩
  refine ⟨rfl, fun R hR hC => ?_⟩
  replace hR : ∀ c, am_F true tb_f194 5 (am_Call true d) K R c → R c := hR
  have hn := hJ.1.1.2.2.2.2.2.2.2.1
  have hl0 := hJ.1.1.2.2.2.2.2.2.2.2
  have htc := hJ.2.2.1.1
  have hlt : 0 ≤ M 228 0 0 ∧ M 228 0 0 < 6 := by omega
  have hmk := hJ.1.1.1
  have hdr := hJ.1.1.2.1
  have hpr := hJ.1.1.2.2.1
  have hfu := hJ.1.1.2.2.2.1
  have hn' : 0 ≤ M 421 0 0 ∧ M 421 0 0 ≤ 5 := by rw [hW.1.2.1.1]; exact hn
  have h421 : M 421 0 0 = M 227 0 0 := hW.1.2.1.1
  show R (0, [some (aR 8 0), some (aI sd), some (aI n), some (aI h), some (aI q), none, none, none], [], M)
  rcases jf_hd (M := M) (h := h) hn with ⟨k, rfl, hk5, hk⟩ | hno
  · obtain ⟨r, hrr⟩ : ∃ r, r = (M 228 0 0).toNat := ⟨_, rfl⟩
    have hr : M 431 0 0 = (r : Int) := by rw [hW.1.2.1.2.2.1]; omega
    have hr6 : r < 6 := by omega
    have hwt : mo_wt M r := (hW.2.1.2.2 r (by omega)).1
    obtain ⟨p, hpp⟩ : ∃ p, p = jf_px M k := ⟨_, rfl⟩
    have hp : mo_p M k r p := by rw [hpp, hrr]; exact jf_C.p hJ hW hk (by omega)
    have hok : jf_ok p := by rw [hpp]; exact hJ.px hk
    have hpm : p.mk = M 22 0 0 := by rw [hpp]; exact hW.1.1.1.symm
    have hps : p.st = 0 := by rw [hpp]
    have hpb := jf_P_b hok
    have hA := jf_A_b hok
    show R (0, [some (aR 8 0), some (aI sd), some (aI n), some (aI ((k : Nat) : Int)), some (aI q), none, none, none], [], M)
    refine hR _ (hR _ (hR _ (?_)))
    show R (5, [some (aR 8 0), some (aI sd), some (aI n), some (aI ((k : Nat) : Int)), some (aI q), none, none, none], [aI 99999, aI 0, aI sd], M)
    refine hR _ (sp_in (by omega) (by omega) (fun h5 => ?_) (fun h5 => ?_))
    · show R (8, [some (aR 8 0), some (aI sd), some (aI n), some (aI ((k : Nat) : Int)), some (aI q), none, none, none], [aI 1], M)
      refine hR _ (am_brf (rg := am_in 1) (P := (1 : Int) = 0) (A := R (39, [some (aR 8 0), some (aI sd), some (aI n), some (aI ((k : Nat) : Int)), some (aI q), none, none, none], [], M)) (B := R (11, [some (aR 8 0), some (aI sd), some (aI n), some (aI ((k : Nat) : Int)), some (aI q), none, none, none], [], M)) (by omega) (by omega) ?_)
      show R (11, [some (aR 8 0), some (aI sd), some (aI n), some (aI ((k : Nat) : Int)), some (aI q), none, none, none], [], M)
      refine hR _ (hR _ (hR _ (?_)))
      show R (15, [some (aR 8 0), some (aI sd), some (aI n), some (aI ((k : Nat) : Int)), some (aI q), none, none, none], [aI 99, aI 1, aI n], M)
      refine hR _ (sp_in (by omega) (by omega) (fun h15 => ?_) (fun h15 => ?_))
      · show R (18, [some (aR 8 0), some (aI sd), some (aI n), some (aI ((k : Nat) : Int)), some (aI q), none, none, none], [aI 1], M)
        refine hR _ (am_brf (rg := am_in 1) (P := (1 : Int) = 0) (A := R (39, [some (aR 8 0), some (aI sd), some (aI n), some (aI ((k : Nat) : Int)), some (aI q), none, none, none], [], M)) (B := R (21, [some (aR 8 0), some (aI sd), some (aI n), some (aI ((k : Nat) : Int)), some (aI q), none, none, none], [], M)) (by omega) (by omega) ?_)
        show R (21, [some (aR 8 0), some (aI sd), some (aI n), some (aI ((k : Nat) : Int)), some (aI q), none, none, none], [], M)
        refine hR _ (hR _ (?_))
        show R (23, [some (aR 8 0), some (aI sd), some (aI n), some (aI ((k : Nat) : Int)), some (aI q), none, none, none], [aI ((k : Nat) : Int), aR 8 0], M)
        refine hR _ (sm_isHand (by omega) (show 0 ≤ M 421 0 0 ∧ M 421 0 0 ≤ 5 from hn') (by omega) (fun _ => ?_) (fun hz => absurd (show 0 ≤ ((k : Nat) : Int) ∧ ((k : Nat) : Int) < M 421 0 0 by omega) hz))
        show R (26, [some (aR 8 0), some (aI sd), some (aI n), some (aI ((k : Nat) : Int)), some (aI q), none, none, none], [aI 1], M)
        refine hR _ (am_brf (rg := am_in 1) (P := (1 : Int) = 0) (A := R (39, [some (aR 8 0), some (aI sd), some (aI n), some (aI ((k : Nat) : Int)), some (aI q), none, none, none], [], M)) (B := R (29, [some (aR 8 0), some (aI sd), some (aI n), some (aI ((k : Nat) : Int)), some (aI q), none, none, none], [], M)) (by omega) (by omega) ?_)
        show R (29, [some (aR 8 0), some (aI sd), some (aI n), some (aI ((k : Nat) : Int)), some (aI q), none, none, none], [], M)
        refine hR _ (hR _ (hR _ (?_)))
        show R (33, [some (aR 8 0), some (aI sd), some (aI n), some (aI ((k : Nat) : Int)), some (aI q), none, none, none], [aI 1, aI 0, aI q], M)
        refine hR _ (sp_in (by omega) (by omega) (fun h33 => ?_) (fun h33 => ?_))
        · show R (36, [some (aR 8 0), some (aI sd), some (aI n), some (aI ((k : Nat) : Int)), some (aI q), none, none, none], [aI 1], M)
          refine hR _ (am_brt (rg := am_in 1) (P := (1 : Int) ≠ 0) (A := R (43, [some (aR 8 0), some (aI sd), some (aI n), some (aI ((k : Nat) : Int)), some (aI q), none, none, none], [], M)) (B := R (39, [some (aR 8 0), some (aI sd), some (aI n), some (aI ((k : Nat) : Int)), some (aI q), none, none, none], [], M)) (by omega) (by omega) ?_)
          show R (43, [some (aR 8 0), some (aI sd), some (aI n), some (aI ((k : Nat) : Int)), some (aI q), none, none, none], [], M)
          refine hR _ (hR _ (?_))
          show R (45, [some (aR 8 0), some (aI sd), some (aI n), some (aI ((k : Nat) : Int)), some (aI q), none, none, none], [aI ((k : Nat) : Int), aR 8 0], M)
          refine hR _ (sm_goes (p := p) (r := r) (by omega) hk hr hr6 hwt hp hok hpm hps (fun g161 hth => ?_))
          have hthr := hth.1
          have hthA := hth.2.1
          have hthN := hth.2.2
          have hbO := fun a (ha : a < 5) => jf_O_b hok ha
          have hbE := fun a (ha : a < 5) => jf_E_b hok ha
          show R (48, [some (aR 8 0), some (aI sd), some (aI n), some (aI ((k : Nat) : Int)), some (aI q), none, none, none], [], am_mix mo_SM g161 M)
          refine hR _ (hR _ (hR _ (hR _ (?_))))
          show R (54, [some (aR 8 0), some (aI sd), some (aI n), some (aI ((k : Nat) : Int)), some (aI q), some (aL 0), none, some (aI 0)], [], am_mix mo_SM g161 M)
          have key : ∀ (f i : Nat) (x acc : Int), x = (i : Int) → i + f = n.toNat → acc = jf_od p sd (M 220 0 0) i → R (54, [some (aR 8 0), some (aI sd), some (aI n), some (aI ((k : Nat) : Int)), some (aI q), some (aL acc), none, some (aI x)], [], am_mix mo_SM g161 M) := by
            intro f
            induction f with
            | zero =>
              intro i x acc hx hin hacc
              subst hx
              have hb := jf_od_b p sd (M 220 0 0) i
              rw [← hacc] at hb
              refine hR _ (hR _ (hR _ (am_brt (rg := am_in ((i : Nat) : Int) ∧ am_in n) (P := n ≤ ((i : Nat) : Int)) (A := R (98, [some (aR 8 0), some (aI sd), some (aI n), some (aI ((k : Nat) : Int)), some (aI q), some (aL acc), none, some (aI ((i : Nat) : Int))], [], am_mix mo_SM g161 M)) (B := R (60, [some (aR 8 0), some (aI sd), some (aI n), some (aI ((k : Nat) : Int)), some (aI q), some (aL acc), none, some (aI ((i : Nat) : Int))], [], am_mix mo_SM g161 M)) (by omega) (by omega) ?_)))
              show R (98, [some (aR 8 0), some (aI sd), some (aI n), some (aI ((k : Nat) : Int)), some (aI q), some (aL acc), none, some (aI ((i : Nat) : Int))], [], am_mix mo_SM g161 M)
              refine hR _ (hR _ (?_))
              show R (101, [some (aR 8 0), some (aI sd), some (aI n), some (aI ((k : Nat) : Int)), some (aI q), some (aL acc), none, some (aI ((i : Nat) : Int))], [aI n, aL acc], am_mix mo_SM g161 M)
              refine hR _ ⟨(by omega), ?_⟩
              show R (102, [some (aR 8 0), some (aI sd), some (aI n), some (aI ((k : Nat) : Int)), some (aI q), some (aL acc), none, some (aI ((i : Nat) : Int))], [aL n, aL acc], am_mix mo_SM g161 M)
              refine hR _ (?_)
              show R (104, [some (aR 8 0), some (aI sd), some (aI n), some (aI ((k : Nat) : Int)), some (aI q), some (aL acc), none, some (aI ((i : Nat) : Int))], [aI q, aL n, aL acc], am_mix mo_SM g161 M)
              refine hR _ (sm_lowest (by omega) (by omega) (by omega) (by omega) ?_)
              show R (107, [some (aR 8 0), some (aI sd), some (aI n), some (aI ((k : Nat) : Int)), some (aI q), some (aL acc), none, some (aI ((i : Nat) : Int))], [aL (jf_il acc n q)], am_mix mo_SM g161 M)
              refine hR _ (show K (some (aL (jf_il acc n q))) (am_mix mo_SM g161 M) from ?_)
              have hres : jx_odds M sd n ((k : Nat) : Int) q = (jf_il acc n q) := by
                rw [hacc, show i = n.toNat by omega]
                subst hpp
                unfold jx_odds
                rw [if_pos (show (0 ≤ sd ∧ sd ≤ 99999) ∧ (1 ≤ n ∧ n ≤ 99) ∧ 0 ≤ ((k : Nat) : Int) ∧ ((k : Nat) : Int) < M 227 0 0 by omega)]
                rfl
              rw [hres] at hK
              have e9 : am_ag mo_SM M (am_mix mo_SM g161 M) := (am_ag.rf).mix rfl
              rw [e9.eq]
              exact hK _
            | succ f ih =>
              intro i x acc hx hin hacc
              subst hx
              have hb := jf_od_b p sd (M 220 0 0) i
              rw [← hacc] at hb
              have h1 := hbE (jf_lb p (sd + ((i : Nat) : Int))) (jf_lb_b p _)
              have hod : jf_od p sd (M 220 0 0) (i + 1) = if jf_E p (jf_lb p (sd + ((i : Nat) : Int))) = M 220 0 0 then jf_od p sd (M 220 0 0) i + 1 else jf_od p sd (M 220 0 0) i := rfl
              refine hR _ (hR _ (hR _ (am_brf (rg := am_in ((i : Nat) : Int) ∧ am_in n) (P := n ≤ ((i : Nat) : Int)) (A := R (98, [some (aR 8 0), some (aI sd), some (aI n), some (aI ((k : Nat) : Int)), some (aI q), some (aL acc), none, some (aI ((i : Nat) : Int))], [], am_mix mo_SM g161 M)) (B := R (60, [some (aR 8 0), some (aI sd), some (aI n), some (aI ((k : Nat) : Int)), some (aI q), some (aL acc), none, some (aI ((i : Nat) : Int))], [], am_mix mo_SM g161 M)) (by omega) (by omega) ?_)))
              show R (60, [some (aR 8 0), some (aI sd), some (aI n), some (aI ((k : Nat) : Int)), some (aI q), some (aL acc), none, some (aI ((i : Nat) : Int))], [], am_mix mo_SM g161 M)
              refine hR _ (hR _ (hR _ (hR _ (hR _ (hR _ (hR _ (?_)))))))
              show R (71, [some (aR 8 0), some (aI sd), some (aI n), some (aI ((k : Nat) : Int)), some (aI q), some (aL acc), none, some (aI ((i : Nat) : Int))], [aI (sd + ((i : Nat) : Int)), aR 8 0, aR 39 0, aL acc], am_mix mo_SM g161 M)
              refine hR _ (sm_lateBy (by omega) hok hth (by omega) ?_)
              have hlb71 := jf_lb_b p ((sd + ((i : Nat) : Int)))
              show R (74, [some (aR 8 0), some (aI sd), some (aI n), some (aI ((k : Nat) : Int)), some (aI q), some (aL acc), none, some (aI ((i : Nat) : Int))], [aI ((jf_lb p (sd + ((i : Nat) : Int)) : Nat) : Int), aR 39 0, aL acc], am_mix mo_SM g161 M)
              refine hR _ ⟨(show 0 ≤ (((jf_lb p (sd + ((i : Nat) : Int)) : Nat) : Int) : Int) ∧ (((jf_lb p (sd + ((i : Nat) : Int)) : Nat) : Int) : Int) < 5 from (by omega)), ?_⟩
              show R (75, [some (aR 8 0), some (aI sd), some (aI n), some (aI ((k : Nat) : Int)), some (aI q), some (aL acc), none, some (aI ((i : Nat) : Int))], [aI (g161 39 0 ((((jf_lb p (sd + ((i : Nat) : Int)) : Nat) : Int)).toNat)), aL acc], am_mix mo_SM g161 M)
              rw [(show g161 39 0 ((((jf_lb p (sd + ((i : Nat) : Int)) : Nat) : Int)).toNat) = jf_E p (jf_lb p (sd + ((i : Nat) : Int))) from (hthr (jf_lb p (sd + ((i : Nat) : Int))) (by omega)).1)]
              show R (75, [some (aR 8 0), some (aI sd), some (aI n), some (aI ((k : Nat) : Int)), some (aI q), some (aL acc), none, some (aI ((i : Nat) : Int))], [aI (jf_E p (jf_lb p (sd + ((i : Nat) : Int)))), aL acc], am_mix mo_SM g161 M)
              refine hR _ (hR _ (hR _ (?_)))
              show R (80, [some (aR 8 0), some (aI sd), some (aI n), some (aI ((k : Nat) : Int)), some (aI q), some (aL acc), none, some (aI ((i : Nat) : Int))], [aI 0, aR 22 0, aI (jf_E p (jf_lb p (sd + ((i : Nat) : Int)))), aL acc], am_mix mo_SM g161 M)
              refine hR _ ⟨(show 0 ≤ (0 : Int) ∧ (0 : Int) < 4 from (by omega)), ?_⟩
              show R (81, [some (aR 8 0), some (aI sd), some (aI n), some (aI ((k : Nat) : Int)), some (aI q), some (aL acc), none, some (aI ((i : Nat) : Int))], [aI (M 22 0 0), aI (jf_E p (jf_lb p (sd + ((i : Nat) : Int)))), aL acc], am_mix mo_SM g161 M)
              rw [(show M 22 0 0 = M 220 0 0 from hW.1.1.1)]
              show R (81, [some (aR 8 0), some (aI sd), some (aI n), some (aI ((k : Nat) : Int)), some (aI q), some (aL acc), none, some (aI ((i : Nat) : Int))], [aI (M 220 0 0), aI (jf_E p (jf_lb p (sd + ((i : Nat) : Int)))), aL acc], am_mix mo_SM g161 M)
              refine hR _ (am_brc (rg := am_in (jf_E p (jf_lb p (sd + ((i : Nat) : Int)))) ∧ am_in (M 220 0 0)) (P := (jf_E p (jf_lb p (sd + ((i : Nat) : Int)))) ≠ (M 220 0 0)) (A := R (88, [some (aR 8 0), some (aI sd), some (aI n), some (aI ((k : Nat) : Int)), some (aI q), some (aL acc), none, some (aI ((i : Nat) : Int))], [aL acc], am_mix mo_SM g161 M)) (B := R (84, [some (aR 8 0), some (aI sd), some (aI n), some (aI ((k : Nat) : Int)), some (aI q), some (aL acc), none, some (aI ((i : Nat) : Int))], [aL acc], am_mix mo_SM g161 M)) (by omega) (fun c81 => ?_) (fun c81 => ?_))
              · refine hR _ (hR _ (hR _ (hR _ (hR _ (?_)))))
                show R (54, [some (aR 8 0), some (aI sd), some (aI n), some (aI ((k : Nat) : Int)), some (aI q), some (aL (acc + 0)), none, some (aI (((i : Nat) : Int) + 1))], [], am_mix mo_SM g161 M)
                refine ih (i + 1) _ _ (by omega) (by omega) ?_
                rw [hod, hacc]
                first | (rw [if_pos (by omega)]; done) | (rw [if_neg (by omega)]; omega)
              · refine hR _ (hR _ (hR _ (hR _ (hR _ (hR _ (?_))))))
                show R (54, [some (aR 8 0), some (aI sd), some (aI n), some (aI ((k : Nat) : Int)), some (aI q), some (aL (acc + 1)), none, some (aI (((i : Nat) : Int) + 1))], [], am_mix mo_SM g161 M)
                refine ih (i + 1) _ _ (by omega) (by omega) ?_
                rw [hod, hacc]
                first | (rw [if_pos (by omega)]; done) | (rw [if_neg (by omega)]; omega)
          exact key n.toNat 0 _ _ rfl (by omega) rfl
        · show R (36, [some (aR 8 0), some (aI sd), some (aI n), some (aI ((k : Nat) : Int)), some (aI q), none, none, none], [aI 0], M)
          refine hR _ (am_brf (rg := am_in 0) (P := (0 : Int) ≠ 0) (A := R (43, [some (aR 8 0), some (aI sd), some (aI n), some (aI ((k : Nat) : Int)), some (aI q), none, none, none], [], M)) (B := R (39, [some (aR 8 0), some (aI sd), some (aI n), some (aI ((k : Nat) : Int)), some (aI q), none, none, none], [], M)) (by omega) (by omega) ?_)
          show R (39, [some (aR 8 0), some (aI sd), some (aI n), some (aI ((k : Nat) : Int)), some (aI q), none, none, none], [], M)
          refine hR _ (?_)
          show R (42, [some (aR 8 0), some (aI sd), some (aI n), some (aI ((k : Nat) : Int)), some (aI q), none, none, none], [aL (-4611686018427387904)], M)
          refine hR _ (show K (some (aL (-4611686018427387904))) M from ?_)
          have hres : jx_odds M sd n ((k : Nat) : Int) q = (-4611686018427387904) := by
            unfold jx_odds
            repeat' split
            all_goals first | omega | rfl | exact jf_il_no (by omega)
          rw [hres] at hK
          have e9 : am_ag mo_SM M M := am_ag.rf
          rw [e9.eq]
          exact hK _
      · show R (18, [some (aR 8 0), some (aI sd), some (aI n), some (aI ((k : Nat) : Int)), some (aI q), none, none, none], [aI 0], M)
        refine hR _ (am_brt (rg := am_in 0) (P := (0 : Int) = 0) (A := R (39, [some (aR 8 0), some (aI sd), some (aI n), some (aI ((k : Nat) : Int)), some (aI q), none, none, none], [], M)) (B := R (21, [some (aR 8 0), some (aI sd), some (aI n), some (aI ((k : Nat) : Int)), some (aI q), none, none, none], [], M)) (by omega) (by omega) ?_)
        show R (39, [some (aR 8 0), some (aI sd), some (aI n), some (aI ((k : Nat) : Int)), some (aI q), none, none, none], [], M)
        refine hR _ (?_)
        show R (42, [some (aR 8 0), some (aI sd), some (aI n), some (aI ((k : Nat) : Int)), some (aI q), none, none, none], [aL (-4611686018427387904)], M)
        refine hR _ (show K (some (aL (-4611686018427387904))) M from ?_)
        have hres : jx_odds M sd n ((k : Nat) : Int) q = (-4611686018427387904) := by
          unfold jx_odds
          repeat' split
          all_goals first | omega | rfl | exact jf_il_no (by omega)
        rw [hres] at hK
        have e9 : am_ag mo_SM M M := am_ag.rf
        rw [e9.eq]
        exact hK _
    · show R (8, [some (aR 8 0), some (aI sd), some (aI n), some (aI ((k : Nat) : Int)), some (aI q), none, none, none], [aI 0], M)
      refine hR _ (am_brt (rg := am_in 0) (P := (0 : Int) = 0) (A := R (39, [some (aR 8 0), some (aI sd), some (aI n), some (aI ((k : Nat) : Int)), some (aI q), none, none, none], [], M)) (B := R (11, [some (aR 8 0), some (aI sd), some (aI n), some (aI ((k : Nat) : Int)), some (aI q), none, none, none], [], M)) (by omega) (by omega) ?_)
      show R (39, [some (aR 8 0), some (aI sd), some (aI n), some (aI ((k : Nat) : Int)), some (aI q), none, none, none], [], M)
      refine hR _ (?_)
      show R (42, [some (aR 8 0), some (aI sd), some (aI n), some (aI ((k : Nat) : Int)), some (aI q), none, none, none], [aL (-4611686018427387904)], M)
      refine hR _ (show K (some (aL (-4611686018427387904))) M from ?_)
      have hres : jx_odds M sd n ((k : Nat) : Int) q = (-4611686018427387904) := by
        unfold jx_odds
        repeat' split
        all_goals first | omega | rfl | exact jf_il_no (by omega)
      rw [hres] at hK
      have e9 : am_ag mo_SM M M := am_ag.rf
      rw [e9.eq]
      exact hK _
  · show R (0, [some (aR 8 0), some (aI sd), some (aI n), some (aI h), some (aI q), none, none, none], [], M)
    refine hR _ (hR _ (hR _ (?_)))
    show R (5, [some (aR 8 0), some (aI sd), some (aI n), some (aI h), some (aI q), none, none, none], [aI 99999, aI 0, aI sd], M)
    refine hR _ (sp_in (by omega) (by omega) (fun h5 => ?_) (fun h5 => ?_))
    · show R (8, [some (aR 8 0), some (aI sd), some (aI n), some (aI h), some (aI q), none, none, none], [aI 1], M)
      refine hR _ (am_brf (rg := am_in 1) (P := (1 : Int) = 0) (A := R (39, [some (aR 8 0), some (aI sd), some (aI n), some (aI h), some (aI q), none, none, none], [], M)) (B := R (11, [some (aR 8 0), some (aI sd), some (aI n), some (aI h), some (aI q), none, none, none], [], M)) (by omega) (by omega) ?_)
      show R (11, [some (aR 8 0), some (aI sd), some (aI n), some (aI h), some (aI q), none, none, none], [], M)
      refine hR _ (hR _ (hR _ (?_)))
      show R (15, [some (aR 8 0), some (aI sd), some (aI n), some (aI h), some (aI q), none, none, none], [aI 99, aI 1, aI n], M)
      refine hR _ (sp_in (by omega) (by omega) (fun h15 => ?_) (fun h15 => ?_))
      · show R (18, [some (aR 8 0), some (aI sd), some (aI n), some (aI h), some (aI q), none, none, none], [aI 1], M)
        refine hR _ (am_brf (rg := am_in 1) (P := (1 : Int) = 0) (A := R (39, [some (aR 8 0), some (aI sd), some (aI n), some (aI h), some (aI q), none, none, none], [], M)) (B := R (21, [some (aR 8 0), some (aI sd), some (aI n), some (aI h), some (aI q), none, none, none], [], M)) (by omega) (by omega) ?_)
        show R (21, [some (aR 8 0), some (aI sd), some (aI n), some (aI h), some (aI q), none, none, none], [], M)
        refine hR _ (hR _ (?_))
        show R (23, [some (aR 8 0), some (aI sd), some (aI n), some (aI h), some (aI q), none, none, none], [aI h, aR 8 0], M)
        refine hR _ (sm_isHand (by omega) (show 0 ≤ M 421 0 0 ∧ M 421 0 0 ≤ 5 from hn') (by omega) (fun hz => absurd (show 0 ≤ h ∧ h < M 227 0 0 from ⟨hz.1, by rw [← h421]; exact hz.2⟩) hno) (fun _ => ?_))
        show R (26, [some (aR 8 0), some (aI sd), some (aI n), some (aI h), some (aI q), none, none, none], [aI 0], M)
        refine hR _ (am_brt (rg := am_in 0) (P := (0 : Int) = 0) (A := R (39, [some (aR 8 0), some (aI sd), some (aI n), some (aI h), some (aI q), none, none, none], [], M)) (B := R (29, [some (aR 8 0), some (aI sd), some (aI n), some (aI h), some (aI q), none, none, none], [], M)) (by omega) (by omega) ?_)
        show R (39, [some (aR 8 0), some (aI sd), some (aI n), some (aI h), some (aI q), none, none, none], [], M)
        refine hR _ (?_)
        show R (42, [some (aR 8 0), some (aI sd), some (aI n), some (aI h), some (aI q), none, none, none], [aL (-4611686018427387904)], M)
        refine hR _ (show K (some (aL (-4611686018427387904))) M from ?_)
        have hres : jx_odds M sd n h q = (-4611686018427387904) := by
          unfold jx_odds
          repeat' split
          all_goals first | omega | rfl | exact jf_il_no (by omega)
        rw [hres] at hK
        have e9 : am_ag mo_SM M M := am_ag.rf
        rw [e9.eq]
        exact hK _
      · show R (18, [some (aR 8 0), some (aI sd), some (aI n), some (aI h), some (aI q), none, none, none], [aI 0], M)
        refine hR _ (am_brt (rg := am_in 0) (P := (0 : Int) = 0) (A := R (39, [some (aR 8 0), some (aI sd), some (aI n), some (aI h), some (aI q), none, none, none], [], M)) (B := R (21, [some (aR 8 0), some (aI sd), some (aI n), some (aI h), some (aI q), none, none, none], [], M)) (by omega) (by omega) ?_)
        show R (39, [some (aR 8 0), some (aI sd), some (aI n), some (aI h), some (aI q), none, none, none], [], M)
        refine hR _ (?_)
        show R (42, [some (aR 8 0), some (aI sd), some (aI n), some (aI h), some (aI q), none, none, none], [aL (-4611686018427387904)], M)
        refine hR _ (show K (some (aL (-4611686018427387904))) M from ?_)
        have hres : jx_odds M sd n h q = (-4611686018427387904) := by
          unfold jx_odds
          repeat' split
          all_goals first | omega | rfl | exact jf_il_no (by omega)
        rw [hres] at hK
        have e9 : am_ag mo_SM M M := am_ag.rf
        rw [e9.eq]
        exact hK _
    · show R (8, [some (aR 8 0), some (aI sd), some (aI n), some (aI h), some (aI q), none, none, none], [aI 0], M)
      refine hR _ (am_brt (rg := am_in 0) (P := (0 : Int) = 0) (A := R (39, [some (aR 8 0), some (aI sd), some (aI n), some (aI h), some (aI q), none, none, none], [], M)) (B := R (11, [some (aR 8 0), some (aI sd), some (aI n), some (aI h), some (aI q), none, none, none], [], M)) (by omega) (by omega) ?_)
      show R (39, [some (aR 8 0), some (aI sd), some (aI n), some (aI h), some (aI q), none, none, none], [], M)
      refine hR _ (?_)
      show R (42, [some (aR 8 0), some (aI sd), some (aI n), some (aI h), some (aI q), none, none, none], [aL (-4611686018427387904)], M)
      refine hR _ (show K (some (aL (-4611686018427387904))) M from ?_)
      have hres : jx_odds M sd n h q = (-4611686018427387904) := by
        unfold jx_odds
        repeat' split
        all_goals first | omega | rfl | exact jf_il_no (by omega)
      rw [hres] at hK
      have e9 : am_ag mo_SM M M := am_ag.rf
      rw [e9.eq]
      exact hK _

theorem sm_isFirst {d : Nat} (hd : 1 ≤ d) {p : jf_par} {a : Nat} {M : am_M} {K : am_K} (hok : jf_ok p) (hth : mo_th M p) (ha : a < 5) (h : K (some (aI (jf_fi p a a))) M) : am_Call true d 180 [aR 8 0, aI ((a : Nat) : Int)] M K := by
  obtain ⟨d, rfl⟩ : ∃ e, d = e + 1 := ⟨d - 1, by omega⟩
  refine ⟨rfl, fun R hR hC => ?_⟩
  replace hR : ∀ c, am_F true tb_f180 2 (am_Call true d) K R c → R c := hR
  obtain ⟨hthr, hthA, hthN⟩ := hth
  show R (0, [some (aR 8 0), some (aI ((a : Nat) : Int)), none], [], M)
  have key : ∀ (n b : Nat) (x : Int), x = (b : Int) → b + n = a → (∀ j, j < b → jf_E p j ≠ jf_E p a) → R (2, [some (aR 8 0), some (aI ((a : Nat) : Int)), some (aI x)], [], M) := by
    intro n
    induction n with
    | zero =>
      intro b x hx hin hf
      subst hx
      have hba : b = a := by omega
      refine hR _ (hR _ (hR _ (am_brt (rg := am_in ((b : Nat) : Int) ∧ am_in ((a : Nat) : Int)) (P := ((a : Nat) : Int) ≤ ((b : Nat) : Int)) (A := R (30, [some (aR 8 0), some (aI ((a : Nat) : Int)), some (aI ((b : Nat) : Int))], [], M)) (B := R (7, [some (aR 8 0), some (aI ((a : Nat) : Int)), some (aI ((b : Nat) : Int))], [], M)) (by omega) (by omega) ?_)))
      show R (30, [some (aR 8 0), some (aI ((a : Nat) : Int)), some (aI ((b : Nat) : Int))], [], M)
      refine hR _ (?_)
      show R (31, [some (aR 8 0), some (aI ((a : Nat) : Int)), some (aI ((b : Nat) : Int))], [aI 1], M)
      refine hR _ (show ((1 : Int) = 0 ∨ (1 : Int) = 1) ∧ K (some (aI 1)) M from ?_)
      exact ⟨by omega, by rw [jf_fi_1 a (fun j hj => hf j (by omega))] at h; exact h⟩
    | succ n ih =>
      intro b x hx hin hf
      subst hx
      have h1 := jf_E_b hok (a := b) (by omega)
      have h2 := jf_E_b hok (a := a) (by omega)
      refine hR _ (hR _ (hR _ (am_brf (rg := am_in ((b : Nat) : Int) ∧ am_in ((a : Nat) : Int)) (P := ((a : Nat) : Int) ≤ ((b : Nat) : Int)) (A := R (30, [some (aR 8 0), some (aI ((a : Nat) : Int)), some (aI ((b : Nat) : Int))], [], M)) (B := R (7, [some (aR 8 0), some (aI ((a : Nat) : Int)), some (aI ((b : Nat) : Int))], [], M)) (by omega) (by omega) ?_)))
      show R (7, [some (aR 8 0), some (aI ((a : Nat) : Int)), some (aI ((b : Nat) : Int))], [], M)
      refine hR _ (hR _ (hR _ (?_)))
      show R (12, [some (aR 8 0), some (aI ((a : Nat) : Int)), some (aI ((b : Nat) : Int))], [aI ((b : Nat) : Int), aR 39 0], M)
      refine hR _ ⟨(show 0 ≤ (((b : Nat) : Int) : Int) ∧ (((b : Nat) : Int) : Int) < 5 from (by omega)), ?_⟩
      show R (13, [some (aR 8 0), some (aI ((a : Nat) : Int)), some (aI ((b : Nat) : Int))], [aI (M 39 0 b)], M)
      rw [(show M 39 0 b = jf_E p b from (hthr b (by omega)).1)]
      show R (13, [some (aR 8 0), some (aI ((a : Nat) : Int)), some (aI ((b : Nat) : Int))], [aI (jf_E p b)], M)
      refine hR _ (hR _ (hR _ (?_)))
      show R (18, [some (aR 8 0), some (aI ((a : Nat) : Int)), some (aI ((b : Nat) : Int))], [aI ((a : Nat) : Int), aR 39 0, aI (jf_E p b)], M)
      refine hR _ ⟨(show 0 ≤ (((a : Nat) : Int) : Int) ∧ (((a : Nat) : Int) : Int) < 5 from (by omega)), ?_⟩
      show R (19, [some (aR 8 0), some (aI ((a : Nat) : Int)), some (aI ((b : Nat) : Int))], [aI (M 39 0 a), aI (jf_E p b)], M)
      rw [(show M 39 0 a = jf_E p a from (hthr a (by omega)).1)]
      show R (19, [some (aR 8 0), some (aI ((a : Nat) : Int)), some (aI ((b : Nat) : Int))], [aI (jf_E p a), aI (jf_E p b)], M)
      refine hR _ (am_brc (rg := am_in (jf_E p b) ∧ am_in (jf_E p a)) (P := (jf_E p b) ≠ (jf_E p a)) (A := R (24, [some (aR 8 0), some (aI ((a : Nat) : Int)), some (aI ((b : Nat) : Int))], [], M)) (B := R (22, [some (aR 8 0), some (aI ((a : Nat) : Int)), some (aI ((b : Nat) : Int))], [], M)) (by omega) (fun c19 => ?_) (fun c19 => ?_))
      · refine hR _ (hR _ (?_))
        show R (2, [some (aR 8 0), some (aI ((a : Nat) : Int)), some (aI (((b : Nat) : Int) + 1))], [], M)
        exact ih (b + 1) _ (by omega) (by omega) (fun j hj => by
          by_cases e : j = b
          · rw [e]; assumption
          · exact hf j (by omega))
      · refine hR _ (?_)
        show R (23, [some (aR 8 0), some (aI ((a : Nat) : Int)), some (aI ((b : Nat) : Int))], [aI 0], M)
        refine hR _ (show ((0 : Int) = 0 ∨ (0 : Int) = 1) ∧ K (some (aI 0)) M from ?_)
        exact ⟨by omega, by rw [jf_fi_0 (b := b) (by omega) a (by omega)] at h; exact h⟩
  refine hR _ (hR _ (?_))
  show R (2, [some (aR 8 0), some (aI ((a : Nat) : Int)), some (aI 0)], [], M)
  exact key a 0 _ rfl (by omega) (fun j hj => absurd hj (Nat.not_lt_zero j))

set_option maxHeartbeats 1000000 in
theorem sm_alike {d : Nat} (hd : 9 ≤ d) {h n q : Int} {M : am_M} {K : am_K} (hJ : jf_J M) (hW : jf_C M) (ha_h : am_in h) (ha_n : am_in n) (ha_q : am_in q) (hK : ∀ g, K (some (aL (jx_alike M h n q))) (am_mix mo_SM g M)) : am_Call true d 179 [aR 8 0, aI h, aI n, aI q] M K := by
  obtain ⟨d, rfl⟩ : ∃ e, d = e + 1 := ⟨d - 1, by omega⟩
  refine ⟨rfl, fun R hR hC => ?_⟩
  replace hR : ∀ c, am_F true tb_f179 5 (am_Call true d) K R c → R c := hR
  have hn := hJ.1.1.2.2.2.2.2.2.2.1
  have hl0 := hJ.1.1.2.2.2.2.2.2.2.2
  have htc := hJ.2.2.1.1
  have hlt : 0 ≤ M 228 0 0 ∧ M 228 0 0 < 6 := by omega
  have hmk := hJ.1.1.1
  have hdr := hJ.1.1.2.1
  have hpr := hJ.1.1.2.2.1
  have hfu := hJ.1.1.2.2.2.1
  have hn' : 0 ≤ M 421 0 0 ∧ M 421 0 0 ≤ 5 := by rw [hW.1.2.1.1]; exact hn
  have h421 : M 421 0 0 = M 227 0 0 := hW.1.2.1.1
  show R (0, [some (aR 8 0), some (aI h), some (aI n), some (aI q), none, none, none, none, none, none, none, none], [], M)
  rcases jf_hd (M := M) (h := h) hn with ⟨k, rfl, hk5, hk⟩ | hno
  · obtain ⟨r, hrr⟩ : ∃ r, r = (M 228 0 0).toNat := ⟨_, rfl⟩
    have hr : M 431 0 0 = (r : Int) := by rw [hW.1.2.1.2.2.1]; omega
    have hr6 : r < 6 := by omega
    have hwt : mo_wt M r := (hW.2.1.2.2 r (by omega)).1
    obtain ⟨p, hpp⟩ : ∃ p, p = jf_px M k := ⟨_, rfl⟩
    have hp : mo_p M k r p := by rw [hpp, hrr]; exact jf_C.p hJ hW hk (by omega)
    have hok : jf_ok p := by rw [hpp]; exact hJ.px hk
    have hpm : p.mk = M 22 0 0 := by rw [hpp]; exact hW.1.1.1.symm
    have hps : p.st = 0 := by rw [hpp]
    have hpb := jf_P_b hok
    have hA := jf_A_b hok
    show R (0, [some (aR 8 0), some (aI ((k : Nat) : Int)), some (aI n), some (aI q), none, none, none, none, none, none, none, none], [], M)
    refine hR _ (hR _ (?_))
    show R (2, [some (aR 8 0), some (aI ((k : Nat) : Int)), some (aI n), some (aI q), none, none, none, none, none, none, none, none], [aI ((k : Nat) : Int), aR 8 0], M)
    refine hR _ (sm_isHand (by omega) (show 0 ≤ M 421 0 0 ∧ M 421 0 0 ≤ 5 from hn') (by omega) (fun _ => ?_) (fun hz => absurd (show 0 ≤ ((k : Nat) : Int) ∧ ((k : Nat) : Int) < M 421 0 0 by omega) hz))
    show R (5, [some (aR 8 0), some (aI ((k : Nat) : Int)), some (aI n), some (aI q), none, none, none, none, none, none, none, none], [aI 1], M)
    refine hR _ (am_brf (rg := am_in 1) (P := (1 : Int) = 0) (A := R (26, [some (aR 8 0), some (aI ((k : Nat) : Int)), some (aI n), some (aI q), none, none, none, none, none, none, none, none], [], M)) (B := R (8, [some (aR 8 0), some (aI ((k : Nat) : Int)), some (aI n), some (aI q), none, none, none, none, none, none, none, none], [], M)) (by omega) (by omega) ?_)
    show R (8, [some (aR 8 0), some (aI ((k : Nat) : Int)), some (aI n), some (aI q), none, none, none, none, none, none, none, none], [], M)
    refine hR _ (hR _ (hR _ (?_)))
    show R (11, [some (aR 8 0), some (aI ((k : Nat) : Int)), some (aI n), some (aI q), none, none, none, none, none, none, none, none], [aI 4, aI 1, aI n], M)
    refine hR _ (sp_in (by omega) (by omega) (fun h11 => ?_) (fun h11 => ?_))
    · show R (14, [some (aR 8 0), some (aI ((k : Nat) : Int)), some (aI n), some (aI q), none, none, none, none, none, none, none, none], [aI 1], M)
      refine hR _ (am_brf (rg := am_in 1) (P := (1 : Int) = 0) (A := R (26, [some (aR 8 0), some (aI ((k : Nat) : Int)), some (aI n), some (aI q), none, none, none, none, none, none, none, none], [], M)) (B := R (17, [some (aR 8 0), some (aI ((k : Nat) : Int)), some (aI n), some (aI q), none, none, none, none, none, none, none, none], [], M)) (by omega) (by omega) ?_)
      show R (17, [some (aR 8 0), some (aI ((k : Nat) : Int)), some (aI n), some (aI q), none, none, none, none, none, none, none, none], [], M)
      refine hR _ (hR _ (hR _ (?_)))
      show R (20, [some (aR 8 0), some (aI ((k : Nat) : Int)), some (aI n), some (aI q), none, none, none, none, none, none, none, none], [aI 1, aI 0, aI q], M)
      refine hR _ (sp_in (by omega) (by omega) (fun h20 => ?_) (fun h20 => ?_))
      · show R (23, [some (aR 8 0), some (aI ((k : Nat) : Int)), some (aI n), some (aI q), none, none, none, none, none, none, none, none], [aI 1], M)
        refine hR _ (am_brt (rg := am_in 1) (P := (1 : Int) ≠ 0) (A := R (30, [some (aR 8 0), some (aI ((k : Nat) : Int)), some (aI n), some (aI q), none, none, none, none, none, none, none, none], [], M)) (B := R (26, [some (aR 8 0), some (aI ((k : Nat) : Int)), some (aI n), some (aI q), none, none, none, none, none, none, none, none], [], M)) (by omega) (by omega) ?_)
        show R (30, [some (aR 8 0), some (aI ((k : Nat) : Int)), some (aI n), some (aI q), none, none, none, none, none, none, none, none], [], M)
        refine hR _ (hR _ (?_))
        show R (32, [some (aR 8 0), some (aI ((k : Nat) : Int)), some (aI n), some (aI q), none, none, none, none, none, none, none, none], [aI ((k : Nat) : Int), aR 8 0], M)
        refine hR _ (sm_goes (p := p) (r := r) (by omega) hk hr hr6 hwt hp hok hpm hps (fun g162 hth => ?_))
        have hthr := hth.1
        have hthA := hth.2.1
        have hthN := hth.2.2
        have hbO := fun a (ha : a < 5) => jf_O_b hok ha
        have hbE := fun a (ha : a < 5) => jf_E_b hok ha
        show R (35, [some (aR 8 0), some (aI ((k : Nat) : Int)), some (aI n), some (aI q), none, none, none, none, none, none, none, none], [], am_mix mo_SM g162 M)
        refine hR _ (hR _ (hR _ (hR _ (hR _ (hR _ (?_))))))
        show R (44, [some (aR 8 0), some (aI ((k : Nat) : Int)), some (aI n), some (aI q), some (aL 0), none, some (aL 1), none, some (aI 0), none, none, none], [], am_mix mo_SM g162 M)
        have key2 : ∀ (f a : Nat) (x acc : Int) (o9 o11 : Option am_V), x = (a : Int) → a + f = 5 → acc = mo_ps (fun a => if jf_fi p a a = 0 then 0 else jf_pw (jf_at p (jf_E p a)) n.toNat) a → R (69, [some (aR 8 0), some (aI ((k : Nat) : Int)), some (aI n), some (aI q), some (aL acc), none, some (aL (jf_pw (jf_A p) n.toNat)), none, some (aI x), o9, none, o11], [], am_mix mo_SM g162 M) := by
          intro f
          induction f with
          | zero =>
            intro a x acc o9 o11 hx hin hacc
            subst hx
            have ha5 : a = 5 := by omega
            have hal := jf_al_b hok (n := n.toNat) (by omega)
            have hpw := jf_pw_m (v := jf_A p) (by omega) n.toNat (by omega)
            have hacc2 : acc = jf_al p n.toNat := by rw [hacc, ha5]; rfl
            refine hR _ (hR _ (hR _ (am_brt (rg := am_in ((a : Nat) : Int) ∧ am_in 5) (P := 5 ≤ ((a : Nat) : Int)) (A := R (135, [some (aR 8 0), some (aI ((k : Nat) : Int)), some (aI n), some (aI q), some (aL acc), none, some (aL (jf_pw (jf_A p) n.toNat)), none, some (aI ((a : Nat) : Int)), o9, none, o11], [], am_mix mo_SM g162 M)) (B := R (75, [some (aR 8 0), some (aI ((k : Nat) : Int)), some (aI n), some (aI q), some (aL acc), none, some (aL (jf_pw (jf_A p) n.toNat)), none, some (aI ((a : Nat) : Int)), o9, none, o11], [], am_mix mo_SM g162 M)) (by omega) (by omega) ?_)))
            show R (135, [some (aR 8 0), some (aI ((k : Nat) : Int)), some (aI n), some (aI q), some (aL acc), none, some (aL (jf_pw (jf_A p) n.toNat)), none, some (aI ((a : Nat) : Int)), o9, none, o11], [], am_mix mo_SM g162 M)
            refine hR _ (hR _ (hR _ (?_)))
            show R (140, [some (aR 8 0), some (aI ((k : Nat) : Int)), some (aI n), some (aI q), some (aL acc), none, some (aL (jf_pw (jf_A p) n.toNat)), none, some (aI ((a : Nat) : Int)), o9, none, o11], [aI q, aL (jf_pw (jf_A p) n.toNat), aL acc], am_mix mo_SM g162 M)
            refine hR _ (sm_lowest (by omega) (by omega) (by omega) (by omega) ?_)
            show R (143, [some (aR 8 0), some (aI ((k : Nat) : Int)), some (aI n), some (aI q), some (aL acc), none, some (aL (jf_pw (jf_A p) n.toNat)), none, some (aI ((a : Nat) : Int)), o9, none, o11], [aL (jf_il acc (jf_pw (jf_A p) n.toNat) q)], am_mix mo_SM g162 M)
            refine hR _ (show K (some (aL (jf_il acc (jf_pw (jf_A p) n.toNat) q))) (am_mix mo_SM g162 M) from ?_)
            have hres : jx_alike M ((k : Nat) : Int) n q = (jf_il acc (jf_pw (jf_A p) n.toNat) q) := by
              rw [hacc, ha5]
              subst hpp
              unfold jx_alike
              rw [if_pos (show (0 ≤ ((k : Nat) : Int) ∧ ((k : Nat) : Int) < M 227 0 0) ∧ 1 ≤ n ∧ n ≤ 4 by omega)]
              rfl
            rw [hres] at hK
            have e9 : am_ag mo_SM M (am_mix mo_SM g162 M) := (am_ag.rf).mix rfl
            rw [e9.eq]
            exact hK _
          | succ f ih =>
            intro a x acc o9 o11 hx hin hacc
            subst hx
            have h1 := hbO a (by omega)
            have h2 := hbE a (by omega)
            refine hR _ (hR _ (hR _ (am_brf (rg := am_in ((a : Nat) : Int) ∧ am_in 5) (P := 5 ≤ ((a : Nat) : Int)) (A := R (135, [some (aR 8 0), some (aI ((k : Nat) : Int)), some (aI n), some (aI q), some (aL acc), none, some (aL (jf_pw (jf_A p) n.toNat)), none, some (aI ((a : Nat) : Int)), o9, none, o11], [], am_mix mo_SM g162 M)) (B := R (75, [some (aR 8 0), some (aI ((k : Nat) : Int)), some (aI n), some (aI q), some (aL acc), none, some (aL (jf_pw (jf_A p) n.toNat)), none, some (aI ((a : Nat) : Int)), o9, none, o11], [], am_mix mo_SM g162 M)) (by omega) (by omega) ?_)))
            show R (75, [some (aR 8 0), some (aI ((k : Nat) : Int)), some (aI n), some (aI q), some (aL acc), none, some (aL (jf_pw (jf_A p) n.toNat)), none, some (aI ((a : Nat) : Int)), o9, none, o11], [], am_mix mo_SM g162 M)
            refine hR _ (hR _ (?_))
            show R (78, [some (aR 8 0), some (aI ((k : Nat) : Int)), some (aI n), some (aI q), some (aL acc), none, some (aL (jf_pw (jf_A p) n.toNat)), none, some (aI ((a : Nat) : Int)), o9, none, o11], [aI ((a : Nat) : Int), aR 8 0], am_mix mo_SM g162 M)
            refine hR _ (sm_isFirst (a := a) (by omega) hok hth (by omega) ?_)
            have hfi := jf_fi_b p a a
            show R (81, [some (aR 8 0), some (aI ((k : Nat) : Int)), some (aI n), some (aI q), some (aL acc), none, some (aL (jf_pw (jf_A p) n.toNat)), none, some (aI ((a : Nat) : Int)), o9, none, o11], [aI (jf_fi p a a)], am_mix mo_SM g162 M)
            refine hR _ (am_brc (rg := am_in (jf_fi p a a)) (P := (jf_fi p a a) = 0) (A := R (88, [some (aR 8 0), some (aI ((k : Nat) : Int)), some (aI n), some (aI q), some (aL acc), none, some (aL (jf_pw (jf_A p) n.toNat)), none, some (aI ((a : Nat) : Int)), o9, none, o11], [], am_mix mo_SM g162 M)) (B := R (84, [some (aR 8 0), some (aI ((k : Nat) : Int)), some (aI n), some (aI q), some (aL acc), none, some (aL (jf_pw (jf_A p) n.toNat)), none, some (aI ((a : Nat) : Int)), o9, none, o11], [], am_mix mo_SM g162 M)) (by omega) (fun c81 => ?_) (fun c81 => ?_))
            · refine hR _ (hR _ (hR _ (hR _ (?_))))
              show R (94, [some (aR 8 0), some (aI ((k : Nat) : Int)), some (aI n), some (aI q), some (aL acc), none, some (aL (jf_pw (jf_A p) n.toNat)), none, some (aI ((a : Nat) : Int)), some (aL 0), none, some (aI 0)], [], am_mix mo_SM g162 M)
              have key3 : ∀ (f i : Nat) (y v : Int), y = (i : Int) → i + f = n.toNat → v = 0 → R (94, [some (aR 8 0), some (aI ((k : Nat) : Int)), some (aI n), some (aI q), some (aL acc), none, some (aL (jf_pw (jf_A p) n.toNat)), none, some (aI ((a : Nat) : Int)), some (aL v), none, some (aI y)], [], am_mix mo_SM g162 M) := by
                intro f
                induction f with
                | zero =>
                  intro i y v hy hin2 hv
                  subst hy
                  refine hR _ (hR _ (hR _ (am_brt (rg := am_in ((i : Nat) : Int) ∧ am_in n) (P := n ≤ ((i : Nat) : Int)) (A := R (122, [some (aR 8 0), some (aI ((k : Nat) : Int)), some (aI n), some (aI q), some (aL acc), none, some (aL (jf_pw (jf_A p) n.toNat)), none, some (aI ((a : Nat) : Int)), some (aL v), none, some (aI ((i : Nat) : Int))], [], am_mix mo_SM g162 M)) (B := R (100, [some (aR 8 0), some (aI ((k : Nat) : Int)), some (aI n), some (aI q), some (aL acc), none, some (aL (jf_pw (jf_A p) n.toNat)), none, some (aI ((a : Nat) : Int)), some (aL v), none, some (aI ((i : Nat) : Int))], [], am_mix mo_SM g162 M)) (by omega) (by omega) ?_)))
                  show R (122, [some (aR 8 0), some (aI ((k : Nat) : Int)), some (aI n), some (aI q), some (aL acc), none, some (aL (jf_pw (jf_A p) n.toNat)), none, some (aI ((a : Nat) : Int)), some (aL v), none, some (aI ((i : Nat) : Int))], [], am_mix mo_SM g162 M)
                  refine hR _ (hR _ (hR _ (hR _ (hR _ (hR _ (?_))))))
                  show R (69, [some (aR 8 0), some (aI ((k : Nat) : Int)), some (aI n), some (aI q), some (aL (acc + v)), none, some (aL (jf_pw (jf_A p) n.toNat)), none, some (aI (((a : Nat) : Int) + 1)), some (aL v), none, some (aI ((i : Nat) : Int))], [], am_mix mo_SM g162 M)
                  refine ih (a + 1) _ _ _ _ (by omega) (by omega) ?_
                  rw [hacc, hv]
                  show _ = mo_ps (fun a => if jf_fi p a a = 0 then 0 else jf_pw (jf_at p (jf_E p a)) n.toNat) a + (if jf_fi p a a = 0 then 0 else jf_pw (jf_at p (jf_E p a)) n.toNat)
                  rw [if_pos (by omega)]
                | succ f ih3 =>
                  intro i y v hy hin2 hv
                  subst hy
                  refine hR _ (hR _ (hR _ (am_brf (rg := am_in ((i : Nat) : Int) ∧ am_in n) (P := n ≤ ((i : Nat) : Int)) (A := R (122, [some (aR 8 0), some (aI ((k : Nat) : Int)), some (aI n), some (aI q), some (aL acc), none, some (aL (jf_pw (jf_A p) n.toNat)), none, some (aI ((a : Nat) : Int)), some (aL v), none, some (aI ((i : Nat) : Int))], [], am_mix mo_SM g162 M)) (B := R (100, [some (aR 8 0), some (aI ((k : Nat) : Int)), some (aI n), some (aI q), some (aL acc), none, some (aL (jf_pw (jf_A p) n.toNat)), none, some (aI ((a : Nat) : Int)), some (aL v), none, some (aI ((i : Nat) : Int))], [], am_mix mo_SM g162 M)) (by omega) (by omega) ?_)))
                  show R (100, [some (aR 8 0), some (aI ((k : Nat) : Int)), some (aI n), some (aI q), some (aL acc), none, some (aL (jf_pw (jf_A p) n.toNat)), none, some (aI ((a : Nat) : Int)), some (aL v), none, some (aI ((i : Nat) : Int))], [], am_mix mo_SM g162 M)
                  refine hR _ (hR _ (hR _ (hR _ (hR _ (?_)))))
                  show R (109, [some (aR 8 0), some (aI ((k : Nat) : Int)), some (aI n), some (aI q), some (aL acc), none, some (aL (jf_pw (jf_A p) n.toNat)), none, some (aI ((a : Nat) : Int)), some (aL v), none, some (aI ((i : Nat) : Int))], [aI ((a : Nat) : Int), aR 39 0, aR 8 0, aL v], am_mix mo_SM g162 M)
                  refine hR _ ⟨(show 0 ≤ (((a : Nat) : Int) : Int) ∧ (((a : Nat) : Int) : Int) < 5 from (by omega)), ?_⟩
                  show R (110, [some (aR 8 0), some (aI ((k : Nat) : Int)), some (aI n), some (aI q), some (aL acc), none, some (aL (jf_pw (jf_A p) n.toNat)), none, some (aI ((a : Nat) : Int)), some (aL v), none, some (aI ((i : Nat) : Int))], [aI (g162 39 0 a), aR 8 0, aL v], am_mix mo_SM g162 M)
                  rw [(show g162 39 0 a = jf_E p a from (hthr a (by omega)).1)]
                  show R (110, [some (aR 8 0), some (aI ((k : Nat) : Int)), some (aI n), some (aI q), some (aL acc), none, some (aL (jf_pw (jf_A p) n.toNat)), none, some (aI ((a : Nat) : Int)), some (aL v), none, some (aI ((i : Nat) : Int))], [aI (jf_E p a), aR 8 0, aL v], am_mix mo_SM g162 M)
                  refine hR _ (sm_oftenAt (by omega) hok hth (by omega) ?_)
                  have hat110 := jf_at_b hok ((jf_E p a))
                  show R (113, [some (aR 8 0), some (aI ((k : Nat) : Int)), some (aI n), some (aI q), some (aL acc), none, some (aL (jf_pw (jf_A p) n.toNat)), none, some (aI ((a : Nat) : Int)), some (aL v), none, some (aI ((i : Nat) : Int))], [aL (jf_at p (jf_E p a)), aL v], am_mix mo_SM g162 M)
                  refine hR _ (hR _ (hR _ (hR _ (?_))))
                  show R (94, [some (aR 8 0), some (aI ((k : Nat) : Int)), some (aI n), some (aI q), some (aL acc), none, some (aL (jf_pw (jf_A p) n.toNat)), none, some (aI ((a : Nat) : Int)), some (aL (v * (jf_at p (jf_E p a)))), none, some (aI (((i : Nat) : Int) + 1))], [], am_mix mo_SM g162 M)
                  refine ih3 (i + 1) _ _ (by omega) (by omega) ?_
                  rw [hv]
                  exact Int.zero_mul _
              exact key3 n.toNat 0 _ _ rfl (by omega) rfl
            · refine hR _ (hR _ (hR _ (hR _ (hR _ (?_)))))
              show R (94, [some (aR 8 0), some (aI ((k : Nat) : Int)), some (aI n), some (aI q), some (aL acc), none, some (aL (jf_pw (jf_A p) n.toNat)), none, some (aI ((a : Nat) : Int)), some (aL 1), none, some (aI 0)], [], am_mix mo_SM g162 M)
              have key3 : ∀ (f i : Nat) (y v : Int), y = (i : Int) → i + f = n.toNat → v = jf_pw (jf_at p (jf_E p a)) i → R (94, [some (aR 8 0), some (aI ((k : Nat) : Int)), some (aI n), some (aI q), some (aL acc), none, some (aL (jf_pw (jf_A p) n.toNat)), none, some (aI ((a : Nat) : Int)), some (aL v), none, some (aI y)], [], am_mix mo_SM g162 M) := by
                intro f
                induction f with
                | zero =>
                  intro i y v hy hin2 hv
                  subst hy
                  refine hR _ (hR _ (hR _ (am_brt (rg := am_in ((i : Nat) : Int) ∧ am_in n) (P := n ≤ ((i : Nat) : Int)) (A := R (122, [some (aR 8 0), some (aI ((k : Nat) : Int)), some (aI n), some (aI q), some (aL acc), none, some (aL (jf_pw (jf_A p) n.toNat)), none, some (aI ((a : Nat) : Int)), some (aL v), none, some (aI ((i : Nat) : Int))], [], am_mix mo_SM g162 M)) (B := R (100, [some (aR 8 0), some (aI ((k : Nat) : Int)), some (aI n), some (aI q), some (aL acc), none, some (aL (jf_pw (jf_A p) n.toNat)), none, some (aI ((a : Nat) : Int)), some (aL v), none, some (aI ((i : Nat) : Int))], [], am_mix mo_SM g162 M)) (by omega) (by omega) ?_)))
                  show R (122, [some (aR 8 0), some (aI ((k : Nat) : Int)), some (aI n), some (aI q), some (aL acc), none, some (aL (jf_pw (jf_A p) n.toNat)), none, some (aI ((a : Nat) : Int)), some (aL v), none, some (aI ((i : Nat) : Int))], [], am_mix mo_SM g162 M)
                  refine hR _ (hR _ (hR _ (hR _ (hR _ (hR _ (?_))))))
                  show R (69, [some (aR 8 0), some (aI ((k : Nat) : Int)), some (aI n), some (aI q), some (aL (acc + v)), none, some (aL (jf_pw (jf_A p) n.toNat)), none, some (aI (((a : Nat) : Int) + 1)), some (aL v), none, some (aI ((i : Nat) : Int))], [], am_mix mo_SM g162 M)
                  refine ih (a + 1) _ _ _ _ (by omega) (by omega) ?_
                  rw [hacc, hv]
                  show _ = mo_ps (fun a => if jf_fi p a a = 0 then 0 else jf_pw (jf_at p (jf_E p a)) n.toNat) a + (if jf_fi p a a = 0 then 0 else jf_pw (jf_at p (jf_E p a)) n.toNat)
                  rw [if_neg (by omega), show i = n.toNat by omega]
                | succ f ih3 =>
                  intro i y v hy hin2 hv
                  subst hy
                  refine hR _ (hR _ (hR _ (am_brf (rg := am_in ((i : Nat) : Int) ∧ am_in n) (P := n ≤ ((i : Nat) : Int)) (A := R (122, [some (aR 8 0), some (aI ((k : Nat) : Int)), some (aI n), some (aI q), some (aL acc), none, some (aL (jf_pw (jf_A p) n.toNat)), none, some (aI ((a : Nat) : Int)), some (aL v), none, some (aI ((i : Nat) : Int))], [], am_mix mo_SM g162 M)) (B := R (100, [some (aR 8 0), some (aI ((k : Nat) : Int)), some (aI n), some (aI q), some (aL acc), none, some (aL (jf_pw (jf_A p) n.toNat)), none, some (aI ((a : Nat) : Int)), some (aL v), none, some (aI ((i : Nat) : Int))], [], am_mix mo_SM g162 M)) (by omega) (by omega) ?_)))
                  show R (100, [some (aR 8 0), some (aI ((k : Nat) : Int)), some (aI n), some (aI q), some (aL acc), none, some (aL (jf_pw (jf_A p) n.toNat)), none, some (aI ((a : Nat) : Int)), some (aL v), none, some (aI ((i : Nat) : Int))], [], am_mix mo_SM g162 M)
                  refine hR _ (hR _ (hR _ (hR _ (hR _ (?_)))))
                  show R (109, [some (aR 8 0), some (aI ((k : Nat) : Int)), some (aI n), some (aI q), some (aL acc), none, some (aL (jf_pw (jf_A p) n.toNat)), none, some (aI ((a : Nat) : Int)), some (aL v), none, some (aI ((i : Nat) : Int))], [aI ((a : Nat) : Int), aR 39 0, aR 8 0, aL v], am_mix mo_SM g162 M)
                  refine hR _ ⟨(show 0 ≤ (((a : Nat) : Int) : Int) ∧ (((a : Nat) : Int) : Int) < 5 from (by omega)), ?_⟩
                  show R (110, [some (aR 8 0), some (aI ((k : Nat) : Int)), some (aI n), some (aI q), some (aL acc), none, some (aL (jf_pw (jf_A p) n.toNat)), none, some (aI ((a : Nat) : Int)), some (aL v), none, some (aI ((i : Nat) : Int))], [aI (g162 39 0 a), aR 8 0, aL v], am_mix mo_SM g162 M)
                  rw [(show g162 39 0 a = jf_E p a from (hthr a (by omega)).1)]
                  show R (110, [some (aR 8 0), some (aI ((k : Nat) : Int)), some (aI n), some (aI q), some (aL acc), none, some (aL (jf_pw (jf_A p) n.toNat)), none, some (aI ((a : Nat) : Int)), some (aL v), none, some (aI ((i : Nat) : Int))], [aI (jf_E p a), aR 8 0, aL v], am_mix mo_SM g162 M)
                  refine hR _ (sm_oftenAt (by omega) hok hth (by omega) ?_)
                  have hat110 := jf_at_b hok ((jf_E p a))
                  show R (113, [some (aR 8 0), some (aI ((k : Nat) : Int)), some (aI n), some (aI q), some (aL acc), none, some (aL (jf_pw (jf_A p) n.toNat)), none, some (aI ((a : Nat) : Int)), some (aL v), none, some (aI ((i : Nat) : Int))], [aL (jf_at p (jf_E p a)), aL v], am_mix mo_SM g162 M)
                  refine hR _ (hR _ (hR _ (hR _ (?_))))
                  show R (94, [some (aR 8 0), some (aI ((k : Nat) : Int)), some (aI n), some (aI q), some (aL acc), none, some (aL (jf_pw (jf_A p) n.toNat)), none, some (aI ((a : Nat) : Int)), some (aL (v * (jf_at p (jf_E p a)))), none, some (aI (((i : Nat) : Int) + 1))], [], am_mix mo_SM g162 M)
                  refine ih3 (i + 1) _ _ (by omega) (by omega) ?_
                  rw [hv]
                  rfl
              exact key3 n.toNat 0 _ _ rfl (by omega) rfl
        have key1 : ∀ (f i : Nat) (x acc : Int), x = (i : Int) → i + f = n.toNat → acc = jf_pw (jf_A p) i → R (44, [some (aR 8 0), some (aI ((k : Nat) : Int)), some (aI n), some (aI q), some (aL 0), none, some (aL acc), none, some (aI x), none, none, none], [], am_mix mo_SM g162 M) := by
          intro f
          induction f with
          | zero =>
            intro i x acc hx hin hacc
            subst hx
            refine hR _ (hR _ (hR _ (am_brt (rg := am_in ((i : Nat) : Int) ∧ am_in n) (P := n ≤ ((i : Nat) : Int)) (A := R (66, [some (aR 8 0), some (aI ((k : Nat) : Int)), some (aI n), some (aI q), some (aL 0), none, some (aL acc), none, some (aI ((i : Nat) : Int)), none, none, none], [], am_mix mo_SM g162 M)) (B := R (50, [some (aR 8 0), some (aI ((k : Nat) : Int)), some (aI n), some (aI q), some (aL 0), none, some (aL acc), none, some (aI ((i : Nat) : Int)), none, none, none], [], am_mix mo_SM g162 M)) (by omega) (by omega) ?_)))
            show R (66, [some (aR 8 0), some (aI ((k : Nat) : Int)), some (aI n), some (aI q), some (aL 0), none, some (aL acc), none, some (aI ((i : Nat) : Int)), none, none, none], [], am_mix mo_SM g162 M)
            refine hR _ (hR _ (?_))
            show R (69, [some (aR 8 0), some (aI ((k : Nat) : Int)), some (aI n), some (aI q), some (aL 0), none, some (aL acc), none, some (aI 0), none, none, none], [], am_mix mo_SM g162 M)
            have hi : i = n.toNat := by omega
            rw [hacc, hi]
            exact key2 5 0 _ _ _ _ rfl rfl rfl
          | succ f ih =>
            intro i x acc hx hin hacc
            subst hx
            refine hR _ (hR _ (hR _ (am_brf (rg := am_in ((i : Nat) : Int) ∧ am_in n) (P := n ≤ ((i : Nat) : Int)) (A := R (66, [some (aR 8 0), some (aI ((k : Nat) : Int)), some (aI n), some (aI q), some (aL 0), none, some (aL acc), none, some (aI ((i : Nat) : Int)), none, none, none], [], am_mix mo_SM g162 M)) (B := R (50, [some (aR 8 0), some (aI ((k : Nat) : Int)), some (aI n), some (aI q), some (aL 0), none, some (aL acc), none, some (aI ((i : Nat) : Int)), none, none, none], [], am_mix mo_SM g162 M)) (by omega) (by omega) ?_)))
            show R (50, [some (aR 8 0), some (aI ((k : Nat) : Int)), some (aI n), some (aI q), some (aL 0), none, some (aL acc), none, some (aI ((i : Nat) : Int)), none, none, none], [], am_mix mo_SM g162 M)
            refine hR _ (hR _ (hR _ (?_)))
            show R (56, [some (aR 8 0), some (aI ((k : Nat) : Int)), some (aI n), some (aI q), some (aL 0), none, some (aL acc), none, some (aI ((i : Nat) : Int)), none, none, none], [aI (g162 454 0 0), aL acc], am_mix mo_SM g162 M)
            rw [(show g162 454 0 0 = jf_A p from hthA)]
            show R (56, [some (aR 8 0), some (aI ((k : Nat) : Int)), some (aI n), some (aI q), some (aL 0), none, some (aL acc), none, some (aI ((i : Nat) : Int)), none, none, none], [aI (jf_A p), aL acc], am_mix mo_SM g162 M)
            refine hR _ ⟨(by omega), ?_⟩
            show R (57, [some (aR 8 0), some (aI ((k : Nat) : Int)), some (aI n), some (aI q), some (aL 0), none, some (aL acc), none, some (aI ((i : Nat) : Int)), none, none, none], [aL (jf_A p), aL acc], am_mix mo_SM g162 M)
            refine hR _ (hR _ (hR _ (hR _ (?_))))
            show R (44, [some (aR 8 0), some (aI ((k : Nat) : Int)), some (aI n), some (aI q), some (aL 0), none, some (aL (acc * (jf_A p))), none, some (aI (((i : Nat) : Int) + 1)), none, none, none], [], am_mix mo_SM g162 M)
            refine ih (i + 1) _ _ (by omega) (by omega) ?_
            rw [hacc]
            rfl
        exact key1 n.toNat 0 _ _ rfl (by omega) rfl
      · show R (23, [some (aR 8 0), some (aI ((k : Nat) : Int)), some (aI n), some (aI q), none, none, none, none, none, none, none, none], [aI 0], M)
        refine hR _ (am_brf (rg := am_in 0) (P := (0 : Int) ≠ 0) (A := R (30, [some (aR 8 0), some (aI ((k : Nat) : Int)), some (aI n), some (aI q), none, none, none, none, none, none, none, none], [], M)) (B := R (26, [some (aR 8 0), some (aI ((k : Nat) : Int)), some (aI n), some (aI q), none, none, none, none, none, none, none, none], [], M)) (by omega) (by omega) ?_)
        show R (26, [some (aR 8 0), some (aI ((k : Nat) : Int)), some (aI n), some (aI q), none, none, none, none, none, none, none, none], [], M)
        refine hR _ (?_)
        show R (29, [some (aR 8 0), some (aI ((k : Nat) : Int)), some (aI n), some (aI q), none, none, none, none, none, none, none, none], [aL (-4611686018427387904)], M)
        refine hR _ (show K (some (aL (-4611686018427387904))) M from ?_)
        have hres : jx_alike M ((k : Nat) : Int) n q = (-4611686018427387904) := by
          unfold jx_alike
          repeat' split
          all_goals first | omega | rfl | exact jf_il_no (by omega)
        rw [hres] at hK
        have e9 : am_ag mo_SM M M := am_ag.rf
        rw [e9.eq]
        exact hK _
    · show R (14, [some (aR 8 0), some (aI ((k : Nat) : Int)), some (aI n), some (aI q), none, none, none, none, none, none, none, none], [aI 0], M)
      refine hR _ (am_brt (rg := am_in 0) (P := (0 : Int) = 0) (A := R (26, [some (aR 8 0), some (aI ((k : Nat) : Int)), some (aI n), some (aI q), none, none, none, none, none, none, none, none], [], M)) (B := R (17, [some (aR 8 0), some (aI ((k : Nat) : Int)), some (aI n), some (aI q), none, none, none, none, none, none, none, none], [], M)) (by omega) (by omega) ?_)
      show R (26, [some (aR 8 0), some (aI ((k : Nat) : Int)), some (aI n), some (aI q), none, none, none, none, none, none, none, none], [], M)
      refine hR _ (?_)
      show R (29, [some (aR 8 0), some (aI ((k : Nat) : Int)), some (aI n), some (aI q), none, none, none, none, none, none, none, none], [aL (-4611686018427387904)], M)
      refine hR _ (show K (some (aL (-4611686018427387904))) M from ?_)
      have hres : jx_alike M ((k : Nat) : Int) n q = (-4611686018427387904) := by
        unfold jx_alike
        repeat' split
        all_goals first | omega | rfl | exact jf_il_no (by omega)
      rw [hres] at hK
      have e9 : am_ag mo_SM M M := am_ag.rf
      rw [e9.eq]
      exact hK _
  · show R (0, [some (aR 8 0), some (aI h), some (aI n), some (aI q), none, none, none, none, none, none, none, none], [], M)
    refine hR _ (hR _ (?_))
    show R (2, [some (aR 8 0), some (aI h), some (aI n), some (aI q), none, none, none, none, none, none, none, none], [aI h, aR 8 0], M)
    refine hR _ (sm_isHand (by omega) (show 0 ≤ M 421 0 0 ∧ M 421 0 0 ≤ 5 from hn') (by omega) (fun hz => absurd (show 0 ≤ h ∧ h < M 227 0 0 from ⟨hz.1, by rw [← h421]; exact hz.2⟩) hno) (fun _ => ?_))
    show R (5, [some (aR 8 0), some (aI h), some (aI n), some (aI q), none, none, none, none, none, none, none, none], [aI 0], M)
    refine hR _ (am_brt (rg := am_in 0) (P := (0 : Int) = 0) (A := R (26, [some (aR 8 0), some (aI h), some (aI n), some (aI q), none, none, none, none, none, none, none, none], [], M)) (B := R (8, [some (aR 8 0), some (aI h), some (aI n), some (aI q), none, none, none, none, none, none, none, none], [], M)) (by omega) (by omega) ?_)
    show R (26, [some (aR 8 0), some (aI h), some (aI n), some (aI q), none, none, none, none, none, none, none, none], [], M)
    refine hR _ (?_)
    show R (29, [some (aR 8 0), some (aI h), some (aI n), some (aI q), none, none, none, none, none, none, none, none], [aL (-4611686018427387904)], M)
    refine hR _ (show K (some (aL (-4611686018427387904))) M from ?_)
    have hres : jx_alike M h n q = (-4611686018427387904) := by
      unfold jx_alike
      repeat' split
      all_goals first | omega | rfl | exact jf_il_no (by omega)
    rw [hres] at hK
    have e9 : am_ag mo_SM M M := am_ag.rf
    rw [e9.eq]
    exact hK _
