/-! wb -/
/-! THE REFERENCE: a STOP in thought -/
abbrev mo_xp (M : am_M) (k r : Nat) (mark start : Int) : jf_par := (M 23 0 k, M 24 0 k, M 25 0 (2 * k), M 25 0 (2 * k + 1), M 22 0 1, M 22 0 2, M 22 0 3, mo_tk M r, mark, start)
def mo_th (m : am_M) (p : jf_par) : Prop := (∀ a : Nat, a < 5 → m 39 0 a = jf_E p a ∧ m 40 0 a = jf_T p a ∧ m 41 0 a = jf_O p a) ∧ m 454 0 0 = jf_A p ∧ m 455 0 0 = (jf_P p).2.2

theorem sm_asksOf_0 {d : Nat} (hd : 3 ≤ d) {r : Nat} {a b c e f : Int} {M : am_M} {K : am_K} (hr : M 431 0 0 = (r : Int)) (hr6 : r < 6) (hwt : mo_wt M r) (hpr : am_in (M 22 0 2)) (ha0 : am_in a ∧ am_in b ∧ am_in c ∧ am_in e ∧ am_in f) (h : ∀ g, K (some (aI (jf_cl 0 (jf_val (jf_nm a b c e f (M 22 0 2)) (mo_tk M r 0))))) (am_mix [37, 38] g M)) : am_Call true d 141 [aR 8 0, aI 0, aI a, aI b, aI c, aI e, aI f] M K := by
  obtain ⟨d, rfl⟩ : ∃ e, d = e + 1 := ⟨d - 1, by omega⟩
  refine ⟨rfl, fun R hR hC => ?_⟩
  replace hR : ∀ c, am_F true tb_f141 1 (am_Call true d) K R c → R c := hR
  have ha : am_in a ∧ am_in b ∧ am_in c ∧ am_in e ∧ am_in f ∧ am_in (M 22 0 2) := ⟨ha0.1, ha0.2.1, ha0.2.2.1, ha0.2.2.2.1, ha0.2.2.2.2, hpr⟩
  show R (0, [some (aR 8 0), some (aI 0), some (aI a), some (aI b), some (aI c), some (aI e), some (aI f)], [], M)
  refine hR _ (hR _ (hR _ (hR _ (?_))))
  show R (6, [some (aR 8 0), some (aI 0), some (aI a), some (aI b), some (aI c), some (aI e), some (aI f)], [aI a, aI 0, aR 38 0], M)
  refine hR _ ⟨(show 0 ≤ (0 : Int) ∧ (0 : Int) < 6 from (by omega)), ?_⟩
  show R (7, [some (aR 8 0), some (aI 0), some (aI a), some (aI b), some (aI c), some (aI e), some (aI f)], [], am_wr M 38 0 0 a)
  refine hR _ (hR _ (hR _ (hR _ (?_))))
  show R (13, [some (aR 8 0), some (aI 0), some (aI a), some (aI b), some (aI c), some (aI e), some (aI f)], [aI b, aI 1, aR 38 0], am_wr M 38 0 0 a)
  refine hR _ ⟨(show 0 ≤ (1 : Int) ∧ (1 : Int) < 6 from (by omega)), ?_⟩
  show R (14, [some (aR 8 0), some (aI 0), some (aI a), some (aI b), some (aI c), some (aI e), some (aI f)], [], am_wr (am_wr M 38 0 0 a) 38 0 1 b)
  refine hR _ (hR _ (hR _ (hR _ (?_))))
  show R (21, [some (aR 8 0), some (aI 0), some (aI a), some (aI b), some (aI c), some (aI e), some (aI f)], [aI c, aI 2, aR 38 0], am_wr (am_wr M 38 0 0 a) 38 0 1 b)
  refine hR _ ⟨(show 0 ≤ (2 : Int) ∧ (2 : Int) < 6 from (by omega)), ?_⟩
  show R (22, [some (aR 8 0), some (aI 0), some (aI a), some (aI b), some (aI c), some (aI e), some (aI f)], [], am_wr (am_wr (am_wr M 38 0 0 a) 38 0 1 b) 38 0 2 c)
  refine hR _ (hR _ (hR _ (hR _ (?_))))
  show R (29, [some (aR 8 0), some (aI 0), some (aI a), some (aI b), some (aI c), some (aI e), some (aI f)], [aI e, aI 3, aR 38 0], am_wr (am_wr (am_wr M 38 0 0 a) 38 0 1 b) 38 0 2 c)
  refine hR _ ⟨(show 0 ≤ (3 : Int) ∧ (3 : Int) < 6 from (by omega)), ?_⟩
  show R (30, [some (aR 8 0), some (aI 0), some (aI a), some (aI b), some (aI c), some (aI e), some (aI f)], [], am_wr (am_wr (am_wr (am_wr M 38 0 0 a) 38 0 1 b) 38 0 2 c) 38 0 3 e)
  refine hR _ (hR _ (hR _ (hR _ (?_))))
  show R (37, [some (aR 8 0), some (aI 0), some (aI a), some (aI b), some (aI c), some (aI e), some (aI f)], [aI f, aI 4, aR 38 0], am_wr (am_wr (am_wr (am_wr M 38 0 0 a) 38 0 1 b) 38 0 2 c) 38 0 3 e)
  refine hR _ ⟨(show 0 ≤ (4 : Int) ∧ (4 : Int) < 6 from (by omega)), ?_⟩
  show R (38, [some (aR 8 0), some (aI 0), some (aI a), some (aI b), some (aI c), some (aI e), some (aI f)], [], am_wr (am_wr (am_wr (am_wr (am_wr M 38 0 0 a) 38 0 1 b) 38 0 2 c) 38 0 3 e) 38 0 4 f)
  refine hR _ (hR _ (hR _ (hR _ (hR _ (hR _ (?_))))))
  show R (48, [some (aR 8 0), some (aI 0), some (aI a), some (aI b), some (aI c), some (aI e), some (aI f)], [aI 2, aR 22 0, aI 5, aR 38 0], am_wr (am_wr (am_wr (am_wr (am_wr M 38 0 0 a) 38 0 1 b) 38 0 2 c) 38 0 3 e) 38 0 4 f)
  refine hR _ ⟨(show 0 ≤ (2 : Int) ∧ (2 : Int) < 4 from (by omega)), ?_⟩
  show R (49, [some (aR 8 0), some (aI 0), some (aI a), some (aI b), some (aI c), some (aI e), some (aI f)], [aI (M 22 0 2), aI 5, aR 38 0], am_wr (am_wr (am_wr (am_wr (am_wr M 38 0 0 a) 38 0 1 b) 38 0 2 c) 38 0 3 e) 38 0 4 f)
  refine hR _ ⟨(show 0 ≤ (5 : Int) ∧ (5 : Int) < 6 from (by omega)), ?_⟩
  show R (50, [some (aR 8 0), some (aI 0), some (aI a), some (aI b), some (aI c), some (aI e), some (aI f)], [], am_wr (am_wr (am_wr (am_wr (am_wr (am_wr M 38 0 0 a) 38 0 1 b) 38 0 2 c) 38 0 3 e) 38 0 4 f) 38 0 5 (M 22 0 2))
  refine hR _ (hR _ (?_))
  show R (52, [some (aR 8 0), some (aI 0), some (aI a), some (aI b), some (aI c), some (aI e), some (aI f)], [aI 0, aR 8 0], am_wr (am_wr (am_wr (am_wr (am_wr (am_wr M 38 0 0 a) 38 0 1 b) 38 0 2 c) 38 0 3 e) 38 0 4 f) 38 0 5 (M 22 0 2))
  have hnm0 : ∀ j : Nat, j < 6 → (am_wr (am_wr (am_wr (am_wr (am_wr (am_wr M 38 0 0 a) 38 0 1 b) 38 0 2 c) 38 0 3 e) 38 0 4 f) 38 0 5 (M 22 0 2)) 38 0 j = jf_nm a b c e f (M 22 0 2) j ∧ am_in (jf_nm a b c e f (M 22 0 2) j) := by
    intro j hj
    match j, hj with
    | 0, _ => exact ⟨(am_wr_ne (Or.inr (Or.inr (by decide)))).trans ((am_wr_ne (Or.inr (Or.inr (by decide)))).trans ((am_wr_ne (Or.inr (Or.inr (by decide)))).trans ((am_wr_ne (Or.inr (Or.inr (by decide)))).trans ((am_wr_ne (Or.inr (Or.inr (by decide)))).trans (am_wr_eq))))), ha.1⟩
    | 1, _ => exact ⟨(am_wr_ne (Or.inr (Or.inr (by decide)))).trans ((am_wr_ne (Or.inr (Or.inr (by decide)))).trans ((am_wr_ne (Or.inr (Or.inr (by decide)))).trans ((am_wr_ne (Or.inr (Or.inr (by decide)))).trans (am_wr_eq)))), ha.2.1⟩
    | 2, _ => exact ⟨(am_wr_ne (Or.inr (Or.inr (by decide)))).trans ((am_wr_ne (Or.inr (Or.inr (by decide)))).trans ((am_wr_ne (Or.inr (Or.inr (by decide)))).trans (am_wr_eq))), ha.2.2.1⟩
    | 3, _ => exact ⟨(am_wr_ne (Or.inr (Or.inr (by decide)))).trans ((am_wr_ne (Or.inr (Or.inr (by decide)))).trans (am_wr_eq)), ha.2.2.2.1⟩
    | 4, _ => exact ⟨(am_wr_ne (Or.inr (Or.inr (by decide)))).trans (am_wr_eq), ha.2.2.2.2.1⟩
    | 5, _ => exact ⟨am_wr_eq, ha.2.2.2.2.2⟩
  refine hR _ (sm_says (r := r) (p := 0) (nm := jf_nm a b c e f (M 22 0 2)) (by omega) hr hr6 hwt (by decide) hnm0 (fun g hin => ?_))
  show R (55, [some (aR 8 0), some (aI 0), some (aI a), some (aI b), some (aI c), some (aI e), some (aI f)], [aI (jf_val (jf_nm a b c e f (M 22 0 2)) (mo_tk M r 0))], am_mix [37] g (am_wr (am_wr (am_wr (am_wr (am_wr (am_wr M 38 0 0 a) 38 0 1 b) 38 0 2 c) 38 0 3 e) 38 0 4 f) 38 0 5 (M 22 0 2)))
  refine hR _ (hR _ (am_brf (rg := am_in 0) (P := (0 : Int) ≠ 0) (A := R (63, [some (aR 8 0), some (aI 0), some (aI a), some (aI b), some (aI c), some (aI e), some (aI f)], [aI (jf_val (jf_nm a b c e f (M 22 0 2)) (mo_tk M r 0))], am_mix [37] g (am_wr (am_wr (am_wr (am_wr (am_wr (am_wr M 38 0 0 a) 38 0 1 b) 38 0 2 c) 38 0 3 e) 38 0 4 f) 38 0 5 (M 22 0 2)))) (B := R (59, [some (aR 8 0), some (aI 0), some (aI a), some (aI b), some (aI c), some (aI e), some (aI f)], [aI (jf_val (jf_nm a b c e f (M 22 0 2)) (mo_tk M r 0))], am_mix [37] g (am_wr (am_wr (am_wr (am_wr (am_wr (am_wr M 38 0 0 a) 38 0 1 b) 38 0 2 c) 38 0 3 e) 38 0 4 f) 38 0 5 (M 22 0 2)))) (by omega) (by omega) ?_))
  show R (59, [some (aR 8 0), some (aI 0), some (aI a), some (aI b), some (aI c), some (aI e), some (aI f)], [aI (jf_val (jf_nm a b c e f (M 22 0 2)) (mo_tk M r 0))], am_mix [37] g (am_wr (am_wr (am_wr (am_wr (am_wr (am_wr M 38 0 0 a) 38 0 1 b) 38 0 2 c) 38 0 3 e) 38 0 4 f) 38 0 5 (M 22 0 2)))
  refine hR _ (hR _ (hR _ (hR _ (am_brf (rg := am_in 0) (P := (0 : Int) ≠ 0) (A := R (73, [some (aR 8 0), some (aI 0), some (aI a), some (aI b), some (aI c), some (aI e), some (aI f)], [aI 1, aI (jf_val (jf_nm a b c e f (M 22 0 2)) (mo_tk M r 0))], am_mix [37] g (am_wr (am_wr (am_wr (am_wr (am_wr (am_wr M 38 0 0 a) 38 0 1 b) 38 0 2 c) 38 0 3 e) 38 0 4 f) 38 0 5 (M 22 0 2)))) (B := R (68, [some (aR 8 0), some (aI 0), some (aI a), some (aI b), some (aI c), some (aI e), some (aI f)], [aI 1, aI (jf_val (jf_nm a b c e f (M 22 0 2)) (mo_tk M r 0))], am_mix [37] g (am_wr (am_wr (am_wr (am_wr (am_wr (am_wr M 38 0 0 a) 38 0 1 b) 38 0 2 c) 38 0 3 e) 38 0 4 f) 38 0 5 (M 22 0 2)))) (by omega) (by omega) ?_))))
  show R (68, [some (aR 8 0), some (aI 0), some (aI a), some (aI b), some (aI c), some (aI e), some (aI f)], [aI 1, aI (jf_val (jf_nm a b c e f (M 22 0 2)) (mo_tk M r 0))], am_mix [37] g (am_wr (am_wr (am_wr (am_wr (am_wr (am_wr M 38 0 0 a) 38 0 1 b) 38 0 2 c) 38 0 3 e) 38 0 4 f) 38 0 5 (M 22 0 2)))
  refine hR _ (hR _ (?_))
  show R (86, [some (aR 8 0), some (aI 0), some (aI a), some (aI b), some (aI c), some (aI e), some (aI f)], [aI 50, aI 1, aI (jf_val (jf_nm a b c e f (M 22 0 2)) (mo_tk M r 0))], am_mix [37] g (am_wr (am_wr (am_wr (am_wr (am_wr (am_wr M 38 0 0 a) 38 0 1 b) 38 0 2 c) 38 0 3 e) 38 0 4 f) 38 0 5 (M 22 0 2)))
  refine hR _ (sm_within (by omega) ⟨hin, by omega⟩ (by omega) ?_)
  show R (89, [some (aR 8 0), some (aI 0), some (aI a), some (aI b), some (aI c), some (aI e), some (aI f)], [aI (max 1 (min 50 (jf_val (jf_nm a b c e f (M 22 0 2)) (mo_tk M r 0))))], am_mix [37] g (am_wr (am_wr (am_wr (am_wr (am_wr (am_wr M 38 0 0 a) 38 0 1 b) 38 0 2 c) 38 0 3 e) 38 0 4 f) 38 0 5 (M 22 0 2)))
  refine hR _ (show K (some (aI (max 1 (min 50 (jf_val (jf_nm a b c e f (M 22 0 2)) (mo_tk M r 0)))))) (am_mix [37] g (am_wr (am_wr (am_wr (am_wr (am_wr (am_wr M 38 0 0 a) 38 0 1 b) 38 0 2 c) 38 0 3 e) 38 0 4 f) 38 0 5 (M 22 0 2))) from ?_)
  have e9 : am_ag [37, 38] M (am_mix [37] g (am_wr (am_wr (am_wr (am_wr (am_wr (am_wr M 38 0 0 a) 38 0 1 b) 38 0 2 c) 38 0 3 e) 38 0 4 f) 38 0 5 (M 22 0 2))) := (((((((am_ag.rf).wr rfl).wr rfl).wr rfl).wr rfl).wr rfl).wr rfl).mix rfl
  rw [e9.eq]
  exact h _

theorem sm_asksOf_1 {d : Nat} (hd : 3 ≤ d) {r : Nat} {a b c e f : Int} {M : am_M} {K : am_K} (hr : M 431 0 0 = (r : Int)) (hr6 : r < 6) (hwt : mo_wt M r) (hpr : am_in (M 22 0 2)) (ha0 : am_in a ∧ am_in b ∧ am_in c ∧ am_in e ∧ am_in f) (h : ∀ g, K (some (aI (jf_cl 1 (jf_val (jf_nm a b c e f (M 22 0 2)) (mo_tk M r 1))))) (am_mix [37, 38] g M)) : am_Call true d 141 [aR 8 0, aI 1, aI a, aI b, aI c, aI e, aI f] M K := by
  obtain ⟨d, rfl⟩ : ∃ e, d = e + 1 := ⟨d - 1, by omega⟩
  refine ⟨rfl, fun R hR hC => ?_⟩
  replace hR : ∀ c, am_F true tb_f141 1 (am_Call true d) K R c → R c := hR
  have ha : am_in a ∧ am_in b ∧ am_in c ∧ am_in e ∧ am_in f ∧ am_in (M 22 0 2) := ⟨ha0.1, ha0.2.1, ha0.2.2.1, ha0.2.2.2.1, ha0.2.2.2.2, hpr⟩
  show R (0, [some (aR 8 0), some (aI 1), some (aI a), some (aI b), some (aI c), some (aI e), some (aI f)], [], M)
  refine hR _ (hR _ (hR _ (hR _ (?_))))
  show R (6, [some (aR 8 0), some (aI 1), some (aI a), some (aI b), some (aI c), some (aI e), some (aI f)], [aI a, aI 0, aR 38 0], M)
  refine hR _ ⟨(show 0 ≤ (0 : Int) ∧ (0 : Int) < 6 from (by omega)), ?_⟩
  show R (7, [some (aR 8 0), some (aI 1), some (aI a), some (aI b), some (aI c), some (aI e), some (aI f)], [], am_wr M 38 0 0 a)
  refine hR _ (hR _ (hR _ (hR _ (?_))))
  show R (13, [some (aR 8 0), some (aI 1), some (aI a), some (aI b), some (aI c), some (aI e), some (aI f)], [aI b, aI 1, aR 38 0], am_wr M 38 0 0 a)
  refine hR _ ⟨(show 0 ≤ (1 : Int) ∧ (1 : Int) < 6 from (by omega)), ?_⟩
  show R (14, [some (aR 8 0), some (aI 1), some (aI a), some (aI b), some (aI c), some (aI e), some (aI f)], [], am_wr (am_wr M 38 0 0 a) 38 0 1 b)
  refine hR _ (hR _ (hR _ (hR _ (?_))))
  show R (21, [some (aR 8 0), some (aI 1), some (aI a), some (aI b), some (aI c), some (aI e), some (aI f)], [aI c, aI 2, aR 38 0], am_wr (am_wr M 38 0 0 a) 38 0 1 b)
  refine hR _ ⟨(show 0 ≤ (2 : Int) ∧ (2 : Int) < 6 from (by omega)), ?_⟩
  show R (22, [some (aR 8 0), some (aI 1), some (aI a), some (aI b), some (aI c), some (aI e), some (aI f)], [], am_wr (am_wr (am_wr M 38 0 0 a) 38 0 1 b) 38 0 2 c)
  refine hR _ (hR _ (hR _ (hR _ (?_))))
  show R (29, [some (aR 8 0), some (aI 1), some (aI a), some (aI b), some (aI c), some (aI e), some (aI f)], [aI e, aI 3, aR 38 0], am_wr (am_wr (am_wr M 38 0 0 a) 38 0 1 b) 38 0 2 c)
  refine hR _ ⟨(show 0 ≤ (3 : Int) ∧ (3 : Int) < 6 from (by omega)), ?_⟩
  show R (30, [some (aR 8 0), some (aI 1), some (aI a), some (aI b), some (aI c), some (aI e), some (aI f)], [], am_wr (am_wr (am_wr (am_wr M 38 0 0 a) 38 0 1 b) 38 0 2 c) 38 0 3 e)
  refine hR _ (hR _ (hR _ (hR _ (?_))))
  show R (37, [some (aR 8 0), some (aI 1), some (aI a), some (aI b), some (aI c), some (aI e), some (aI f)], [aI f, aI 4, aR 38 0], am_wr (am_wr (am_wr (am_wr M 38 0 0 a) 38 0 1 b) 38 0 2 c) 38 0 3 e)
  refine hR _ ⟨(show 0 ≤ (4 : Int) ∧ (4 : Int) < 6 from (by omega)), ?_⟩
  show R (38, [some (aR 8 0), some (aI 1), some (aI a), some (aI b), some (aI c), some (aI e), some (aI f)], [], am_wr (am_wr (am_wr (am_wr (am_wr M 38 0 0 a) 38 0 1 b) 38 0 2 c) 38 0 3 e) 38 0 4 f)
  refine hR _ (hR _ (hR _ (hR _ (hR _ (hR _ (?_))))))
  show R (48, [some (aR 8 0), some (aI 1), some (aI a), some (aI b), some (aI c), some (aI e), some (aI f)], [aI 2, aR 22 0, aI 5, aR 38 0], am_wr (am_wr (am_wr (am_wr (am_wr M 38 0 0 a) 38 0 1 b) 38 0 2 c) 38 0 3 e) 38 0 4 f)
  refine hR _ ⟨(show 0 ≤ (2 : Int) ∧ (2 : Int) < 4 from (by omega)), ?_⟩
  show R (49, [some (aR 8 0), some (aI 1), some (aI a), some (aI b), some (aI c), some (aI e), some (aI f)], [aI (M 22 0 2), aI 5, aR 38 0], am_wr (am_wr (am_wr (am_wr (am_wr M 38 0 0 a) 38 0 1 b) 38 0 2 c) 38 0 3 e) 38 0 4 f)
  refine hR _ ⟨(show 0 ≤ (5 : Int) ∧ (5 : Int) < 6 from (by omega)), ?_⟩
  show R (50, [some (aR 8 0), some (aI 1), some (aI a), some (aI b), some (aI c), some (aI e), some (aI f)], [], am_wr (am_wr (am_wr (am_wr (am_wr (am_wr M 38 0 0 a) 38 0 1 b) 38 0 2 c) 38 0 3 e) 38 0 4 f) 38 0 5 (M 22 0 2))
  refine hR _ (hR _ (?_))
  show R (52, [some (aR 8 0), some (aI 1), some (aI a), some (aI b), some (aI c), some (aI e), some (aI f)], [aI 1, aR 8 0], am_wr (am_wr (am_wr (am_wr (am_wr (am_wr M 38 0 0 a) 38 0 1 b) 38 0 2 c) 38 0 3 e) 38 0 4 f) 38 0 5 (M 22 0 2))
  have hnm0 : ∀ j : Nat, j < 6 → (am_wr (am_wr (am_wr (am_wr (am_wr (am_wr M 38 0 0 a) 38 0 1 b) 38 0 2 c) 38 0 3 e) 38 0 4 f) 38 0 5 (M 22 0 2)) 38 0 j = jf_nm a b c e f (M 22 0 2) j ∧ am_in (jf_nm a b c e f (M 22 0 2) j) := by
    intro j hj
    match j, hj with
    | 0, _ => exact ⟨(am_wr_ne (Or.inr (Or.inr (by decide)))).trans ((am_wr_ne (Or.inr (Or.inr (by decide)))).trans ((am_wr_ne (Or.inr (Or.inr (by decide)))).trans ((am_wr_ne (Or.inr (Or.inr (by decide)))).trans ((am_wr_ne (Or.inr (Or.inr (by decide)))).trans (am_wr_eq))))), ha.1⟩
    | 1, _ => exact ⟨(am_wr_ne (Or.inr (Or.inr (by decide)))).trans ((am_wr_ne (Or.inr (Or.inr (by decide)))).trans ((am_wr_ne (Or.inr (Or.inr (by decide)))).trans ((am_wr_ne (Or.inr (Or.inr (by decide)))).trans (am_wr_eq)))), ha.2.1⟩
    | 2, _ => exact ⟨(am_wr_ne (Or.inr (Or.inr (by decide)))).trans ((am_wr_ne (Or.inr (Or.inr (by decide)))).trans ((am_wr_ne (Or.inr (Or.inr (by decide)))).trans (am_wr_eq))), ha.2.2.1⟩
    | 3, _ => exact ⟨(am_wr_ne (Or.inr (Or.inr (by decide)))).trans ((am_wr_ne (Or.inr (Or.inr (by decide)))).trans (am_wr_eq)), ha.2.2.2.1⟩
    | 4, _ => exact ⟨(am_wr_ne (Or.inr (Or.inr (by decide)))).trans (am_wr_eq), ha.2.2.2.2.1⟩
    | 5, _ => exact ⟨am_wr_eq, ha.2.2.2.2.2⟩
  refine hR _ (sm_says (r := r) (p := 1) (nm := jf_nm a b c e f (M 22 0 2)) (by omega) hr hr6 hwt (by decide) hnm0 (fun g hin => ?_))
  show R (55, [some (aR 8 0), some (aI 1), some (aI a), some (aI b), some (aI c), some (aI e), some (aI f)], [aI (jf_val (jf_nm a b c e f (M 22 0 2)) (mo_tk M r 1))], am_mix [37] g (am_wr (am_wr (am_wr (am_wr (am_wr (am_wr M 38 0 0 a) 38 0 1 b) 38 0 2 c) 38 0 3 e) 38 0 4 f) 38 0 5 (M 22 0 2)))
  refine hR _ (hR _ (am_brt (rg := am_in 1) (P := (1 : Int) ≠ 0) (A := R (63, [some (aR 8 0), some (aI 1), some (aI a), some (aI b), some (aI c), some (aI e), some (aI f)], [aI (jf_val (jf_nm a b c e f (M 22 0 2)) (mo_tk M r 1))], am_mix [37] g (am_wr (am_wr (am_wr (am_wr (am_wr (am_wr M 38 0 0 a) 38 0 1 b) 38 0 2 c) 38 0 3 e) 38 0 4 f) 38 0 5 (M 22 0 2)))) (B := R (59, [some (aR 8 0), some (aI 1), some (aI a), some (aI b), some (aI c), some (aI e), some (aI f)], [aI (jf_val (jf_nm a b c e f (M 22 0 2)) (mo_tk M r 1))], am_mix [37] g (am_wr (am_wr (am_wr (am_wr (am_wr (am_wr M 38 0 0 a) 38 0 1 b) 38 0 2 c) 38 0 3 e) 38 0 4 f) 38 0 5 (M 22 0 2)))) (by omega) (by omega) ?_))
  show R (63, [some (aR 8 0), some (aI 1), some (aI a), some (aI b), some (aI c), some (aI e), some (aI f)], [aI (jf_val (jf_nm a b c e f (M 22 0 2)) (mo_tk M r 1))], am_mix [37] g (am_wr (am_wr (am_wr (am_wr (am_wr (am_wr M 38 0 0 a) 38 0 1 b) 38 0 2 c) 38 0 3 e) 38 0 4 f) 38 0 5 (M 22 0 2)))
  refine hR _ (hR _ (hR _ (am_brt (rg := am_in 1) (P := (1 : Int) ≠ 0) (A := R (73, [some (aR 8 0), some (aI 1), some (aI a), some (aI b), some (aI c), some (aI e), some (aI f)], [aI 0, aI (jf_val (jf_nm a b c e f (M 22 0 2)) (mo_tk M r 1))], am_mix [37] g (am_wr (am_wr (am_wr (am_wr (am_wr (am_wr M 38 0 0 a) 38 0 1 b) 38 0 2 c) 38 0 3 e) 38 0 4 f) 38 0 5 (M 22 0 2)))) (B := R (68, [some (aR 8 0), some (aI 1), some (aI a), some (aI b), some (aI c), some (aI e), some (aI f)], [aI 0, aI (jf_val (jf_nm a b c e f (M 22 0 2)) (mo_tk M r 1))], am_mix [37] g (am_wr (am_wr (am_wr (am_wr (am_wr (am_wr M 38 0 0 a) 38 0 1 b) 38 0 2 c) 38 0 3 e) 38 0 4 f) 38 0 5 (M 22 0 2)))) (by omega) (by omega) ?_)))
  show R (73, [some (aR 8 0), some (aI 1), some (aI a), some (aI b), some (aI c), some (aI e), some (aI f)], [aI 0, aI (jf_val (jf_nm a b c e f (M 22 0 2)) (mo_tk M r 1))], am_mix [37] g (am_wr (am_wr (am_wr (am_wr (am_wr (am_wr M 38 0 0 a) 38 0 1 b) 38 0 2 c) 38 0 3 e) 38 0 4 f) 38 0 5 (M 22 0 2)))
  refine hR _ (hR _ (hR _ (am_brf (rg := am_in 1 ∧ am_in 1) (P := (1 : Int) ≠ 1) (A := R (83, [some (aR 8 0), some (aI 1), some (aI a), some (aI b), some (aI c), some (aI e), some (aI f)], [aI 0, aI (jf_val (jf_nm a b c e f (M 22 0 2)) (mo_tk M r 1))], am_mix [37] g (am_wr (am_wr (am_wr (am_wr (am_wr (am_wr M 38 0 0 a) 38 0 1 b) 38 0 2 c) 38 0 3 e) 38 0 4 f) 38 0 5 (M 22 0 2)))) (B := R (78, [some (aR 8 0), some (aI 1), some (aI a), some (aI b), some (aI c), some (aI e), some (aI f)], [aI 0, aI (jf_val (jf_nm a b c e f (M 22 0 2)) (mo_tk M r 1))], am_mix [37] g (am_wr (am_wr (am_wr (am_wr (am_wr (am_wr M 38 0 0 a) 38 0 1 b) 38 0 2 c) 38 0 3 e) 38 0 4 f) 38 0 5 (M 22 0 2)))) (by omega) (by omega) ?_)))
  show R (78, [some (aR 8 0), some (aI 1), some (aI a), some (aI b), some (aI c), some (aI e), some (aI f)], [aI 0, aI (jf_val (jf_nm a b c e f (M 22 0 2)) (mo_tk M r 1))], am_mix [37] g (am_wr (am_wr (am_wr (am_wr (am_wr (am_wr M 38 0 0 a) 38 0 1 b) 38 0 2 c) 38 0 3 e) 38 0 4 f) 38 0 5 (M 22 0 2)))
  refine hR _ (hR _ (?_))
  show R (86, [some (aR 8 0), some (aI 1), some (aI a), some (aI b), some (aI c), some (aI e), some (aI f)], [aI 9, aI 0, aI (jf_val (jf_nm a b c e f (M 22 0 2)) (mo_tk M r 1))], am_mix [37] g (am_wr (am_wr (am_wr (am_wr (am_wr (am_wr M 38 0 0 a) 38 0 1 b) 38 0 2 c) 38 0 3 e) 38 0 4 f) 38 0 5 (M 22 0 2)))
  refine hR _ (sm_within (by omega) ⟨hin, by omega⟩ (by omega) ?_)
  show R (89, [some (aR 8 0), some (aI 1), some (aI a), some (aI b), some (aI c), some (aI e), some (aI f)], [aI (max 0 (min 9 (jf_val (jf_nm a b c e f (M 22 0 2)) (mo_tk M r 1))))], am_mix [37] g (am_wr (am_wr (am_wr (am_wr (am_wr (am_wr M 38 0 0 a) 38 0 1 b) 38 0 2 c) 38 0 3 e) 38 0 4 f) 38 0 5 (M 22 0 2)))
  refine hR _ (show K (some (aI (max 0 (min 9 (jf_val (jf_nm a b c e f (M 22 0 2)) (mo_tk M r 1)))))) (am_mix [37] g (am_wr (am_wr (am_wr (am_wr (am_wr (am_wr M 38 0 0 a) 38 0 1 b) 38 0 2 c) 38 0 3 e) 38 0 4 f) 38 0 5 (M 22 0 2))) from ?_)
  have e9 : am_ag [37, 38] M (am_mix [37] g (am_wr (am_wr (am_wr (am_wr (am_wr (am_wr M 38 0 0 a) 38 0 1 b) 38 0 2 c) 38 0 3 e) 38 0 4 f) 38 0 5 (M 22 0 2))) := (((((((am_ag.rf).wr rfl).wr rfl).wr rfl).wr rfl).wr rfl).wr rfl).mix rfl
  rw [e9.eq]
  exact h _

theorem sm_asksOf_2 {d : Nat} (hd : 3 ≤ d) {r : Nat} {a b c e f : Int} {M : am_M} {K : am_K} (hr : M 431 0 0 = (r : Int)) (hr6 : r < 6) (hwt : mo_wt M r) (hpr : am_in (M 22 0 2)) (ha0 : am_in a ∧ am_in b ∧ am_in c ∧ am_in e ∧ am_in f) (h : ∀ g, K (some (aI (jf_cl 2 (jf_val (jf_nm a b c e f (M 22 0 2)) (mo_tk M r 2))))) (am_mix [37, 38] g M)) : am_Call true d 141 [aR 8 0, aI 2, aI a, aI b, aI c, aI e, aI f] M K := by
  obtain ⟨d, rfl⟩ : ∃ e, d = e + 1 := ⟨d - 1, by omega⟩
  refine ⟨rfl, fun R hR hC => ?_⟩
  replace hR : ∀ c, am_F true tb_f141 1 (am_Call true d) K R c → R c := hR
  have ha : am_in a ∧ am_in b ∧ am_in c ∧ am_in e ∧ am_in f ∧ am_in (M 22 0 2) := ⟨ha0.1, ha0.2.1, ha0.2.2.1, ha0.2.2.2.1, ha0.2.2.2.2, hpr⟩
  show R (0, [some (aR 8 0), some (aI 2), some (aI a), some (aI b), some (aI c), some (aI e), some (aI f)], [], M)
  refine hR _ (hR _ (hR _ (hR _ (?_))))
  show R (6, [some (aR 8 0), some (aI 2), some (aI a), some (aI b), some (aI c), some (aI e), some (aI f)], [aI a, aI 0, aR 38 0], M)
  refine hR _ ⟨(show 0 ≤ (0 : Int) ∧ (0 : Int) < 6 from (by omega)), ?_⟩
  show R (7, [some (aR 8 0), some (aI 2), some (aI a), some (aI b), some (aI c), some (aI e), some (aI f)], [], am_wr M 38 0 0 a)
  refine hR _ (hR _ (hR _ (hR _ (?_))))
  show R (13, [some (aR 8 0), some (aI 2), some (aI a), some (aI b), some (aI c), some (aI e), some (aI f)], [aI b, aI 1, aR 38 0], am_wr M 38 0 0 a)
  refine hR _ ⟨(show 0 ≤ (1 : Int) ∧ (1 : Int) < 6 from (by omega)), ?_⟩
  show R (14, [some (aR 8 0), some (aI 2), some (aI a), some (aI b), some (aI c), some (aI e), some (aI f)], [], am_wr (am_wr M 38 0 0 a) 38 0 1 b)
  refine hR _ (hR _ (hR _ (hR _ (?_))))
  show R (21, [some (aR 8 0), some (aI 2), some (aI a), some (aI b), some (aI c), some (aI e), some (aI f)], [aI c, aI 2, aR 38 0], am_wr (am_wr M 38 0 0 a) 38 0 1 b)
  refine hR _ ⟨(show 0 ≤ (2 : Int) ∧ (2 : Int) < 6 from (by omega)), ?_⟩
  show R (22, [some (aR 8 0), some (aI 2), some (aI a), some (aI b), some (aI c), some (aI e), some (aI f)], [], am_wr (am_wr (am_wr M 38 0 0 a) 38 0 1 b) 38 0 2 c)
  refine hR _ (hR _ (hR _ (hR _ (?_))))
  show R (29, [some (aR 8 0), some (aI 2), some (aI a), some (aI b), some (aI c), some (aI e), some (aI f)], [aI e, aI 3, aR 38 0], am_wr (am_wr (am_wr M 38 0 0 a) 38 0 1 b) 38 0 2 c)
  refine hR _ ⟨(show 0 ≤ (3 : Int) ∧ (3 : Int) < 6 from (by omega)), ?_⟩
  show R (30, [some (aR 8 0), some (aI 2), some (aI a), some (aI b), some (aI c), some (aI e), some (aI f)], [], am_wr (am_wr (am_wr (am_wr M 38 0 0 a) 38 0 1 b) 38 0 2 c) 38 0 3 e)
  refine hR _ (hR _ (hR _ (hR _ (?_))))
  show R (37, [some (aR 8 0), some (aI 2), some (aI a), some (aI b), some (aI c), some (aI e), some (aI f)], [aI f, aI 4, aR 38 0], am_wr (am_wr (am_wr (am_wr M 38 0 0 a) 38 0 1 b) 38 0 2 c) 38 0 3 e)
  refine hR _ ⟨(show 0 ≤ (4 : Int) ∧ (4 : Int) < 6 from (by omega)), ?_⟩
  show R (38, [some (aR 8 0), some (aI 2), some (aI a), some (aI b), some (aI c), some (aI e), some (aI f)], [], am_wr (am_wr (am_wr (am_wr (am_wr M 38 0 0 a) 38 0 1 b) 38 0 2 c) 38 0 3 e) 38 0 4 f)
  refine hR _ (hR _ (hR _ (hR _ (hR _ (hR _ (?_))))))
  show R (48, [some (aR 8 0), some (aI 2), some (aI a), some (aI b), some (aI c), some (aI e), some (aI f)], [aI 2, aR 22 0, aI 5, aR 38 0], am_wr (am_wr (am_wr (am_wr (am_wr M 38 0 0 a) 38 0 1 b) 38 0 2 c) 38 0 3 e) 38 0 4 f)
  refine hR _ ⟨(show 0 ≤ (2 : Int) ∧ (2 : Int) < 4 from (by omega)), ?_⟩
  show R (49, [some (aR 8 0), some (aI 2), some (aI a), some (aI b), some (aI c), some (aI e), some (aI f)], [aI (M 22 0 2), aI 5, aR 38 0], am_wr (am_wr (am_wr (am_wr (am_wr M 38 0 0 a) 38 0 1 b) 38 0 2 c) 38 0 3 e) 38 0 4 f)
  refine hR _ ⟨(show 0 ≤ (5 : Int) ∧ (5 : Int) < 6 from (by omega)), ?_⟩
  show R (50, [some (aR 8 0), some (aI 2), some (aI a), some (aI b), some (aI c), some (aI e), some (aI f)], [], am_wr (am_wr (am_wr (am_wr (am_wr (am_wr M 38 0 0 a) 38 0 1 b) 38 0 2 c) 38 0 3 e) 38 0 4 f) 38 0 5 (M 22 0 2))
  refine hR _ (hR _ (?_))
  show R (52, [some (aR 8 0), some (aI 2), some (aI a), some (aI b), some (aI c), some (aI e), some (aI f)], [aI 2, aR 8 0], am_wr (am_wr (am_wr (am_wr (am_wr (am_wr M 38 0 0 a) 38 0 1 b) 38 0 2 c) 38 0 3 e) 38 0 4 f) 38 0 5 (M 22 0 2))
  have hnm0 : ∀ j : Nat, j < 6 → (am_wr (am_wr (am_wr (am_wr (am_wr (am_wr M 38 0 0 a) 38 0 1 b) 38 0 2 c) 38 0 3 e) 38 0 4 f) 38 0 5 (M 22 0 2)) 38 0 j = jf_nm a b c e f (M 22 0 2) j ∧ am_in (jf_nm a b c e f (M 22 0 2) j) := by
    intro j hj
    match j, hj with
    | 0, _ => exact ⟨(am_wr_ne (Or.inr (Or.inr (by decide)))).trans ((am_wr_ne (Or.inr (Or.inr (by decide)))).trans ((am_wr_ne (Or.inr (Or.inr (by decide)))).trans ((am_wr_ne (Or.inr (Or.inr (by decide)))).trans ((am_wr_ne (Or.inr (Or.inr (by decide)))).trans (am_wr_eq))))), ha.1⟩
    | 1, _ => exact ⟨(am_wr_ne (Or.inr (Or.inr (by decide)))).trans ((am_wr_ne (Or.inr (Or.inr (by decide)))).trans ((am_wr_ne (Or.inr (Or.inr (by decide)))).trans ((am_wr_ne (Or.inr (Or.inr (by decide)))).trans (am_wr_eq)))), ha.2.1⟩
    | 2, _ => exact ⟨(am_wr_ne (Or.inr (Or.inr (by decide)))).trans ((am_wr_ne (Or.inr (Or.inr (by decide)))).trans ((am_wr_ne (Or.inr (Or.inr (by decide)))).trans (am_wr_eq))), ha.2.2.1⟩
    | 3, _ => exact ⟨(am_wr_ne (Or.inr (Or.inr (by decide)))).trans ((am_wr_ne (Or.inr (Or.inr (by decide)))).trans (am_wr_eq)), ha.2.2.2.1⟩
    | 4, _ => exact ⟨(am_wr_ne (Or.inr (Or.inr (by decide)))).trans (am_wr_eq), ha.2.2.2.2.1⟩
    | 5, _ => exact ⟨am_wr_eq, ha.2.2.2.2.2⟩
  refine hR _ (sm_says (r := r) (p := 2) (nm := jf_nm a b c e f (M 22 0 2)) (by omega) hr hr6 hwt (by decide) hnm0 (fun g hin => ?_))
  show R (55, [some (aR 8 0), some (aI 2), some (aI a), some (aI b), some (aI c), some (aI e), some (aI f)], [aI (jf_val (jf_nm a b c e f (M 22 0 2)) (mo_tk M r 2))], am_mix [37] g (am_wr (am_wr (am_wr (am_wr (am_wr (am_wr M 38 0 0 a) 38 0 1 b) 38 0 2 c) 38 0 3 e) 38 0 4 f) 38 0 5 (M 22 0 2)))
  refine hR _ (hR _ (am_brt (rg := am_in 2) (P := (2 : Int) ≠ 0) (A := R (63, [some (aR 8 0), some (aI 2), some (aI a), some (aI b), some (aI c), some (aI e), some (aI f)], [aI (jf_val (jf_nm a b c e f (M 22 0 2)) (mo_tk M r 2))], am_mix [37] g (am_wr (am_wr (am_wr (am_wr (am_wr (am_wr M 38 0 0 a) 38 0 1 b) 38 0 2 c) 38 0 3 e) 38 0 4 f) 38 0 5 (M 22 0 2)))) (B := R (59, [some (aR 8 0), some (aI 2), some (aI a), some (aI b), some (aI c), some (aI e), some (aI f)], [aI (jf_val (jf_nm a b c e f (M 22 0 2)) (mo_tk M r 2))], am_mix [37] g (am_wr (am_wr (am_wr (am_wr (am_wr (am_wr M 38 0 0 a) 38 0 1 b) 38 0 2 c) 38 0 3 e) 38 0 4 f) 38 0 5 (M 22 0 2)))) (by omega) (by omega) ?_))
  show R (63, [some (aR 8 0), some (aI 2), some (aI a), some (aI b), some (aI c), some (aI e), some (aI f)], [aI (jf_val (jf_nm a b c e f (M 22 0 2)) (mo_tk M r 2))], am_mix [37] g (am_wr (am_wr (am_wr (am_wr (am_wr (am_wr M 38 0 0 a) 38 0 1 b) 38 0 2 c) 38 0 3 e) 38 0 4 f) 38 0 5 (M 22 0 2)))
  refine hR _ (hR _ (hR _ (am_brt (rg := am_in 2) (P := (2 : Int) ≠ 0) (A := R (73, [some (aR 8 0), some (aI 2), some (aI a), some (aI b), some (aI c), some (aI e), some (aI f)], [aI 0, aI (jf_val (jf_nm a b c e f (M 22 0 2)) (mo_tk M r 2))], am_mix [37] g (am_wr (am_wr (am_wr (am_wr (am_wr (am_wr M 38 0 0 a) 38 0 1 b) 38 0 2 c) 38 0 3 e) 38 0 4 f) 38 0 5 (M 22 0 2)))) (B := R (68, [some (aR 8 0), some (aI 2), some (aI a), some (aI b), some (aI c), some (aI e), some (aI f)], [aI 0, aI (jf_val (jf_nm a b c e f (M 22 0 2)) (mo_tk M r 2))], am_mix [37] g (am_wr (am_wr (am_wr (am_wr (am_wr (am_wr M 38 0 0 a) 38 0 1 b) 38 0 2 c) 38 0 3 e) 38 0 4 f) 38 0 5 (M 22 0 2)))) (by omega) (by omega) ?_)))
  show R (73, [some (aR 8 0), some (aI 2), some (aI a), some (aI b), some (aI c), some (aI e), some (aI f)], [aI 0, aI (jf_val (jf_nm a b c e f (M 22 0 2)) (mo_tk M r 2))], am_mix [37] g (am_wr (am_wr (am_wr (am_wr (am_wr (am_wr M 38 0 0 a) 38 0 1 b) 38 0 2 c) 38 0 3 e) 38 0 4 f) 38 0 5 (M 22 0 2)))
  refine hR _ (hR _ (hR _ (am_brt (rg := am_in 2 ∧ am_in 1) (P := (2 : Int) ≠ 1) (A := R (83, [some (aR 8 0), some (aI 2), some (aI a), some (aI b), some (aI c), some (aI e), some (aI f)], [aI 0, aI (jf_val (jf_nm a b c e f (M 22 0 2)) (mo_tk M r 2))], am_mix [37] g (am_wr (am_wr (am_wr (am_wr (am_wr (am_wr M 38 0 0 a) 38 0 1 b) 38 0 2 c) 38 0 3 e) 38 0 4 f) 38 0 5 (M 22 0 2)))) (B := R (78, [some (aR 8 0), some (aI 2), some (aI a), some (aI b), some (aI c), some (aI e), some (aI f)], [aI 0, aI (jf_val (jf_nm a b c e f (M 22 0 2)) (mo_tk M r 2))], am_mix [37] g (am_wr (am_wr (am_wr (am_wr (am_wr (am_wr M 38 0 0 a) 38 0 1 b) 38 0 2 c) 38 0 3 e) 38 0 4 f) 38 0 5 (M 22 0 2)))) (by omega) (by omega) ?_)))
  show R (83, [some (aR 8 0), some (aI 2), some (aI a), some (aI b), some (aI c), some (aI e), some (aI f)], [aI 0, aI (jf_val (jf_nm a b c e f (M 22 0 2)) (mo_tk M r 2))], am_mix [37] g (am_wr (am_wr (am_wr (am_wr (am_wr (am_wr M 38 0 0 a) 38 0 1 b) 38 0 2 c) 38 0 3 e) 38 0 4 f) 38 0 5 (M 22 0 2)))
  refine hR _ (?_)
  show R (86, [some (aR 8 0), some (aI 2), some (aI a), some (aI b), some (aI c), some (aI e), some (aI f)], [aI 999, aI 0, aI (jf_val (jf_nm a b c e f (M 22 0 2)) (mo_tk M r 2))], am_mix [37] g (am_wr (am_wr (am_wr (am_wr (am_wr (am_wr M 38 0 0 a) 38 0 1 b) 38 0 2 c) 38 0 3 e) 38 0 4 f) 38 0 5 (M 22 0 2)))
  refine hR _ (sm_within (by omega) ⟨hin, by omega⟩ (by omega) ?_)
  show R (89, [some (aR 8 0), some (aI 2), some (aI a), some (aI b), some (aI c), some (aI e), some (aI f)], [aI (max 0 (min 999 (jf_val (jf_nm a b c e f (M 22 0 2)) (mo_tk M r 2))))], am_mix [37] g (am_wr (am_wr (am_wr (am_wr (am_wr (am_wr M 38 0 0 a) 38 0 1 b) 38 0 2 c) 38 0 3 e) 38 0 4 f) 38 0 5 (M 22 0 2)))
  refine hR _ (show K (some (aI (max 0 (min 999 (jf_val (jf_nm a b c e f (M 22 0 2)) (mo_tk M r 2)))))) (am_mix [37] g (am_wr (am_wr (am_wr (am_wr (am_wr (am_wr M 38 0 0 a) 38 0 1 b) 38 0 2 c) 38 0 3 e) 38 0 4 f) 38 0 5 (M 22 0 2))) from ?_)
  have e9 : am_ag [37, 38] M (am_mix [37] g (am_wr (am_wr (am_wr (am_wr (am_wr (am_wr M 38 0 0 a) 38 0 1 b) 38 0 2 c) 38 0 3 e) 38 0 4 f) 38 0 5 (M 22 0 2))) := (((((((am_ag.rf).wr rfl).wr rfl).wr rfl).wr rfl).wr rfl).wr rfl).mix rfl
  rw [e9.eq]
  exact h _

theorem sm_notchFor {d : Nat} (hd : 1 ≤ d) {k : Nat} {x : Int} {M : am_M} {K : am_K} (hk : k < 5) (hkd : 0 ≤ M 23 0 k ∧ M 23 0 k ≤ 5) (hmo : 0 ≤ M 24 0 k ∧ M 24 0 k ≤ 9) (hch : 0 ≤ M 25 0 (2 * k + 1) ∧ M 25 0 (2 * k + 1) ≤ 500) (hx : am_in x) (h : K (some (aI (jf_notch (M 23 0 k) (M 25 0 (2 * k + 1)) x))) M) : am_Call true d 153 [aR 8 0, aI ((k : Nat) : Int), aI x] M K := by
  obtain ⟨d, rfl⟩ : ∃ e, d = e + 1 := ⟨d - 1, by omega⟩
  refine ⟨rfl, fun R hR hC => ?_⟩
  replace hR : ∀ c, am_F true tb_f153 1 (am_Call true d) K R c → R c := hR
  show R (0, [some (aR 8 0), some (aI ((k : Nat) : Int)), some (aI x)], [], M)
  refine hR _ (hR _ (hR _ (?_)))
  show R (5, [some (aR 8 0), some (aI ((k : Nat) : Int)), some (aI x)], [aI ((k : Nat) : Int), aR 23 0], M)
  refine hR _ ⟨(show 0 ≤ (((k : Nat) : Int) : Int) ∧ (((k : Nat) : Int) : Int) < 5 from (by omega)), ?_⟩
  show R (6, [some (aR 8 0), some (aI ((k : Nat) : Int)), some (aI x)], [aI (M 23 0 k)], M)
  refine hR _ ⟨(by omega), ⟨fun c6 => ?_, fun c6 => ?_, fun c6 => ?_, fun c6 => ?_, fun c6 => ?_, trivial⟩, fun c6 => ?_⟩
  · show R (40, [some (aR 8 0), some (aI ((k : Nat) : Int)), some (aI x)], [], M)
    refine hR _ (?_)
    show R (41, [some (aR 8 0), some (aI ((k : Nat) : Int)), some (aI x)], [aI 1], M)
    refine hR _ (show K (some (aI 1)) M from ?_)
    exact am_kr h (by unfold jf_notch; (repeat' split) <;> omega)
  · show R (42, [some (aR 8 0), some (aI ((k : Nat) : Int)), some (aI x)], [], M)
    refine hR _ (hR _ (hR _ (hR _ (hR _ (hR _ (hR _ (hR _ (?_))))))))
    show R (52, [some (aR 8 0), some (aI ((k : Nat) : Int)), some (aI x)], [aI ((2 * ((k : Nat) : Int)) + 1), aR 25 0, aI x], M)
    refine hR _ ⟨(show 0 ≤ (((2 * ((k : Nat) : Int)) + 1) : Int) ∧ (((2 * ((k : Nat) : Int)) + 1) : Int) < 10 from (by omega)), ?_⟩
    show R (53, [some (aR 8 0), some (aI ((k : Nat) : Int)), some (aI x)], [aI (M 25 0 ((((2 * ((k : Nat) : Int)) + 1)).toNat)), aI x], M)
    rw [(show M 25 0 ((((2 * ((k : Nat) : Int)) + 1)).toNat) = M 25 0 (2 * k + 1) by rw [show (((2 * ((k : Nat) : Int)) + 1)).toNat = (2 * k + 1) by omega])]
    show R (53, [some (aR 8 0), some (aI ((k : Nat) : Int)), some (aI x)], [aI (M 25 0 (2 * k + 1)), aI x], M)
    refine hR _ (am_brc (rg := am_in x ∧ am_in (M 25 0 (2 * k + 1))) (P := x ≤ (M 25 0 (2 * k + 1))) (A := R (60, [some (aR 8 0), some (aI ((k : Nat) : Int)), some (aI x)], [], M)) (B := R (56, [some (aR 8 0), some (aI ((k : Nat) : Int)), some (aI x)], [], M)) (by omega) (fun c53 => ?_) (fun c53 => ?_))
    · refine hR _ (?_)
      show R (61, [some (aR 8 0), some (aI ((k : Nat) : Int)), some (aI x)], [aI 1], M)
      refine hR _ (show K (some (aI 1)) M from ?_)
      exact am_kr h (by unfold jf_notch; (repeat' split) <;> omega)
    · refine hR _ (hR _ (?_))
      show R (61, [some (aR 8 0), some (aI ((k : Nat) : Int)), some (aI x)], [aI 3], M)
      refine hR _ (show K (some (aI 3)) M from ?_)
      exact am_kr h (by unfold jf_notch; (repeat' split) <;> omega)
  · show R (40, [some (aR 8 0), some (aI ((k : Nat) : Int)), some (aI x)], [], M)
    refine hR _ (?_)
    show R (41, [some (aR 8 0), some (aI ((k : Nat) : Int)), some (aI x)], [aI 1], M)
    refine hR _ (show K (some (aI 1)) M from ?_)
    exact am_kr h (by unfold jf_notch; (repeat' split) <;> omega)
  · show R (42, [some (aR 8 0), some (aI ((k : Nat) : Int)), some (aI x)], [], M)
    refine hR _ (hR _ (hR _ (hR _ (hR _ (hR _ (hR _ (hR _ (?_))))))))
    show R (52, [some (aR 8 0), some (aI ((k : Nat) : Int)), some (aI x)], [aI ((2 * ((k : Nat) : Int)) + 1), aR 25 0, aI x], M)
    refine hR _ ⟨(show 0 ≤ (((2 * ((k : Nat) : Int)) + 1) : Int) ∧ (((2 * ((k : Nat) : Int)) + 1) : Int) < 10 from (by omega)), ?_⟩
    show R (53, [some (aR 8 0), some (aI ((k : Nat) : Int)), some (aI x)], [aI (M 25 0 ((((2 * ((k : Nat) : Int)) + 1)).toNat)), aI x], M)
    rw [(show M 25 0 ((((2 * ((k : Nat) : Int)) + 1)).toNat) = M 25 0 (2 * k + 1) by rw [show (((2 * ((k : Nat) : Int)) + 1)).toNat = (2 * k + 1) by omega])]
    show R (53, [some (aR 8 0), some (aI ((k : Nat) : Int)), some (aI x)], [aI (M 25 0 (2 * k + 1)), aI x], M)
    refine hR _ (am_brc (rg := am_in x ∧ am_in (M 25 0 (2 * k + 1))) (P := x ≤ (M 25 0 (2 * k + 1))) (A := R (60, [some (aR 8 0), some (aI ((k : Nat) : Int)), some (aI x)], [], M)) (B := R (56, [some (aR 8 0), some (aI ((k : Nat) : Int)), some (aI x)], [], M)) (by omega) (fun c53 => ?_) (fun c53 => ?_))
    · refine hR _ (?_)
      show R (61, [some (aR 8 0), some (aI ((k : Nat) : Int)), some (aI x)], [aI 1], M)
      refine hR _ (show K (some (aI 1)) M from ?_)
      exact am_kr h (by unfold jf_notch; (repeat' split) <;> omega)
    · refine hR _ (hR _ (?_))
      show R (61, [some (aR 8 0), some (aI ((k : Nat) : Int)), some (aI x)], [aI 3], M)
      refine hR _ (show K (some (aI 3)) M from ?_)
      exact am_kr h (by unfold jf_notch; (repeat' split) <;> omega)
  · show R (62, [some (aR 8 0), some (aI ((k : Nat) : Int)), some (aI x)], [], M)
    refine hR _ (?_)
    show R (63, [some (aR 8 0), some (aI ((k : Nat) : Int)), some (aI x)], [aI 3], M)
    refine hR _ (show K (some (aI 3)) M from ?_)
    exact am_kr h (by unfold jf_notch; (repeat' split) <;> omega)
  · show R (64, [some (aR 8 0), some (aI ((k : Nat) : Int)), some (aI x)], [], M)
    refine hR _ (?_)
    show R (65, [some (aR 8 0), some (aI ((k : Nat) : Int)), some (aI x)], [aI 2], M)
    refine hR _ (show K (some (aI 2)) M from ?_)
    exact am_kr h (by unfold jf_notch; (repeat' split) <;> omega)

theorem sm_touchOf {d : Nat} (hd : 1 ≤ d) {k : Nat} {x : Int} {M : am_M} {K : am_K} (hk : k < 5) (hkd : 0 ≤ M 23 0 k ∧ M 23 0 k ≤ 5) (hmo : 0 ≤ M 24 0 k ∧ M 24 0 k ≤ 9) (hx : am_in x) (h : K (some (aI (jf_touch (M 23 0 k) (M 24 0 k) x))) M) : am_Call true d 157 [aR 8 0, aI ((k : Nat) : Int), aI x] M K := by
  obtain ⟨d, rfl⟩ : ∃ e, d = e + 1 := ⟨d - 1, by omega⟩
  refine ⟨rfl, fun R hR hC => ?_⟩
  replace hR : ∀ c, am_F true tb_f157 1 (am_Call true d) K R c → R c := hR
  have q4 := jf_td (M 24 0 k) 3 (by omega)
  show R (0, [some (aR 8 0), some (aI ((k : Nat) : Int)), some (aI x)], [], M)
  refine hR _ (hR _ (hR _ (?_)))
  show R (5, [some (aR 8 0), some (aI ((k : Nat) : Int)), some (aI x)], [aI ((k : Nat) : Int), aR 23 0], M)
  refine hR _ ⟨(show 0 ≤ (((k : Nat) : Int) : Int) ∧ (((k : Nat) : Int) : Int) < 5 from (by omega)), ?_⟩
  show R (6, [some (aR 8 0), some (aI ((k : Nat) : Int)), some (aI x)], [aI (M 23 0 k)], M)
  refine hR _ (hR _ (am_brc (rg := am_in (M 23 0 k) ∧ am_in 4) (P := M 23 0 k = 4) (A := R (14, [some (aR 8 0), some (aI ((k : Nat) : Int)), some (aI x)], [], M)) (B := R (10, [some (aR 8 0), some (aI ((k : Nat) : Int)), some (aI x)], [], M)) (by omega) (fun c7 => ?_) (fun c7 => ?_)))
  · refine hR _ (hR _ (hR _ (am_brc (rg := am_in x ∧ am_in 10) (P := x ≤ 10) (A := R (33, [some (aR 8 0), some (aI ((k : Nat) : Int)), some (aI x)], [], M)) (B := R (20, [some (aR 8 0), some (aI ((k : Nat) : Int)), some (aI x)], [], M)) (by omega) (fun c17 => ?_) (fun c17 => ?_))))
    · refine hR _ (?_)
      show R (34, [some (aR 8 0), some (aI ((k : Nat) : Int)), some (aI x)], [aI 1], M)
      refine hR _ (show K (some (aI 1)) M from ?_)
      exact am_kr h (by unfold jf_touch; (repeat' split) <;> omega)
    · refine hR _ (hR _ (hR _ (hR _ (?_))))
      show R (26, [some (aR 8 0), some (aI ((k : Nat) : Int)), some (aI x)], [aI ((k : Nat) : Int), aR 24 0, aI 3], M)
      refine hR _ ⟨(show 0 ≤ (((k : Nat) : Int) : Int) ∧ (((k : Nat) : Int) : Int) < 5 from (by omega)), ?_⟩
      show R (27, [some (aR 8 0), some (aI ((k : Nat) : Int)), some (aI x)], [aI (M 24 0 k), aI 3], M)
      refine hR _ (?_)
      show R (28, [some (aR 8 0), some (aI ((k : Nat) : Int)), some (aI x)], [aI 3, aI (M 24 0 k), aI 3], M)
      refine hR _ ⟨(by omega), ?_⟩
      show R (29, [some (aR 8 0), some (aI ((k : Nat) : Int)), some (aI x)], [aI (Int.tdiv (M 24 0 k) 3), aI 3], M)
      refine hR _ (hR _ (?_))
      show R (34, [some (aR 8 0), some (aI ((k : Nat) : Int)), some (aI x)], [aI (3 + (Int.tdiv (M 24 0 k) 3))], M)
      refine hR _ (show K (some (aI (3 + (Int.tdiv (M 24 0 k) 3)))) M from ?_)
      exact am_kr h (by unfold jf_touch; (repeat' split) <;> omega)
  · refine hR _ (hR _ (?_))
    show R (34, [some (aR 8 0), some (aI ((k : Nat) : Int)), some (aI x)], [aI 0], M)
    refine hR _ (show K (some (aI 0)) M from ?_)
    exact am_kr h (by unfold jf_touch; (repeat' split) <;> omega)

theorem sm_fullAt {d : Nat} (hd : 1 ≤ d) {x : Int} {M : am_M} {K : am_K} (hfu : 1 ≤ M 22 0 3 ∧ M 22 0 3 ≤ 5000) (hx : am_in x) (h : K (some (aI (min (M 22 0 3) x))) M) : am_Call true d 152 [aR 8 0, aI x] M K := by
  obtain ⟨d, rfl⟩ : ∃ e, d = e + 1 := ⟨d - 1, by omega⟩
  refine ⟨rfl, fun R hR hC => ?_⟩
  replace hR : ∀ c, am_F true tb_f152 1 (am_Call true d) K R c → R c := hR
  show R (0, [some (aR 8 0), some (aI x)], [], M)
  refine hR _ (hR _ (hR _ (hR _ (?_))))
  show R (6, [some (aR 8 0), some (aI x)], [aI 3, aR 22 0, aI x], M)
  refine hR _ ⟨(show 0 ≤ (3 : Int) ∧ (3 : Int) < 4 from (by omega)), ?_⟩
  show R (7, [some (aR 8 0), some (aI x)], [aI (M 22 0 3), aI x], M)
  refine hR _ (am_brc (rg := am_in x ∧ am_in (M 22 0 3)) (P := x ≤ M 22 0 3) (A := R (19, [some (aR 8 0), some (aI x)], [], M)) (B := R (10, [some (aR 8 0), some (aI x)], [], M)) (by omega) (fun c7 => ?_) (fun c7 => ?_))
  · refine hR _ (?_)
    show R (20, [some (aR 8 0), some (aI x)], [aI x], M)
    refine hR _ (show K (some (aI x)) M from ?_)
    exact am_kr h (by omega)
  · refine hR _ (hR _ (hR _ (?_)))
    show R (15, [some (aR 8 0), some (aI x)], [aI 3, aR 22 0], M)
    refine hR _ ⟨(show 0 ≤ (3 : Int) ∧ (3 : Int) < 4 from (by omega)), ?_⟩
    show R (16, [some (aR 8 0), some (aI x)], [aI (M 22 0 3)], M)
    refine hR _ (?_)
    show R (20, [some (aR 8 0), some (aI x)], [aI (M 22 0 3)], M)
    refine hR _ (show K (some (aI (M 22 0 3))) M from ?_)
    exact am_kr h (by omega)

theorem sm_runsBy {d : Nat} (hd : 4 ≤ d) {k r : Nat} {n : Int} {M : am_M} {K : am_K} (hk : k < 5) (hkd : 0 ≤ M 23 0 k ∧ M 23 0 k ≤ 5) (hmo : 0 ≤ M 24 0 k ∧ M 24 0 k ≤ 9) (hr : M 431 0 0 = (r : Int)) (hr6 : r < 6) (hwt : mo_wt M r) (hpr : 1 ≤ M 22 0 2 ∧ M 22 0 2 ≤ 99) (hn : am_in n) (h : ∀ g, K (some (aI (jf_rn (M 24 0 k) (M 22 0 2) (mo_tk M r 0) n))) (am_mix [37, 38] g M)) : am_Call true d 154 [aR 8 0, aI ((k : Nat) : Int), aI n] M K := by
  obtain ⟨d, rfl⟩ : ∃ e, d = e + 1 := ⟨d - 1, by omega⟩
  refine ⟨rfl, fun R hR hC => ?_⟩
  replace hR : ∀ c, am_F true tb_f154 1 (am_Call true d) K R c → R c := hR
  show R (0, [some (aR 8 0), some (aI ((k : Nat) : Int)), some (aI n)], [], M)
  refine hR _ (hR _ (hR _ (hR _ (hR _ (hR _ (hR _ (hR _ (hR _ (?_)))))))))
  show R (11, [some (aR 8 0), some (aI ((k : Nat) : Int)), some (aI n)], [aI ((k : Nat) : Int), aR 24 0, aI 0, aI 0, aI 0, aI n, aI 0, aR 8 0], M)
  refine hR _ ⟨(show 0 ≤ (((k : Nat) : Int) : Int) ∧ (((k : Nat) : Int) : Int) < 5 from (by omega)), ?_⟩
  show R (12, [some (aR 8 0), some (aI ((k : Nat) : Int)), some (aI n)], [aI (M 24 0 k), aI 0, aI 0, aI 0, aI n, aI 0, aR 8 0], M)
  refine hR _ (sm_asksOf_0 (r := r) (by omega) hr hr6 hwt (show am_in (M 22 0 2) from by omega) ⟨by omega, by omega, by omega, by omega, by omega⟩ (fun g137 => ?_))
  have hs12 : 1 ≤ (jf_rn (M 24 0 k) (M 22 0 2) (mo_tk M r 0) n) ∧ (jf_rn (M 24 0 k) (M 22 0 2) (mo_tk M r 0) n) ≤ 50 := jf_cl0 _
  show R (15, [some (aR 8 0), some (aI ((k : Nat) : Int)), some (aI n)], [aI (jf_rn (M 24 0 k) (M 22 0 2) (mo_tk M r 0) n)], am_mix [37, 38] g137 M)
  refine hR _ (show K (some (aI (jf_rn (M 24 0 k) (M 22 0 2) (mo_tk M r 0) n))) (am_mix [37, 38] g137 M) from ?_)
  exact h _

theorem sm_oftenOf {d : Nat} (hd : 4 ≤ d) {k r : Nat} {a : Int} {M : am_M} {K : am_K} (hk : k < 5) (hkd : 0 ≤ M 23 0 k ∧ M 23 0 k ≤ 5) (hmo : 0 ≤ M 24 0 k ∧ M 24 0 k ≤ 9) (hr : M 431 0 0 = (r : Int)) (hr6 : r < 6) (hwt : mo_wt M r) (hpr : 1 ≤ M 22 0 2 ∧ M 22 0 2 ≤ 99) (hN : 1 ≤ M 455 0 0 ∧ M 455 0 0 ≤ 3) (ha : 0 ≤ a ∧ a ≤ 4) (h : ∀ g, K (some (aI (jf_often (M 23 0 k) (M 24 0 k) a (jf_lt (M 24 0 k) (M 22 0 2) (mo_tk M r 1) (M 455 0 0) a)))) (am_mix [37, 38] g M)) : am_Call true d 155 [aR 8 0, aI ((k : Nat) : Int), aI a] M K := by
  obtain ⟨d, rfl⟩ : ∃ e, d = e + 1 := ⟨d - 1, by omega⟩
  refine ⟨rfl, fun R hR hC => ?_⟩
  replace hR : ∀ c, am_F true tb_f155 1 (am_Call true d) K R c → R c := hR
  have q1 : 0 ≤ a * M 24 0 k := Int.mul_nonneg (by omega) (by omega)
  have q2 : a * M 24 0 k ≤ 4 * 9 := Int.mul_le_mul (by omega) (by omega) (by omega) (by omega)
  have q3 := jf_td (a * M 24 0 k) 3 q1
  have q4 := jf_td (M 24 0 k) 4 (by omega)
  show R (0, [some (aR 8 0), some (aI ((k : Nat) : Int)), some (aI a), none], [], M)
  refine hR _ (hR _ (hR _ (hR _ (hR _ (hR _ (hR _ (hR _ (hR _ (hR _ (?_))))))))))
  show R (14, [some (aR 8 0), some (aI ((k : Nat) : Int)), some (aI a), none], [aI ((k : Nat) : Int), aR 24 0, aI 0, aI 0, aI a, aI (M 455 0 0), aI 1, aR 8 0], M)
  refine hR _ ⟨(show 0 ≤ (((k : Nat) : Int) : Int) ∧ (((k : Nat) : Int) : Int) < 5 from (by omega)), ?_⟩
  show R (15, [some (aR 8 0), some (aI ((k : Nat) : Int)), some (aI a), none], [aI (M 24 0 k), aI 0, aI 0, aI a, aI (M 455 0 0), aI 1, aR 8 0], M)
  refine hR _ (sm_asksOf_1 (r := r) (by omega) hr hr6 hwt (show am_in (M 22 0 2) from by omega) ⟨by omega, by omega, by omega, by omega, by omega⟩ (fun g138 => ?_))
  have hs15 : 0 ≤ (jf_lt (M 24 0 k) (M 22 0 2) (mo_tk M r 1) (M 455 0 0) a) ∧ (jf_lt (M 24 0 k) (M 22 0 2) (mo_tk M r 1) (M 455 0 0) a) ≤ 9 := jf_cl1 _
  show R (18, [some (aR 8 0), some (aI ((k : Nat) : Int)), some (aI a), none], [aI (jf_lt (M 24 0 k) (M 22 0 2) (mo_tk M r 1) (M 455 0 0) a)], am_mix [37, 38] g138 M)
  refine hR _ (hR _ (hR _ (hR _ (?_))))
  show R (24, [some (aR 8 0), some (aI ((k : Nat) : Int)), some (aI a), some (aI (jf_lt (M 24 0 k) (M 22 0 2) (mo_tk M r 1) (M 455 0 0) a))], [aI ((k : Nat) : Int), aR 23 0], am_mix [37, 38] g138 M)
  refine hR _ ⟨(show 0 ≤ (((k : Nat) : Int) : Int) ∧ (((k : Nat) : Int) : Int) < 5 from (by omega)), ?_⟩
  show R (25, [some (aR 8 0), some (aI ((k : Nat) : Int)), some (aI a), some (aI (jf_lt (M 24 0 k) (M 22 0 2) (mo_tk M r 1) (M 455 0 0) a))], [aI (M 23 0 k)], am_mix [37, 38] g138 M)
  refine hR _ ⟨(by omega), ⟨fun c25 => ?_, fun c25 => ?_, fun c25 => ?_, fun c25 => ?_, trivial⟩, fun c25 => ?_⟩
  · show R (56, [some (aR 8 0), some (aI ((k : Nat) : Int)), some (aI a), some (aI (jf_lt (M 24 0 k) (M 22 0 2) (mo_tk M r 1) (M 455 0 0) a))], [], am_mix [37, 38] g138 M)
    refine hR _ (hR _ (am_brc (rg := am_in a) (P := a ≠ 0) (A := R (64, [some (aR 8 0), some (aI ((k : Nat) : Int)), some (aI a), some (aI (jf_lt (M 24 0 k) (M 22 0 2) (mo_tk M r 1) (M 455 0 0) a))], [], am_mix [37, 38] g138 M)) (B := R (60, [some (aR 8 0), some (aI ((k : Nat) : Int)), some (aI a), some (aI (jf_lt (M 24 0 k) (M 22 0 2) (mo_tk M r 1) (M 455 0 0) a))], [], am_mix [37, 38] g138 M)) (by omega) (fun c57 => ?_) (fun c57 => ?_)))
    · refine hR _ (hR _ (hR _ (hR _ (?_))))
      show R (70, [some (aR 8 0), some (aI ((k : Nat) : Int)), some (aI a), some (aI (jf_lt (M 24 0 k) (M 22 0 2) (mo_tk M r 1) (M 455 0 0) a))], [aI ((k : Nat) : Int), aR 24 0, aI (jf_lt (M 24 0 k) (M 22 0 2) (mo_tk M r 1) (M 455 0 0) a)], am_mix [37, 38] g138 M)
      refine hR _ ⟨(show 0 ≤ (((k : Nat) : Int) : Int) ∧ (((k : Nat) : Int) : Int) < 5 from (by omega)), ?_⟩
      show R (71, [some (aR 8 0), some (aI ((k : Nat) : Int)), some (aI a), some (aI (jf_lt (M 24 0 k) (M 22 0 2) (mo_tk M r 1) (M 455 0 0) a))], [aI (M 24 0 k), aI (jf_lt (M 24 0 k) (M 22 0 2) (mo_tk M r 1) (M 455 0 0) a)], am_mix [37, 38] g138 M)
      refine hR _ (?_)
      show R (72, [some (aR 8 0), some (aI ((k : Nat) : Int)), some (aI a), some (aI (jf_lt (M 24 0 k) (M 22 0 2) (mo_tk M r 1) (M 455 0 0) a))], [aI 4, aI (M 24 0 k), aI (jf_lt (M 24 0 k) (M 22 0 2) (mo_tk M r 1) (M 455 0 0) a)], am_mix [37, 38] g138 M)
      refine hR _ ⟨(by omega), ?_⟩
      show R (73, [some (aR 8 0), some (aI ((k : Nat) : Int)), some (aI a), some (aI (jf_lt (M 24 0 k) (M 22 0 2) (mo_tk M r 1) (M 455 0 0) a))], [aI (Int.tdiv (M 24 0 k) 4), aI (jf_lt (M 24 0 k) (M 22 0 2) (mo_tk M r 1) (M 455 0 0) a)], am_mix [37, 38] g138 M)
      refine hR _ (?_)
      show R (74, [some (aR 8 0), some (aI ((k : Nat) : Int)), some (aI a), some (aI (jf_lt (M 24 0 k) (M 22 0 2) (mo_tk M r 1) (M 455 0 0) a))], [aI ((jf_lt (M 24 0 k) (M 22 0 2) (mo_tk M r 1) (M 455 0 0) a) + (Int.tdiv (M 24 0 k) 4))], am_mix [37, 38] g138 M)
      refine hR _ (show K (some (aI ((jf_lt (M 24 0 k) (M 22 0 2) (mo_tk M r 1) (M 455 0 0) a) + (Int.tdiv (M 24 0 k) 4)))) (am_mix [37, 38] g138 M) from ?_)
      refine am_kr (h _) ?_
      unfold jf_often
      repeat' split
      all_goals omega
    · refine hR _ (hR _ (?_))
      show R (74, [some (aR 8 0), some (aI ((k : Nat) : Int)), some (aI a), some (aI (jf_lt (M 24 0 k) (M 22 0 2) (mo_tk M r 1) (M 455 0 0) a))], [aI 0], am_mix [37, 38] g138 M)
      refine hR _ (show K (some (aI 0)) (am_mix [37, 38] g138 M) from ?_)
      refine am_kr (h _) ?_
      unfold jf_often
      repeat' split
      all_goals omega
  · show R (75, [some (aR 8 0), some (aI ((k : Nat) : Int)), some (aI a), some (aI (jf_lt (M 24 0 k) (M 22 0 2) (mo_tk M r 1) (M 455 0 0) a))], [], am_mix [37, 38] g138 M)
    refine hR _ (hR _ (hR _ (am_brc (rg := am_in a ∧ am_in 1) (P := a ≤ 1) (A := R (84, [some (aR 8 0), some (aI ((k : Nat) : Int)), some (aI a), some (aI (jf_lt (M 24 0 k) (M 22 0 2) (mo_tk M r 1) (M 455 0 0) a))], [], am_mix [37, 38] g138 M)) (B := R (80, [some (aR 8 0), some (aI ((k : Nat) : Int)), some (aI a), some (aI (jf_lt (M 24 0 k) (M 22 0 2) (mo_tk M r 1) (M 455 0 0) a))], [], am_mix [37, 38] g138 M)) (by omega) (fun c77 => ?_) (fun c77 => ?_))))
    · refine hR _ (hR _ (hR _ (?_)))
      show R (87, [some (aR 8 0), some (aI ((k : Nat) : Int)), some (aI a), some (aI (jf_lt (M 24 0 k) (M 22 0 2) (mo_tk M r 1) (M 455 0 0) a))], [aI ((jf_lt (M 24 0 k) (M 22 0 2) (mo_tk M r 1) (M 455 0 0) a) + 1)], am_mix [37, 38] g138 M)
      refine hR _ (show K (some (aI ((jf_lt (M 24 0 k) (M 22 0 2) (mo_tk M r 1) (M 455 0 0) a) + 1))) (am_mix [37, 38] g138 M) from ?_)
      refine am_kr (h _) ?_
      unfold jf_often
      repeat' split
      all_goals omega
    · refine hR _ (hR _ (?_))
      show R (87, [some (aR 8 0), some (aI ((k : Nat) : Int)), some (aI a), some (aI (jf_lt (M 24 0 k) (M 22 0 2) (mo_tk M r 1) (M 455 0 0) a))], [aI 0], am_mix [37, 38] g138 M)
      refine hR _ (show K (some (aI 0)) (am_mix [37, 38] g138 M) from ?_)
      refine am_kr (h _) ?_
      unfold jf_often
      repeat' split
      all_goals omega
  · show R (56, [some (aR 8 0), some (aI ((k : Nat) : Int)), some (aI a), some (aI (jf_lt (M 24 0 k) (M 22 0 2) (mo_tk M r 1) (M 455 0 0) a))], [], am_mix [37, 38] g138 M)
    refine hR _ (hR _ (am_brc (rg := am_in a) (P := a ≠ 0) (A := R (64, [some (aR 8 0), some (aI ((k : Nat) : Int)), some (aI a), some (aI (jf_lt (M 24 0 k) (M 22 0 2) (mo_tk M r 1) (M 455 0 0) a))], [], am_mix [37, 38] g138 M)) (B := R (60, [some (aR 8 0), some (aI ((k : Nat) : Int)), some (aI a), some (aI (jf_lt (M 24 0 k) (M 22 0 2) (mo_tk M r 1) (M 455 0 0) a))], [], am_mix [37, 38] g138 M)) (by omega) (fun c57 => ?_) (fun c57 => ?_)))
    · refine hR _ (hR _ (hR _ (hR _ (?_))))
      show R (70, [some (aR 8 0), some (aI ((k : Nat) : Int)), some (aI a), some (aI (jf_lt (M 24 0 k) (M 22 0 2) (mo_tk M r 1) (M 455 0 0) a))], [aI ((k : Nat) : Int), aR 24 0, aI (jf_lt (M 24 0 k) (M 22 0 2) (mo_tk M r 1) (M 455 0 0) a)], am_mix [37, 38] g138 M)
      refine hR _ ⟨(show 0 ≤ (((k : Nat) : Int) : Int) ∧ (((k : Nat) : Int) : Int) < 5 from (by omega)), ?_⟩
      show R (71, [some (aR 8 0), some (aI ((k : Nat) : Int)), some (aI a), some (aI (jf_lt (M 24 0 k) (M 22 0 2) (mo_tk M r 1) (M 455 0 0) a))], [aI (M 24 0 k), aI (jf_lt (M 24 0 k) (M 22 0 2) (mo_tk M r 1) (M 455 0 0) a)], am_mix [37, 38] g138 M)
      refine hR _ (?_)
      show R (72, [some (aR 8 0), some (aI ((k : Nat) : Int)), some (aI a), some (aI (jf_lt (M 24 0 k) (M 22 0 2) (mo_tk M r 1) (M 455 0 0) a))], [aI 4, aI (M 24 0 k), aI (jf_lt (M 24 0 k) (M 22 0 2) (mo_tk M r 1) (M 455 0 0) a)], am_mix [37, 38] g138 M)
      refine hR _ ⟨(by omega), ?_⟩
      show R (73, [some (aR 8 0), some (aI ((k : Nat) : Int)), some (aI a), some (aI (jf_lt (M 24 0 k) (M 22 0 2) (mo_tk M r 1) (M 455 0 0) a))], [aI (Int.tdiv (M 24 0 k) 4), aI (jf_lt (M 24 0 k) (M 22 0 2) (mo_tk M r 1) (M 455 0 0) a)], am_mix [37, 38] g138 M)
      refine hR _ (?_)
      show R (74, [some (aR 8 0), some (aI ((k : Nat) : Int)), some (aI a), some (aI (jf_lt (M 24 0 k) (M 22 0 2) (mo_tk M r 1) (M 455 0 0) a))], [aI ((jf_lt (M 24 0 k) (M 22 0 2) (mo_tk M r 1) (M 455 0 0) a) + (Int.tdiv (M 24 0 k) 4))], am_mix [37, 38] g138 M)
      refine hR _ (show K (some (aI ((jf_lt (M 24 0 k) (M 22 0 2) (mo_tk M r 1) (M 455 0 0) a) + (Int.tdiv (M 24 0 k) 4)))) (am_mix [37, 38] g138 M) from ?_)
      refine am_kr (h _) ?_
      unfold jf_often
      repeat' split
      all_goals omega
    · refine hR _ (hR _ (?_))
      show R (74, [some (aR 8 0), some (aI ((k : Nat) : Int)), some (aI a), some (aI (jf_lt (M 24 0 k) (M 22 0 2) (mo_tk M r 1) (M 455 0 0) a))], [aI 0], am_mix [37, 38] g138 M)
      refine hR _ (show K (some (aI 0)) (am_mix [37, 38] g138 M) from ?_)
      refine am_kr (h _) ?_
      unfold jf_often
      repeat' split
      all_goals omega
  · show R (88, [some (aR 8 0), some (aI ((k : Nat) : Int)), some (aI a), some (aI (jf_lt (M 24 0 k) (M 22 0 2) (mo_tk M r 1) (M 455 0 0) a))], [], am_mix [37, 38] g138 M)
    refine hR _ (hR _ (hR _ (hR _ (hR _ (?_)))))
    show R (95, [some (aR 8 0), some (aI ((k : Nat) : Int)), some (aI a), some (aI (jf_lt (M 24 0 k) (M 22 0 2) (mo_tk M r 1) (M 455 0 0) a))], [aI ((k : Nat) : Int), aR 24 0, aI a, aI 1], am_mix [37, 38] g138 M)
    refine hR _ ⟨(show 0 ≤ (((k : Nat) : Int) : Int) ∧ (((k : Nat) : Int) : Int) < 5 from (by omega)), ?_⟩
    show R (96, [some (aR 8 0), some (aI ((k : Nat) : Int)), some (aI a), some (aI (jf_lt (M 24 0 k) (M 22 0 2) (mo_tk M r 1) (M 455 0 0) a))], [aI (M 24 0 k), aI a, aI 1], am_mix [37, 38] g138 M)
    refine hR _ (hR _ (?_))
    show R (98, [some (aR 8 0), some (aI ((k : Nat) : Int)), some (aI a), some (aI (jf_lt (M 24 0 k) (M 22 0 2) (mo_tk M r 1) (M 455 0 0) a))], [aI 3, aI (a * M 24 0 k), aI 1], am_mix [37, 38] g138 M)
    refine hR _ ⟨(by omega), ?_⟩
    show R (99, [some (aR 8 0), some (aI ((k : Nat) : Int)), some (aI a), some (aI (jf_lt (M 24 0 k) (M 22 0 2) (mo_tk M r 1) (M 455 0 0) a))], [aI (Int.tdiv (a * M 24 0 k) 3), aI 1], am_mix [37, 38] g138 M)
    refine hR _ (?_)
    show R (100, [some (aR 8 0), some (aI ((k : Nat) : Int)), some (aI a), some (aI (jf_lt (M 24 0 k) (M 22 0 2) (mo_tk M r 1) (M 455 0 0) a))], [aI (1 + (Int.tdiv (a * M 24 0 k) 3))], am_mix [37, 38] g138 M)
    refine hR _ (show K (some (aI (1 + (Int.tdiv (a * M 24 0 k) 3)))) (am_mix [37, 38] g138 M) from ?_)
    refine am_kr (h _) ?_
    unfold jf_often
    repeat' split
    all_goals omega
  · show R (101, [some (aR 8 0), some (aI ((k : Nat) : Int)), some (aI a), some (aI (jf_lt (M 24 0 k) (M 22 0 2) (mo_tk M r 1) (M 455 0 0) a))], [], am_mix [37, 38] g138 M)
    refine hR _ (?_)
    show R (102, [some (aR 8 0), some (aI ((k : Nat) : Int)), some (aI a), some (aI (jf_lt (M 24 0 k) (M 22 0 2) (mo_tk M r 1) (M 455 0 0) a))], [aI (jf_lt (M 24 0 k) (M 22 0 2) (mo_tk M r 1) (M 455 0 0) a)], am_mix [37, 38] g138 M)
    refine hR _ (show K (some (aI (jf_lt (M 24 0 k) (M 22 0 2) (mo_tk M r 1) (M 455 0 0) a))) (am_mix [37, 38] g138 M) from ?_)
    refine am_kr (h _) ?_
    unfold jf_often
    repeat' split
    all_goals omega

set_option maxHeartbeats 1000000 in
theorem sm_endsSo {d : Nat} (hd : 5 ≤ d) {k r a : Nat} {mark s0 q : Int} {M : am_M} {K : am_K} (hk : k < 5) (hkd : 0 ≤ M 23 0 k ∧ M 23 0 k ≤ 5) (hmo : 0 ≤ M 24 0 k ∧ M 24 0 k ≤ 9) (hr : M 431 0 0 = (r : Int)) (hr6 : r < 6) (hwt : mo_wt M r) (hdr : 0 ≤ M 22 0 1 ∧ M 22 0 1 ≤ 9) (hpr : 1 ≤ M 22 0 2 ∧ M 22 0 2 ≤ 99) (hfu : 1 ≤ M 22 0 3 ∧ M 22 0 3 ≤ 5000) (hN : 1 ≤ M 455 0 0 ∧ M 455 0 0 ≤ 3) (ha : a < 5) (hmk : 1 ≤ mark ∧ mark ≤ 5100) (hs0 : 0 ≤ s0 ∧ s0 ≤ M 22 0 3) (hq : 0 ≤ q ∧ q ≤ 2000) (h : ∀ g : am_M, (g 39 0 a, g 40 0 a) = jf_tch (M 23 0 k) (M 24 0 k) (M 22 0 3) mark 30 (min (M 22 0 3) (min (M 22 0 3) (s0 + ((a : Nat) : Int) * jf_rn (M 24 0 k) (M 22 0 2) (mo_tk M r 0) (M 455 0 0)) + M 22 0 1), q + ((a : Nat) : Int)) → (∀ j, j ≠ a → g 39 0 j = M 39 0 j ∧ g 40 0 j = M 40 0 j) → K none (am_mix [37, 38, 39, 40] g M)) : am_Call true d 156 [aR 8 0, aI ((k : Nat) : Int), aI mark, aI ((a : Nat) : Int), aI s0, aI q] M K := by
  obtain ⟨d, rfl⟩ : ∃ e, d = e + 1 := ⟨d - 1, by omega⟩
  refine ⟨rfl, fun R hR hC => ?_⟩
  replace hR : ∀ c, am_F true tb_f156 0 (am_Call true d) K R c → R c := hR
  show R (0, [some (aR 8 0), some (aI ((k : Nat) : Int)), some (aI mark), some (aI ((a : Nat) : Int)), some (aI s0), some (aI q), none, none, none, none], [], M)
  obtain ⟨rn, hrn⟩ : ∃ rn, rn = jf_rn (M 24 0 k) (M 22 0 2) (mo_tk M r 0) (M 455 0 0) := ⟨_, rfl⟩
  have hrb : 1 ≤ rn ∧ rn ≤ 50 := by rw [hrn]; exact jf_cl0 _
  rw [← hrn] at h
  have key2 : ∀ (n : Nat) (s md : Int) (o9 : Option am_V) (g : am_M), 0 ≤ s → s ≤ M 22 0 3 → md + n = 30 → 0 ≤ md → jf_tch (M 23 0 k) (M 24 0 k) (M 22 0 3) mark n (s, q + ((a : Nat) : Int) + 5 * md) = jf_tch (M 23 0 k) (M 24 0 k) (M 22 0 3) mark 30 (min (M 22 0 3) (min (M 22 0 3) (s0 + ((a : Nat) : Int) * rn) + M 22 0 1), q + ((a : Nat) : Int)) → R (58, [some (aR 8 0), some (aI ((k : Nat) : Int)), some (aI mark), some (aI ((a : Nat) : Int)), some (aI s0), some (aI q), some (aI s), some (aI md), some (aI 1), o9], [], am_mix [37, 38] g M) := by
    intro n
    induction n with
    | zero =>
      intro s md o9 g hs0 hs1 hin hmd hfin
      refine hR _ (hR _ (am_brf (rg := am_in 1) (P := (1 : Int) = 0) (A := R (149, [some (aR 8 0), some (aI ((k : Nat) : Int)), some (aI mark), some (aI ((a : Nat) : Int)), some (aI s0), some (aI q), some (aI s), some (aI md), some (aI 1), o9], [], am_mix [37, 38] g M)) (B := R (63, [some (aR 8 0), some (aI ((k : Nat) : Int)), some (aI mark), some (aI ((a : Nat) : Int)), some (aI s0), some (aI q), some (aI s), some (aI md), some (aI 1), o9], [], am_mix [37, 38] g M)) (by omega) (by omega) ?_))
      show R (63, [some (aR 8 0), some (aI ((k : Nat) : Int)), some (aI mark), some (aI ((a : Nat) : Int)), some (aI s0), some (aI q), some (aI s), some (aI md), some (aI 1), o9], [], am_mix [37, 38] g M)
      refine hR _ (hR _ (hR _ (hR _ (hR _ (?_)))))
      show R (69, [some (aR 8 0), some (aI ((k : Nat) : Int)), some (aI mark), some (aI ((a : Nat) : Int)), some (aI s0), some (aI q), some (aI s), some (aI md), some (aI 1), o9], [aI (mark - s), aI ((k : Nat) : Int), aR 8 0], am_mix [37, 38] g M)
      refine hR _ (sm_touchOf (by omega) hk hkd hmo (by omega) ?_)
      have ht69 := jf_touch_b (kind := M 23 0 k) (more := M 24 0 k) (x := (mark - s)) (by omega)
      show R (72, [some (aR 8 0), some (aI ((k : Nat) : Int)), some (aI mark), some (aI ((a : Nat) : Int)), some (aI s0), some (aI q), some (aI s), some (aI md), some (aI 1), o9], [aI (jf_touch (M 23 0 k) (M 24 0 k) (mark - s))], am_mix [37, 38] g M)
      refine hR _ (hR _ (hR _ (hR _ (am_brc (rg := am_in s ∧ am_in mark) (P := mark ≤ s) (A := R (107, [some (aR 8 0), some (aI ((k : Nat) : Int)), some (aI mark), some (aI ((a : Nat) : Int)), some (aI s0), some (aI q), some (aI s), some (aI md), some (aI 1), some (aI (jf_touch (M 23 0 k) (M 24 0 k) (mark - s)))], [], am_mix [37, 38] g M)) (B := R (80, [some (aR 8 0), some (aI ((k : Nat) : Int)), some (aI mark), some (aI ((a : Nat) : Int)), some (aI s0), some (aI q), some (aI s), some (aI md), some (aI 1), some (aI (jf_touch (M 23 0 k) (M 24 0 k) (mark - s)))], [], am_mix [37, 38] g M)) (by omega) (fun c77 => ?_) (fun c77 => ?_)))))
      · refine hR _ (hR _ (hR _ (hR _ (am_brt (rg := am_in 0) (P := (0 : Int) = 0) (A := R (127, [some (aR 8 0), some (aI ((k : Nat) : Int)), some (aI mark), some (aI ((a : Nat) : Int)), some (aI s0), some (aI q), some (aI s), some (aI md), some (aI 0), some (aI (jf_touch (M 23 0 k) (M 24 0 k) (mark - s)))], [], am_mix [37, 38] g M)) (B := R (115, [some (aR 8 0), some (aI ((k : Nat) : Int)), some (aI mark), some (aI ((a : Nat) : Int)), some (aI s0), some (aI q), some (aI s), some (aI md), some (aI 0), some (aI (jf_touch (M 23 0 k) (M 24 0 k) (mark - s)))], [], am_mix [37, 38] g M)) (by omega) (by omega) ?_))))
        show R (127, [some (aR 8 0), some (aI ((k : Nat) : Int)), some (aI mark), some (aI ((a : Nat) : Int)), some (aI s0), some (aI q), some (aI s), some (aI md), some (aI 0), some (aI (jf_touch (M 23 0 k) (M 24 0 k) (mark - s)))], [], am_mix [37, 38] g M)
        refine hR _ (hR _ (hR _ (hR _ (hR _ (am_brt (rg := am_in 0) (P := (0 : Int) = 0) (A := R (142, [some (aR 8 0), some (aI ((k : Nat) : Int)), some (aI mark), some (aI ((a : Nat) : Int)), some (aI s0), some (aI q), some (aI s), some (aI md), some (aI 0), some (aI (jf_touch (M 23 0 k) (M 24 0 k) (mark - s)))], [aI md], am_mix [37, 38] g M)) (B := R (138, [some (aR 8 0), some (aI ((k : Nat) : Int)), some (aI mark), some (aI ((a : Nat) : Int)), some (aI s0), some (aI q), some (aI s), some (aI md), some (aI 0), some (aI (jf_touch (M 23 0 k) (M 24 0 k) (mark - s)))], [aI md], am_mix [37, 38] g M)) (by omega) (by omega) ?_)))))
        show R (142, [some (aR 8 0), some (aI ((k : Nat) : Int)), some (aI mark), some (aI ((a : Nat) : Int)), some (aI s0), some (aI q), some (aI s), some (aI md), some (aI 0), some (aI (jf_touch (M 23 0 k) (M 24 0 k) (mark - s)))], [aI md], am_mix [37, 38] g M)
        refine hR _ (hR _ (hR _ (hR _ (?_))))
        show R (58, [some (aR 8 0), some (aI ((k : Nat) : Int)), some (aI mark), some (aI ((a : Nat) : Int)), some (aI s0), some (aI q), some (aI s), some (aI (md + 0)), some (aI 0), some (aI (jf_touch (M 23 0 k) (M 24 0 k) (mark - s)))], [], am_mix [37, 38] g M)
        refine hR _ (hR _ (am_brt (rg := am_in 0) (P := (0 : Int) = 0) (A := R (149, [some (aR 8 0), some (aI ((k : Nat) : Int)), some (aI mark), some (aI ((a : Nat) : Int)), some (aI s0), some (aI q), some (aI s), some (aI (md + 0)), some (aI 0), some (aI (jf_touch (M 23 0 k) (M 24 0 k) (mark - s)))], [], am_mix [37, 38] g M)) (B := R (63, [some (aR 8 0), some (aI ((k : Nat) : Int)), some (aI mark), some (aI ((a : Nat) : Int)), some (aI s0), some (aI q), some (aI s), some (aI (md + 0)), some (aI 0), some (aI (jf_touch (M 23 0 k) (M 24 0 k) (mark - s)))], [], am_mix [37, 38] g M)) (by omega) (by omega) ?_))
        show R (149, [some (aR 8 0), some (aI ((k : Nat) : Int)), some (aI mark), some (aI ((a : Nat) : Int)), some (aI s0), some (aI q), some (aI s), some (aI (md + 0)), some (aI 0), some (aI (jf_touch (M 23 0 k) (M 24 0 k) (mark - s)))], [], am_mix [37, 38] g M)
        refine hR _ (hR _ (hR _ (hR _ (?_))))
        show R (156, [some (aR 8 0), some (aI ((k : Nat) : Int)), some (aI mark), some (aI ((a : Nat) : Int)), some (aI s0), some (aI q), some (aI s), some (aI (md + 0)), some (aI 0), some (aI (jf_touch (M 23 0 k) (M 24 0 k) (mark - s)))], [aI s, aI ((a : Nat) : Int), aR 39 0], am_mix [37, 38] g M)
        refine hR _ ⟨(show 0 ≤ (((a : Nat) : Int) : Int) ∧ (((a : Nat) : Int) : Int) < 5 from (by omega)), ?_⟩
        show R (157, [some (aR 8 0), some (aI ((k : Nat) : Int)), some (aI mark), some (aI ((a : Nat) : Int)), some (aI s0), some (aI q), some (aI s), some (aI (md + 0)), some (aI 0), some (aI (jf_touch (M 23 0 k) (M 24 0 k) (mark - s)))], [], am_wr (am_mix [37, 38] g M) 39 0 a s)
        refine hR _ (hR _ (hR _ (hR _ (hR _ (hR _ (hR _ (hR _ (hR _ (hR _ (?_))))))))))
        show R (171, [some (aR 8 0), some (aI ((k : Nat) : Int)), some (aI mark), some (aI ((a : Nat) : Int)), some (aI s0), some (aI q), some (aI s), some (aI (md + 0)), some (aI 0), some (aI (jf_touch (M 23 0 k) (M 24 0 k) (mark - s)))], [aI ((q + ((a : Nat) : Int)) + (5 * (md + 0))), aI ((a : Nat) : Int), aR 40 0], am_wr (am_mix [37, 38] g M) 39 0 a s)
        refine hR _ ⟨(show 0 ≤ (((a : Nat) : Int) : Int) ∧ (((a : Nat) : Int) : Int) < 5 from (by omega)), ?_⟩
        show R (172, [some (aR 8 0), some (aI ((k : Nat) : Int)), some (aI mark), some (aI ((a : Nat) : Int)), some (aI s0), some (aI q), some (aI s), some (aI (md + 0)), some (aI 0), some (aI (jf_touch (M 23 0 k) (M 24 0 k) (mark - s)))], [], am_wr (am_wr (am_mix [37, 38] g M) 39 0 a s) 40 0 a ((q + ((a : Nat) : Int)) + (5 * (md + 0))))
        refine hR _ (show K none (am_wr (am_wr (am_mix [37, 38] g M) 39 0 a s) 40 0 a ((q + ((a : Nat) : Int)) + (5 * (md + 0)))) from ?_)
        rw [jf_tch] at hfin
        refine am_fin (S := [37, 38, 39, 40]) (F := fun m => (m 39 0 a, m 40 0 a) = jf_tch (M 23 0 k) (M 24 0 k) (M 22 0 3) mark 30 (min (M 22 0 3) (min (M 22 0 3) (s0 + ((a : Nat) : Int) * rn) + M 22 0 1), q + ((a : Nat) : Int)) ∧ ∀ j, j ≠ a → m 39 0 j = M 39 0 j ∧ m 40 0 j = M 40 0 j) ((((am_ag.rf).mix rfl).wr rfl).wr rfl) ⟨?_, ?_⟩ (fun g hg => h g hg.1 hg.2)
        · rw [← hfin]
          exact Prod.ext (show (am_wr (am_wr (am_mix [37, 38] g M) 39 0 a s) 40 0 a ((q + ((a : Nat) : Int)) + (5 * (md + 0)))) 39 0 a = s from (am_wr_ne (Or.inl (by decide))).trans am_wr_eq) (show (am_wr (am_wr (am_mix [37, 38] g M) 39 0 a s) 40 0 a ((q + ((a : Nat) : Int)) + (5 * (md + 0)))) 40 0 a = q + ((a : Nat) : Int) + 5 * md from am_wr_eq.trans (by omega))
        · intro j hj
          exact ⟨show (am_wr (am_wr (am_mix [37, 38] g M) 39 0 a s) 40 0 a ((q + ((a : Nat) : Int)) + (5 * (md + 0)))) 39 0 j = _ from (am_wr_ne (Or.inl (by decide))).trans (am_wr_ne (Or.inr (Or.inr hj))), show (am_wr (am_wr (am_mix [37, 38] g M) 39 0 a s) 40 0 a ((q + ((a : Nat) : Int)) + (5 * (md + 0)))) 40 0 j = _ from (am_wr_ne (Or.inr (Or.inr hj))).trans (am_wr_ne (Or.inl (by decide)))⟩
      · refine hR _ (hR _ (hR _ (hR _ (?_))))
        show R (87, [some (aR 8 0), some (aI ((k : Nat) : Int)), some (aI mark), some (aI ((a : Nat) : Int)), some (aI s0), some (aI q), some (aI s), some (aI md), some (aI 1), some (aI (jf_touch (M 23 0 k) (M 24 0 k) (mark - s)))], [aI 3, aR 22 0, aI s], am_mix [37, 38] g M)
        refine hR _ ⟨(show 0 ≤ (3 : Int) ∧ (3 : Int) < 4 from (by omega)), ?_⟩
        show R (88, [some (aR 8 0), some (aI ((k : Nat) : Int)), some (aI mark), some (aI ((a : Nat) : Int)), some (aI s0), some (aI q), some (aI s), some (aI md), some (aI 1), some (aI (jf_touch (M 23 0 k) (M 24 0 k) (mark - s)))], [aI (M 22 0 3), aI s], am_mix [37, 38] g M)
        refine hR _ (am_brc (rg := am_in s ∧ am_in (M 22 0 3)) (P := M 22 0 3 ≤ s) (A := R (107, [some (aR 8 0), some (aI ((k : Nat) : Int)), some (aI mark), some (aI ((a : Nat) : Int)), some (aI s0), some (aI q), some (aI s), some (aI md), some (aI 1), some (aI (jf_touch (M 23 0 k) (M 24 0 k) (mark - s)))], [], am_mix [37, 38] g M)) (B := R (91, [some (aR 8 0), some (aI ((k : Nat) : Int)), some (aI mark), some (aI ((a : Nat) : Int)), some (aI s0), some (aI q), some (aI s), some (aI md), some (aI 1), some (aI (jf_touch (M 23 0 k) (M 24 0 k) (mark - s)))], [], am_mix [37, 38] g M)) (by omega) (fun c88 => ?_) (fun c88 => ?_))
        · refine hR _ (hR _ (hR _ (hR _ (am_brt (rg := am_in 0) (P := (0 : Int) = 0) (A := R (127, [some (aR 8 0), some (aI ((k : Nat) : Int)), some (aI mark), some (aI ((a : Nat) : Int)), some (aI s0), some (aI q), some (aI s), some (aI md), some (aI 0), some (aI (jf_touch (M 23 0 k) (M 24 0 k) (mark - s)))], [], am_mix [37, 38] g M)) (B := R (115, [some (aR 8 0), some (aI ((k : Nat) : Int)), some (aI mark), some (aI ((a : Nat) : Int)), some (aI s0), some (aI q), some (aI s), some (aI md), some (aI 0), some (aI (jf_touch (M 23 0 k) (M 24 0 k) (mark - s)))], [], am_mix [37, 38] g M)) (by omega) (by omega) ?_))))
          show R (127, [some (aR 8 0), some (aI ((k : Nat) : Int)), some (aI mark), some (aI ((a : Nat) : Int)), some (aI s0), some (aI q), some (aI s), some (aI md), some (aI 0), some (aI (jf_touch (M 23 0 k) (M 24 0 k) (mark - s)))], [], am_mix [37, 38] g M)
          refine hR _ (hR _ (hR _ (hR _ (hR _ (am_brt (rg := am_in 0) (P := (0 : Int) = 0) (A := R (142, [some (aR 8 0), some (aI ((k : Nat) : Int)), some (aI mark), some (aI ((a : Nat) : Int)), some (aI s0), some (aI q), some (aI s), some (aI md), some (aI 0), some (aI (jf_touch (M 23 0 k) (M 24 0 k) (mark - s)))], [aI md], am_mix [37, 38] g M)) (B := R (138, [some (aR 8 0), some (aI ((k : Nat) : Int)), some (aI mark), some (aI ((a : Nat) : Int)), some (aI s0), some (aI q), some (aI s), some (aI md), some (aI 0), some (aI (jf_touch (M 23 0 k) (M 24 0 k) (mark - s)))], [aI md], am_mix [37, 38] g M)) (by omega) (by omega) ?_)))))
          show R (142, [some (aR 8 0), some (aI ((k : Nat) : Int)), some (aI mark), some (aI ((a : Nat) : Int)), some (aI s0), some (aI q), some (aI s), some (aI md), some (aI 0), some (aI (jf_touch (M 23 0 k) (M 24 0 k) (mark - s)))], [aI md], am_mix [37, 38] g M)
          refine hR _ (hR _ (hR _ (hR _ (?_))))
          show R (58, [some (aR 8 0), some (aI ((k : Nat) : Int)), some (aI mark), some (aI ((a : Nat) : Int)), some (aI s0), some (aI q), some (aI s), some (aI (md + 0)), some (aI 0), some (aI (jf_touch (M 23 0 k) (M 24 0 k) (mark - s)))], [], am_mix [37, 38] g M)
          refine hR _ (hR _ (am_brt (rg := am_in 0) (P := (0 : Int) = 0) (A := R (149, [some (aR 8 0), some (aI ((k : Nat) : Int)), some (aI mark), some (aI ((a : Nat) : Int)), some (aI s0), some (aI q), some (aI s), some (aI (md + 0)), some (aI 0), some (aI (jf_touch (M 23 0 k) (M 24 0 k) (mark - s)))], [], am_mix [37, 38] g M)) (B := R (63, [some (aR 8 0), some (aI ((k : Nat) : Int)), some (aI mark), some (aI ((a : Nat) : Int)), some (aI s0), some (aI q), some (aI s), some (aI (md + 0)), some (aI 0), some (aI (jf_touch (M 23 0 k) (M 24 0 k) (mark - s)))], [], am_mix [37, 38] g M)) (by omega) (by omega) ?_))
          show R (149, [some (aR 8 0), some (aI ((k : Nat) : Int)), some (aI mark), some (aI ((a : Nat) : Int)), some (aI s0), some (aI q), some (aI s), some (aI (md + 0)), some (aI 0), some (aI (jf_touch (M 23 0 k) (M 24 0 k) (mark - s)))], [], am_mix [37, 38] g M)
          refine hR _ (hR _ (hR _ (hR _ (?_))))
          show R (156, [some (aR 8 0), some (aI ((k : Nat) : Int)), some (aI mark), some (aI ((a : Nat) : Int)), some (aI s0), some (aI q), some (aI s), some (aI (md + 0)), some (aI 0), some (aI (jf_touch (M 23 0 k) (M 24 0 k) (mark - s)))], [aI s, aI ((a : Nat) : Int), aR 39 0], am_mix [37, 38] g M)
          refine hR _ ⟨(show 0 ≤ (((a : Nat) : Int) : Int) ∧ (((a : Nat) : Int) : Int) < 5 from (by omega)), ?_⟩
          show R (157, [some (aR 8 0), some (aI ((k : Nat) : Int)), some (aI mark), some (aI ((a : Nat) : Int)), some (aI s0), some (aI q), some (aI s), some (aI (md + 0)), some (aI 0), some (aI (jf_touch (M 23 0 k) (M 24 0 k) (mark - s)))], [], am_wr (am_mix [37, 38] g M) 39 0 a s)
          refine hR _ (hR _ (hR _ (hR _ (hR _ (hR _ (hR _ (hR _ (hR _ (hR _ (?_))))))))))
          show R (171, [some (aR 8 0), some (aI ((k : Nat) : Int)), some (aI mark), some (aI ((a : Nat) : Int)), some (aI s0), some (aI q), some (aI s), some (aI (md + 0)), some (aI 0), some (aI (jf_touch (M 23 0 k) (M 24 0 k) (mark - s)))], [aI ((q + ((a : Nat) : Int)) + (5 * (md + 0))), aI ((a : Nat) : Int), aR 40 0], am_wr (am_mix [37, 38] g M) 39 0 a s)
          refine hR _ ⟨(show 0 ≤ (((a : Nat) : Int) : Int) ∧ (((a : Nat) : Int) : Int) < 5 from (by omega)), ?_⟩
          show R (172, [some (aR 8 0), some (aI ((k : Nat) : Int)), some (aI mark), some (aI ((a : Nat) : Int)), some (aI s0), some (aI q), some (aI s), some (aI (md + 0)), some (aI 0), some (aI (jf_touch (M 23 0 k) (M 24 0 k) (mark - s)))], [], am_wr (am_wr (am_mix [37, 38] g M) 39 0 a s) 40 0 a ((q + ((a : Nat) : Int)) + (5 * (md + 0))))
          refine hR _ (show K none (am_wr (am_wr (am_mix [37, 38] g M) 39 0 a s) 40 0 a ((q + ((a : Nat) : Int)) + (5 * (md + 0)))) from ?_)
          rw [jf_tch] at hfin
          refine am_fin (S := [37, 38, 39, 40]) (F := fun m => (m 39 0 a, m 40 0 a) = jf_tch (M 23 0 k) (M 24 0 k) (M 22 0 3) mark 30 (min (M 22 0 3) (min (M 22 0 3) (s0 + ((a : Nat) : Int) * rn) + M 22 0 1), q + ((a : Nat) : Int)) ∧ ∀ j, j ≠ a → m 39 0 j = M 39 0 j ∧ m 40 0 j = M 40 0 j) ((((am_ag.rf).mix rfl).wr rfl).wr rfl) ⟨?_, ?_⟩ (fun g hg => h g hg.1 hg.2)
          · rw [← hfin]
            exact Prod.ext (show (am_wr (am_wr (am_mix [37, 38] g M) 39 0 a s) 40 0 a ((q + ((a : Nat) : Int)) + (5 * (md + 0)))) 39 0 a = s from (am_wr_ne (Or.inl (by decide))).trans am_wr_eq) (show (am_wr (am_wr (am_mix [37, 38] g M) 39 0 a s) 40 0 a ((q + ((a : Nat) : Int)) + (5 * (md + 0)))) 40 0 a = q + ((a : Nat) : Int) + 5 * md from am_wr_eq.trans (by omega))
          · intro j hj
            exact ⟨show (am_wr (am_wr (am_mix [37, 38] g M) 39 0 a s) 40 0 a ((q + ((a : Nat) : Int)) + (5 * (md + 0)))) 39 0 j = _ from (am_wr_ne (Or.inl (by decide))).trans (am_wr_ne (Or.inr (Or.inr hj))), show (am_wr (am_wr (am_mix [37, 38] g M) 39 0 a s) 40 0 a ((q + ((a : Nat) : Int)) + (5 * (md + 0)))) 40 0 j = _ from (am_wr_ne (Or.inr (Or.inr hj))).trans (am_wr_ne (Or.inl (by decide)))⟩
        · refine hR _ (hR _ (am_brc (rg := am_in (jf_touch (M 23 0 k) (M 24 0 k) (mark - s))) (P := (jf_touch (M 23 0 k) (M 24 0 k) (mark - s)) ≤ 0) (A := R (107, [some (aR 8 0), some (aI ((k : Nat) : Int)), some (aI mark), some (aI ((a : Nat) : Int)), some (aI s0), some (aI q), some (aI s), some (aI md), some (aI 1), some (aI (jf_touch (M 23 0 k) (M 24 0 k) (mark - s)))], [], am_mix [37, 38] g M)) (B := R (96, [some (aR 8 0), some (aI ((k : Nat) : Int)), some (aI mark), some (aI ((a : Nat) : Int)), some (aI s0), some (aI q), some (aI s), some (aI md), some (aI 1), some (aI (jf_touch (M 23 0 k) (M 24 0 k) (mark - s)))], [], am_mix [37, 38] g M)) (by omega) (fun c93 => ?_) (fun c93 => ?_)))
          · refine hR _ (hR _ (hR _ (hR _ (am_brt (rg := am_in 0) (P := (0 : Int) = 0) (A := R (127, [some (aR 8 0), some (aI ((k : Nat) : Int)), some (aI mark), some (aI ((a : Nat) : Int)), some (aI s0), some (aI q), some (aI s), some (aI md), some (aI 0), some (aI (jf_touch (M 23 0 k) (M 24 0 k) (mark - s)))], [], am_mix [37, 38] g M)) (B := R (115, [some (aR 8 0), some (aI ((k : Nat) : Int)), some (aI mark), some (aI ((a : Nat) : Int)), some (aI s0), some (aI q), some (aI s), some (aI md), some (aI 0), some (aI (jf_touch (M 23 0 k) (M 24 0 k) (mark - s)))], [], am_mix [37, 38] g M)) (by omega) (by omega) ?_))))
            show R (127, [some (aR 8 0), some (aI ((k : Nat) : Int)), some (aI mark), some (aI ((a : Nat) : Int)), some (aI s0), some (aI q), some (aI s), some (aI md), some (aI 0), some (aI (jf_touch (M 23 0 k) (M 24 0 k) (mark - s)))], [], am_mix [37, 38] g M)
            refine hR _ (hR _ (hR _ (hR _ (hR _ (am_brt (rg := am_in 0) (P := (0 : Int) = 0) (A := R (142, [some (aR 8 0), some (aI ((k : Nat) : Int)), some (aI mark), some (aI ((a : Nat) : Int)), some (aI s0), some (aI q), some (aI s), some (aI md), some (aI 0), some (aI (jf_touch (M 23 0 k) (M 24 0 k) (mark - s)))], [aI md], am_mix [37, 38] g M)) (B := R (138, [some (aR 8 0), some (aI ((k : Nat) : Int)), some (aI mark), some (aI ((a : Nat) : Int)), some (aI s0), some (aI q), some (aI s), some (aI md), some (aI 0), some (aI (jf_touch (M 23 0 k) (M 24 0 k) (mark - s)))], [aI md], am_mix [37, 38] g M)) (by omega) (by omega) ?_)))))
            show R (142, [some (aR 8 0), some (aI ((k : Nat) : Int)), some (aI mark), some (aI ((a : Nat) : Int)), some (aI s0), some (aI q), some (aI s), some (aI md), some (aI 0), some (aI (jf_touch (M 23 0 k) (M 24 0 k) (mark - s)))], [aI md], am_mix [37, 38] g M)
            refine hR _ (hR _ (hR _ (hR _ (?_))))
            show R (58, [some (aR 8 0), some (aI ((k : Nat) : Int)), some (aI mark), some (aI ((a : Nat) : Int)), some (aI s0), some (aI q), some (aI s), some (aI (md + 0)), some (aI 0), some (aI (jf_touch (M 23 0 k) (M 24 0 k) (mark - s)))], [], am_mix [37, 38] g M)
            refine hR _ (hR _ (am_brt (rg := am_in 0) (P := (0 : Int) = 0) (A := R (149, [some (aR 8 0), some (aI ((k : Nat) : Int)), some (aI mark), some (aI ((a : Nat) : Int)), some (aI s0), some (aI q), some (aI s), some (aI (md + 0)), some (aI 0), some (aI (jf_touch (M 23 0 k) (M 24 0 k) (mark - s)))], [], am_mix [37, 38] g M)) (B := R (63, [some (aR 8 0), some (aI ((k : Nat) : Int)), some (aI mark), some (aI ((a : Nat) : Int)), some (aI s0), some (aI q), some (aI s), some (aI (md + 0)), some (aI 0), some (aI (jf_touch (M 23 0 k) (M 24 0 k) (mark - s)))], [], am_mix [37, 38] g M)) (by omega) (by omega) ?_))
            show R (149, [some (aR 8 0), some (aI ((k : Nat) : Int)), some (aI mark), some (aI ((a : Nat) : Int)), some (aI s0), some (aI q), some (aI s), some (aI (md + 0)), some (aI 0), some (aI (jf_touch (M 23 0 k) (M 24 0 k) (mark - s)))], [], am_mix [37, 38] g M)
            refine hR _ (hR _ (hR _ (hR _ (?_))))
            show R (156, [some (aR 8 0), some (aI ((k : Nat) : Int)), some (aI mark), some (aI ((a : Nat) : Int)), some (aI s0), some (aI q), some (aI s), some (aI (md + 0)), some (aI 0), some (aI (jf_touch (M 23 0 k) (M 24 0 k) (mark - s)))], [aI s, aI ((a : Nat) : Int), aR 39 0], am_mix [37, 38] g M)
            refine hR _ ⟨(show 0 ≤ (((a : Nat) : Int) : Int) ∧ (((a : Nat) : Int) : Int) < 5 from (by omega)), ?_⟩
            show R (157, [some (aR 8 0), some (aI ((k : Nat) : Int)), some (aI mark), some (aI ((a : Nat) : Int)), some (aI s0), some (aI q), some (aI s), some (aI (md + 0)), some (aI 0), some (aI (jf_touch (M 23 0 k) (M 24 0 k) (mark - s)))], [], am_wr (am_mix [37, 38] g M) 39 0 a s)
            refine hR _ (hR _ (hR _ (hR _ (hR _ (hR _ (hR _ (hR _ (hR _ (hR _ (?_))))))))))
            show R (171, [some (aR 8 0), some (aI ((k : Nat) : Int)), some (aI mark), some (aI ((a : Nat) : Int)), some (aI s0), some (aI q), some (aI s), some (aI (md + 0)), some (aI 0), some (aI (jf_touch (M 23 0 k) (M 24 0 k) (mark - s)))], [aI ((q + ((a : Nat) : Int)) + (5 * (md + 0))), aI ((a : Nat) : Int), aR 40 0], am_wr (am_mix [37, 38] g M) 39 0 a s)
            refine hR _ ⟨(show 0 ≤ (((a : Nat) : Int) : Int) ∧ (((a : Nat) : Int) : Int) < 5 from (by omega)), ?_⟩
            show R (172, [some (aR 8 0), some (aI ((k : Nat) : Int)), some (aI mark), some (aI ((a : Nat) : Int)), some (aI s0), some (aI q), some (aI s), some (aI (md + 0)), some (aI 0), some (aI (jf_touch (M 23 0 k) (M 24 0 k) (mark - s)))], [], am_wr (am_wr (am_mix [37, 38] g M) 39 0 a s) 40 0 a ((q + ((a : Nat) : Int)) + (5 * (md + 0))))
            refine hR _ (show K none (am_wr (am_wr (am_mix [37, 38] g M) 39 0 a s) 40 0 a ((q + ((a : Nat) : Int)) + (5 * (md + 0)))) from ?_)
            rw [jf_tch] at hfin
            refine am_fin (S := [37, 38, 39, 40]) (F := fun m => (m 39 0 a, m 40 0 a) = jf_tch (M 23 0 k) (M 24 0 k) (M 22 0 3) mark 30 (min (M 22 0 3) (min (M 22 0 3) (s0 + ((a : Nat) : Int) * rn) + M 22 0 1), q + ((a : Nat) : Int)) ∧ ∀ j, j ≠ a → m 39 0 j = M 39 0 j ∧ m 40 0 j = M 40 0 j) ((((am_ag.rf).mix rfl).wr rfl).wr rfl) ⟨?_, ?_⟩ (fun g hg => h g hg.1 hg.2)
            · rw [← hfin]
              exact Prod.ext (show (am_wr (am_wr (am_mix [37, 38] g M) 39 0 a s) 40 0 a ((q + ((a : Nat) : Int)) + (5 * (md + 0)))) 39 0 a = s from (am_wr_ne (Or.inl (by decide))).trans am_wr_eq) (show (am_wr (am_wr (am_mix [37, 38] g M) 39 0 a s) 40 0 a ((q + ((a : Nat) : Int)) + (5 * (md + 0)))) 40 0 a = q + ((a : Nat) : Int) + 5 * md from am_wr_eq.trans (by omega))
            · intro j hj
              exact ⟨show (am_wr (am_wr (am_mix [37, 38] g M) 39 0 a s) 40 0 a ((q + ((a : Nat) : Int)) + (5 * (md + 0)))) 39 0 j = _ from (am_wr_ne (Or.inl (by decide))).trans (am_wr_ne (Or.inr (Or.inr hj))), show (am_wr (am_wr (am_mix [37, 38] g M) 39 0 a s) 40 0 a ((q + ((a : Nat) : Int)) + (5 * (md + 0)))) 40 0 j = _ from (am_wr_ne (Or.inr (Or.inr hj))).trans (am_wr_ne (Or.inl (by decide)))⟩
          · refine hR _ (hR _ (hR _ (am_brt (rg := am_in md ∧ am_in 30) (P := 30 ≤ md) (A := R (107, [some (aR 8 0), some (aI ((k : Nat) : Int)), some (aI mark), some (aI ((a : Nat) : Int)), some (aI s0), some (aI q), some (aI s), some (aI md), some (aI 1), some (aI (jf_touch (M 23 0 k) (M 24 0 k) (mark - s)))], [], am_mix [37, 38] g M)) (B := R (103, [some (aR 8 0), some (aI ((k : Nat) : Int)), some (aI mark), some (aI ((a : Nat) : Int)), some (aI s0), some (aI q), some (aI s), some (aI md), some (aI 1), some (aI (jf_touch (M 23 0 k) (M 24 0 k) (mark - s)))], [], am_mix [37, 38] g M)) (by omega) (by omega) ?_)))
            show R (107, [some (aR 8 0), some (aI ((k : Nat) : Int)), some (aI mark), some (aI ((a : Nat) : Int)), some (aI s0), some (aI q), some (aI s), some (aI md), some (aI 1), some (aI (jf_touch (M 23 0 k) (M 24 0 k) (mark - s)))], [], am_mix [37, 38] g M)
            refine hR _ (hR _ (hR _ (hR _ (am_brt (rg := am_in 0) (P := (0 : Int) = 0) (A := R (127, [some (aR 8 0), some (aI ((k : Nat) : Int)), some (aI mark), some (aI ((a : Nat) : Int)), some (aI s0), some (aI q), some (aI s), some (aI md), some (aI 0), some (aI (jf_touch (M 23 0 k) (M 24 0 k) (mark - s)))], [], am_mix [37, 38] g M)) (B := R (115, [some (aR 8 0), some (aI ((k : Nat) : Int)), some (aI mark), some (aI ((a : Nat) : Int)), some (aI s0), some (aI q), some (aI s), some (aI md), some (aI 0), some (aI (jf_touch (M 23 0 k) (M 24 0 k) (mark - s)))], [], am_mix [37, 38] g M)) (by omega) (by omega) ?_))))
            show R (127, [some (aR 8 0), some (aI ((k : Nat) : Int)), some (aI mark), some (aI ((a : Nat) : Int)), some (aI s0), some (aI q), some (aI s), some (aI md), some (aI 0), some (aI (jf_touch (M 23 0 k) (M 24 0 k) (mark - s)))], [], am_mix [37, 38] g M)
            refine hR _ (hR _ (hR _ (hR _ (hR _ (am_brt (rg := am_in 0) (P := (0 : Int) = 0) (A := R (142, [some (aR 8 0), some (aI ((k : Nat) : Int)), some (aI mark), some (aI ((a : Nat) : Int)), some (aI s0), some (aI q), some (aI s), some (aI md), some (aI 0), some (aI (jf_touch (M 23 0 k) (M 24 0 k) (mark - s)))], [aI md], am_mix [37, 38] g M)) (B := R (138, [some (aR 8 0), some (aI ((k : Nat) : Int)), some (aI mark), some (aI ((a : Nat) : Int)), some (aI s0), some (aI q), some (aI s), some (aI md), some (aI 0), some (aI (jf_touch (M 23 0 k) (M 24 0 k) (mark - s)))], [aI md], am_mix [37, 38] g M)) (by omega) (by omega) ?_)))))
            show R (142, [some (aR 8 0), some (aI ((k : Nat) : Int)), some (aI mark), some (aI ((a : Nat) : Int)), some (aI s0), some (aI q), some (aI s), some (aI md), some (aI 0), some (aI (jf_touch (M 23 0 k) (M 24 0 k) (mark - s)))], [aI md], am_mix [37, 38] g M)
            refine hR _ (hR _ (hR _ (hR _ (?_))))
            show R (58, [some (aR 8 0), some (aI ((k : Nat) : Int)), some (aI mark), some (aI ((a : Nat) : Int)), some (aI s0), some (aI q), some (aI s), some (aI (md + 0)), some (aI 0), some (aI (jf_touch (M 23 0 k) (M 24 0 k) (mark - s)))], [], am_mix [37, 38] g M)
            refine hR _ (hR _ (am_brt (rg := am_in 0) (P := (0 : Int) = 0) (A := R (149, [some (aR 8 0), some (aI ((k : Nat) : Int)), some (aI mark), some (aI ((a : Nat) : Int)), some (aI s0), some (aI q), some (aI s), some (aI (md + 0)), some (aI 0), some (aI (jf_touch (M 23 0 k) (M 24 0 k) (mark - s)))], [], am_mix [37, 38] g M)) (B := R (63, [some (aR 8 0), some (aI ((k : Nat) : Int)), some (aI mark), some (aI ((a : Nat) : Int)), some (aI s0), some (aI q), some (aI s), some (aI (md + 0)), some (aI 0), some (aI (jf_touch (M 23 0 k) (M 24 0 k) (mark - s)))], [], am_mix [37, 38] g M)) (by omega) (by omega) ?_))
            show R (149, [some (aR 8 0), some (aI ((k : Nat) : Int)), some (aI mark), some (aI ((a : Nat) : Int)), some (aI s0), some (aI q), some (aI s), some (aI (md + 0)), some (aI 0), some (aI (jf_touch (M 23 0 k) (M 24 0 k) (mark - s)))], [], am_mix [37, 38] g M)
            refine hR _ (hR _ (hR _ (hR _ (?_))))
            show R (156, [some (aR 8 0), some (aI ((k : Nat) : Int)), some (aI mark), some (aI ((a : Nat) : Int)), some (aI s0), some (aI q), some (aI s), some (aI (md + 0)), some (aI 0), some (aI (jf_touch (M 23 0 k) (M 24 0 k) (mark - s)))], [aI s, aI ((a : Nat) : Int), aR 39 0], am_mix [37, 38] g M)
            refine hR _ ⟨(show 0 ≤ (((a : Nat) : Int) : Int) ∧ (((a : Nat) : Int) : Int) < 5 from (by omega)), ?_⟩
            show R (157, [some (aR 8 0), some (aI ((k : Nat) : Int)), some (aI mark), some (aI ((a : Nat) : Int)), some (aI s0), some (aI q), some (aI s), some (aI (md + 0)), some (aI 0), some (aI (jf_touch (M 23 0 k) (M 24 0 k) (mark - s)))], [], am_wr (am_mix [37, 38] g M) 39 0 a s)
            refine hR _ (hR _ (hR _ (hR _ (hR _ (hR _ (hR _ (hR _ (hR _ (hR _ (?_))))))))))
            show R (171, [some (aR 8 0), some (aI ((k : Nat) : Int)), some (aI mark), some (aI ((a : Nat) : Int)), some (aI s0), some (aI q), some (aI s), some (aI (md + 0)), some (aI 0), some (aI (jf_touch (M 23 0 k) (M 24 0 k) (mark - s)))], [aI ((q + ((a : Nat) : Int)) + (5 * (md + 0))), aI ((a : Nat) : Int), aR 40 0], am_wr (am_mix [37, 38] g M) 39 0 a s)
            refine hR _ ⟨(show 0 ≤ (((a : Nat) : Int) : Int) ∧ (((a : Nat) : Int) : Int) < 5 from (by omega)), ?_⟩
            show R (172, [some (aR 8 0), some (aI ((k : Nat) : Int)), some (aI mark), some (aI ((a : Nat) : Int)), some (aI s0), some (aI q), some (aI s), some (aI (md + 0)), some (aI 0), some (aI (jf_touch (M 23 0 k) (M 24 0 k) (mark - s)))], [], am_wr (am_wr (am_mix [37, 38] g M) 39 0 a s) 40 0 a ((q + ((a : Nat) : Int)) + (5 * (md + 0))))
            refine hR _ (show K none (am_wr (am_wr (am_mix [37, 38] g M) 39 0 a s) 40 0 a ((q + ((a : Nat) : Int)) + (5 * (md + 0)))) from ?_)
            rw [jf_tch] at hfin
            refine am_fin (S := [37, 38, 39, 40]) (F := fun m => (m 39 0 a, m 40 0 a) = jf_tch (M 23 0 k) (M 24 0 k) (M 22 0 3) mark 30 (min (M 22 0 3) (min (M 22 0 3) (s0 + ((a : Nat) : Int) * rn) + M 22 0 1), q + ((a : Nat) : Int)) ∧ ∀ j, j ≠ a → m 39 0 j = M 39 0 j ∧ m 40 0 j = M 40 0 j) ((((am_ag.rf).mix rfl).wr rfl).wr rfl) ⟨?_, ?_⟩ (fun g hg => h g hg.1 hg.2)
            · rw [← hfin]
              exact Prod.ext (show (am_wr (am_wr (am_mix [37, 38] g M) 39 0 a s) 40 0 a ((q + ((a : Nat) : Int)) + (5 * (md + 0)))) 39 0 a = s from (am_wr_ne (Or.inl (by decide))).trans am_wr_eq) (show (am_wr (am_wr (am_mix [37, 38] g M) 39 0 a s) 40 0 a ((q + ((a : Nat) : Int)) + (5 * (md + 0)))) 40 0 a = q + ((a : Nat) : Int) + 5 * md from am_wr_eq.trans (by omega))
            · intro j hj
              exact ⟨show (am_wr (am_wr (am_mix [37, 38] g M) 39 0 a s) 40 0 a ((q + ((a : Nat) : Int)) + (5 * (md + 0)))) 39 0 j = _ from (am_wr_ne (Or.inl (by decide))).trans (am_wr_ne (Or.inr (Or.inr hj))), show (am_wr (am_wr (am_mix [37, 38] g M) 39 0 a s) 40 0 a ((q + ((a : Nat) : Int)) + (5 * (md + 0)))) 40 0 j = _ from (am_wr_ne (Or.inr (Or.inr hj))).trans (am_wr_ne (Or.inl (by decide)))⟩
    | succ n ih =>
      intro s md o9 g hs0 hs1 hin hmd hfin
      refine hR _ (hR _ (am_brf (rg := am_in 1) (P := (1 : Int) = 0) (A := R (149, [some (aR 8 0), some (aI ((k : Nat) : Int)), some (aI mark), some (aI ((a : Nat) : Int)), some (aI s0), some (aI q), some (aI s), some (aI md), some (aI 1), o9], [], am_mix [37, 38] g M)) (B := R (63, [some (aR 8 0), some (aI ((k : Nat) : Int)), some (aI mark), some (aI ((a : Nat) : Int)), some (aI s0), some (aI q), some (aI s), some (aI md), some (aI 1), o9], [], am_mix [37, 38] g M)) (by omega) (by omega) ?_))
      show R (63, [some (aR 8 0), some (aI ((k : Nat) : Int)), some (aI mark), some (aI ((a : Nat) : Int)), some (aI s0), some (aI q), some (aI s), some (aI md), some (aI 1), o9], [], am_mix [37, 38] g M)
      refine hR _ (hR _ (hR _ (hR _ (hR _ (?_)))))
      show R (69, [some (aR 8 0), some (aI ((k : Nat) : Int)), some (aI mark), some (aI ((a : Nat) : Int)), some (aI s0), some (aI q), some (aI s), some (aI md), some (aI 1), o9], [aI (mark - s), aI ((k : Nat) : Int), aR 8 0], am_mix [37, 38] g M)
      refine hR _ (sm_touchOf (by omega) hk hkd hmo (by omega) ?_)
      have ht69 := jf_touch_b (kind := M 23 0 k) (more := M 24 0 k) (x := (mark - s)) (by omega)
      show R (72, [some (aR 8 0), some (aI ((k : Nat) : Int)), some (aI mark), some (aI ((a : Nat) : Int)), some (aI s0), some (aI q), some (aI s), some (aI md), some (aI 1), o9], [aI (jf_touch (M 23 0 k) (M 24 0 k) (mark - s))], am_mix [37, 38] g M)
      refine hR _ (hR _ (hR _ (hR _ (am_brc (rg := am_in s ∧ am_in mark) (P := mark ≤ s) (A := R (107, [some (aR 8 0), some (aI ((k : Nat) : Int)), some (aI mark), some (aI ((a : Nat) : Int)), some (aI s0), some (aI q), some (aI s), some (aI md), some (aI 1), some (aI (jf_touch (M 23 0 k) (M 24 0 k) (mark - s)))], [], am_mix [37, 38] g M)) (B := R (80, [some (aR 8 0), some (aI ((k : Nat) : Int)), some (aI mark), some (aI ((a : Nat) : Int)), some (aI s0), some (aI q), some (aI s), some (aI md), some (aI 1), some (aI (jf_touch (M 23 0 k) (M 24 0 k) (mark - s)))], [], am_mix [37, 38] g M)) (by omega) (fun c77 => ?_) (fun c77 => ?_)))))
      · refine hR _ (hR _ (hR _ (hR _ (am_brt (rg := am_in 0) (P := (0 : Int) = 0) (A := R (127, [some (aR 8 0), some (aI ((k : Nat) : Int)), some (aI mark), some (aI ((a : Nat) : Int)), some (aI s0), some (aI q), some (aI s), some (aI md), some (aI 0), some (aI (jf_touch (M 23 0 k) (M 24 0 k) (mark - s)))], [], am_mix [37, 38] g M)) (B := R (115, [some (aR 8 0), some (aI ((k : Nat) : Int)), some (aI mark), some (aI ((a : Nat) : Int)), some (aI s0), some (aI q), some (aI s), some (aI md), some (aI 0), some (aI (jf_touch (M 23 0 k) (M 24 0 k) (mark - s)))], [], am_mix [37, 38] g M)) (by omega) (by omega) ?_))))
        show R (127, [some (aR 8 0), some (aI ((k : Nat) : Int)), some (aI mark), some (aI ((a : Nat) : Int)), some (aI s0), some (aI q), some (aI s), some (aI md), some (aI 0), some (aI (jf_touch (M 23 0 k) (M 24 0 k) (mark - s)))], [], am_mix [37, 38] g M)
        refine hR _ (hR _ (hR _ (hR _ (hR _ (am_brt (rg := am_in 0) (P := (0 : Int) = 0) (A := R (142, [some (aR 8 0), some (aI ((k : Nat) : Int)), some (aI mark), some (aI ((a : Nat) : Int)), some (aI s0), some (aI q), some (aI s), some (aI md), some (aI 0), some (aI (jf_touch (M 23 0 k) (M 24 0 k) (mark - s)))], [aI md], am_mix [37, 38] g M)) (B := R (138, [some (aR 8 0), some (aI ((k : Nat) : Int)), some (aI mark), some (aI ((a : Nat) : Int)), some (aI s0), some (aI q), some (aI s), some (aI md), some (aI 0), some (aI (jf_touch (M 23 0 k) (M 24 0 k) (mark - s)))], [aI md], am_mix [37, 38] g M)) (by omega) (by omega) ?_)))))
        show R (142, [some (aR 8 0), some (aI ((k : Nat) : Int)), some (aI mark), some (aI ((a : Nat) : Int)), some (aI s0), some (aI q), some (aI s), some (aI md), some (aI 0), some (aI (jf_touch (M 23 0 k) (M 24 0 k) (mark - s)))], [aI md], am_mix [37, 38] g M)
        refine hR _ (hR _ (hR _ (hR _ (?_))))
        show R (58, [some (aR 8 0), some (aI ((k : Nat) : Int)), some (aI mark), some (aI ((a : Nat) : Int)), some (aI s0), some (aI q), some (aI s), some (aI (md + 0)), some (aI 0), some (aI (jf_touch (M 23 0 k) (M 24 0 k) (mark - s)))], [], am_mix [37, 38] g M)
        refine hR _ (hR _ (am_brt (rg := am_in 0) (P := (0 : Int) = 0) (A := R (149, [some (aR 8 0), some (aI ((k : Nat) : Int)), some (aI mark), some (aI ((a : Nat) : Int)), some (aI s0), some (aI q), some (aI s), some (aI (md + 0)), some (aI 0), some (aI (jf_touch (M 23 0 k) (M 24 0 k) (mark - s)))], [], am_mix [37, 38] g M)) (B := R (63, [some (aR 8 0), some (aI ((k : Nat) : Int)), some (aI mark), some (aI ((a : Nat) : Int)), some (aI s0), some (aI q), some (aI s), some (aI (md + 0)), some (aI 0), some (aI (jf_touch (M 23 0 k) (M 24 0 k) (mark - s)))], [], am_mix [37, 38] g M)) (by omega) (by omega) ?_))
        show R (149, [some (aR 8 0), some (aI ((k : Nat) : Int)), some (aI mark), some (aI ((a : Nat) : Int)), some (aI s0), some (aI q), some (aI s), some (aI (md + 0)), some (aI 0), some (aI (jf_touch (M 23 0 k) (M 24 0 k) (mark - s)))], [], am_mix [37, 38] g M)
        refine hR _ (hR _ (hR _ (hR _ (?_))))
        show R (156, [some (aR 8 0), some (aI ((k : Nat) : Int)), some (aI mark), some (aI ((a : Nat) : Int)), some (aI s0), some (aI q), some (aI s), some (aI (md + 0)), some (aI 0), some (aI (jf_touch (M 23 0 k) (M 24 0 k) (mark - s)))], [aI s, aI ((a : Nat) : Int), aR 39 0], am_mix [37, 38] g M)
        refine hR _ ⟨(show 0 ≤ (((a : Nat) : Int) : Int) ∧ (((a : Nat) : Int) : Int) < 5 from (by omega)), ?_⟩
        show R (157, [some (aR 8 0), some (aI ((k : Nat) : Int)), some (aI mark), some (aI ((a : Nat) : Int)), some (aI s0), some (aI q), some (aI s), some (aI (md + 0)), some (aI 0), some (aI (jf_touch (M 23 0 k) (M 24 0 k) (mark - s)))], [], am_wr (am_mix [37, 38] g M) 39 0 a s)
        refine hR _ (hR _ (hR _ (hR _ (hR _ (hR _ (hR _ (hR _ (hR _ (hR _ (?_))))))))))
        show R (171, [some (aR 8 0), some (aI ((k : Nat) : Int)), some (aI mark), some (aI ((a : Nat) : Int)), some (aI s0), some (aI q), some (aI s), some (aI (md + 0)), some (aI 0), some (aI (jf_touch (M 23 0 k) (M 24 0 k) (mark - s)))], [aI ((q + ((a : Nat) : Int)) + (5 * (md + 0))), aI ((a : Nat) : Int), aR 40 0], am_wr (am_mix [37, 38] g M) 39 0 a s)
        refine hR _ ⟨(show 0 ≤ (((a : Nat) : Int) : Int) ∧ (((a : Nat) : Int) : Int) < 5 from (by omega)), ?_⟩
        show R (172, [some (aR 8 0), some (aI ((k : Nat) : Int)), some (aI mark), some (aI ((a : Nat) : Int)), some (aI s0), some (aI q), some (aI s), some (aI (md + 0)), some (aI 0), some (aI (jf_touch (M 23 0 k) (M 24 0 k) (mark - s)))], [], am_wr (am_wr (am_mix [37, 38] g M) 39 0 a s) 40 0 a ((q + ((a : Nat) : Int)) + (5 * (md + 0))))
        refine hR _ (show K none (am_wr (am_wr (am_mix [37, 38] g M) 39 0 a s) 40 0 a ((q + ((a : Nat) : Int)) + (5 * (md + 0)))) from ?_)
        rw [jf_tch_stop _ (by dsimp only; omega)] at hfin
        refine am_fin (S := [37, 38, 39, 40]) (F := fun m => (m 39 0 a, m 40 0 a) = jf_tch (M 23 0 k) (M 24 0 k) (M 22 0 3) mark 30 (min (M 22 0 3) (min (M 22 0 3) (s0 + ((a : Nat) : Int) * rn) + M 22 0 1), q + ((a : Nat) : Int)) ∧ ∀ j, j ≠ a → m 39 0 j = M 39 0 j ∧ m 40 0 j = M 40 0 j) ((((am_ag.rf).mix rfl).wr rfl).wr rfl) ⟨?_, ?_⟩ (fun g hg => h g hg.1 hg.2)
        · rw [← hfin]
          exact Prod.ext (show (am_wr (am_wr (am_mix [37, 38] g M) 39 0 a s) 40 0 a ((q + ((a : Nat) : Int)) + (5 * (md + 0)))) 39 0 a = s from (am_wr_ne (Or.inl (by decide))).trans am_wr_eq) (show (am_wr (am_wr (am_mix [37, 38] g M) 39 0 a s) 40 0 a ((q + ((a : Nat) : Int)) + (5 * (md + 0)))) 40 0 a = q + ((a : Nat) : Int) + 5 * md from am_wr_eq.trans (by omega))
        · intro j hj
          exact ⟨show (am_wr (am_wr (am_mix [37, 38] g M) 39 0 a s) 40 0 a ((q + ((a : Nat) : Int)) + (5 * (md + 0)))) 39 0 j = _ from (am_wr_ne (Or.inl (by decide))).trans (am_wr_ne (Or.inr (Or.inr hj))), show (am_wr (am_wr (am_mix [37, 38] g M) 39 0 a s) 40 0 a ((q + ((a : Nat) : Int)) + (5 * (md + 0)))) 40 0 j = _ from (am_wr_ne (Or.inr (Or.inr hj))).trans (am_wr_ne (Or.inl (by decide)))⟩
      · refine hR _ (hR _ (hR _ (hR _ (?_))))
        show R (87, [some (aR 8 0), some (aI ((k : Nat) : Int)), some (aI mark), some (aI ((a : Nat) : Int)), some (aI s0), some (aI q), some (aI s), some (aI md), some (aI 1), some (aI (jf_touch (M 23 0 k) (M 24 0 k) (mark - s)))], [aI 3, aR 22 0, aI s], am_mix [37, 38] g M)
        refine hR _ ⟨(show 0 ≤ (3 : Int) ∧ (3 : Int) < 4 from (by omega)), ?_⟩
        show R (88, [some (aR 8 0), some (aI ((k : Nat) : Int)), some (aI mark), some (aI ((a : Nat) : Int)), some (aI s0), some (aI q), some (aI s), some (aI md), some (aI 1), some (aI (jf_touch (M 23 0 k) (M 24 0 k) (mark - s)))], [aI (M 22 0 3), aI s], am_mix [37, 38] g M)
        refine hR _ (am_brc (rg := am_in s ∧ am_in (M 22 0 3)) (P := M 22 0 3 ≤ s) (A := R (107, [some (aR 8 0), some (aI ((k : Nat) : Int)), some (aI mark), some (aI ((a : Nat) : Int)), some (aI s0), some (aI q), some (aI s), some (aI md), some (aI 1), some (aI (jf_touch (M 23 0 k) (M 24 0 k) (mark - s)))], [], am_mix [37, 38] g M)) (B := R (91, [some (aR 8 0), some (aI ((k : Nat) : Int)), some (aI mark), some (aI ((a : Nat) : Int)), some (aI s0), some (aI q), some (aI s), some (aI md), some (aI 1), some (aI (jf_touch (M 23 0 k) (M 24 0 k) (mark - s)))], [], am_mix [37, 38] g M)) (by omega) (fun c88 => ?_) (fun c88 => ?_))
        · refine hR _ (hR _ (hR _ (hR _ (am_brt (rg := am_in 0) (P := (0 : Int) = 0) (A := R (127, [some (aR 8 0), some (aI ((k : Nat) : Int)), some (aI mark), some (aI ((a : Nat) : Int)), some (aI s0), some (aI q), some (aI s), some (aI md), some (aI 0), some (aI (jf_touch (M 23 0 k) (M 24 0 k) (mark - s)))], [], am_mix [37, 38] g M)) (B := R (115, [some (aR 8 0), some (aI ((k : Nat) : Int)), some (aI mark), some (aI ((a : Nat) : Int)), some (aI s0), some (aI q), some (aI s), some (aI md), some (aI 0), some (aI (jf_touch (M 23 0 k) (M 24 0 k) (mark - s)))], [], am_mix [37, 38] g M)) (by omega) (by omega) ?_))))
          show R (127, [some (aR 8 0), some (aI ((k : Nat) : Int)), some (aI mark), some (aI ((a : Nat) : Int)), some (aI s0), some (aI q), some (aI s), some (aI md), some (aI 0), some (aI (jf_touch (M 23 0 k) (M 24 0 k) (mark - s)))], [], am_mix [37, 38] g M)
          refine hR _ (hR _ (hR _ (hR _ (hR _ (am_brt (rg := am_in 0) (P := (0 : Int) = 0) (A := R (142, [some (aR 8 0), some (aI ((k : Nat) : Int)), some (aI mark), some (aI ((a : Nat) : Int)), some (aI s0), some (aI q), some (aI s), some (aI md), some (aI 0), some (aI (jf_touch (M 23 0 k) (M 24 0 k) (mark - s)))], [aI md], am_mix [37, 38] g M)) (B := R (138, [some (aR 8 0), some (aI ((k : Nat) : Int)), some (aI mark), some (aI ((a : Nat) : Int)), some (aI s0), some (aI q), some (aI s), some (aI md), some (aI 0), some (aI (jf_touch (M 23 0 k) (M 24 0 k) (mark - s)))], [aI md], am_mix [37, 38] g M)) (by omega) (by omega) ?_)))))
          show R (142, [some (aR 8 0), some (aI ((k : Nat) : Int)), some (aI mark), some (aI ((a : Nat) : Int)), some (aI s0), some (aI q), some (aI s), some (aI md), some (aI 0), some (aI (jf_touch (M 23 0 k) (M 24 0 k) (mark - s)))], [aI md], am_mix [37, 38] g M)
          refine hR _ (hR _ (hR _ (hR _ (?_))))
          show R (58, [some (aR 8 0), some (aI ((k : Nat) : Int)), some (aI mark), some (aI ((a : Nat) : Int)), some (aI s0), some (aI q), some (aI s), some (aI (md + 0)), some (aI 0), some (aI (jf_touch (M 23 0 k) (M 24 0 k) (mark - s)))], [], am_mix [37, 38] g M)
          refine hR _ (hR _ (am_brt (rg := am_in 0) (P := (0 : Int) = 0) (A := R (149, [some (aR 8 0), some (aI ((k : Nat) : Int)), some (aI mark), some (aI ((a : Nat) : Int)), some (aI s0), some (aI q), some (aI s), some (aI (md + 0)), some (aI 0), some (aI (jf_touch (M 23 0 k) (M 24 0 k) (mark - s)))], [], am_mix [37, 38] g M)) (B := R (63, [some (aR 8 0), some (aI ((k : Nat) : Int)), some (aI mark), some (aI ((a : Nat) : Int)), some (aI s0), some (aI q), some (aI s), some (aI (md + 0)), some (aI 0), some (aI (jf_touch (M 23 0 k) (M 24 0 k) (mark - s)))], [], am_mix [37, 38] g M)) (by omega) (by omega) ?_))
          show R (149, [some (aR 8 0), some (aI ((k : Nat) : Int)), some (aI mark), some (aI ((a : Nat) : Int)), some (aI s0), some (aI q), some (aI s), some (aI (md + 0)), some (aI 0), some (aI (jf_touch (M 23 0 k) (M 24 0 k) (mark - s)))], [], am_mix [37, 38] g M)
          refine hR _ (hR _ (hR _ (hR _ (?_))))
          show R (156, [some (aR 8 0), some (aI ((k : Nat) : Int)), some (aI mark), some (aI ((a : Nat) : Int)), some (aI s0), some (aI q), some (aI s), some (aI (md + 0)), some (aI 0), some (aI (jf_touch (M 23 0 k) (M 24 0 k) (mark - s)))], [aI s, aI ((a : Nat) : Int), aR 39 0], am_mix [37, 38] g M)
          refine hR _ ⟨(show 0 ≤ (((a : Nat) : Int) : Int) ∧ (((a : Nat) : Int) : Int) < 5 from (by omega)), ?_⟩
          show R (157, [some (aR 8 0), some (aI ((k : Nat) : Int)), some (aI mark), some (aI ((a : Nat) : Int)), some (aI s0), some (aI q), some (aI s), some (aI (md + 0)), some (aI 0), some (aI (jf_touch (M 23 0 k) (M 24 0 k) (mark - s)))], [], am_wr (am_mix [37, 38] g M) 39 0 a s)
          refine hR _ (hR _ (hR _ (hR _ (hR _ (hR _ (hR _ (hR _ (hR _ (hR _ (?_))))))))))
          show R (171, [some (aR 8 0), some (aI ((k : Nat) : Int)), some (aI mark), some (aI ((a : Nat) : Int)), some (aI s0), some (aI q), some (aI s), some (aI (md + 0)), some (aI 0), some (aI (jf_touch (M 23 0 k) (M 24 0 k) (mark - s)))], [aI ((q + ((a : Nat) : Int)) + (5 * (md + 0))), aI ((a : Nat) : Int), aR 40 0], am_wr (am_mix [37, 38] g M) 39 0 a s)
          refine hR _ ⟨(show 0 ≤ (((a : Nat) : Int) : Int) ∧ (((a : Nat) : Int) : Int) < 5 from (by omega)), ?_⟩
          show R (172, [some (aR 8 0), some (aI ((k : Nat) : Int)), some (aI mark), some (aI ((a : Nat) : Int)), some (aI s0), some (aI q), some (aI s), some (aI (md + 0)), some (aI 0), some (aI (jf_touch (M 23 0 k) (M 24 0 k) (mark - s)))], [], am_wr (am_wr (am_mix [37, 38] g M) 39 0 a s) 40 0 a ((q + ((a : Nat) : Int)) + (5 * (md + 0))))
          refine hR _ (show K none (am_wr (am_wr (am_mix [37, 38] g M) 39 0 a s) 40 0 a ((q + ((a : Nat) : Int)) + (5 * (md + 0)))) from ?_)
          rw [jf_tch_stop _ (by dsimp only; omega)] at hfin
          refine am_fin (S := [37, 38, 39, 40]) (F := fun m => (m 39 0 a, m 40 0 a) = jf_tch (M 23 0 k) (M 24 0 k) (M 22 0 3) mark 30 (min (M 22 0 3) (min (M 22 0 3) (s0 + ((a : Nat) : Int) * rn) + M 22 0 1), q + ((a : Nat) : Int)) ∧ ∀ j, j ≠ a → m 39 0 j = M 39 0 j ∧ m 40 0 j = M 40 0 j) ((((am_ag.rf).mix rfl).wr rfl).wr rfl) ⟨?_, ?_⟩ (fun g hg => h g hg.1 hg.2)
          · rw [← hfin]
            exact Prod.ext (show (am_wr (am_wr (am_mix [37, 38] g M) 39 0 a s) 40 0 a ((q + ((a : Nat) : Int)) + (5 * (md + 0)))) 39 0 a = s from (am_wr_ne (Or.inl (by decide))).trans am_wr_eq) (show (am_wr (am_wr (am_mix [37, 38] g M) 39 0 a s) 40 0 a ((q + ((a : Nat) : Int)) + (5 * (md + 0)))) 40 0 a = q + ((a : Nat) : Int) + 5 * md from am_wr_eq.trans (by omega))
          · intro j hj
            exact ⟨show (am_wr (am_wr (am_mix [37, 38] g M) 39 0 a s) 40 0 a ((q + ((a : Nat) : Int)) + (5 * (md + 0)))) 39 0 j = _ from (am_wr_ne (Or.inl (by decide))).trans (am_wr_ne (Or.inr (Or.inr hj))), show (am_wr (am_wr (am_mix [37, 38] g M) 39 0 a s) 40 0 a ((q + ((a : Nat) : Int)) + (5 * (md + 0)))) 40 0 j = _ from (am_wr_ne (Or.inr (Or.inr hj))).trans (am_wr_ne (Or.inl (by decide)))⟩
        · refine hR _ (hR _ (am_brc (rg := am_in (jf_touch (M 23 0 k) (M 24 0 k) (mark - s))) (P := (jf_touch (M 23 0 k) (M 24 0 k) (mark - s)) ≤ 0) (A := R (107, [some (aR 8 0), some (aI ((k : Nat) : Int)), some (aI mark), some (aI ((a : Nat) : Int)), some (aI s0), some (aI q), some (aI s), some (aI md), some (aI 1), some (aI (jf_touch (M 23 0 k) (M 24 0 k) (mark - s)))], [], am_mix [37, 38] g M)) (B := R (96, [some (aR 8 0), some (aI ((k : Nat) : Int)), some (aI mark), some (aI ((a : Nat) : Int)), some (aI s0), some (aI q), some (aI s), some (aI md), some (aI 1), some (aI (jf_touch (M 23 0 k) (M 24 0 k) (mark - s)))], [], am_mix [37, 38] g M)) (by omega) (fun c93 => ?_) (fun c93 => ?_)))
          · refine hR _ (hR _ (hR _ (hR _ (am_brt (rg := am_in 0) (P := (0 : Int) = 0) (A := R (127, [some (aR 8 0), some (aI ((k : Nat) : Int)), some (aI mark), some (aI ((a : Nat) : Int)), some (aI s0), some (aI q), some (aI s), some (aI md), some (aI 0), some (aI (jf_touch (M 23 0 k) (M 24 0 k) (mark - s)))], [], am_mix [37, 38] g M)) (B := R (115, [some (aR 8 0), some (aI ((k : Nat) : Int)), some (aI mark), some (aI ((a : Nat) : Int)), some (aI s0), some (aI q), some (aI s), some (aI md), some (aI 0), some (aI (jf_touch (M 23 0 k) (M 24 0 k) (mark - s)))], [], am_mix [37, 38] g M)) (by omega) (by omega) ?_))))
            show R (127, [some (aR 8 0), some (aI ((k : Nat) : Int)), some (aI mark), some (aI ((a : Nat) : Int)), some (aI s0), some (aI q), some (aI s), some (aI md), some (aI 0), some (aI (jf_touch (M 23 0 k) (M 24 0 k) (mark - s)))], [], am_mix [37, 38] g M)
            refine hR _ (hR _ (hR _ (hR _ (hR _ (am_brt (rg := am_in 0) (P := (0 : Int) = 0) (A := R (142, [some (aR 8 0), some (aI ((k : Nat) : Int)), some (aI mark), some (aI ((a : Nat) : Int)), some (aI s0), some (aI q), some (aI s), some (aI md), some (aI 0), some (aI (jf_touch (M 23 0 k) (M 24 0 k) (mark - s)))], [aI md], am_mix [37, 38] g M)) (B := R (138, [some (aR 8 0), some (aI ((k : Nat) : Int)), some (aI mark), some (aI ((a : Nat) : Int)), some (aI s0), some (aI q), some (aI s), some (aI md), some (aI 0), some (aI (jf_touch (M 23 0 k) (M 24 0 k) (mark - s)))], [aI md], am_mix [37, 38] g M)) (by omega) (by omega) ?_)))))
            show R (142, [some (aR 8 0), some (aI ((k : Nat) : Int)), some (aI mark), some (aI ((a : Nat) : Int)), some (aI s0), some (aI q), some (aI s), some (aI md), some (aI 0), some (aI (jf_touch (M 23 0 k) (M 24 0 k) (mark - s)))], [aI md], am_mix [37, 38] g M)
            refine hR _ (hR _ (hR _ (hR _ (?_))))
            show R (58, [some (aR 8 0), some (aI ((k : Nat) : Int)), some (aI mark), some (aI ((a : Nat) : Int)), some (aI s0), some (aI q), some (aI s), some (aI (md + 0)), some (aI 0), some (aI (jf_touch (M 23 0 k) (M 24 0 k) (mark - s)))], [], am_mix [37, 38] g M)
            refine hR _ (hR _ (am_brt (rg := am_in 0) (P := (0 : Int) = 0) (A := R (149, [some (aR 8 0), some (aI ((k : Nat) : Int)), some (aI mark), some (aI ((a : Nat) : Int)), some (aI s0), some (aI q), some (aI s), some (aI (md + 0)), some (aI 0), some (aI (jf_touch (M 23 0 k) (M 24 0 k) (mark - s)))], [], am_mix [37, 38] g M)) (B := R (63, [some (aR 8 0), some (aI ((k : Nat) : Int)), some (aI mark), some (aI ((a : Nat) : Int)), some (aI s0), some (aI q), some (aI s), some (aI (md + 0)), some (aI 0), some (aI (jf_touch (M 23 0 k) (M 24 0 k) (mark - s)))], [], am_mix [37, 38] g M)) (by omega) (by omega) ?_))
            show R (149, [some (aR 8 0), some (aI ((k : Nat) : Int)), some (aI mark), some (aI ((a : Nat) : Int)), some (aI s0), some (aI q), some (aI s), some (aI (md + 0)), some (aI 0), some (aI (jf_touch (M 23 0 k) (M 24 0 k) (mark - s)))], [], am_mix [37, 38] g M)
            refine hR _ (hR _ (hR _ (hR _ (?_))))
            show R (156, [some (aR 8 0), some (aI ((k : Nat) : Int)), some (aI mark), some (aI ((a : Nat) : Int)), some (aI s0), some (aI q), some (aI s), some (aI (md + 0)), some (aI 0), some (aI (jf_touch (M 23 0 k) (M 24 0 k) (mark - s)))], [aI s, aI ((a : Nat) : Int), aR 39 0], am_mix [37, 38] g M)
            refine hR _ ⟨(show 0 ≤ (((a : Nat) : Int) : Int) ∧ (((a : Nat) : Int) : Int) < 5 from (by omega)), ?_⟩
            show R (157, [some (aR 8 0), some (aI ((k : Nat) : Int)), some (aI mark), some (aI ((a : Nat) : Int)), some (aI s0), some (aI q), some (aI s), some (aI (md + 0)), some (aI 0), some (aI (jf_touch (M 23 0 k) (M 24 0 k) (mark - s)))], [], am_wr (am_mix [37, 38] g M) 39 0 a s)
            refine hR _ (hR _ (hR _ (hR _ (hR _ (hR _ (hR _ (hR _ (hR _ (hR _ (?_))))))))))
            show R (171, [some (aR 8 0), some (aI ((k : Nat) : Int)), some (aI mark), some (aI ((a : Nat) : Int)), some (aI s0), some (aI q), some (aI s), some (aI (md + 0)), some (aI 0), some (aI (jf_touch (M 23 0 k) (M 24 0 k) (mark - s)))], [aI ((q + ((a : Nat) : Int)) + (5 * (md + 0))), aI ((a : Nat) : Int), aR 40 0], am_wr (am_mix [37, 38] g M) 39 0 a s)
            refine hR _ ⟨(show 0 ≤ (((a : Nat) : Int) : Int) ∧ (((a : Nat) : Int) : Int) < 5 from (by omega)), ?_⟩
            show R (172, [some (aR 8 0), some (aI ((k : Nat) : Int)), some (aI mark), some (aI ((a : Nat) : Int)), some (aI s0), some (aI q), some (aI s), some (aI (md + 0)), some (aI 0), some (aI (jf_touch (M 23 0 k) (M 24 0 k) (mark - s)))], [], am_wr (am_wr (am_mix [37, 38] g M) 39 0 a s) 40 0 a ((q + ((a : Nat) : Int)) + (5 * (md + 0))))
            refine hR _ (show K none (am_wr (am_wr (am_mix [37, 38] g M) 39 0 a s) 40 0 a ((q + ((a : Nat) : Int)) + (5 * (md + 0)))) from ?_)
            rw [jf_tch_stop _ (by dsimp only; omega)] at hfin
            refine am_fin (S := [37, 38, 39, 40]) (F := fun m => (m 39 0 a, m 40 0 a) = jf_tch (M 23 0 k) (M 24 0 k) (M 22 0 3) mark 30 (min (M 22 0 3) (min (M 22 0 3) (s0 + ((a : Nat) : Int) * rn) + M 22 0 1), q + ((a : Nat) : Int)) ∧ ∀ j, j ≠ a → m 39 0 j = M 39 0 j ∧ m 40 0 j = M 40 0 j) ((((am_ag.rf).mix rfl).wr rfl).wr rfl) ⟨?_, ?_⟩ (fun g hg => h g hg.1 hg.2)
            · rw [← hfin]
              exact Prod.ext (show (am_wr (am_wr (am_mix [37, 38] g M) 39 0 a s) 40 0 a ((q + ((a : Nat) : Int)) + (5 * (md + 0)))) 39 0 a = s from (am_wr_ne (Or.inl (by decide))).trans am_wr_eq) (show (am_wr (am_wr (am_mix [37, 38] g M) 39 0 a s) 40 0 a ((q + ((a : Nat) : Int)) + (5 * (md + 0)))) 40 0 a = q + ((a : Nat) : Int) + 5 * md from am_wr_eq.trans (by omega))
            · intro j hj
              exact ⟨show (am_wr (am_wr (am_mix [37, 38] g M) 39 0 a s) 40 0 a ((q + ((a : Nat) : Int)) + (5 * (md + 0)))) 39 0 j = _ from (am_wr_ne (Or.inl (by decide))).trans (am_wr_ne (Or.inr (Or.inr hj))), show (am_wr (am_wr (am_mix [37, 38] g M) 39 0 a s) 40 0 a ((q + ((a : Nat) : Int)) + (5 * (md + 0)))) 40 0 j = _ from (am_wr_ne (Or.inr (Or.inr hj))).trans (am_wr_ne (Or.inl (by decide)))⟩
          · refine hR _ (hR _ (hR _ (am_brf (rg := am_in md ∧ am_in 30) (P := 30 ≤ md) (A := R (107, [some (aR 8 0), some (aI ((k : Nat) : Int)), some (aI mark), some (aI ((a : Nat) : Int)), some (aI s0), some (aI q), some (aI s), some (aI md), some (aI 1), some (aI (jf_touch (M 23 0 k) (M 24 0 k) (mark - s)))], [], am_mix [37, 38] g M)) (B := R (103, [some (aR 8 0), some (aI ((k : Nat) : Int)), some (aI mark), some (aI ((a : Nat) : Int)), some (aI s0), some (aI q), some (aI s), some (aI md), some (aI 1), some (aI (jf_touch (M 23 0 k) (M 24 0 k) (mark - s)))], [], am_mix [37, 38] g M)) (by omega) (by omega) ?_)))
            show R (103, [some (aR 8 0), some (aI ((k : Nat) : Int)), some (aI mark), some (aI ((a : Nat) : Int)), some (aI s0), some (aI q), some (aI s), some (aI md), some (aI 1), some (aI (jf_touch (M 23 0 k) (M 24 0 k) (mark - s)))], [], am_mix [37, 38] g M)
            refine hR _ (hR _ (hR _ (hR _ (hR _ (am_brf (rg := am_in 1) (P := (1 : Int) = 0) (A := R (127, [some (aR 8 0), some (aI ((k : Nat) : Int)), some (aI mark), some (aI ((a : Nat) : Int)), some (aI s0), some (aI q), some (aI s), some (aI md), some (aI 1), some (aI (jf_touch (M 23 0 k) (M 24 0 k) (mark - s)))], [], am_mix [37, 38] g M)) (B := R (115, [some (aR 8 0), some (aI ((k : Nat) : Int)), some (aI mark), some (aI ((a : Nat) : Int)), some (aI s0), some (aI q), some (aI s), some (aI md), some (aI 1), some (aI (jf_touch (M 23 0 k) (M 24 0 k) (mark - s)))], [], am_mix [37, 38] g M)) (by omega) (by omega) ?_)))))
            show R (115, [some (aR 8 0), some (aI ((k : Nat) : Int)), some (aI mark), some (aI ((a : Nat) : Int)), some (aI s0), some (aI q), some (aI s), some (aI md), some (aI 1), some (aI (jf_touch (M 23 0 k) (M 24 0 k) (mark - s)))], [], am_mix [37, 38] g M)
            refine hR _ (hR _ (hR _ (hR _ (?_))))
            show R (121, [some (aR 8 0), some (aI ((k : Nat) : Int)), some (aI mark), some (aI ((a : Nat) : Int)), some (aI s0), some (aI q), some (aI s), some (aI md), some (aI 1), some (aI (jf_touch (M 23 0 k) (M 24 0 k) (mark - s)))], [aI (s + (jf_touch (M 23 0 k) (M 24 0 k) (mark - s))), aR 8 0], am_mix [37, 38] g M)
            refine hR _ (sm_fullAt (by omega) hfu (by omega) ?_)
            show R (124, [some (aR 8 0), some (aI ((k : Nat) : Int)), some (aI mark), some (aI ((a : Nat) : Int)), some (aI s0), some (aI q), some (aI s), some (aI md), some (aI 1), some (aI (jf_touch (M 23 0 k) (M 24 0 k) (mark - s)))], [aI (min (M 22 0 3) (s + (jf_touch (M 23 0 k) (M 24 0 k) (mark - s))))], am_mix [37, 38] g M)
            refine hR _ (hR _ (hR _ (hR _ (hR _ (am_brf (rg := am_in 1) (P := (1 : Int) = 0) (A := R (142, [some (aR 8 0), some (aI ((k : Nat) : Int)), some (aI mark), some (aI ((a : Nat) : Int)), some (aI s0), some (aI q), some (aI (min (M 22 0 3) (s + (jf_touch (M 23 0 k) (M 24 0 k) (mark - s))))), some (aI md), some (aI 1), some (aI (jf_touch (M 23 0 k) (M 24 0 k) (mark - s)))], [aI md], am_mix [37, 38] g M)) (B := R (138, [some (aR 8 0), some (aI ((k : Nat) : Int)), some (aI mark), some (aI ((a : Nat) : Int)), some (aI s0), some (aI q), some (aI (min (M 22 0 3) (s + (jf_touch (M 23 0 k) (M 24 0 k) (mark - s))))), some (aI md), some (aI 1), some (aI (jf_touch (M 23 0 k) (M 24 0 k) (mark - s)))], [aI md], am_mix [37, 38] g M)) (by omega) (by omega) ?_)))))
            show R (138, [some (aR 8 0), some (aI ((k : Nat) : Int)), some (aI mark), some (aI ((a : Nat) : Int)), some (aI s0), some (aI q), some (aI (min (M 22 0 3) (s + (jf_touch (M 23 0 k) (M 24 0 k) (mark - s))))), some (aI md), some (aI 1), some (aI (jf_touch (M 23 0 k) (M 24 0 k) (mark - s)))], [aI md], am_mix [37, 38] g M)
            refine hR _ (hR _ (hR _ (hR _ (hR _ (?_)))))
            show R (58, [some (aR 8 0), some (aI ((k : Nat) : Int)), some (aI mark), some (aI ((a : Nat) : Int)), some (aI s0), some (aI q), some (aI (min (M 22 0 3) (s + (jf_touch (M 23 0 k) (M 24 0 k) (mark - s))))), some (aI (md + 1)), some (aI 1), some (aI (jf_touch (M 23 0 k) (M 24 0 k) (mark - s)))], [], am_mix [37, 38] g M)
            rw [jf_tch, if_pos ⟨by dsimp only; omega, by dsimp only; omega, by dsimp only; omega⟩] at hfin
            dsimp only at hfin
            refine ih _ _ _ _ ?_ ?_ ?_ ?_ ?_
            · omega
            · omega
            · omega
            · omega
            · rw [← hfin]
              congr 2
              omega
  have key1 : ∀ (n i : Nat) (s x : Int) (o8 o9 : Option am_V) (g : am_M), x = (i : Int) → i + n = a → s = min (M 22 0 3) (s0 + ((i : Nat) : Int) * rn) → R (7, [some (aR 8 0), some (aI ((k : Nat) : Int)), some (aI mark), some (aI ((a : Nat) : Int)), some (aI s0), some (aI q), some (aI s), some (aI x), o8, o9], [], am_mix [37, 38] g M) := by
    intro n
    induction n with
    | zero =>
      intro i s x o8 o9 g hx hin hsv
      subst hx
      have hm0 : 0 ≤ ((i : Nat) : Int) * rn := Int.mul_nonneg (by omega) (by omega)
      have hm1 : ((i : Nat) : Int) * rn ≤ 4 * 50 := Int.mul_le_mul (by omega) (by omega) (by omega) (by omega)
      refine hR _ (hR _ (hR _ (am_brt (rg := am_in ((i : Nat) : Int) ∧ am_in ((a : Nat) : Int)) (P := ((a : Nat) : Int) ≤ ((i : Nat) : Int)) (A := R (37, [some (aR 8 0), some (aI ((k : Nat) : Int)), some (aI mark), some (aI ((a : Nat) : Int)), some (aI s0), some (aI q), some (aI s), some (aI ((i : Nat) : Int)), o8, o9], [], am_mix [37, 38] g M)) (B := R (13, [some (aR 8 0), some (aI ((k : Nat) : Int)), some (aI mark), some (aI ((a : Nat) : Int)), some (aI s0), some (aI q), some (aI s), some (aI ((i : Nat) : Int)), o8, o9], [], am_mix [37, 38] g M)) (by omega) (by omega) ?_)))
      show R (37, [some (aR 8 0), some (aI ((k : Nat) : Int)), some (aI mark), some (aI ((a : Nat) : Int)), some (aI s0), some (aI q), some (aI s), some (aI ((i : Nat) : Int)), o8, o9], [], am_mix [37, 38] g M)
      refine hR _ (hR _ (hR _ (hR _ (hR _ (?_)))))
      show R (45, [some (aR 8 0), some (aI ((k : Nat) : Int)), some (aI mark), some (aI ((a : Nat) : Int)), some (aI s0), some (aI q), some (aI s), some (aI ((i : Nat) : Int)), o8, o9], [aI 1, aR 22 0, aI s, aR 8 0], am_mix [37, 38] g M)
      refine hR _ ⟨(show 0 ≤ (1 : Int) ∧ (1 : Int) < 4 from (by omega)), ?_⟩
      show R (46, [some (aR 8 0), some (aI ((k : Nat) : Int)), some (aI mark), some (aI ((a : Nat) : Int)), some (aI s0), some (aI q), some (aI s), some (aI ((i : Nat) : Int)), o8, o9], [aI (M 22 0 1), aI s, aR 8 0], am_mix [37, 38] g M)
      refine hR _ (?_)
      show R (47, [some (aR 8 0), some (aI ((k : Nat) : Int)), some (aI mark), some (aI ((a : Nat) : Int)), some (aI s0), some (aI q), some (aI s), some (aI ((i : Nat) : Int)), o8, o9], [aI (s + M 22 0 1), aR 8 0], am_mix [37, 38] g M)
      refine hR _ (sm_fullAt (by omega) hfu (by omega) ?_)
      show R (50, [some (aR 8 0), some (aI ((k : Nat) : Int)), some (aI mark), some (aI ((a : Nat) : Int)), some (aI s0), some (aI q), some (aI s), some (aI ((i : Nat) : Int)), o8, o9], [aI (min (M 22 0 3) (s + M 22 0 1))], am_mix [37, 38] g M)
      refine hR _ (hR _ (hR _ (hR _ (hR _ (?_)))))
      show R (58, [some (aR 8 0), some (aI ((k : Nat) : Int)), some (aI mark), some (aI ((a : Nat) : Int)), some (aI s0), some (aI q), some (aI (min (M 22 0 3) (s + M 22 0 1))), some (aI 0), some (aI 1), o9], [], am_mix [37, 38] g M)
      have hia : i = a := by omega
      subst hia
      rw [hsv]
      refine key2 30 _ 0 _ _ ?_ ?_ (by omega) (by omega) ?_
      · omega
      · omega
      · rw [show q + ((i : Nat) : Int) + 5 * 0 = q + ((i : Nat) : Int) by omega]
    | succ n ih =>
      intro i s x o8 o9 g hx hin hsv
      subst hx
      have hm0 : 0 ≤ ((i : Nat) : Int) * rn := Int.mul_nonneg (by omega) (by omega)
      have hm1 : ((i : Nat) : Int) * rn ≤ 4 * 50 := Int.mul_le_mul (by omega) (by omega) (by omega) (by omega)
      refine hR _ (hR _ (hR _ (am_brf (rg := am_in ((i : Nat) : Int) ∧ am_in ((a : Nat) : Int)) (P := ((a : Nat) : Int) ≤ ((i : Nat) : Int)) (A := R (37, [some (aR 8 0), some (aI ((k : Nat) : Int)), some (aI mark), some (aI ((a : Nat) : Int)), some (aI s0), some (aI q), some (aI s), some (aI ((i : Nat) : Int)), o8, o9], [], am_mix [37, 38] g M)) (B := R (13, [some (aR 8 0), some (aI ((k : Nat) : Int)), some (aI mark), some (aI ((a : Nat) : Int)), some (aI s0), some (aI q), some (aI s), some (aI ((i : Nat) : Int)), o8, o9], [], am_mix [37, 38] g M)) (by omega) (by omega) ?_)))
      show R (13, [some (aR 8 0), some (aI ((k : Nat) : Int)), some (aI mark), some (aI ((a : Nat) : Int)), some (aI s0), some (aI q), some (aI s), some (aI ((i : Nat) : Int)), o8, o9], [], am_mix [37, 38] g M)
      refine hR _ (hR _ (hR _ (hR _ (hR _ (hR _ (?_))))))
      show R (22, [some (aR 8 0), some (aI ((k : Nat) : Int)), some (aI mark), some (aI ((a : Nat) : Int)), some (aI s0), some (aI q), some (aI s), some (aI ((i : Nat) : Int)), o8, o9], [aI (M 455 0 0), aI ((k : Nat) : Int), aR 8 0, aI s, aR 8 0], am_mix [37, 38] g M)
      refine hR _ (sm_runsBy (r := r) (by omega) hk hkd hmo hr hr6 hwt hpr (by omega) (fun g139 => ?_))
      have hs22 : 1 ≤ (jf_rn (M 24 0 k) (M 22 0 2) (mo_tk M r 0) (M 455 0 0)) ∧ (jf_rn (M 24 0 k) (M 22 0 2) (mo_tk M r 0) (M 455 0 0)) ≤ 50 := jf_cl0 _
      dsimp only
      rw [am_mix_sub (S := [37, 38]) (S2 := [37, 38]) rfl]
      show R (25, [some (aR 8 0), some (aI ((k : Nat) : Int)), some (aI mark), some (aI ((a : Nat) : Int)), some (aI s0), some (aI q), some (aI s), some (aI ((i : Nat) : Int)), o8, o9], [aI (jf_rn (M 24 0 k) (M 22 0 2) (mo_tk M r 0) (M 455 0 0)), aI s, aR 8 0], am_mix [37, 38] g139 M)
      rw [show (jf_rn (M 24 0 k) (M 22 0 2) (mo_tk M r 0) (M 455 0 0)) = rn from hrn.symm]
      show R (25, [some (aR 8 0), some (aI ((k : Nat) : Int)), some (aI mark), some (aI ((a : Nat) : Int)), some (aI s0), some (aI q), some (aI s), some (aI ((i : Nat) : Int)), o8, o9], [aI rn, aI s, aR 8 0], am_mix [37, 38] g139 M)
      refine hR _ (?_)
      show R (26, [some (aR 8 0), some (aI ((k : Nat) : Int)), some (aI mark), some (aI ((a : Nat) : Int)), some (aI s0), some (aI q), some (aI s), some (aI ((i : Nat) : Int)), o8, o9], [aI (s + rn), aR 8 0], am_mix [37, 38] g139 M)
      refine hR _ (sm_fullAt (by omega) hfu (by omega) ?_)
      show R (29, [some (aR 8 0), some (aI ((k : Nat) : Int)), some (aI mark), some (aI ((a : Nat) : Int)), some (aI s0), some (aI q), some (aI s), some (aI ((i : Nat) : Int)), o8, o9], [aI (min (M 22 0 3) (s + rn))], am_mix [37, 38] g139 M)
      refine hR _ (hR _ (hR _ (?_)))
      show R (7, [some (aR 8 0), some (aI ((k : Nat) : Int)), some (aI mark), some (aI ((a : Nat) : Int)), some (aI s0), some (aI q), some (aI (min (M 22 0 3) (s + rn))), some (aI (((i : Nat) : Int) + 1)), o8, o9], [], am_mix [37, 38] g139 M)
      have e3 : (((i + 1 : Nat)) : Int) * rn = ((i : Nat) : Int) * rn + rn := by rw [show ((i + 1 : Nat) : Int) = (i : Int) + 1 by omega, Int.add_mul, Int.one_mul]
      exact ih (i + 1) _ _ _ _ _ (by omega) (by omega) (by omega)
  refine hR _ (hR _ (hR _ (hR _ (?_))))
  show R (7, [some (aR 8 0), some (aI ((k : Nat) : Int)), some (aI mark), some (aI ((a : Nat) : Int)), some (aI s0), some (aI q), some (aI s0), some (aI 0), none, none], [], M)
  have e9 : am_ag [37, 38] M M := am_ag.rf
  rw [e9.eq]
  exact key1 a 0 _ _ _ _ _ rfl (by omega) (by omega)
