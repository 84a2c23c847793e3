/-! wb -/
/-! THE REFERENCE: a STOP -/
def mo_su (p : jf_par) : Nat → Int
  | 0 => 0
  | a + 1 => mo_su p a + jf_Q p a
theorem mo_su_b {p : jf_par} (hp : jf_ok p) : ∀ a : Nat, a ≤ 5 → 0 ≤ mo_su p a ∧ mo_su p a ≤ 13 * a
  | 0, _ => by
    unfold mo_su
    omega
  | a + 1, h => by
    have ih := mo_su_b hp a (by omega)
    have h0 := jf_Q_b hp (a := (a : Int)) (by omega)
    unfold mo_su
    omega
theorem mo_su_5 (p : jf_par) : mo_su p 5 = jf_S p := by
  show 0 + jf_Q p ((0 : Nat) : Int) + jf_Q p ((1 : Nat) : Int) + jf_Q p ((2 : Nat) : Int) + jf_Q p ((3 : Nat) : Int) + jf_Q p ((4 : Nat) : Int) = jf_Q p 0 + jf_Q p 1 + jf_Q p 2 + jf_Q p 3 + jf_Q p 4
  rw [Int.zero_add]
  rfl
abbrev mo_SM : List Nat := [37, 38, 39, 40, 41, 454, 455]

set_option maxHeartbeats 2000000 in
theorem sm_think {d : Nat} (hd : 6 ≤ d) {k r : Nat} {mark start : Int} {M : am_M} {K : am_K} (hk : k < 5) (hr : M 431 0 0 = (r : Int)) (hr6 : r < 6) (hwt : mo_wt M r) (hok1 : jf_ok (mo_xp M k r mark start)) (h : ∀ g : am_M, mo_th (am_mix mo_SM g M) (mo_xp M k r mark start) → K none (am_mix mo_SM g M)) : am_Call true d 151 [aR 8 0, aI ((k : Nat) : Int), aI mark, aI start] M K := by
  obtain ⟨d, rfl⟩ : ∃ e, d = e + 1 := ⟨d - 1, by omega⟩
  refine ⟨rfl, fun R hR hC => ?_⟩
  replace hR : ∀ c, am_F true tb_f151 0 (am_Call true d) K R c → R c := hR
  have hok0 := hok1
  have hkd : 0 ≤ M 23 0 k ∧ M 23 0 k ≤ 5 := hok0.1
  have hmo : 0 ≤ M 24 0 k ∧ M 24 0 k ≤ 9 := hok0.2.1
  have hah : 0 ≤ M 25 0 (2 * k) ∧ M 25 0 (2 * k) ≤ 99 := hok0.2.2.1
  have hch : 0 ≤ M 25 0 (2 * k + 1) ∧ M 25 0 (2 * k + 1) ≤ 500 := hok0.2.2.2.1
  have hdr : 0 ≤ M 22 0 1 ∧ M 22 0 1 ≤ 9 := hok0.2.2.2.2.1
  have hpr : 1 ≤ M 22 0 2 ∧ M 22 0 2 ≤ 99 := hok0.2.2.2.2.2.1
  have hfu : 1 ≤ M 22 0 3 ∧ M 22 0 3 ≤ 5000 := hok0.2.2.2.2.2.2.1
  have hmk : 1 ≤ mark ∧ mark ≤ 5100 := hok0.2.2.2.2.2.2.2.1
  have hst : 0 ≤ start ∧ start ≤ 5000 := hok0.2.2.2.2.2.2.2.2
  obtain ⟨p, hp⟩ : ∃ p, p = mo_xp M k r mark start := ⟨_, rfl⟩
  have hok : jf_ok p := by rw [hp]; exact hok1
  rw [← hp] at h
  have hPb := jf_P_b hok
  rw [show p.fu = M 22 0 3 by rw [hp]] at hPb
  show R (0, [some (aR 8 0), some (aI ((k : Nat) : Int)), some (aI mark), some (aI start), none, none, none, none], [], M)
  have key5 : ∀ (n a : Nat) (x : Int) (g : am_M), x = (a : Int) → a + n = 5 → g 455 0 0 = (jf_P p).2.2 → g 454 0 0 = mo_su p a → (∀ j, j < a → g 39 0 j = jf_E p j ∧ g 40 0 j = jf_T p j ∧ g 41 0 j = jf_Q p j) → R (102, [some (aR 8 0), some (aI ((k : Nat) : Int)), some (aI mark), some (aI start), some (aI ((jf_P p).1)), some (aI ((jf_P p).2.1)), some (aI ((jf_P p).2.2)), some (aI x)], [], am_mix mo_SM g M) := by
    intro n
    induction n with
    | zero =>
      intro a x g hx hin hN h4 hf
      subst hx
      have hsb := mo_su_b hok a (by omega)
      refine hR _ (hR _ (hR _ (am_brt (rg := am_in ((a : Nat) : Int) ∧ am_in 5) (P := 5 ≤ ((a : Nat) : Int)) (A := R (156, [some (aR 8 0), some (aI ((k : Nat) : Int)), some (aI mark), some (aI start), some (aI ((jf_P p).1)), some (aI ((jf_P p).2.1)), some (aI ((jf_P p).2.2)), some (aI ((a : Nat) : Int))], [], am_mix mo_SM g M)) (B := R (108, [some (aR 8 0), some (aI ((k : Nat) : Int)), some (aI mark), some (aI start), some (aI ((jf_P p).1)), some (aI ((jf_P p).2.1)), some (aI ((jf_P p).2.2)), some (aI ((a : Nat) : Int))], [], am_mix mo_SM g M)) (by omega) (by omega) ?_)))
      show R (156, [some (aR 8 0), some (aI ((k : Nat) : Int)), some (aI mark), some (aI start), some (aI ((jf_P p).1)), some (aI ((jf_P p).2.1)), some (aI ((jf_P p).2.2)), some (aI ((a : Nat) : Int))], [], am_mix mo_SM g M)
      refine hR _ (hR _ (hR _ (am_brc (rg := am_in (g 454 0 0)) (P := g 454 0 0 ≠ 0) (A := R (175, [some (aR 8 0), some (aI ((k : Nat) : Int)), some (aI mark), some (aI start), some (aI ((jf_P p).1)), some (aI ((jf_P p).2.1)), some (aI ((jf_P p).2.2)), some (aI ((a : Nat) : Int))], [], am_mix mo_SM g M)) (B := R (163, [some (aR 8 0), some (aI ((k : Nat) : Int)), some (aI mark), some (aI start), some (aI ((jf_P p).1)), some (aI ((jf_P p).2.1)), some (aI ((jf_P p).2.2)), some (aI ((a : Nat) : Int))], [], am_mix mo_SM g M)) (by omega) (fun c160 => ?_) (fun c160 => ?_))))
      · have hS : jf_S p ≠ 0 := by
          have ha5 : a = 5 := by omega
          rw [← mo_su_5, ← ha5]
          omega
        refine hR _ (show K none (am_mix mo_SM g M) from ?_)
        have ha5 : a = 5 := by omega
        subst ha5
        skip
        refine am_fin (S := mo_SM) (F := fun m => mo_th m p) ((am_ag.rf).mix rfl) ⟨fun j hj => ⟨(hf j (by omega)).1, (hf j (by omega)).2.1, ?_⟩, ?_, hN⟩ h
        · show g 41 0 j = _
          rw [(hf j (by omega)).2.2]
          unfold jf_O
          rw [if_neg (fun z => hS z.1)]
        · show g 454 0 0 = _
          rw [h4, mo_su_5]
          unfold jf_A
          rw [if_neg hS]
      · have hS : jf_S p = 0 := by
          have ha5 : a = 5 := by omega
          rw [← mo_su_5, ← ha5]
          omega
        refine hR _ (hR _ (hR _ (hR _ (?_))))
        show R (169, [some (aR 8 0), some (aI ((k : Nat) : Int)), some (aI mark), some (aI start), some (aI ((jf_P p).1)), some (aI ((jf_P p).2.1)), some (aI ((jf_P p).2.2)), some (aI ((a : Nat) : Int))], [aI 1, aI 0, aR 41 0], am_mix mo_SM g M)
        refine hR _ ⟨(show 0 ≤ (0 : Int) ∧ (0 : Int) < 5 from (by omega)), ?_⟩
        show R (170, [some (aR 8 0), some (aI ((k : Nat) : Int)), some (aI mark), some (aI start), some (aI ((jf_P p).1)), some (aI ((jf_P p).2.1)), some (aI ((jf_P p).2.2)), some (aI ((a : Nat) : Int))], [], am_wr (am_mix mo_SM g M) 41 0 0 1)
        refine hR _ (hR _ (hR _ (?_)))
        show R (175, [some (aR 8 0), some (aI ((k : Nat) : Int)), some (aI mark), some (aI start), some (aI ((jf_P p).1)), some (aI ((jf_P p).2.1)), some (aI ((jf_P p).2.2)), some (aI ((a : Nat) : Int))], [], am_wr (am_wr (am_mix mo_SM g M) 41 0 0 1) 454 0 0 1)
        refine hR _ (show K none (am_wr (am_wr (am_mix mo_SM g M) 41 0 0 1) 454 0 0 1) from ?_)
        have ha5 : a = 5 := by omega
        subst ha5
        skip
        refine am_fin (S := mo_SM) (F := fun m => mo_th m p) ((((am_ag.rf).mix rfl).wr rfl).wr rfl) ⟨fun j hj => ⟨(hf j (by omega)).1, (hf j (by omega)).2.1, ?_⟩, ?_, hN⟩ h
        · unfold jf_O
          by_cases hj0 : j = 0
          · subst hj0
            rw [if_pos ⟨hS, rfl⟩]
            exact (am_wr_ne (Or.inl (by decide))).trans am_wr_eq
          · rw [if_neg (fun z => hj0 z.2)]
            exact ((am_wr_ne (Or.inl (by decide))).trans (am_wr_ne (Or.inr (Or.inr hj0)))).trans (hf j (by omega)).2.2
        · unfold jf_A
          rw [if_pos hS]
          exact am_wr_eq
    | succ n ih =>
      intro a x g hx hin hN h4 hf
      subst hx
      have hsb := mo_su_b hok a (by omega)
      have hQ := jf_Q_b hok (a := ((a : Nat) : Int)) (by omega)
      have hNr : 1 ≤ g 455 0 0 ∧ g 455 0 0 ≤ 3 := by omega
      refine hR _ (hR _ (hR _ (am_brf (rg := am_in ((a : Nat) : Int) ∧ am_in 5) (P := 5 ≤ ((a : Nat) : Int)) (A := R (156, [some (aR 8 0), some (aI ((k : Nat) : Int)), some (aI mark), some (aI start), some (aI ((jf_P p).1)), some (aI ((jf_P p).2.1)), some (aI ((jf_P p).2.2)), some (aI ((a : Nat) : Int))], [], am_mix mo_SM g M)) (B := R (108, [some (aR 8 0), some (aI ((k : Nat) : Int)), some (aI mark), some (aI start), some (aI ((jf_P p).1)), some (aI ((jf_P p).2.1)), some (aI ((jf_P p).2.2)), some (aI ((a : Nat) : Int))], [], am_mix mo_SM g M)) (by omega) (by omega) ?_)))
      show R (108, [some (aR 8 0), some (aI ((k : Nat) : Int)), some (aI mark), some (aI start), some (aI ((jf_P p).1)), some (aI ((jf_P p).2.1)), some (aI ((jf_P p).2.2)), some (aI ((a : Nat) : Int))], [], am_mix mo_SM g M)
      refine hR _ (hR _ (hR _ (hR _ (hR _ (hR _ (?_))))))
      show R (118, [some (aR 8 0), some (aI ((k : Nat) : Int)), some (aI mark), some (aI start), some (aI ((jf_P p).1)), some (aI ((jf_P p).2.1)), some (aI ((jf_P p).2.2)), some (aI ((a : Nat) : Int))], [aI ((a : Nat) : Int), aI ((k : Nat) : Int), aR 8 0, aI ((a : Nat) : Int), aR 41 0], am_mix mo_SM g M)
      refine hR _ (sm_oftenOf (r := r) (by omega) hk hkd hmo hr hr6 hwt hpr hNr (by omega) (fun g140 => ?_))
      show R (121, [some (aR 8 0), some (aI ((k : Nat) : Int)), some (aI mark), some (aI start), some (aI ((jf_P p).1)), some (aI ((jf_P p).2.1)), some (aI ((jf_P p).2.2)), some (aI ((a : Nat) : Int))], [aI (jf_often (M 23 0 k) (M 24 0 k) ((a : Nat) : Int) (jf_lt (M 24 0 k) (M 22 0 2) (mo_tk M r 1) (g 455 0 0) ((a : Nat) : Int))), aI ((a : Nat) : Int), aR 41 0], am_mix [37, 38] g140 (am_mix mo_SM g M))
      rw [show (jf_often (M 23 0 k) (M 24 0 k) ((a : Nat) : Int) (jf_lt (M 24 0 k) (M 22 0 2) (mo_tk M r 1) (g 455 0 0) ((a : Nat) : Int))) = jf_Q p ((a : Nat) : Int) by rw [hN, hp]; rfl]
      show R (121, [some (aR 8 0), some (aI ((k : Nat) : Int)), some (aI mark), some (aI start), some (aI ((jf_P p).1)), some (aI ((jf_P p).2.1)), some (aI ((jf_P p).2.2)), some (aI ((a : Nat) : Int))], [aI (jf_Q p ((a : Nat) : Int)), aI ((a : Nat) : Int), aR 41 0], am_mix [37, 38] g140 (am_mix mo_SM g M))
      refine hR _ ⟨(show 0 ≤ (((a : Nat) : Int) : Int) ∧ (((a : Nat) : Int) : Int) < 5 from (by omega)), ?_⟩
      show R (122, [some (aR 8 0), some (aI ((k : Nat) : Int)), some (aI mark), some (aI start), some (aI ((jf_P p).1)), some (aI ((jf_P p).2.1)), some (aI ((jf_P p).2.2)), some (aI ((a : Nat) : Int))], [], am_wr (am_mix [37, 38] g140 (am_mix mo_SM g M)) 41 0 a (jf_Q p ((a : Nat) : Int)))
      refine hR _ (hR _ (hR _ (hR _ (hR _ (hR _ (?_))))))
      show R (133, [some (aR 8 0), some (aI ((k : Nat) : Int)), some (aI mark), some (aI start), some (aI ((jf_P p).1)), some (aI ((jf_P p).2.1)), some (aI ((jf_P p).2.2)), some (aI ((a : Nat) : Int))], [aI ((a : Nat) : Int), aR 41 0, aI (g 454 0 0), aR 8 0], am_wr (am_mix [37, 38] g140 (am_mix mo_SM g M)) 41 0 a (jf_Q p ((a : Nat) : Int)))
      refine hR _ ⟨(show 0 ≤ (((a : Nat) : Int) : Int) ∧ (((a : Nat) : Int) : Int) < 5 from (by omega)), ?_⟩
      show R (134, [some (aR 8 0), some (aI ((k : Nat) : Int)), some (aI mark), some (aI start), some (aI ((jf_P p).1)), some (aI ((jf_P p).2.1)), some (aI ((jf_P p).2.2)), some (aI ((a : Nat) : Int))], [aI ((am_wr (am_mix [37, 38] g140 (am_mix mo_SM g M)) 41 0 a (jf_Q p ((a : Nat) : Int))) 41 0 a), aI (g 454 0 0), aR 8 0], am_wr (am_mix [37, 38] g140 (am_mix mo_SM g M)) 41 0 a (jf_Q p ((a : Nat) : Int)))
      rw [(show (am_wr (am_mix [37, 38] g140 (am_mix mo_SM g M)) 41 0 a (jf_Q p ((a : Nat) : Int))) 41 0 a = jf_Q p ((a : Nat) : Int) from am_wr_eq)]
      show R (134, [some (aR 8 0), some (aI ((k : Nat) : Int)), some (aI mark), some (aI start), some (aI ((jf_P p).1)), some (aI ((jf_P p).2.1)), some (aI ((jf_P p).2.2)), some (aI ((a : Nat) : Int))], [aI (jf_Q p ((a : Nat) : Int)), aI (g 454 0 0), aR 8 0], am_wr (am_mix [37, 38] g140 (am_mix mo_SM g M)) 41 0 a (jf_Q p ((a : Nat) : Int)))
      refine hR _ (hR _ (hR _ (hR _ (hR _ (hR _ (hR _ (hR _ (?_))))))))
      show R (147, [some (aR 8 0), some (aI ((k : Nat) : Int)), some (aI mark), some (aI start), some (aI ((jf_P p).1)), some (aI ((jf_P p).2.1)), some (aI ((jf_P p).2.2)), some (aI ((a : Nat) : Int))], [aI ((jf_P p).2.1), aI ((jf_P p).1), aI ((a : Nat) : Int), aI mark, aI ((k : Nat) : Int), aR 8 0], am_wr (am_wr (am_mix [37, 38] g140 (am_mix mo_SM g M)) 41 0 a (jf_Q p ((a : Nat) : Int))) 454 0 0 (g 454 0 0 + (jf_Q p ((a : Nat) : Int))))
      refine hR _ (sm_endsSo (r := r) (a := a) (by omega) hk hkd hmo hr hr6 hwt hdr hpr hfu hNr (by omega) hmk (show 0 ≤ (jf_P p).1 ∧ (jf_P p).1 ≤ M 22 0 3 from by omega) (by omega) (fun g3 hE1 hE2 => ?_))
      show R (150, [some (aR 8 0), some (aI ((k : Nat) : Int)), some (aI mark), some (aI start), some (aI ((jf_P p).1)), some (aI ((jf_P p).2.1)), some (aI ((jf_P p).2.2)), some (aI ((a : Nat) : Int))], [], am_mix [37, 38, 39, 40] g3 (am_wr (am_wr (am_mix [37, 38] g140 (am_mix mo_SM g M)) 41 0 a (jf_Q p ((a : Nat) : Int))) 454 0 0 (g 454 0 0 + (jf_Q p ((a : Nat) : Int)))))
      refine hR _ (hR _ (?_))
      show R (102, [some (aR 8 0), some (aI ((k : Nat) : Int)), some (aI mark), some (aI start), some (aI ((jf_P p).1)), some (aI ((jf_P p).2.1)), some (aI ((jf_P p).2.2)), some (aI (((a : Nat) : Int) + 1))], [], am_mix [37, 38, 39, 40] g3 (am_wr (am_wr (am_mix [37, 38] g140 (am_mix mo_SM g M)) 41 0 a (jf_Q p ((a : Nat) : Int))) 454 0 0 (g 454 0 0 + (jf_Q p ((a : Nat) : Int)))))
      have hE : (g3 39 0 a, g3 40 0 a) = jf_EN p ((a : Nat) : Int) := by
        refine hE1.trans ?_
        show jf_tch (M 23 0 k) (M 24 0 k) (M 22 0 3) mark 30 (min (M 22 0 3) (min (M 22 0 3) ((jf_P p).1 + ((a : Nat) : Int) * jf_rn (M 24 0 k) (M 22 0 2) (mo_tk M r 0) (g 455 0 0)) + M 22 0 1), (jf_P p).2.1 + ((a : Nat) : Int)) = _
        rw [hN, Int.min_comm (M 22 0 3) (min _ _ + _), Int.min_comm (M 22 0 3) ((jf_P p).1 + _), hp]
        rfl
      have e9 : am_ag mo_SM M (am_mix [37, 38, 39, 40] g3 (am_wr (am_wr (am_mix [37, 38] g140 (am_mix mo_SM g M)) 41 0 a (jf_Q p ((a : Nat) : Int))) 454 0 0 (g 454 0 0 + (jf_Q p ((a : Nat) : Int))))) := (((((am_ag.rf).mix rfl).mix rfl).wr rfl).wr rfl).mix rfl
      have f455 : (am_mix [37, 38, 39, 40] g3 (am_wr (am_wr (am_mix [37, 38] g140 (am_mix mo_SM g M)) 41 0 a (jf_Q p ((a : Nat) : Int))) 454 0 0 (g 454 0 0 + (jf_Q p ((a : Nat) : Int))))) 455 0 0 = (jf_P p).2.2 := hN
      have f454 : (am_mix [37, 38, 39, 40] g3 (am_wr (am_wr (am_mix [37, 38] g140 (am_mix mo_SM g M)) 41 0 a (jf_Q p ((a : Nat) : Int))) 454 0 0 (g 454 0 0 + (jf_Q p ((a : Nat) : Int))))) 454 0 0 = mo_su p (a + 1) := by
        show g 454 0 0 + jf_Q p ((a : Nat) : Int) = _
        rw [h4]
        rfl
      have ff : ∀ j, j < a + 1 → (am_mix [37, 38, 39, 40] g3 (am_wr (am_wr (am_mix [37, 38] g140 (am_mix mo_SM g M)) 41 0 a (jf_Q p ((a : Nat) : Int))) 454 0 0 (g 454 0 0 + (jf_Q p ((a : Nat) : Int))))) 39 0 j = jf_E p j ∧ (am_mix [37, 38, 39, 40] g3 (am_wr (am_wr (am_mix [37, 38] g140 (am_mix mo_SM g M)) 41 0 a (jf_Q p ((a : Nat) : Int))) 454 0 0 (g 454 0 0 + (jf_Q p ((a : Nat) : Int))))) 40 0 j = jf_T p j ∧ (am_mix [37, 38, 39, 40] g3 (am_wr (am_wr (am_mix [37, 38] g140 (am_mix mo_SM g M)) 41 0 a (jf_Q p ((a : Nat) : Int))) 454 0 0 (g 454 0 0 + (jf_Q p ((a : Nat) : Int))))) 41 0 j = jf_Q p j := by
        intro j hj
        by_cases hja : j = a
        · subst hja
          exact ⟨congrArg Prod.fst hE, congrArg Prod.snd hE, am_wr_eq⟩
        · have h8 := hE2 j hja
          have h9 := hf j (by omega)
          exact ⟨h8.1.trans h9.1, h8.2.trans h9.2.1, (show am_wr (am_mix [37, 38] g140 (am_mix mo_SM g M)) 41 0 a (jf_Q p ((a : Nat) : Int)) 41 0 j = _ from am_wr_ne (Or.inr (Or.inr hja))).trans h9.2.2⟩
      rw [e9.eq] at f455 f454 ff ⊢
      exact ih (a + 1) _ _ (by omega) (by omega) f455 f454 ff
  have key8 : ∀ (o7 : Option am_V) (g : am_M), R (88, [some (aR 8 0), some (aI ((k : Nat) : Int)), some (aI mark), some (aI start), some (aI ((jf_P p).1)), some (aI ((jf_P p).2.1)), some (aI ((jf_P p).2.2)), o7], [], am_mix [37, 38] g M) := by
    intro o7 g
    refine hR _ (hR _ (hR _ (hR _ (hR _ (hR _ (hR _ (hR _ (?_))))))))
    show R (102, [some (aR 8 0), some (aI ((k : Nat) : Int)), some (aI mark), some (aI start), some (aI ((jf_P p).1)), some (aI ((jf_P p).2.1)), some (aI ((jf_P p).2.2)), some (aI 0)], [], am_wr (am_wr (am_mix [37, 38] g M) 455 0 0 ((jf_P p).2.2)) 454 0 0 0)
    have e9 : am_ag mo_SM M (am_wr (am_wr (am_mix [37, 38] g M) 455 0 0 ((jf_P p).2.2)) 454 0 0 0) := (((am_ag.rf).mix rfl).wr rfl).wr rfl
    have f455 : (am_wr (am_wr (am_mix [37, 38] g M) 455 0 0 ((jf_P p).2.2)) 454 0 0 0) 455 0 0 = (jf_P p).2.2 := rfl
    have f454 : (am_wr (am_wr (am_mix [37, 38] g M) 455 0 0 ((jf_P p).2.2)) 454 0 0 0) 454 0 0 = mo_su p 0 := rfl
    rw [e9.eq] at f455 f454 ⊢
    exact key5 5 0 _ _ rfl rfl f455 f454 (fun j hj => absurd hj (Nat.not_lt_zero j))
  have key2 : ∀ (n : Nat) (s q nt : Int) (o7 : Option am_V) (g : am_M), 0 ≤ s → s ≤ M 22 0 3 → 0 ≤ q → q + n = 2000 → 1 ≤ nt → nt ≤ 3 → jf_prs (jf_rn (M 24 0 k) (M 22 0 2) (mo_tk M r 0)) (M 23 0 k) (M 25 0 (2 * k)) (M 25 0 (2 * k + 1)) (M 22 0 3) mark n (s, q, nt) = jf_P p → R (21, [some (aR 8 0), some (aI ((k : Nat) : Int)), some (aI mark), some (aI start), some (aI s), some (aI q), some (aI nt), o7], [], am_mix [37, 38] g M) := by
    intro n
    induction n with
    | zero =>
      intro s q nt o7 g hs0 hs1 hq0 hin hn0 hn1 hfin
      refine hR _ (hR _ (hR _ (hR _ (hR _ (hR _ (hR _ (hR _ (?_))))))))
      show R (32, [some (aR 8 0), some (aI ((k : Nat) : Int)), some (aI mark), some (aI start), some (aI s), some (aI q), some (aI nt), o7], [aI (2 * ((k : Nat) : Int)), aR 25 0, aI (mark - s)], am_mix [37, 38] g M)
      refine hR _ ⟨(show 0 ≤ ((2 * ((k : Nat) : Int)) : Int) ∧ ((2 * ((k : Nat) : Int)) : Int) < 10 from (by omega)), ?_⟩
      show R (33, [some (aR 8 0), some (aI ((k : Nat) : Int)), some (aI mark), some (aI start), some (aI s), some (aI q), some (aI nt), o7], [aI (M 25 0 (((2 * ((k : Nat) : Int))).toNat)), aI (mark - s)], am_mix [37, 38] g M)
      rw [(show M 25 0 (((2 * ((k : Nat) : Int))).toNat) = M 25 0 (2 * k) by rw [show ((2 * ((k : Nat) : Int))).toNat = (2 * k) by omega])]
      show R (33, [some (aR 8 0), some (aI ((k : Nat) : Int)), some (aI mark), some (aI start), some (aI s), some (aI q), some (aI nt), o7], [aI (M 25 0 (2 * k)), aI (mark - s)], am_mix [37, 38] g M)
      refine hR _ (am_brc (rg := am_in (mark - s) ∧ am_in (M 25 0 (2 * k))) (P := (mark - s) ≤ (M 25 0 (2 * k))) (A := R (88, [some (aR 8 0), some (aI ((k : Nat) : Int)), some (aI mark), some (aI start), some (aI s), some (aI q), some (aI nt), o7], [], am_mix [37, 38] g M)) (B := R (36, [some (aR 8 0), some (aI ((k : Nat) : Int)), some (aI mark), some (aI start), some (aI s), some (aI q), some (aI nt), o7], [], am_mix [37, 38] g M)) (by omega) (fun c33 => ?_) (fun c33 => ?_))
      · rw [jf_prs] at hfin
        have e1 : s = (jf_P p).1 := congrArg (fun z => z.1) hfin
        have e2 : q = (jf_P p).2.1 := congrArg (fun z => z.2.1) hfin
        have e3 : nt = (jf_P p).2.2 := congrArg (fun z => z.2.2) hfin
        rw [e1, e2, e3]
        exact key8 _ _
      · refine hR _ (hR _ (hR _ (hR _ (?_))))
        show R (43, [some (aR 8 0), some (aI ((k : Nat) : Int)), some (aI mark), some (aI start), some (aI s), some (aI q), some (aI nt), o7], [aI 3, aR 22 0, aI s], am_mix [37, 38] g M)
        refine hR _ ⟨(show 0 ≤ (3 : Int) ∧ (3 : Int) < 4 from (by omega)), ?_⟩
        show R (44, [some (aR 8 0), some (aI ((k : Nat) : Int)), some (aI mark), some (aI start), some (aI s), some (aI q), some (aI nt), o7], [aI (M 22 0 3), aI s], am_mix [37, 38] g M)
        refine hR _ (am_brc (rg := am_in s ∧ am_in (M 22 0 3)) (P := M 22 0 3 ≤ s) (A := R (88, [some (aR 8 0), some (aI ((k : Nat) : Int)), some (aI mark), some (aI start), some (aI s), some (aI q), some (aI nt), o7], [], am_mix [37, 38] g M)) (B := R (47, [some (aR 8 0), some (aI ((k : Nat) : Int)), some (aI mark), some (aI start), some (aI s), some (aI q), some (aI nt), o7], [], am_mix [37, 38] g M)) (by omega) (fun c44 => ?_) (fun c44 => ?_))
        · rw [jf_prs] at hfin
          have e1 : s = (jf_P p).1 := congrArg (fun z => z.1) hfin
          have e2 : q = (jf_P p).2.1 := congrArg (fun z => z.2.1) hfin
          have e3 : nt = (jf_P p).2.2 := congrArg (fun z => z.2.2) hfin
          rw [e1, e2, e3]
          exact key8 _ _
        · refine hR _ (hR _ (hR _ (am_brt (rg := am_in q ∧ am_in 2000) (P := 2000 ≤ q) (A := R (88, [some (aR 8 0), some (aI ((k : Nat) : Int)), some (aI mark), some (aI start), some (aI s), some (aI q), some (aI nt), o7], [], am_mix [37, 38] g M)) (B := R (55, [some (aR 8 0), some (aI ((k : Nat) : Int)), some (aI mark), some (aI start), some (aI s), some (aI q), some (aI nt), o7], [], am_mix [37, 38] g M)) (by omega) (by omega) ?_)))
          show R (88, [some (aR 8 0), some (aI ((k : Nat) : Int)), some (aI mark), some (aI start), some (aI s), some (aI q), some (aI nt), o7], [], am_mix [37, 38] g M)
          rw [jf_prs] at hfin
          have e1 : s = (jf_P p).1 := congrArg (fun z => z.1) hfin
          have e2 : q = (jf_P p).2.1 := congrArg (fun z => z.2.1) hfin
          have e3 : nt = (jf_P p).2.2 := congrArg (fun z => z.2.2) hfin
          rw [e1, e2, e3]
          exact key8 _ _
    | succ n ih =>
      intro s q nt o7 g hs0 hs1 hq0 hin hn0 hn1 hfin
      refine hR _ (hR _ (hR _ (hR _ (hR _ (hR _ (hR _ (hR _ (?_))))))))
      show R (32, [some (aR 8 0), some (aI ((k : Nat) : Int)), some (aI mark), some (aI start), some (aI s), some (aI q), some (aI nt), o7], [aI (2 * ((k : Nat) : Int)), aR 25 0, aI (mark - s)], am_mix [37, 38] g M)
      refine hR _ ⟨(show 0 ≤ ((2 * ((k : Nat) : Int)) : Int) ∧ ((2 * ((k : Nat) : Int)) : Int) < 10 from (by omega)), ?_⟩
      show R (33, [some (aR 8 0), some (aI ((k : Nat) : Int)), some (aI mark), some (aI start), some (aI s), some (aI q), some (aI nt), o7], [aI (M 25 0 (((2 * ((k : Nat) : Int))).toNat)), aI (mark - s)], am_mix [37, 38] g M)
      rw [(show M 25 0 (((2 * ((k : Nat) : Int))).toNat) = M 25 0 (2 * k) by rw [show ((2 * ((k : Nat) : Int))).toNat = (2 * k) by omega])]
      show R (33, [some (aR 8 0), some (aI ((k : Nat) : Int)), some (aI mark), some (aI start), some (aI s), some (aI q), some (aI nt), o7], [aI (M 25 0 (2 * k)), aI (mark - s)], am_mix [37, 38] g M)
      refine hR _ (am_brc (rg := am_in (mark - s) ∧ am_in (M 25 0 (2 * k))) (P := (mark - s) ≤ (M 25 0 (2 * k))) (A := R (88, [some (aR 8 0), some (aI ((k : Nat) : Int)), some (aI mark), some (aI start), some (aI s), some (aI q), some (aI nt), o7], [], am_mix [37, 38] g M)) (B := R (36, [some (aR 8 0), some (aI ((k : Nat) : Int)), some (aI mark), some (aI start), some (aI s), some (aI q), some (aI nt), o7], [], am_mix [37, 38] g M)) (by omega) (fun c33 => ?_) (fun c33 => ?_))
      · rw [jf_prs_stop _ (by dsimp only; omega)] at hfin
        have e1 : s = (jf_P p).1 := congrArg (fun z => z.1) hfin
        have e2 : q = (jf_P p).2.1 := congrArg (fun z => z.2.1) hfin
        have e3 : nt = (jf_P p).2.2 := congrArg (fun z => z.2.2) hfin
        rw [e1, e2, e3]
        exact key8 _ _
      · refine hR _ (hR _ (hR _ (hR _ (?_))))
        show R (43, [some (aR 8 0), some (aI ((k : Nat) : Int)), some (aI mark), some (aI start), some (aI s), some (aI q), some (aI nt), o7], [aI 3, aR 22 0, aI s], am_mix [37, 38] g M)
        refine hR _ ⟨(show 0 ≤ (3 : Int) ∧ (3 : Int) < 4 from (by omega)), ?_⟩
        show R (44, [some (aR 8 0), some (aI ((k : Nat) : Int)), some (aI mark), some (aI start), some (aI s), some (aI q), some (aI nt), o7], [aI (M 22 0 3), aI s], am_mix [37, 38] g M)
        refine hR _ (am_brc (rg := am_in s ∧ am_in (M 22 0 3)) (P := M 22 0 3 ≤ s) (A := R (88, [some (aR 8 0), some (aI ((k : Nat) : Int)), some (aI mark), some (aI start), some (aI s), some (aI q), some (aI nt), o7], [], am_mix [37, 38] g M)) (B := R (47, [some (aR 8 0), some (aI ((k : Nat) : Int)), some (aI mark), some (aI start), some (aI s), some (aI q), some (aI nt), o7], [], am_mix [37, 38] g M)) (by omega) (fun c44 => ?_) (fun c44 => ?_))
        · rw [jf_prs_stop _ (by dsimp only; omega)] at hfin
          have e1 : s = (jf_P p).1 := congrArg (fun z => z.1) hfin
          have e2 : q = (jf_P p).2.1 := congrArg (fun z => z.2.1) hfin
          have e3 : nt = (jf_P p).2.2 := congrArg (fun z => z.2.2) hfin
          rw [e1, e2, e3]
          exact key8 _ _
        · refine hR _ (hR _ (hR _ (am_brf (rg := am_in q ∧ am_in 2000) (P := 2000 ≤ q) (A := R (88, [some (aR 8 0), some (aI ((k : Nat) : Int)), some (aI mark), some (aI start), some (aI s), some (aI q), some (aI nt), o7], [], am_mix [37, 38] g M)) (B := R (55, [some (aR 8 0), some (aI ((k : Nat) : Int)), some (aI mark), some (aI start), some (aI s), some (aI q), some (aI nt), o7], [], am_mix [37, 38] g M)) (by omega) (by omega) ?_)))
          show R (55, [some (aR 8 0), some (aI ((k : Nat) : Int)), some (aI mark), some (aI start), some (aI s), some (aI q), some (aI nt), o7], [], am_mix [37, 38] g M)
          refine hR _ (hR _ (hR _ (hR _ (hR _ (?_)))))
          show R (61, [some (aR 8 0), some (aI ((k : Nat) : Int)), some (aI mark), some (aI start), some (aI s), some (aI q), some (aI nt), o7], [aI (mark - s), aI ((k : Nat) : Int), aR 8 0], am_mix [37, 38] g M)
          refine hR _ (sm_notchFor (by omega) hk hkd hmo hch (by omega) ?_)
          have hn61 := jf_notch_b (M 23 0 k) (M 25 0 (2 * k + 1)) ((mark - s))
          show R (64, [some (aR 8 0), some (aI ((k : Nat) : Int)), some (aI mark), some (aI start), some (aI s), some (aI q), some (aI nt), o7], [aI (jf_notch (M 23 0 k) (M 25 0 (2 * k + 1)) (mark - s))], am_mix [37, 38] g M)
          refine hR _ (hR _ (hR _ (hR _ (hR _ (hR _ (?_))))))
          show R (73, [some (aR 8 0), some (aI ((k : Nat) : Int)), some (aI mark), some (aI start), some (aI s), some (aI q), some (aI (jf_notch (M 23 0 k) (M 25 0 (2 * k + 1)) (mark - s))), o7], [aI (jf_notch (M 23 0 k) (M 25 0 (2 * k + 1)) (mark - s)), aI ((k : Nat) : Int), aR 8 0, aI s, aR 8 0], am_mix [37, 38] g M)
          refine hR _ (sm_runsBy (r := r) (by omega) hk hkd hmo hr hr6 hwt hpr (by omega) (fun g141 => ?_))
          have hs73 : 1 ≤ (jf_rn (M 24 0 k) (M 22 0 2) (mo_tk M r 0) (jf_notch (M 23 0 k) (M 25 0 (2 * k + 1)) (mark - s))) ∧ (jf_rn (M 24 0 k) (M 22 0 2) (mo_tk M r 0) (jf_notch (M 23 0 k) (M 25 0 (2 * k + 1)) (mark - s))) ≤ 50 := jf_cl0 _
          dsimp only
          rw [am_mix_sub (S := [37, 38]) (S2 := [37, 38]) rfl]
          show R (76, [some (aR 8 0), some (aI ((k : Nat) : Int)), some (aI mark), some (aI start), some (aI s), some (aI q), some (aI (jf_notch (M 23 0 k) (M 25 0 (2 * k + 1)) (mark - s))), o7], [aI (jf_rn (M 24 0 k) (M 22 0 2) (mo_tk M r 0) (jf_notch (M 23 0 k) (M 25 0 (2 * k + 1)) (mark - s))), aI s, aR 8 0], am_mix [37, 38] g141 M)
          refine hR _ (?_)
          show R (77, [some (aR 8 0), some (aI ((k : Nat) : Int)), some (aI mark), some (aI start), some (aI s), some (aI q), some (aI (jf_notch (M 23 0 k) (M 25 0 (2 * k + 1)) (mark - s))), o7], [aI (s + (jf_rn (M 24 0 k) (M 22 0 2) (mo_tk M r 0) (jf_notch (M 23 0 k) (M 25 0 (2 * k + 1)) (mark - s)))), aR 8 0], am_mix [37, 38] g141 M)
          refine hR _ (sm_fullAt (by omega) hfu (by omega) ?_)
          show R (80, [some (aR 8 0), some (aI ((k : Nat) : Int)), some (aI mark), some (aI start), some (aI s), some (aI q), some (aI (jf_notch (M 23 0 k) (M 25 0 (2 * k + 1)) (mark - s))), o7], [aI (min (M 22 0 3) (s + (jf_rn (M 24 0 k) (M 22 0 2) (mo_tk M r 0) (jf_notch (M 23 0 k) (M 25 0 (2 * k + 1)) (mark - s)))))], am_mix [37, 38] g141 M)
          refine hR _ (hR _ (hR _ (?_)))
          show R (21, [some (aR 8 0), some (aI ((k : Nat) : Int)), some (aI mark), some (aI start), some (aI (min (M 22 0 3) (s + (jf_rn (M 24 0 k) (M 22 0 2) (mo_tk M r 0) (jf_notch (M 23 0 k) (M 25 0 (2 * k + 1)) (mark - s)))))), some (aI (q + 1)), some (aI (jf_notch (M 23 0 k) (M 25 0 (2 * k + 1)) (mark - s))), o7], [], am_mix [37, 38] g141 M)
          rw [jf_prs, if_pos ⟨by dsimp only; omega, by dsimp only; omega, by dsimp only; omega⟩] at hfin
          dsimp only at hfin
          exact ih _ _ _ _ _ (by omega) (by omega) (by omega) (by omega) (by omega) (by omega) hfin
  refine hR _ (hR _ (?_))
  show R (2, [some (aR 8 0), some (aI ((k : Nat) : Int)), some (aI mark), some (aI start), none, none, none, none], [aI start, aR 8 0], M)
  refine hR _ (sm_fullAt (by omega) hfu (by omega) ?_)
  show R (5, [some (aR 8 0), some (aI ((k : Nat) : Int)), some (aI mark), some (aI start), none, none, none, none], [aI (min (M 22 0 3) start)], M)
  refine hR _ (hR _ (hR _ (hR _ (hR _ (hR _ (hR _ (hR _ (?_))))))))
  show R (16, [some (aR 8 0), some (aI ((k : Nat) : Int)), some (aI mark), some (aI start), some (aI (min (M 22 0 3) start)), some (aI 0), none, none], [aI (mark - (min (M 22 0 3) start)), aI ((k : Nat) : Int), aR 8 0], M)
  refine hR _ (sm_notchFor (by omega) hk hkd hmo hch (by omega) ?_)
  have hn16 := jf_notch_b (M 23 0 k) (M 25 0 (2 * k + 1)) ((mark - (min (M 22 0 3) start)))
  show R (19, [some (aR 8 0), some (aI ((k : Nat) : Int)), some (aI mark), some (aI start), some (aI (min (M 22 0 3) start)), some (aI 0), none, none], [aI (jf_notch (M 23 0 k) (M 25 0 (2 * k + 1)) (mark - (min (M 22 0 3) start)))], M)
  refine hR _ (?_)
  show R (21, [some (aR 8 0), some (aI ((k : Nat) : Int)), some (aI mark), some (aI start), some (aI (min (M 22 0 3) start)), some (aI 0), some (aI (jf_notch (M 23 0 k) (M 25 0 (2 * k + 1)) (mark - (min (M 22 0 3) start)))), none], [], M)
  have e9 : am_ag [37, 38] M M := am_ag.rf
  rw [e9.eq]
  refine key2 2000 _ _ _ _ _ ?_ ?_ (by omega) (by omega) ?_ ?_ ?_
  · show 0 ≤ min (M 22 0 3) start
    omega
  · show min (M 22 0 3) start ≤ M 22 0 3
    omega
  · exact hn16.1
  · exact hn16.2
  · rw [hp]
    rfl

/-- the reference's hand k and text r make these numbers -/
def mo_p (M : am_M) (k r : Nat) (p : jf_par) : Prop := (p.kd = M 23 0 k ∧ p.mo = M 24 0 k ∧ p.ah = M 25 0 (2 * k) ∧ p.ch = M 25 0 (2 * k + 1)) ∧ (p.dr = M 22 0 1 ∧ p.pr = M 22 0 2 ∧ p.fu = M 22 0 3) ∧ p.T 0 = mo_tk M r 0 ∧ p.T 1 = mo_tk M r 1 ∧ p.T 2 = mo_tk M r 2
theorem mo_p.th {M m : am_M} {k r : Nat} {p : jf_par} (hp : mo_p M k r p) (h : mo_th m (mo_xp M k r p.mk p.st)) : mo_th m p := by
  obtain ⟨kd, mo, ah, ch, dr, pr, fu, T, mk, st⟩ := p
  obtain ⟨⟨h1, h2, h3, h4⟩, ⟨h5, h6, h7⟩, h8, h9, -⟩ := hp
  dsimp only [jf_par.kd, jf_par.mo, jf_par.ah, jf_par.ch, jf_par.dr, jf_par.pr, jf_par.fu, jf_par.T, jf_par.mk, jf_par.st] at h1 h2 h3 h4 h5 h6 h7 h8 h9 h
  subst h1 h2 h3 h4 h5 h6 h7
  have e1 : jf_RN (mo_xp M k r mk st) = jf_RN (M 23 0 k, M 24 0 k, M 25 0 (2 * k), M 25 0 (2 * k + 1), M 22 0 1, M 22 0 2, M 22 0 3, T, mk, st) := by
    show jf_rn (M 24 0 k) (M 22 0 2) (mo_tk M r 0) = jf_rn (M 24 0 k) (M 22 0 2) (T 0)
    rw [h8]
  have e2 : jf_P (mo_xp M k r mk st) = jf_P (M 23 0 k, M 24 0 k, M 25 0 (2 * k), M 25 0 (2 * k + 1), M 22 0 1, M 22 0 2, M 22 0 3, T, mk, st) := by
    unfold jf_P
    rw [e1]
  have e3 : ∀ a, jf_EN (mo_xp M k r mk st) a = jf_EN (M 23 0 k, M 24 0 k, M 25 0 (2 * k), M 25 0 (2 * k + 1), M 22 0 1, M 22 0 2, M 22 0 3, T, mk, st) a := by
    intro a
    unfold jf_EN
    rw [e1, e2]
  have e4 : ∀ a, jf_Q (mo_xp M k r mk st) a = jf_Q (M 23 0 k, M 24 0 k, M 25 0 (2 * k), M 25 0 (2 * k + 1), M 22 0 1, M 22 0 2, M 22 0 3, T, mk, st) a := by
    intro a
    unfold jf_Q
    rw [e2]
    show jf_often _ _ a (jf_lt _ _ (mo_tk M r 1) _ a) = jf_often _ _ a (jf_lt _ _ (T 1) _ a)
    rw [h9]
  have e5 : jf_S (mo_xp M k r mk st) = jf_S (M 23 0 k, M 24 0 k, M 25 0 (2 * k), M 25 0 (2 * k + 1), M 22 0 1, M 22 0 2, M 22 0 3, T, mk, st) := by
    unfold jf_S
    rw [e4, e4, e4, e4, e4]
  obtain ⟨g1, g2, g3⟩ := h
  refine ⟨fun a ha => ?_, ?_, ?_⟩
  · have g4 := g1 a ha
    unfold jf_E jf_T jf_O at g4 ⊢
    rw [e3, e4, e5] at g4
    exact g4
  · unfold jf_A at g2 ⊢
    rw [e5] at g2
    exact g2
  · rw [e2] at g3
    exact g3
theorem sm_think2 {d : Nat} (hd : 6 ≤ d) {k r : Nat} {p : jf_par} {M : am_M} {K : am_K} (hk : k < 5) (hr : M 431 0 0 = (r : Int)) (hr6 : r < 6) (hwt : mo_wt M r) (hp : mo_p M k r p) (hok : jf_ok p) (h : ∀ g : am_M, mo_th (am_mix mo_SM g M) p → K none (am_mix mo_SM g M)) : am_Call true d 151 [aR 8 0, aI ((k : Nat) : Int), aI p.mk, aI p.st] M K := by
  refine sm_think hd hk hr hr6 hwt ?_ (fun g hg => h g (hp.th hg))
  obtain ⟨⟨h1, h2, h3, h4⟩, ⟨h5, h6, h7⟩, -⟩ := hp
  unfold jf_ok
  dsimp only [jf_par.kd, jf_par.mo, jf_par.ah, jf_par.ch, jf_par.dr, jf_par.pr, jf_par.fu, jf_par.T, jf_par.mk, jf_par.st] at *
  rw [← h1, ← h2, ← h3, ← h4, ← h5, ← h6, ← h7]
  exact hok
