/-! wb -/
/-! THE REFERENCE: what a STOP tells -/
def mo_ps (f : Nat → Int) : Nat → Int
  | 0 => 0
  | a + 1 => mo_ps f a + f a
theorem mo_ps_b {f : Nat → Int} {n : Int} (h : ∀ a, a < 5 → 0 ≤ f a ∧ f a ≤ n) : ∀ a : Nat, a ≤ 5 → 0 ≤ mo_ps f a ∧ mo_ps f a ≤ a * n
  | 0, _ => by
    unfold mo_ps
    omega
  | a + 1, ha => by
    have ih := mo_ps_b h a (by omega)
    have h0 := h a (by omega)
    unfold mo_ps
    rw [show ((a + 1 : Nat) : Int) * n = a * n + n by rw [show ((a + 1 : Nat) : Int) = (a : Int) + 1 by omega, Int.add_mul, Int.one_mul]]
    omega
theorem mo_ps_5 (f : Nat → Int) : mo_ps f 5 = jf_su f := rfl
theorem jf_il_0 {b p : Int} (hb : 1 ≤ b) (hp : 0 ≤ p ∧ p ≤ 1) : jf_il 0 b p = p := by
  unfold jf_il jf_gc
  rw [if_pos hp, if_pos (show (0 : Int) ≤ 0 by decide), show (0 : Int).toNat = 0 from rfl, Nat.gcd_zero_left]
  rw [show ((b.toNat : Nat) : Int) = b by omega]
  by_cases h : p = 0
  · rw [if_neg (by omega), h, Int.zero_tdiv]
  · rw [if_pos h, Int.tdiv_self (by omega)]
    omega
theorem jf_il_neg {a b p : Int} (ha : a < 0) (hp : 0 ≤ p ∧ p ≤ 1) : jf_il a b p = if p = 0 then -(jf_il (-a) b p) else jf_il (-a) b p := by
  unfold jf_il
  rw [if_pos hp, if_pos hp, if_neg (show ¬ 0 ≤ a by omega), if_pos (show 0 ≤ -a by omega)]
  by_cases h : p = 0
  · rw [if_pos h, if_neg (show ¬ p ≠ 0 by omega), if_neg (show ¬ p ≠ 0 by omega), Int.neg_tdiv, Int.neg_neg]
  · rw [if_neg h, if_pos (show p ≠ 0 from h), if_pos (show p ≠ 0 from h)]

theorem sm_lowest {d : Nat} (hd : 1 ≤ d) {a0 b0 p : Int} {M : am_M} {K : am_K} (ha : 0 ≤ a0 ∧ a0 ≤ 1000000000000) (hb : 1 ≤ b0 ∧ b0 ≤ 1000000000000) (hp : 0 ≤ p ∧ p ≤ 1) (h : K (some (aL (jf_il a0 b0 p))) M) : am_Call true d 159 [aL a0, aL b0, aI p] M K := by
  obtain ⟨d, rfl⟩ : ∃ e, d = e + 1 := ⟨d - 1, by omega⟩
  refine ⟨rfl, fun R hR hC => ?_⟩
  replace hR : ∀ c, am_F true tb_f159 5 (am_Call true d) K R c → R c := hR
  show R (0, [some (aL a0), none, some (aL b0), none, some (aI p), none, none, none, none, none, none], [], M)
  have key : ∀ (n : Nat) (a b : Int) (o9 : Option am_V), 0 ≤ a → a ≤ 1000000000000 → 0 ≤ b → b ≤ 1000000000000 → b ≤ n → jf_gc a b = jf_gc a0 b0 → R (16, [some (aL a0), none, some (aL b0), none, some (aI p), some (aL a), none, some (aL b), none, o9, none], [], M) := by
    intro n
    induction n with
    | zero =>
      intro a b o9 ha0 ha1 hb0 hb1 hbn hg
      refine hR _ (hR _ (?_))
      show R (19, [some (aL a0), none, some (aL b0), none, some (aI p), some (aL a), none, some (aL b), none, o9, none], [aL 0, aL b], M)
      refine am_lc (x := b) (y := 0) (P := b = 0) (A := R (41, [some (aL a0), none, some (aL b0), none, some (aI p), some (aL a), none, some (aL b), none, o9, none], [], M)) (B := R (23, [some (aL a0), none, some (aL b0), none, some (aI p), some (aL a), none, some (aL b), none, o9, none], [], M)) (by omega) (fun hA hB => hR _ ⟨(by omega), (fun hz => hR _ (am_brf (P := (-1 : Int) = 0) (A := R (41, [some (aL a0), none, some (aL b0), none, some (aI p), some (aL a), none, some (aL b), none, o9, none], [], M)) (B := R (23, [some (aL a0), none, some (aL b0), none, some (aI p), some (aL a), none, some (aL b), none, o9, none], [], M)) (by omega) (by omega) (hB (by omega)))), (fun hz => hR _ (am_brt (P := (0 : Int) = 0) (A := R (41, [some (aL a0), none, some (aL b0), none, some (aI p), some (aL a), none, some (aL b), none, o9, none], [], M)) (B := R (23, [some (aL a0), none, some (aL b0), none, some (aI p), some (aL a), none, some (aL b), none, o9, none], [], M)) (by omega) (by omega) (hA (by omega)))), (fun hz => hR _ (am_brf (P := (1 : Int) = 0) (A := R (41, [some (aL a0), none, some (aL b0), none, some (aI p), some (aL a), none, some (aL b), none, o9, none], [], M)) (B := R (23, [some (aL a0), none, some (aL b0), none, some (aI p), some (aL a), none, some (aL b), none, o9, none], [], M)) (by omega) (by omega) (hB (by omega))))⟩) (fun _ => ?_) (fun hz => absurd (by omega) hz)
      show R (41, [some (aL a0), none, some (aL b0), none, some (aI p), some (aL a), none, some (aL b), none, o9, none], [], M)
      have hb0 : b = 0 := by omega
      rw [hb0, jf_gc_z (by omega)] at hg
      have hgb := jf_gc_b (a := a0) (b := b0) (by omega)
      refine hR _ (hR _ (am_brc (rg := am_in p) (P := p ≠ 0) (A := R (50, [some (aL a0), none, some (aL b0), none, some (aI p), some (aL a), none, some (aL b), none, o9, none], [], M)) (B := R (46, [some (aL a0), none, some (aL b0), none, some (aI p), some (aL a), none, some (aL b), none, o9, none], [], M)) (by omega) (fun c43 => ?_) (fun c43 => ?_)))
      · refine hR _ (hR _ (?_))
        show R (53, [some (aL a0), none, some (aL b0), none, some (aI p), some (aL a), none, some (aL b), none, o9, none], [aL a, aL b0], M)
        refine hR _ ⟨(by omega), ?_⟩
        show R (54, [some (aL a0), none, some (aL b0), none, some (aI p), some (aL a), none, some (aL b), none, o9, none], [aL (Int.tdiv b0 a)], M)
        refine hR _ (show K (some (aL (Int.tdiv b0 a))) M from ?_)
        have hil : jf_il a0 b0 p = (Int.tdiv b0 a) := by
          unfold jf_il
          rw [if_pos hp, if_pos (show 0 ≤ a0 by omega), ← hg, if_pos (by omega)]
        rw [hil] at h
        exact h
      · refine hR _ (hR _ (hR _ (?_)))
        show R (53, [some (aL a0), none, some (aL b0), none, some (aI p), some (aL a), none, some (aL b), none, o9, none], [aL a, aL a0], M)
        refine hR _ ⟨(by omega), ?_⟩
        show R (54, [some (aL a0), none, some (aL b0), none, some (aI p), some (aL a), none, some (aL b), none, o9, none], [aL (Int.tdiv a0 a)], M)
        refine hR _ (show K (some (aL (Int.tdiv a0 a))) M from ?_)
        have hil : jf_il a0 b0 p = (Int.tdiv a0 a) := by
          unfold jf_il
          rw [if_pos hp, if_pos (show 0 ≤ a0 by omega), ← hg, if_neg (by omega)]
        rw [hil] at h
        exact h
    | succ n ih =>
      intro a b o9 ha0 ha1 hb0 hb1 hbn hg
      refine hR _ (hR _ (?_))
      show R (19, [some (aL a0), none, some (aL b0), none, some (aI p), some (aL a), none, some (aL b), none, o9, none], [aL 0, aL b], M)
      refine am_lc (x := b) (y := 0) (P := b = 0) (A := R (41, [some (aL a0), none, some (aL b0), none, some (aI p), some (aL a), none, some (aL b), none, o9, none], [], M)) (B := R (23, [some (aL a0), none, some (aL b0), none, some (aI p), some (aL a), none, some (aL b), none, o9, none], [], M)) (by omega) (fun hA hB => hR _ ⟨(by omega), (fun hz => hR _ (am_brf (P := (-1 : Int) = 0) (A := R (41, [some (aL a0), none, some (aL b0), none, some (aI p), some (aL a), none, some (aL b), none, o9, none], [], M)) (B := R (23, [some (aL a0), none, some (aL b0), none, some (aI p), some (aL a), none, some (aL b), none, o9, none], [], M)) (by omega) (by omega) (hB (by omega)))), (fun hz => hR _ (am_brt (P := (0 : Int) = 0) (A := R (41, [some (aL a0), none, some (aL b0), none, some (aI p), some (aL a), none, some (aL b), none, o9, none], [], M)) (B := R (23, [some (aL a0), none, some (aL b0), none, some (aI p), some (aL a), none, some (aL b), none, o9, none], [], M)) (by omega) (by omega) (hA (by omega)))), (fun hz => hR _ (am_brf (P := (1 : Int) = 0) (A := R (41, [some (aL a0), none, some (aL b0), none, some (aI p), some (aL a), none, some (aL b), none, o9, none], [], M)) (B := R (23, [some (aL a0), none, some (aL b0), none, some (aI p), some (aL a), none, some (aL b), none, o9, none], [], M)) (by omega) (by omega) (hB (by omega))))⟩) (fun c19 => ?_) (fun c19 => ?_)
      · have hb0 : b = 0 := by omega
        rw [hb0, jf_gc_z (by omega)] at hg
        have hgb := jf_gc_b (a := a0) (b := b0) (by omega)
        refine hR _ (hR _ (am_brc (rg := am_in p) (P := p ≠ 0) (A := R (50, [some (aL a0), none, some (aL b0), none, some (aI p), some (aL a), none, some (aL b), none, o9, none], [], M)) (B := R (46, [some (aL a0), none, some (aL b0), none, some (aI p), some (aL a), none, some (aL b), none, o9, none], [], M)) (by omega) (fun c43 => ?_) (fun c43 => ?_)))
        · refine hR _ (hR _ (?_))
          show R (53, [some (aL a0), none, some (aL b0), none, some (aI p), some (aL a), none, some (aL b), none, o9, none], [aL a, aL b0], M)
          refine hR _ ⟨(by omega), ?_⟩
          show R (54, [some (aL a0), none, some (aL b0), none, some (aI p), some (aL a), none, some (aL b), none, o9, none], [aL (Int.tdiv b0 a)], M)
          refine hR _ (show K (some (aL (Int.tdiv b0 a))) M from ?_)
          have hil : jf_il a0 b0 p = (Int.tdiv b0 a) := by
            unfold jf_il
            rw [if_pos hp, if_pos (show 0 ≤ a0 by omega), ← hg, if_pos (by omega)]
          rw [hil] at h
          exact h
        · refine hR _ (hR _ (hR _ (?_)))
          show R (53, [some (aL a0), none, some (aL b0), none, some (aI p), some (aL a), none, some (aL b), none, o9, none], [aL a, aL a0], M)
          refine hR _ ⟨(by omega), ?_⟩
          show R (54, [some (aL a0), none, some (aL b0), none, some (aI p), some (aL a), none, some (aL b), none, o9, none], [aL (Int.tdiv a0 a)], M)
          refine hR _ (show K (some (aL (Int.tdiv a0 a))) M from ?_)
          have hil : jf_il a0 b0 p = (Int.tdiv a0 a) := by
            unfold jf_il
            rw [if_pos hp, if_pos (show 0 ≤ a0 by omega), ← hg, if_neg (by omega)]
          rw [hil] at h
          exact h
      · refine hR _ (hR _ (?_))
        show R (27, [some (aL a0), none, some (aL b0), none, some (aI p), some (aL a), none, some (aL b), none, o9, none], [aL b, aL a], M)
        refine hR _ ⟨(by omega), ?_⟩
        show R (28, [some (aL a0), none, some (aL b0), none, some (aI p), some (aL a), none, some (aL b), none, o9, none], [aL (Int.tmod a b)], M)
        refine hR _ (hR _ (hR _ (hR _ (hR _ (hR _ (?_))))))
        show R (16, [some (aL a0), none, some (aL b0), none, some (aI p), some (aL b), none, some (aL (Int.tmod a b)), none, some (aL (Int.tmod a b)), none], [], M)
        have hr1 := Int.emod_nonneg a (show b ≠ 0 by omega)
        have hr2 := Int.emod_lt_of_pos a (show 0 < b by omega)
        have e9 := jf_tm a b ha0
        refine ih _ _ _ hb0 hb1 (by omega) (by omega) (by omega) ?_
        rw [jf_gc_s ha0 hb0]
        exact hg
  refine hR _ (hR _ (?_))
  show R (2, [some (aL a0), none, some (aL b0), none, some (aI p), none, none, none, none, none, none], [aL 0, aL a0], M)
  refine am_lc (x := a0) (y := 0) (P := a0 ≠ 0) (A := R (10, [some (aL a0), none, some (aL b0), none, some (aI p), none, none, none, none, none, none], [], M)) (B := R (6, [some (aL a0), none, some (aL b0), none, some (aI p), none, none, none, none, none, none], [], M)) (by omega) (fun hA hB => hR _ ⟨(by omega), (fun hz => hR _ (am_brt (P := (-1 : Int) ≠ 0) (A := R (10, [some (aL a0), none, some (aL b0), none, some (aI p), none, none, none, none, none, none], [], M)) (B := R (6, [some (aL a0), none, some (aL b0), none, some (aI p), none, none, none, none, none, none], [], M)) (by omega) (by omega) (hA (by omega)))), (fun hz => hR _ (am_brf (P := (0 : Int) ≠ 0) (A := R (10, [some (aL a0), none, some (aL b0), none, some (aI p), none, none, none, none, none, none], [], M)) (B := R (6, [some (aL a0), none, some (aL b0), none, some (aI p), none, none, none, none, none, none], [], M)) (by omega) (by omega) (hB (by omega)))), (fun hz => hR _ (am_brt (P := (1 : Int) ≠ 0) (A := R (10, [some (aL a0), none, some (aL b0), none, some (aI p), none, none, none, none, none, none], [], M)) (B := R (6, [some (aL a0), none, some (aL b0), none, some (aI p), none, none, none, none, none, none], [], M)) (by omega) (by omega) (hA (by omega))))⟩) (fun c2 => ?_) (fun c2 => ?_)
  · refine hR _ (hR _ (hR _ (hR _ (?_))))
    show R (16, [some (aL a0), none, some (aL b0), none, some (aI p), some (aL a0), none, some (aL b0), none, none, none], [], M)
    exact key b0.toNat _ _ _ (by omega) (by omega) (by omega) (by omega) (by omega) rfl
  · refine hR _ (?_)
    show R (8, [some (aL a0), none, some (aL b0), none, some (aI p), none, none, none, none, none, none], [aI p], M)
    refine hR _ ⟨(by omega), ?_⟩
    show R (9, [some (aL a0), none, some (aL b0), none, some (aI p), none, none, none, none, none, none], [aL p], M)
    refine hR _ (show K (some (aL p)) M from ?_)
    rw [show a0 = 0 by omega, jf_il_0 (by omega) hp] at h
    exact h

theorem sm_fraction {d : Nat} (hd : 2 ≤ d) {a0 b0 p : Int} {M : am_M} {K : am_K} (ha : -1000000000000 ≤ a0 ∧ a0 ≤ 1000000000000) (hb : 1 ≤ b0 ∧ b0 ≤ 1000000000000) (hp : 0 ≤ p ∧ p ≤ 1) (h : K (some (aL (jf_il a0 b0 p))) M) : am_Call true d 175 [aL a0, aL b0, aI p] M K := by
  obtain ⟨d, rfl⟩ : ∃ e, d = e + 1 := ⟨d - 1, by omega⟩
  refine ⟨rfl, fun R hR hC => ?_⟩
  replace hR : ∀ c, am_F true tb_f175 5 (am_Call true d) K R c → R c := hR
  show R (0, [some (aL a0), none, some (aL b0), none, some (aI p), none, none], [], M)
  refine hR _ (hR _ (?_))
  show R (2, [some (aL a0), none, some (aL b0), none, some (aI p), none, none], [aL 0, aL a0], M)
  refine am_lc (x := a0) (y := 0) (P := 0 ≤ a0) (A := R (11, [some (aL a0), none, some (aL b0), none, some (aI p), none, none], [], M)) (B := R (6, [some (aL a0), none, some (aL b0), none, some (aI p), none, none], [], M)) (by omega) (fun hA hB => hR _ ⟨(by omega), (fun hz => hR _ (am_brf (P := 0 ≤ (-1 : Int)) (A := R (11, [some (aL a0), none, some (aL b0), none, some (aI p), none, none], [], M)) (B := R (6, [some (aL a0), none, some (aL b0), none, some (aI p), none, none], [], M)) (by omega) (by omega) (hB (by omega)))), (fun hz => hR _ (am_brt (P := 0 ≤ (0 : Int)) (A := R (11, [some (aL a0), none, some (aL b0), none, some (aI p), none, none], [], M)) (B := R (6, [some (aL a0), none, some (aL b0), none, some (aI p), none, none], [], M)) (by omega) (by omega) (hA (by omega)))), (fun hz => hR _ (am_brt (P := 0 ≤ (1 : Int)) (A := R (11, [some (aL a0), none, some (aL b0), none, some (aI p), none, none], [], M)) (B := R (6, [some (aL a0), none, some (aL b0), none, some (aI p), none, none], [], M)) (by omega) (by omega) (hA (by omega))))⟩) (fun c2 => ?_) (fun c2 => ?_)
  · refine hR _ (hR _ (hR _ (?_)))
    show R (15, [some (aL a0), none, some (aL b0), none, some (aI p), none, none], [aI p, aL b0, aL a0], M)
    refine hR _ (sm_lowest (by omega) (by omega) (by omega) (by omega) ?_)
    show R (18, [some (aL a0), none, some (aL b0), none, some (aI p), none, none], [aL (jf_il a0 b0 p)], M)
    refine hR _ (hR _ (hR _ (am_brc (rg := am_in p) (P := p ≠ 0) (A := R (37, [some (aL a0), none, some (aL b0), none, some (aI p), some (aL (jf_il a0 b0 p)), none], [], M)) (B := R (25, [some (aL a0), none, some (aL b0), none, some (aI p), some (aL (jf_il a0 b0 p)), none], [], M)) (by omega) (fun c22 => ?_) (fun c22 => ?_))))
    · refine hR _ (?_)
      show R (39, [some (aL a0), none, some (aL b0), none, some (aI p), some (aL (jf_il a0 b0 p)), none], [aL (jf_il a0 b0 p)], M)
      refine hR _ (show K (some (aL (jf_il a0 b0 p))) M from ?_)
      have hx : jf_il a0 b0 p = (jf_il a0 b0 p) := by
        first | rfl | (exfalso; omega) | (rw [jf_il_neg (by omega) hp]; first | (rw [if_pos (by omega)]; done) | (rw [if_neg (by omega)]; done))
      rw [hx] at h
      exact h
    · refine hR _ (hR _ (?_))
      show R (27, [some (aL a0), none, some (aL b0), none, some (aI p), some (aL (jf_il a0 b0 p)), none], [aL 0, aL a0], M)
      refine am_lc (x := a0) (y := 0) (P := 0 ≤ a0) (A := R (37, [some (aL a0), none, some (aL b0), none, some (aI p), some (aL (jf_il a0 b0 p)), none], [], M)) (B := R (31, [some (aL a0), none, some (aL b0), none, some (aI p), some (aL (jf_il a0 b0 p)), none], [], M)) (by omega) (fun hA hB => hR _ ⟨(by omega), (fun hz => hR _ (am_brf (P := 0 ≤ (-1 : Int)) (A := R (37, [some (aL a0), none, some (aL b0), none, some (aI p), some (aL (jf_il a0 b0 p)), none], [], M)) (B := R (31, [some (aL a0), none, some (aL b0), none, some (aI p), some (aL (jf_il a0 b0 p)), none], [], M)) (by omega) (by omega) (hB (by omega)))), (fun hz => hR _ (am_brt (P := 0 ≤ (0 : Int)) (A := R (37, [some (aL a0), none, some (aL b0), none, some (aI p), some (aL (jf_il a0 b0 p)), none], [], M)) (B := R (31, [some (aL a0), none, some (aL b0), none, some (aI p), some (aL (jf_il a0 b0 p)), none], [], M)) (by omega) (by omega) (hA (by omega)))), (fun hz => hR _ (am_brt (P := 0 ≤ (1 : Int)) (A := R (37, [some (aL a0), none, some (aL b0), none, some (aI p), some (aL (jf_il a0 b0 p)), none], [], M)) (B := R (31, [some (aL a0), none, some (aL b0), none, some (aI p), some (aL (jf_il a0 b0 p)), none], [], M)) (by omega) (by omega) (hA (by omega))))⟩) (fun c27 => ?_) (fun c27 => ?_)
      · refine hR _ (?_)
        show R (39, [some (aL a0), none, some (aL b0), none, some (aI p), some (aL (jf_il a0 b0 p)), none], [aL (jf_il a0 b0 p)], M)
        refine hR _ (show K (some (aL (jf_il a0 b0 p))) M from ?_)
        have hx : jf_il a0 b0 p = (jf_il a0 b0 p) := by
          first | rfl | (exfalso; omega) | (rw [jf_il_neg (by omega) hp]; first | (rw [if_pos (by omega)]; done) | (rw [if_neg (by omega)]; done))
        rw [hx] at h
        exact h
      · refine hR _ (hR _ (hR _ (?_)))
        show R (39, [some (aL a0), none, some (aL b0), none, some (aI p), some (aL (jf_il a0 b0 p)), none], [aL (-(jf_il a0 b0 p))], M)
        refine hR _ (show K (some (aL (-(jf_il a0 b0 p)))) M from ?_)
        have hx : jf_il a0 b0 p = (-(jf_il a0 b0 p)) := by
          first | rfl | (exfalso; omega) | (rw [jf_il_neg (by omega) hp]; first | (rw [if_pos (by omega)]; done) | (rw [if_neg (by omega)]; done))
        rw [hx] at h
        exact h
  · refine hR _ (hR _ (hR _ (hR _ (hR _ (?_)))))
    show R (15, [some (aL a0), none, some (aL b0), none, some (aI p), none, none], [aI p, aL b0, aL (-a0)], M)
    refine hR _ (sm_lowest (by omega) (by omega) (by omega) (by omega) ?_)
    show R (18, [some (aL a0), none, some (aL b0), none, some (aI p), none, none], [aL (jf_il (-a0) b0 p)], M)
    refine hR _ (hR _ (hR _ (am_brc (rg := am_in p) (P := p ≠ 0) (A := R (37, [some (aL a0), none, some (aL b0), none, some (aI p), some (aL (jf_il (-a0) b0 p)), none], [], M)) (B := R (25, [some (aL a0), none, some (aL b0), none, some (aI p), some (aL (jf_il (-a0) b0 p)), none], [], M)) (by omega) (fun c22 => ?_) (fun c22 => ?_))))
    · refine hR _ (?_)
      show R (39, [some (aL a0), none, some (aL b0), none, some (aI p), some (aL (jf_il (-a0) b0 p)), none], [aL (jf_il (-a0) b0 p)], M)
      refine hR _ (show K (some (aL (jf_il (-a0) b0 p))) M from ?_)
      have hx : jf_il a0 b0 p = (jf_il (-a0) b0 p) := by
        first | rfl | (exfalso; omega) | (rw [jf_il_neg (by omega) hp]; first | (rw [if_pos (by omega)]; done) | (rw [if_neg (by omega)]; done))
      rw [hx] at h
      exact h
    · refine hR _ (hR _ (?_))
      show R (27, [some (aL a0), none, some (aL b0), none, some (aI p), some (aL (jf_il (-a0) b0 p)), none], [aL 0, aL a0], M)
      refine am_lc (x := a0) (y := 0) (P := 0 ≤ a0) (A := R (37, [some (aL a0), none, some (aL b0), none, some (aI p), some (aL (jf_il (-a0) b0 p)), none], [], M)) (B := R (31, [some (aL a0), none, some (aL b0), none, some (aI p), some (aL (jf_il (-a0) b0 p)), none], [], M)) (by omega) (fun hA hB => hR _ ⟨(by omega), (fun hz => hR _ (am_brf (P := 0 ≤ (-1 : Int)) (A := R (37, [some (aL a0), none, some (aL b0), none, some (aI p), some (aL (jf_il (-a0) b0 p)), none], [], M)) (B := R (31, [some (aL a0), none, some (aL b0), none, some (aI p), some (aL (jf_il (-a0) b0 p)), none], [], M)) (by omega) (by omega) (hB (by omega)))), (fun hz => hR _ (am_brt (P := 0 ≤ (0 : Int)) (A := R (37, [some (aL a0), none, some (aL b0), none, some (aI p), some (aL (jf_il (-a0) b0 p)), none], [], M)) (B := R (31, [some (aL a0), none, some (aL b0), none, some (aI p), some (aL (jf_il (-a0) b0 p)), none], [], M)) (by omega) (by omega) (hA (by omega)))), (fun hz => hR _ (am_brt (P := 0 ≤ (1 : Int)) (A := R (37, [some (aL a0), none, some (aL b0), none, some (aI p), some (aL (jf_il (-a0) b0 p)), none], [], M)) (B := R (31, [some (aL a0), none, some (aL b0), none, some (aI p), some (aL (jf_il (-a0) b0 p)), none], [], M)) (by omega) (by omega) (hA (by omega))))⟩) (fun c27 => ?_) (fun c27 => ?_)
      · refine hR _ (?_)
        show R (39, [some (aL a0), none, some (aL b0), none, some (aI p), some (aL (jf_il (-a0) b0 p)), none], [aL (jf_il (-a0) b0 p)], M)
        refine hR _ (show K (some (aL (jf_il (-a0) b0 p))) M from ?_)
        have hx : jf_il a0 b0 p = (jf_il (-a0) b0 p) := by
          first | rfl | (exfalso; omega) | (rw [jf_il_neg (by omega) hp]; first | (rw [if_pos (by omega)]; done) | (rw [if_neg (by omega)]; done))
        rw [hx] at h
        exact h
      · refine hR _ (hR _ (hR _ (?_)))
        show R (39, [some (aL a0), none, some (aL b0), none, some (aI p), some (aL (jf_il (-a0) b0 p)), none], [aL (-(jf_il (-a0) b0 p))], M)
        refine hR _ (show K (some (aL (-(jf_il (-a0) b0 p)))) M from ?_)
        have hx : jf_il a0 b0 p = (-(jf_il (-a0) b0 p)) := by
          first | rfl | (exfalso; omega) | (rw [jf_il_neg (by omega) hp]; first | (rw [if_pos (by omega)]; done) | (rw [if_neg (by omega)]; done))
        rw [hx] at h
        exact h

theorem sm_costOf {d : Nat} (hd : 4 ≤ d) {k r : Nat} {p : jf_par} {s mk : Int} {M : am_M} {K : am_K} (hk : k < 5) (hr : M 431 0 0 = (r : Int)) (hr6 : r < 6) (hwt : mo_wt M r) (hp : mo_p M k r p) (hok : jf_ok p) (hs : 0 ≤ s ∧ s ≤ 6000) (hmk : 0 ≤ mk ∧ mk ≤ 6000) (h : ∀ g, K (some (aI (jf_co p mk s))) (am_mix [37, 38] g M)) : am_Call true d 162 [aR 8 0, aI ((k : Nat) : Int), aI s, aI mk] M K := by
  obtain ⟨d, rfl⟩ : ∃ e, d = e + 1 := ⟨d - 1, by omega⟩
  refine ⟨rfl, fun R hR hC => ?_⟩
  replace hR : ∀ c, am_F true tb_f162 1 (am_Call true d) K R c → R c := hR
  have hmo : 0 ≤ M 24 0 k ∧ M 24 0 k ≤ 9 := by rw [← hp.1.2.1]; exact hok.2.1
  have hpr : 1 ≤ M 22 0 2 ∧ M 22 0 2 ≤ 99 := by rw [← hp.2.1.2.1]; exact hok.2.2.2.2.2.1
  show R (0, [some (aR 8 0), some (aI ((k : Nat) : Int)), some (aI s), some (aI mk), none], [], M)
  refine hR _ (hR _ (hR _ (am_brc (rg := am_in s ∧ am_in mk) (P := s ≤ mk) (A := R (11, [some (aR 8 0), some (aI ((k : Nat) : Int)), some (aI s), some (aI mk), none], [], M)) (B := R (5, [some (aR 8 0), some (aI ((k : Nat) : Int)), some (aI s), some (aI mk), none], [], M)) (by omega) (fun c2 => ?_) (fun c2 => ?_))))
  · refine hR _ (hR _ (hR _ (hR _ (hR _ (hR _ (hR _ (hR _ (hR _ (hR _ (hR _ (am_brc (rg := am_in (mk - s) ∧ am_in 999) (P := (mk - s) ≤ 999) (A := R (34, [some (aR 8 0), some (aI ((k : Nat) : Int)), some (aI s), some (aI mk), some (aI (mk - s))], [aI 0, aI 0, aI 2, aR 8 0], M)) (B := R (28, [some (aR 8 0), some (aI ((k : Nat) : Int)), some (aI s), some (aI mk), some (aI (mk - s))], [aI 0, aI 0, aI 2, aR 8 0], M)) (by omega) (fun c25 => ?_) (fun c25 => ?_))))))))))))
    · refine hR _ (hR _ (hR _ (hR _ (am_brc (rg := am_in s ∧ am_in mk) (P := s ≤ mk) (A := R (45, [some (aR 8 0), some (aI ((k : Nat) : Int)), some (aI s), some (aI mk), some (aI (mk - s))], [aI (mk - s), aI 0, aI 0, aI 2, aR 8 0], M)) (B := R (41, [some (aR 8 0), some (aI ((k : Nat) : Int)), some (aI s), some (aI mk), some (aI (mk - s))], [aI (mk - s), aI 0, aI 0, aI 2, aR 8 0], M)) (by omega) (fun c38 => ?_) (fun c38 => ?_)))))
      · refine hR _ (hR _ (hR _ (hR _ (?_))))
        show R (51, [some (aR 8 0), some (aI ((k : Nat) : Int)), some (aI s), some (aI mk), some (aI (mk - s))], [aI ((k : Nat) : Int), aR 24 0, aI 0, aI (mk - s), aI 0, aI 0, aI 2, aR 8 0], M)
        refine hR _ ⟨(show 0 ≤ (((k : Nat) : Int) : Int) ∧ (((k : Nat) : Int) : Int) < 5 from (by omega)), ?_⟩
        show R (52, [some (aR 8 0), some (aI ((k : Nat) : Int)), some (aI s), some (aI mk), some (aI (mk - s))], [aI (M 24 0 k), aI 0, aI (mk - s), aI 0, aI 0, aI 2, aR 8 0], M)
        refine hR _ (sm_asksOf_2 (r := r) (by omega) hr hr6 hwt (show am_in (M 22 0 2) from by omega) ⟨by omega, by omega, by omega, by omega, by omega⟩ (fun g142 => ?_))
        have hs52 : 0 ≤ (jf_cs (M 24 0 k) (M 22 0 2) (mo_tk M r 2) (mk - s) 0) ∧ (jf_cs (M 24 0 k) (M 22 0 2) (mo_tk M r 2) (mk - s) 0) ≤ 999 := jf_cl2 _
        show R (55, [some (aR 8 0), some (aI ((k : Nat) : Int)), some (aI s), some (aI mk), some (aI (mk - s))], [aI (jf_cs (M 24 0 k) (M 22 0 2) (mo_tk M r 2) (mk - s) 0)], am_mix [37, 38] g142 M)
        refine hR _ (show K (some (aI (jf_cs (M 24 0 k) (M 22 0 2) (mo_tk M r 2) (mk - s) 0))) (am_mix [37, 38] g142 M) from ?_)
        refine am_kr (h _) ?_
        show jf_cs p.mo p.pr (p.T 2) (min 999 (if 0 ≤ s - mk then s - mk else -(s - mk))) (if s ≤ mk then 0 else 1) = _
        rw [hp.1.2.1, hp.2.1.2.1, hp.2.2.2.2]
        rw [show min 999 (if 0 ≤ s - mk then s - mk else -(s - mk)) = (mk - s) by split <;> omega, show (if s ≤ mk then (0 : Int) else 1) = 0 by split <;> omega]
      · refine hR _ (hR _ (hR _ (hR _ (hR _ (?_)))))
        show R (51, [some (aR 8 0), some (aI ((k : Nat) : Int)), some (aI s), some (aI mk), some (aI (mk - s))], [aI ((k : Nat) : Int), aR 24 0, aI 1, aI (mk - s), aI 0, aI 0, aI 2, aR 8 0], M)
        refine hR _ ⟨(show 0 ≤ (((k : Nat) : Int) : Int) ∧ (((k : Nat) : Int) : Int) < 5 from (by omega)), ?_⟩
        show R (52, [some (aR 8 0), some (aI ((k : Nat) : Int)), some (aI s), some (aI mk), some (aI (mk - s))], [aI (M 24 0 k), aI 1, aI (mk - s), aI 0, aI 0, aI 2, aR 8 0], M)
        refine hR _ (sm_asksOf_2 (r := r) (by omega) hr hr6 hwt (show am_in (M 22 0 2) from by omega) ⟨by omega, by omega, by omega, by omega, by omega⟩ (fun g143 => ?_))
        have hs52 : 0 ≤ (jf_cs (M 24 0 k) (M 22 0 2) (mo_tk M r 2) (mk - s) 1) ∧ (jf_cs (M 24 0 k) (M 22 0 2) (mo_tk M r 2) (mk - s) 1) ≤ 999 := jf_cl2 _
        show R (55, [some (aR 8 0), some (aI ((k : Nat) : Int)), some (aI s), some (aI mk), some (aI (mk - s))], [aI (jf_cs (M 24 0 k) (M 22 0 2) (mo_tk M r 2) (mk - s) 1)], am_mix [37, 38] g143 M)
        refine hR _ (show K (some (aI (jf_cs (M 24 0 k) (M 22 0 2) (mo_tk M r 2) (mk - s) 1))) (am_mix [37, 38] g143 M) from ?_)
        refine am_kr (h _) ?_
        show jf_cs p.mo p.pr (p.T 2) (min 999 (if 0 ≤ s - mk then s - mk else -(s - mk))) (if s ≤ mk then 0 else 1) = _
        rw [hp.1.2.1, hp.2.1.2.1, hp.2.2.2.2]
        rw [show min 999 (if 0 ≤ s - mk then s - mk else -(s - mk)) = (mk - s) by split <;> omega, show (if s ≤ mk then (0 : Int) else 1) = 1 by split <;> omega]
    · refine hR _ (hR _ (hR _ (hR _ (hR _ (am_brc (rg := am_in s ∧ am_in mk) (P := s ≤ mk) (A := R (45, [some (aR 8 0), some (aI ((k : Nat) : Int)), some (aI s), some (aI mk), some (aI (mk - s))], [aI 999, aI 0, aI 0, aI 2, aR 8 0], M)) (B := R (41, [some (aR 8 0), some (aI ((k : Nat) : Int)), some (aI s), some (aI mk), some (aI (mk - s))], [aI 999, aI 0, aI 0, aI 2, aR 8 0], M)) (by omega) (fun c38 => ?_) (fun c38 => ?_))))))
      · refine hR _ (hR _ (hR _ (hR _ (?_))))
        show R (51, [some (aR 8 0), some (aI ((k : Nat) : Int)), some (aI s), some (aI mk), some (aI (mk - s))], [aI ((k : Nat) : Int), aR 24 0, aI 0, aI 999, aI 0, aI 0, aI 2, aR 8 0], M)
        refine hR _ ⟨(show 0 ≤ (((k : Nat) : Int) : Int) ∧ (((k : Nat) : Int) : Int) < 5 from (by omega)), ?_⟩
        show R (52, [some (aR 8 0), some (aI ((k : Nat) : Int)), some (aI s), some (aI mk), some (aI (mk - s))], [aI (M 24 0 k), aI 0, aI 999, aI 0, aI 0, aI 2, aR 8 0], M)
        refine hR _ (sm_asksOf_2 (r := r) (by omega) hr hr6 hwt (show am_in (M 22 0 2) from by omega) ⟨by omega, by omega, by omega, by omega, by omega⟩ (fun g144 => ?_))
        have hs52 : 0 ≤ (jf_cs (M 24 0 k) (M 22 0 2) (mo_tk M r 2) 999 0) ∧ (jf_cs (M 24 0 k) (M 22 0 2) (mo_tk M r 2) 999 0) ≤ 999 := jf_cl2 _
        show R (55, [some (aR 8 0), some (aI ((k : Nat) : Int)), some (aI s), some (aI mk), some (aI (mk - s))], [aI (jf_cs (M 24 0 k) (M 22 0 2) (mo_tk M r 2) 999 0)], am_mix [37, 38] g144 M)
        refine hR _ (show K (some (aI (jf_cs (M 24 0 k) (M 22 0 2) (mo_tk M r 2) 999 0))) (am_mix [37, 38] g144 M) from ?_)
        refine am_kr (h _) ?_
        show jf_cs p.mo p.pr (p.T 2) (min 999 (if 0 ≤ s - mk then s - mk else -(s - mk))) (if s ≤ mk then 0 else 1) = _
        rw [hp.1.2.1, hp.2.1.2.1, hp.2.2.2.2]
        rw [show min 999 (if 0 ≤ s - mk then s - mk else -(s - mk)) = 999 by split <;> omega, show (if s ≤ mk then (0 : Int) else 1) = 0 by split <;> omega]
      · refine hR _ (hR _ (hR _ (hR _ (hR _ (?_)))))
        show R (51, [some (aR 8 0), some (aI ((k : Nat) : Int)), some (aI s), some (aI mk), some (aI (mk - s))], [aI ((k : Nat) : Int), aR 24 0, aI 1, aI 999, aI 0, aI 0, aI 2, aR 8 0], M)
        refine hR _ ⟨(show 0 ≤ (((k : Nat) : Int) : Int) ∧ (((k : Nat) : Int) : Int) < 5 from (by omega)), ?_⟩
        show R (52, [some (aR 8 0), some (aI ((k : Nat) : Int)), some (aI s), some (aI mk), some (aI (mk - s))], [aI (M 24 0 k), aI 1, aI 999, aI 0, aI 0, aI 2, aR 8 0], M)
        refine hR _ (sm_asksOf_2 (r := r) (by omega) hr hr6 hwt (show am_in (M 22 0 2) from by omega) ⟨by omega, by omega, by omega, by omega, by omega⟩ (fun g145 => ?_))
        have hs52 : 0 ≤ (jf_cs (M 24 0 k) (M 22 0 2) (mo_tk M r 2) 999 1) ∧ (jf_cs (M 24 0 k) (M 22 0 2) (mo_tk M r 2) 999 1) ≤ 999 := jf_cl2 _
        show R (55, [some (aR 8 0), some (aI ((k : Nat) : Int)), some (aI s), some (aI mk), some (aI (mk - s))], [aI (jf_cs (M 24 0 k) (M 22 0 2) (mo_tk M r 2) 999 1)], am_mix [37, 38] g145 M)
        refine hR _ (show K (some (aI (jf_cs (M 24 0 k) (M 22 0 2) (mo_tk M r 2) 999 1))) (am_mix [37, 38] g145 M) from ?_)
        refine am_kr (h _) ?_
        show jf_cs p.mo p.pr (p.T 2) (min 999 (if 0 ≤ s - mk then s - mk else -(s - mk))) (if s ≤ mk then 0 else 1) = _
        rw [hp.1.2.1, hp.2.1.2.1, hp.2.2.2.2]
        rw [show min 999 (if 0 ≤ s - mk then s - mk else -(s - mk)) = 999 by split <;> omega, show (if s ≤ mk then (0 : Int) else 1) = 1 by split <;> omega]
  · refine hR _ (hR _ (hR _ (hR _ (hR _ (hR _ (hR _ (hR _ (hR _ (hR _ (hR _ (hR _ (am_brc (rg := am_in (s - mk) ∧ am_in 999) (P := (s - mk) ≤ 999) (A := R (34, [some (aR 8 0), some (aI ((k : Nat) : Int)), some (aI s), some (aI mk), some (aI (s - mk))], [aI 0, aI 0, aI 2, aR 8 0], M)) (B := R (28, [some (aR 8 0), some (aI ((k : Nat) : Int)), some (aI s), some (aI mk), some (aI (s - mk))], [aI 0, aI 0, aI 2, aR 8 0], M)) (by omega) (fun c25 => ?_) (fun c25 => ?_)))))))))))))
    · refine hR _ (hR _ (hR _ (hR _ (am_brc (rg := am_in s ∧ am_in mk) (P := s ≤ mk) (A := R (45, [some (aR 8 0), some (aI ((k : Nat) : Int)), some (aI s), some (aI mk), some (aI (s - mk))], [aI (s - mk), aI 0, aI 0, aI 2, aR 8 0], M)) (B := R (41, [some (aR 8 0), some (aI ((k : Nat) : Int)), some (aI s), some (aI mk), some (aI (s - mk))], [aI (s - mk), aI 0, aI 0, aI 2, aR 8 0], M)) (by omega) (fun c38 => ?_) (fun c38 => ?_)))))
      · refine hR _ (hR _ (hR _ (hR _ (?_))))
        show R (51, [some (aR 8 0), some (aI ((k : Nat) : Int)), some (aI s), some (aI mk), some (aI (s - mk))], [aI ((k : Nat) : Int), aR 24 0, aI 0, aI (s - mk), aI 0, aI 0, aI 2, aR 8 0], M)
        refine hR _ ⟨(show 0 ≤ (((k : Nat) : Int) : Int) ∧ (((k : Nat) : Int) : Int) < 5 from (by omega)), ?_⟩
        show R (52, [some (aR 8 0), some (aI ((k : Nat) : Int)), some (aI s), some (aI mk), some (aI (s - mk))], [aI (M 24 0 k), aI 0, aI (s - mk), aI 0, aI 0, aI 2, aR 8 0], M)
        refine hR _ (sm_asksOf_2 (r := r) (by omega) hr hr6 hwt (show am_in (M 22 0 2) from by omega) ⟨by omega, by omega, by omega, by omega, by omega⟩ (fun g146 => ?_))
        have hs52 : 0 ≤ (jf_cs (M 24 0 k) (M 22 0 2) (mo_tk M r 2) (s - mk) 0) ∧ (jf_cs (M 24 0 k) (M 22 0 2) (mo_tk M r 2) (s - mk) 0) ≤ 999 := jf_cl2 _
        show R (55, [some (aR 8 0), some (aI ((k : Nat) : Int)), some (aI s), some (aI mk), some (aI (s - mk))], [aI (jf_cs (M 24 0 k) (M 22 0 2) (mo_tk M r 2) (s - mk) 0)], am_mix [37, 38] g146 M)
        refine hR _ (show K (some (aI (jf_cs (M 24 0 k) (M 22 0 2) (mo_tk M r 2) (s - mk) 0))) (am_mix [37, 38] g146 M) from ?_)
        refine am_kr (h _) ?_
        show jf_cs p.mo p.pr (p.T 2) (min 999 (if 0 ≤ s - mk then s - mk else -(s - mk))) (if s ≤ mk then 0 else 1) = _
        rw [hp.1.2.1, hp.2.1.2.1, hp.2.2.2.2]
        rw [show min 999 (if 0 ≤ s - mk then s - mk else -(s - mk)) = (s - mk) by split <;> omega, show (if s ≤ mk then (0 : Int) else 1) = 0 by split <;> omega]
      · refine hR _ (hR _ (hR _ (hR _ (hR _ (?_)))))
        show R (51, [some (aR 8 0), some (aI ((k : Nat) : Int)), some (aI s), some (aI mk), some (aI (s - mk))], [aI ((k : Nat) : Int), aR 24 0, aI 1, aI (s - mk), aI 0, aI 0, aI 2, aR 8 0], M)
        refine hR _ ⟨(show 0 ≤ (((k : Nat) : Int) : Int) ∧ (((k : Nat) : Int) : Int) < 5 from (by omega)), ?_⟩
        show R (52, [some (aR 8 0), some (aI ((k : Nat) : Int)), some (aI s), some (aI mk), some (aI (s - mk))], [aI (M 24 0 k), aI 1, aI (s - mk), aI 0, aI 0, aI 2, aR 8 0], M)
        refine hR _ (sm_asksOf_2 (r := r) (by omega) hr hr6 hwt (show am_in (M 22 0 2) from by omega) ⟨by omega, by omega, by omega, by omega, by omega⟩ (fun g147 => ?_))
        have hs52 : 0 ≤ (jf_cs (M 24 0 k) (M 22 0 2) (mo_tk M r 2) (s - mk) 1) ∧ (jf_cs (M 24 0 k) (M 22 0 2) (mo_tk M r 2) (s - mk) 1) ≤ 999 := jf_cl2 _
        show R (55, [some (aR 8 0), some (aI ((k : Nat) : Int)), some (aI s), some (aI mk), some (aI (s - mk))], [aI (jf_cs (M 24 0 k) (M 22 0 2) (mo_tk M r 2) (s - mk) 1)], am_mix [37, 38] g147 M)
        refine hR _ (show K (some (aI (jf_cs (M 24 0 k) (M 22 0 2) (mo_tk M r 2) (s - mk) 1))) (am_mix [37, 38] g147 M) from ?_)
        refine am_kr (h _) ?_
        show jf_cs p.mo p.pr (p.T 2) (min 999 (if 0 ≤ s - mk then s - mk else -(s - mk))) (if s ≤ mk then 0 else 1) = _
        rw [hp.1.2.1, hp.2.1.2.1, hp.2.2.2.2]
        rw [show min 999 (if 0 ≤ s - mk then s - mk else -(s - mk)) = (s - mk) by split <;> omega, show (if s ≤ mk then (0 : Int) else 1) = 1 by split <;> omega]
    · refine hR _ (hR _ (hR _ (hR _ (hR _ (am_brc (rg := am_in s ∧ am_in mk) (P := s ≤ mk) (A := R (45, [some (aR 8 0), some (aI ((k : Nat) : Int)), some (aI s), some (aI mk), some (aI (s - mk))], [aI 999, aI 0, aI 0, aI 2, aR 8 0], M)) (B := R (41, [some (aR 8 0), some (aI ((k : Nat) : Int)), some (aI s), some (aI mk), some (aI (s - mk))], [aI 999, aI 0, aI 0, aI 2, aR 8 0], M)) (by omega) (fun c38 => ?_) (fun c38 => ?_))))))
      · refine hR _ (hR _ (hR _ (hR _ (?_))))
        show R (51, [some (aR 8 0), some (aI ((k : Nat) : Int)), some (aI s), some (aI mk), some (aI (s - mk))], [aI ((k : Nat) : Int), aR 24 0, aI 0, aI 999, aI 0, aI 0, aI 2, aR 8 0], M)
        refine hR _ ⟨(show 0 ≤ (((k : Nat) : Int) : Int) ∧ (((k : Nat) : Int) : Int) < 5 from (by omega)), ?_⟩
        show R (52, [some (aR 8 0), some (aI ((k : Nat) : Int)), some (aI s), some (aI mk), some (aI (s - mk))], [aI (M 24 0 k), aI 0, aI 999, aI 0, aI 0, aI 2, aR 8 0], M)
        refine hR _ (sm_asksOf_2 (r := r) (by omega) hr hr6 hwt (show am_in (M 22 0 2) from by omega) ⟨by omega, by omega, by omega, by omega, by omega⟩ (fun g148 => ?_))
        have hs52 : 0 ≤ (jf_cs (M 24 0 k) (M 22 0 2) (mo_tk M r 2) 999 0) ∧ (jf_cs (M 24 0 k) (M 22 0 2) (mo_tk M r 2) 999 0) ≤ 999 := jf_cl2 _
        show R (55, [some (aR 8 0), some (aI ((k : Nat) : Int)), some (aI s), some (aI mk), some (aI (s - mk))], [aI (jf_cs (M 24 0 k) (M 22 0 2) (mo_tk M r 2) 999 0)], am_mix [37, 38] g148 M)
        refine hR _ (show K (some (aI (jf_cs (M 24 0 k) (M 22 0 2) (mo_tk M r 2) 999 0))) (am_mix [37, 38] g148 M) from ?_)
        refine am_kr (h _) ?_
        show jf_cs p.mo p.pr (p.T 2) (min 999 (if 0 ≤ s - mk then s - mk else -(s - mk))) (if s ≤ mk then 0 else 1) = _
        rw [hp.1.2.1, hp.2.1.2.1, hp.2.2.2.2]
        rw [show min 999 (if 0 ≤ s - mk then s - mk else -(s - mk)) = 999 by split <;> omega, show (if s ≤ mk then (0 : Int) else 1) = 0 by split <;> omega]
      · refine hR _ (hR _ (hR _ (hR _ (hR _ (?_)))))
        show R (51, [some (aR 8 0), some (aI ((k : Nat) : Int)), some (aI s), some (aI mk), some (aI (s - mk))], [aI ((k : Nat) : Int), aR 24 0, aI 1, aI 999, aI 0, aI 0, aI 2, aR 8 0], M)
        refine hR _ ⟨(show 0 ≤ (((k : Nat) : Int) : Int) ∧ (((k : Nat) : Int) : Int) < 5 from (by omega)), ?_⟩
        show R (52, [some (aR 8 0), some (aI ((k : Nat) : Int)), some (aI s), some (aI mk), some (aI (s - mk))], [aI (M 24 0 k), aI 1, aI 999, aI 0, aI 0, aI 2, aR 8 0], M)
        refine hR _ (sm_asksOf_2 (r := r) (by omega) hr hr6 hwt (show am_in (M 22 0 2) from by omega) ⟨by omega, by omega, by omega, by omega, by omega⟩ (fun g149 => ?_))
        have hs52 : 0 ≤ (jf_cs (M 24 0 k) (M 22 0 2) (mo_tk M r 2) 999 1) ∧ (jf_cs (M 24 0 k) (M 22 0 2) (mo_tk M r 2) 999 1) ≤ 999 := jf_cl2 _
        show R (55, [some (aR 8 0), some (aI ((k : Nat) : Int)), some (aI s), some (aI mk), some (aI (s - mk))], [aI (jf_cs (M 24 0 k) (M 22 0 2) (mo_tk M r 2) 999 1)], am_mix [37, 38] g149 M)
        refine hR _ (show K (some (aI (jf_cs (M 24 0 k) (M 22 0 2) (mo_tk M r 2) 999 1))) (am_mix [37, 38] g149 M) from ?_)
        refine am_kr (h _) ?_
        show jf_cs p.mo p.pr (p.T 2) (min 999 (if 0 ≤ s - mk then s - mk else -(s - mk))) (if s ≤ mk then 0 else 1) = _
        rw [hp.1.2.1, hp.2.1.2.1, hp.2.2.2.2]
        rw [show min 999 (if 0 ≤ s - mk then s - mk else -(s - mk)) = 999 by split <;> omega, show (if s ≤ mk then (0 : Int) else 1) = 1 by split <;> omega]

theorem sm_costsBy {d : Nat} (hd : 5 ≤ d) {k r : Nat} {p : jf_par} {mk : Int} {M : am_M} {K : am_K} (hk : k < 5) (hr : M 431 0 0 = (r : Int)) (hr6 : r < 6) (hwt : mo_wt M r) (hp : mo_p M k r p) (hok : jf_ok p) (hth : mo_th M p) (hmk : 0 ≤ mk ∧ mk ≤ 6000) (h : ∀ g, K (some (aL (jf_cc p mk))) (am_mix [37, 38] g M)) : am_Call true d 161 [aR 8 0, aI ((k : Nat) : Int), aI mk] M K := by
  obtain ⟨d, rfl⟩ : ∃ e, d = e + 1 := ⟨d - 1, by omega⟩
  refine ⟨rfl, fun R hR hC => ?_⟩
  replace hR : ∀ c, am_F true tb_f161 5 (am_Call true d) K R c → R c := hR
  obtain ⟨hthr, hthA, hthN⟩ := hth
  show R (0, [some (aR 8 0), some (aI ((k : Nat) : Int)), some (aI mk), none, none, none], [], M)
  have hfb : ∀ a : Nat, a < 5 → 0 ≤ (fun a => jf_O p a * jf_co p mk (jf_E p a)) a ∧ (fun a => jf_O p a * jf_co p mk (jf_E p a)) a ≤ 12987 := by
    intro a ha
    have h1 := jf_O_b hok ha
    have h2 := jf_co_b p mk (jf_E p a)
    have h3 : 0 ≤ jf_O p a * jf_co p mk (jf_E p a) := Int.mul_nonneg (by omega) (by omega)
    have h4 : jf_O p a * jf_co p mk (jf_E p a) ≤ 13 * 999 := Int.mul_le_mul (by omega) (by omega) (by omega) (by omega)
    show 0 ≤ jf_O p a * jf_co p mk (jf_E p a) ∧ jf_O p a * jf_co p mk (jf_E p a) ≤ 12987
    omega
  have key : ∀ (n a : Nat) (x acc : Int) (g : am_M), x = (a : Int) → a + n = 5 → acc = mo_ps (fun a => jf_O p a * jf_co p mk (jf_E p a)) a → R (5, [some (aR 8 0), some (aI ((k : Nat) : Int)), some (aI mk), some (aL acc), none, some (aI x)], [], am_mix [37, 38] g M) := by
    intro n
    induction n with
    | zero =>
      intro a x acc g hx hin hacc
      subst hx
      have ha5 : a = 5 := by omega
      refine hR _ (hR _ (hR _ (am_brt (rg := am_in ((a : Nat) : Int) ∧ am_in 5) (P := 5 ≤ ((a : Nat) : Int)) (A := R (57, [some (aR 8 0), some (aI ((k : Nat) : Int)), some (aI mk), some (aL acc), none, some (aI ((a : Nat) : Int))], [], am_mix [37, 38] g M)) (B := R (11, [some (aR 8 0), some (aI ((k : Nat) : Int)), some (aI mk), some (aL acc), none, some (aI ((a : Nat) : Int))], [], am_mix [37, 38] g M)) (by omega) (by omega) ?_)))
      show R (57, [some (aR 8 0), some (aI ((k : Nat) : Int)), some (aI mk), some (aL acc), none, some (aI ((a : Nat) : Int))], [], am_mix [37, 38] g M)
      refine hR _ (?_)
      show R (58, [some (aR 8 0), some (aI ((k : Nat) : Int)), some (aI mk), some (aL acc), none, some (aI ((a : Nat) : Int))], [aL acc], am_mix [37, 38] g M)
      refine hR _ (show K (some (aL acc)) (am_mix [37, 38] g M) from ?_)
      rw [ha5, mo_ps_5] at hacc
      rw [hacc]
      exact h g
    | succ n ih =>
      intro a x acc g hx hin hacc
      subst hx
      have h1 := jf_O_b hok (a := a) (by omega)
      have h2 := jf_E_b hok (a := a) (by omega)
      have hb := mo_ps_b hfb a (by omega)
      have hf1 := hfb a (by omega)
      have hq0 : 0 ≤ mo_ps (fun a => jf_O p a * jf_co p mk (jf_E p a)) (a + 1) ∧ mo_ps (fun a => jf_O p a * jf_co p mk (jf_E p a)) (a + 1) ≤ (a + 1 : Nat) * 12987 := mo_ps_b hfb (a + 1) (by omega)
      refine hR _ (hR _ (hR _ (am_brf (rg := am_in ((a : Nat) : Int) ∧ am_in 5) (P := 5 ≤ ((a : Nat) : Int)) (A := R (57, [some (aR 8 0), some (aI ((k : Nat) : Int)), some (aI mk), some (aL acc), none, some (aI ((a : Nat) : Int))], [], am_mix [37, 38] g M)) (B := R (11, [some (aR 8 0), some (aI ((k : Nat) : Int)), some (aI mk), some (aL acc), none, some (aI ((a : Nat) : Int))], [], am_mix [37, 38] g M)) (by omega) (by omega) ?_)))
      show R (11, [some (aR 8 0), some (aI ((k : Nat) : Int)), some (aI mk), some (aL acc), none, some (aI ((a : Nat) : Int))], [], am_mix [37, 38] g M)
      refine hR _ (hR _ (hR _ (hR _ (?_))))
      show R (18, [some (aR 8 0), some (aI ((k : Nat) : Int)), some (aI mk), some (aL acc), none, some (aI ((a : Nat) : Int))], [aI ((a : Nat) : Int), aR 41 0, aL acc], am_mix [37, 38] g M)
      refine hR _ ⟨(show 0 ≤ (((a : Nat) : Int) : Int) ∧ (((a : Nat) : Int) : Int) < 5 from (by omega)), ?_⟩
      show R (19, [some (aR 8 0), some (aI ((k : Nat) : Int)), some (aI mk), some (aL acc), none, some (aI ((a : Nat) : Int))], [aI (M 41 0 a), aL acc], am_mix [37, 38] g M)
      rw [(show M 41 0 a = jf_O p a from (hthr a (by omega)).2.2)]
      show R (19, [some (aR 8 0), some (aI ((k : Nat) : Int)), some (aI mk), some (aL acc), none, some (aI ((a : Nat) : Int))], [aI (jf_O p a), aL acc], am_mix [37, 38] g M)
      refine hR _ (am_brc (rg := am_in (jf_O p a)) (P := (jf_O p a) ≠ 0) (A := R (26, [some (aR 8 0), some (aI ((k : Nat) : Int)), some (aI mk), some (aL acc), none, some (aI ((a : Nat) : Int))], [aL acc], am_mix [37, 38] g M)) (B := R (22, [some (aR 8 0), some (aI ((k : Nat) : Int)), some (aI mk), some (aL acc), none, some (aI ((a : Nat) : Int))], [aL acc], am_mix [37, 38] g M)) (by omega) (fun c19 => ?_) (fun c19 => ?_))
      · refine hR _ (hR _ (hR _ (?_)))
        show R (32, [some (aR 8 0), some (aI ((k : Nat) : Int)), some (aI mk), some (aL acc), none, some (aI ((a : Nat) : Int))], [aI ((a : Nat) : Int), aR 41 0, aL acc], am_mix [37, 38] g M)
        refine hR _ ⟨(show 0 ≤ (((a : Nat) : Int) : Int) ∧ (((a : Nat) : Int) : Int) < 5 from (by omega)), ?_⟩
        show R (33, [some (aR 8 0), some (aI ((k : Nat) : Int)), some (aI mk), some (aL acc), none, some (aI ((a : Nat) : Int))], [aI (M 41 0 a), aL acc], am_mix [37, 38] g M)
        rw [(show M 41 0 a = jf_O p a from (hthr a (by omega)).2.2)]
        show R (33, [some (aR 8 0), some (aI ((k : Nat) : Int)), some (aI mk), some (aL acc), none, some (aI ((a : Nat) : Int))], [aI (jf_O p a), aL acc], am_mix [37, 38] g M)
        refine hR _ ⟨(by omega), ?_⟩
        show R (34, [some (aR 8 0), some (aI ((k : Nat) : Int)), some (aI mk), some (aL acc), none, some (aI ((a : Nat) : Int))], [aL (jf_O p a), aL acc], am_mix [37, 38] g M)
        refine hR _ (hR _ (hR _ (hR _ (hR _ (?_)))))
        show R (42, [some (aR 8 0), some (aI ((k : Nat) : Int)), some (aI mk), some (aL acc), none, some (aI ((a : Nat) : Int))], [aI ((a : Nat) : Int), aR 39 0, aI ((k : Nat) : Int), aR 8 0, aL (jf_O p a), aL acc], am_mix [37, 38] g M)
        refine hR _ ⟨(show 0 ≤ (((a : Nat) : Int) : Int) ∧ (((a : Nat) : Int) : Int) < 5 from (by omega)), ?_⟩
        show R (43, [some (aR 8 0), some (aI ((k : Nat) : Int)), some (aI mk), some (aL acc), none, some (aI ((a : Nat) : Int))], [aI (M 39 0 a), aI ((k : Nat) : Int), aR 8 0, aL (jf_O p a), aL acc], am_mix [37, 38] g M)
        rw [(show M 39 0 a = jf_E p a from (hthr a (by omega)).1)]
        show R (43, [some (aR 8 0), some (aI ((k : Nat) : Int)), some (aI mk), some (aL acc), none, some (aI ((a : Nat) : Int))], [aI (jf_E p a), aI ((k : Nat) : Int), aR 8 0, aL (jf_O p a), aL acc], am_mix [37, 38] g M)
        refine hR _ (?_)
        show R (44, [some (aR 8 0), some (aI ((k : Nat) : Int)), some (aI mk), some (aL acc), none, some (aI ((a : Nat) : Int))], [aI mk, aI (jf_E p a), aI ((k : Nat) : Int), aR 8 0, aL (jf_O p a), aL acc], am_mix [37, 38] g M)
        refine hR _ (sm_costOf (p := p) (r := r) (by omega) hk hr hr6 hwt hp hok (by omega) (by omega) (fun g150 => ?_))
        have hco44 := jf_co_b p mk (jf_E p a)
        dsimp only
        rw [am_mix_sub (S := [37, 38]) (S2 := [37, 38]) rfl]
        show R (47, [some (aR 8 0), some (aI ((k : Nat) : Int)), some (aI mk), some (aL acc), none, some (aI ((a : Nat) : Int))], [aI (jf_co p mk (jf_E p a)), aL (jf_O p a), aL acc], am_mix [37, 38] g150 M)
        refine hR _ ⟨(by omega), ?_⟩
        show R (48, [some (aR 8 0), some (aI ((k : Nat) : Int)), some (aI mk), some (aL acc), none, some (aI ((a : Nat) : Int))], [aL (jf_co p mk (jf_E p a)), aL (jf_O p a), aL acc], am_mix [37, 38] g150 M)
        refine hR _ (hR _ (hR _ (hR _ (hR _ (?_)))))
        show R (5, [some (aR 8 0), some (aI ((k : Nat) : Int)), some (aI mk), some (aL (acc + ((jf_O p a) * (jf_co p mk (jf_E p a))))), none, some (aI (((a : Nat) : Int) + 1))], [], am_mix [37, 38] g150 M)
        refine ih (a + 1) _ _ _ (by omega) (by omega) ?_
        rw [hacc]
        show _ = mo_ps (fun a => jf_O p a * jf_co p mk (jf_E p a)) a + jf_O p a * jf_co p mk (jf_E p a)
        first | rfl | (rw [show jf_O p a = 0 by omega, Int.zero_mul])
      · refine hR _ (hR _ (hR _ (hR _ (hR _ (hR _ (?_))))))
        show R (5, [some (aR 8 0), some (aI ((k : Nat) : Int)), some (aI mk), some (aL (acc + 0)), none, some (aI (((a : Nat) : Int) + 1))], [], am_mix [37, 38] g M)
        refine ih (a + 1) _ _ _ (by omega) (by omega) ?_
        rw [hacc]
        show _ = mo_ps (fun a => jf_O p a * jf_co p mk (jf_E p a)) a + jf_O p a * jf_co p mk (jf_E p a)
        first | rfl | (rw [show jf_O p a = 0 by omega, Int.zero_mul])
  refine hR _ (hR _ (hR _ (hR _ (?_))))
  show R (5, [some (aR 8 0), some (aI ((k : Nat) : Int)), some (aI mk), some (aL 0), none, some (aI 0)], [], M)
  have e9 : am_ag [37, 38] M M := am_ag.rf
  rw [e9.eq]
  exact key 5 0 _ _ _ rfl rfl rfl

theorem sm_tenthsOfAll {d : Nat} (hd : 1 ≤ d) {p : jf_par} {M : am_M} {K : am_K} (hok : jf_ok p) (hth : mo_th M p) (h : K (some (aL (jf_tt p))) M) : am_Call true d 164 [aR 8 0] M K := by
  obtain ⟨d, rfl⟩ : ∃ e, d = e + 1 := ⟨d - 1, by omega⟩
  refine ⟨rfl, fun R hR hC => ?_⟩
  replace hR : ∀ c, am_F true tb_f164 5 (am_Call true d) K R c → R c := hR
  obtain ⟨hthr, hthA, hthN⟩ := hth
  have hO0 := jf_O_b hok (a := 0) (by omega)
  have hO1 := jf_O_b hok (a := 1) (by omega)
  have hO2 := jf_O_b hok (a := 2) (by omega)
  have hO3 := jf_O_b hok (a := 3) (by omega)
  have hO4 := jf_O_b hok (a := 4) (by omega)
  have hE0 := jf_E_b hok (a := 0) (by omega)
  have hE1 := jf_E_b hok (a := 1) (by omega)
  have hE2 := jf_E_b hok (a := 2) (by omega)
  have hE3 := jf_E_b hok (a := 3) (by omega)
  have hE4 := jf_E_b hok (a := 4) (by omega)
  have hT0 := jf_T_b hok (a := 0) (by omega)
  have hT1 := jf_T_b hok (a := 1) (by omega)
  have hT2 := jf_T_b hok (a := 2) (by omega)
  have hT3 := jf_T_b hok (a := 3) (by omega)
  have hT4 := jf_T_b hok (a := 4) (by omega)
  show R (0, [some (aR 8 0), none, none, none], [], M)
  refine hR _ (hR _ (hR _ (hR _ (hR _ (hR _ (hR _ (am_brf (rg := am_in 0 ∧ am_in 5) (P := 5 ≤ 0) (A := R (33, [some (aR 8 0), some (aL 0), none, some (aI 0)], [], M)) (B := R (9, [some (aR 8 0), some (aL 0), none, some (aI 0)], [], M)) (by omega) (by omega) ?_)))))))
  show R (9, [some (aR 8 0), some (aL 0), none, some (aI 0)], [], M)
  refine hR _ (hR _ (hR _ (hR _ (?_))))
  show R (15, [some (aR 8 0), some (aL 0), none, some (aI 0)], [aI 0, aR 41 0, aL 0], M)
  refine hR _ ⟨(show 0 ≤ (0 : Int) ∧ (0 : Int) < 5 from (by omega)), ?_⟩
  show R (16, [some (aR 8 0), some (aL 0), none, some (aI 0)], [aI (M 41 0 0), aL 0], M)
  rw [(show M 41 0 0 = jf_O p 0 from (hthr 0 (by omega)).2.2)]
  show R (16, [some (aR 8 0), some (aL 0), none, some (aI 0)], [aI (jf_O p 0), aL 0], M)
  refine hR _ ⟨(by omega), ?_⟩
  show R (17, [some (aR 8 0), some (aL 0), none, some (aI 0)], [aL (jf_O p 0), aL 0], M)
  refine hR _ (hR _ (hR _ (?_)))
  show R (22, [some (aR 8 0), some (aL 0), none, some (aI 0)], [aI 0, aR 40 0, aL (jf_O p 0), aL 0], M)
  refine hR _ ⟨(show 0 ≤ (0 : Int) ∧ (0 : Int) < 5 from (by omega)), ?_⟩
  show R (23, [some (aR 8 0), some (aL 0), none, some (aI 0)], [aI (M 40 0 0), aL (jf_O p 0), aL 0], M)
  rw [(show M 40 0 0 = jf_T p 0 from (hthr 0 (by omega)).2.1)]
  show R (23, [some (aR 8 0), some (aL 0), none, some (aI 0)], [aI (jf_T p 0), aL (jf_O p 0), aL 0], M)
  refine hR _ ⟨(by omega), ?_⟩
  show R (24, [some (aR 8 0), some (aL 0), none, some (aI 0)], [aL (jf_T p 0), aL (jf_O p 0), aL 0], M)
  refine hR _ (hR _ (hR _ (hR _ (hR _ (hR _ (hR _ (hR _ (am_brf (rg := am_in 1 ∧ am_in 5) (P := 5 ≤ 1) (A := R (33, [some (aR 8 0), some (aL (0 + ((jf_O p 0) * (jf_T p 0)))), none, some (aI 1)], [], M)) (B := R (9, [some (aR 8 0), some (aL (0 + ((jf_O p 0) * (jf_T p 0)))), none, some (aI 1)], [], M)) (by omega) (by omega) ?_))))))))
  show R (9, [some (aR 8 0), some (aL (0 + ((jf_O p 0) * (jf_T p 0)))), none, some (aI 1)], [], M)
  refine hR _ (hR _ (hR _ (hR _ (?_))))
  show R (15, [some (aR 8 0), some (aL (0 + ((jf_O p 0) * (jf_T p 0)))), none, some (aI 1)], [aI 1, aR 41 0, aL (0 + ((jf_O p 0) * (jf_T p 0)))], M)
  refine hR _ ⟨(show 0 ≤ (1 : Int) ∧ (1 : Int) < 5 from (by omega)), ?_⟩
  show R (16, [some (aR 8 0), some (aL (0 + ((jf_O p 0) * (jf_T p 0)))), none, some (aI 1)], [aI (M 41 0 1), aL (0 + ((jf_O p 0) * (jf_T p 0)))], M)
  rw [(show M 41 0 1 = jf_O p 1 from (hthr 1 (by omega)).2.2)]
  show R (16, [some (aR 8 0), some (aL (0 + ((jf_O p 0) * (jf_T p 0)))), none, some (aI 1)], [aI (jf_O p 1), aL (0 + ((jf_O p 0) * (jf_T p 0)))], M)
  refine hR _ ⟨(by omega), ?_⟩
  show R (17, [some (aR 8 0), some (aL (0 + ((jf_O p 0) * (jf_T p 0)))), none, some (aI 1)], [aL (jf_O p 1), aL (0 + ((jf_O p 0) * (jf_T p 0)))], M)
  refine hR _ (hR _ (hR _ (?_)))
  show R (22, [some (aR 8 0), some (aL (0 + ((jf_O p 0) * (jf_T p 0)))), none, some (aI 1)], [aI 1, aR 40 0, aL (jf_O p 1), aL (0 + ((jf_O p 0) * (jf_T p 0)))], M)
  refine hR _ ⟨(show 0 ≤ (1 : Int) ∧ (1 : Int) < 5 from (by omega)), ?_⟩
  show R (23, [some (aR 8 0), some (aL (0 + ((jf_O p 0) * (jf_T p 0)))), none, some (aI 1)], [aI (M 40 0 1), aL (jf_O p 1), aL (0 + ((jf_O p 0) * (jf_T p 0)))], M)
  rw [(show M 40 0 1 = jf_T p 1 from (hthr 1 (by omega)).2.1)]
  show R (23, [some (aR 8 0), some (aL (0 + ((jf_O p 0) * (jf_T p 0)))), none, some (aI 1)], [aI (jf_T p 1), aL (jf_O p 1), aL (0 + ((jf_O p 0) * (jf_T p 0)))], M)
  refine hR _ ⟨(by omega), ?_⟩
  show R (24, [some (aR 8 0), some (aL (0 + ((jf_O p 0) * (jf_T p 0)))), none, some (aI 1)], [aL (jf_T p 1), aL (jf_O p 1), aL (0 + ((jf_O p 0) * (jf_T p 0)))], M)
  refine hR _ (hR _ (hR _ (hR _ (hR _ (hR _ (hR _ (hR _ (am_brf (rg := am_in 2 ∧ am_in 5) (P := 5 ≤ 2) (A := R (33, [some (aR 8 0), some (aL ((0 + ((jf_O p 0) * (jf_T p 0))) + ((jf_O p 1) * (jf_T p 1)))), none, some (aI 2)], [], M)) (B := R (9, [some (aR 8 0), some (aL ((0 + ((jf_O p 0) * (jf_T p 0))) + ((jf_O p 1) * (jf_T p 1)))), none, some (aI 2)], [], M)) (by omega) (by omega) ?_))))))))
  show R (9, [some (aR 8 0), some (aL ((0 + ((jf_O p 0) * (jf_T p 0))) + ((jf_O p 1) * (jf_T p 1)))), none, some (aI 2)], [], M)
  refine hR _ (hR _ (hR _ (hR _ (?_))))
  show R (15, [some (aR 8 0), some (aL ((0 + ((jf_O p 0) * (jf_T p 0))) + ((jf_O p 1) * (jf_T p 1)))), none, some (aI 2)], [aI 2, aR 41 0, aL ((0 + ((jf_O p 0) * (jf_T p 0))) + ((jf_O p 1) * (jf_T p 1)))], M)
  refine hR _ ⟨(show 0 ≤ (2 : Int) ∧ (2 : Int) < 5 from (by omega)), ?_⟩
  show R (16, [some (aR 8 0), some (aL ((0 + ((jf_O p 0) * (jf_T p 0))) + ((jf_O p 1) * (jf_T p 1)))), none, some (aI 2)], [aI (M 41 0 2), aL ((0 + ((jf_O p 0) * (jf_T p 0))) + ((jf_O p 1) * (jf_T p 1)))], M)
  rw [(show M 41 0 2 = jf_O p 2 from (hthr 2 (by omega)).2.2)]
  show R (16, [some (aR 8 0), some (aL ((0 + ((jf_O p 0) * (jf_T p 0))) + ((jf_O p 1) * (jf_T p 1)))), none, some (aI 2)], [aI (jf_O p 2), aL ((0 + ((jf_O p 0) * (jf_T p 0))) + ((jf_O p 1) * (jf_T p 1)))], M)
  refine hR _ ⟨(by omega), ?_⟩
  show R (17, [some (aR 8 0), some (aL ((0 + ((jf_O p 0) * (jf_T p 0))) + ((jf_O p 1) * (jf_T p 1)))), none, some (aI 2)], [aL (jf_O p 2), aL ((0 + ((jf_O p 0) * (jf_T p 0))) + ((jf_O p 1) * (jf_T p 1)))], M)
  refine hR _ (hR _ (hR _ (?_)))
  show R (22, [some (aR 8 0), some (aL ((0 + ((jf_O p 0) * (jf_T p 0))) + ((jf_O p 1) * (jf_T p 1)))), none, some (aI 2)], [aI 2, aR 40 0, aL (jf_O p 2), aL ((0 + ((jf_O p 0) * (jf_T p 0))) + ((jf_O p 1) * (jf_T p 1)))], M)
  refine hR _ ⟨(show 0 ≤ (2 : Int) ∧ (2 : Int) < 5 from (by omega)), ?_⟩
  show R (23, [some (aR 8 0), some (aL ((0 + ((jf_O p 0) * (jf_T p 0))) + ((jf_O p 1) * (jf_T p 1)))), none, some (aI 2)], [aI (M 40 0 2), aL (jf_O p 2), aL ((0 + ((jf_O p 0) * (jf_T p 0))) + ((jf_O p 1) * (jf_T p 1)))], M)
  rw [(show M 40 0 2 = jf_T p 2 from (hthr 2 (by omega)).2.1)]
  show R (23, [some (aR 8 0), some (aL ((0 + ((jf_O p 0) * (jf_T p 0))) + ((jf_O p 1) * (jf_T p 1)))), none, some (aI 2)], [aI (jf_T p 2), aL (jf_O p 2), aL ((0 + ((jf_O p 0) * (jf_T p 0))) + ((jf_O p 1) * (jf_T p 1)))], M)
  refine hR _ ⟨(by omega), ?_⟩
  show R (24, [some (aR 8 0), some (aL ((0 + ((jf_O p 0) * (jf_T p 0))) + ((jf_O p 1) * (jf_T p 1)))), none, some (aI 2)], [aL (jf_T p 2), aL (jf_O p 2), aL ((0 + ((jf_O p 0) * (jf_T p 0))) + ((jf_O p 1) * (jf_T p 1)))], M)
  refine hR _ (hR _ (hR _ (hR _ (hR _ (hR _ (hR _ (hR _ (am_brf (rg := am_in 3 ∧ am_in 5) (P := 5 ≤ 3) (A := R (33, [some (aR 8 0), some (aL (((0 + ((jf_O p 0) * (jf_T p 0))) + ((jf_O p 1) * (jf_T p 1))) + ((jf_O p 2) * (jf_T p 2)))), none, some (aI 3)], [], M)) (B := R (9, [some (aR 8 0), some (aL (((0 + ((jf_O p 0) * (jf_T p 0))) + ((jf_O p 1) * (jf_T p 1))) + ((jf_O p 2) * (jf_T p 2)))), none, some (aI 3)], [], M)) (by omega) (by omega) ?_))))))))
  show R (9, [some (aR 8 0), some (aL (((0 + ((jf_O p 0) * (jf_T p 0))) + ((jf_O p 1) * (jf_T p 1))) + ((jf_O p 2) * (jf_T p 2)))), none, some (aI 3)], [], M)
  refine hR _ (hR _ (hR _ (hR _ (?_))))
  show R (15, [some (aR 8 0), some (aL (((0 + ((jf_O p 0) * (jf_T p 0))) + ((jf_O p 1) * (jf_T p 1))) + ((jf_O p 2) * (jf_T p 2)))), none, some (aI 3)], [aI 3, aR 41 0, aL (((0 + ((jf_O p 0) * (jf_T p 0))) + ((jf_O p 1) * (jf_T p 1))) + ((jf_O p 2) * (jf_T p 2)))], M)
  refine hR _ ⟨(show 0 ≤ (3 : Int) ∧ (3 : Int) < 5 from (by omega)), ?_⟩
  show R (16, [some (aR 8 0), some (aL (((0 + ((jf_O p 0) * (jf_T p 0))) + ((jf_O p 1) * (jf_T p 1))) + ((jf_O p 2) * (jf_T p 2)))), none, some (aI 3)], [aI (M 41 0 3), aL (((0 + ((jf_O p 0) * (jf_T p 0))) + ((jf_O p 1) * (jf_T p 1))) + ((jf_O p 2) * (jf_T p 2)))], M)
  rw [(show M 41 0 3 = jf_O p 3 from (hthr 3 (by omega)).2.2)]
  show R (16, [some (aR 8 0), some (aL (((0 + ((jf_O p 0) * (jf_T p 0))) + ((jf_O p 1) * (jf_T p 1))) + ((jf_O p 2) * (jf_T p 2)))), none, some (aI 3)], [aI (jf_O p 3), aL (((0 + ((jf_O p 0) * (jf_T p 0))) + ((jf_O p 1) * (jf_T p 1))) + ((jf_O p 2) * (jf_T p 2)))], M)
  refine hR _ ⟨(by omega), ?_⟩
  show R (17, [some (aR 8 0), some (aL (((0 + ((jf_O p 0) * (jf_T p 0))) + ((jf_O p 1) * (jf_T p 1))) + ((jf_O p 2) * (jf_T p 2)))), none, some (aI 3)], [aL (jf_O p 3), aL (((0 + ((jf_O p 0) * (jf_T p 0))) + ((jf_O p 1) * (jf_T p 1))) + ((jf_O p 2) * (jf_T p 2)))], M)
  refine hR _ (hR _ (hR _ (?_)))
  show R (22, [some (aR 8 0), some (aL (((0 + ((jf_O p 0) * (jf_T p 0))) + ((jf_O p 1) * (jf_T p 1))) + ((jf_O p 2) * (jf_T p 2)))), none, some (aI 3)], [aI 3, aR 40 0, aL (jf_O p 3), aL (((0 + ((jf_O p 0) * (jf_T p 0))) + ((jf_O p 1) * (jf_T p 1))) + ((jf_O p 2) * (jf_T p 2)))], M)
  refine hR _ ⟨(show 0 ≤ (3 : Int) ∧ (3 : Int) < 5 from (by omega)), ?_⟩
  show R (23, [some (aR 8 0), some (aL (((0 + ((jf_O p 0) * (jf_T p 0))) + ((jf_O p 1) * (jf_T p 1))) + ((jf_O p 2) * (jf_T p 2)))), none, some (aI 3)], [aI (M 40 0 3), aL (jf_O p 3), aL (((0 + ((jf_O p 0) * (jf_T p 0))) + ((jf_O p 1) * (jf_T p 1))) + ((jf_O p 2) * (jf_T p 2)))], M)
  rw [(show M 40 0 3 = jf_T p 3 from (hthr 3 (by omega)).2.1)]
  show R (23, [some (aR 8 0), some (aL (((0 + ((jf_O p 0) * (jf_T p 0))) + ((jf_O p 1) * (jf_T p 1))) + ((jf_O p 2) * (jf_T p 2)))), none, some (aI 3)], [aI (jf_T p 3), aL (jf_O p 3), aL (((0 + ((jf_O p 0) * (jf_T p 0))) + ((jf_O p 1) * (jf_T p 1))) + ((jf_O p 2) * (jf_T p 2)))], M)
  refine hR _ ⟨(by omega), ?_⟩
  show R (24, [some (aR 8 0), some (aL (((0 + ((jf_O p 0) * (jf_T p 0))) + ((jf_O p 1) * (jf_T p 1))) + ((jf_O p 2) * (jf_T p 2)))), none, some (aI 3)], [aL (jf_T p 3), aL (jf_O p 3), aL (((0 + ((jf_O p 0) * (jf_T p 0))) + ((jf_O p 1) * (jf_T p 1))) + ((jf_O p 2) * (jf_T p 2)))], M)
  refine hR _ (hR _ (hR _ (hR _ (hR _ (hR _ (hR _ (hR _ (am_brf (rg := am_in 4 ∧ am_in 5) (P := 5 ≤ 4) (A := R (33, [some (aR 8 0), some (aL ((((0 + ((jf_O p 0) * (jf_T p 0))) + ((jf_O p 1) * (jf_T p 1))) + ((jf_O p 2) * (jf_T p 2))) + ((jf_O p 3) * (jf_T p 3)))), none, some (aI 4)], [], M)) (B := R (9, [some (aR 8 0), some (aL ((((0 + ((jf_O p 0) * (jf_T p 0))) + ((jf_O p 1) * (jf_T p 1))) + ((jf_O p 2) * (jf_T p 2))) + ((jf_O p 3) * (jf_T p 3)))), none, some (aI 4)], [], M)) (by omega) (by omega) ?_))))))))
  show R (9, [some (aR 8 0), some (aL ((((0 + ((jf_O p 0) * (jf_T p 0))) + ((jf_O p 1) * (jf_T p 1))) + ((jf_O p 2) * (jf_T p 2))) + ((jf_O p 3) * (jf_T p 3)))), none, some (aI 4)], [], M)
  refine hR _ (hR _ (hR _ (hR _ (?_))))
  show R (15, [some (aR 8 0), some (aL ((((0 + ((jf_O p 0) * (jf_T p 0))) + ((jf_O p 1) * (jf_T p 1))) + ((jf_O p 2) * (jf_T p 2))) + ((jf_O p 3) * (jf_T p 3)))), none, some (aI 4)], [aI 4, aR 41 0, aL ((((0 + ((jf_O p 0) * (jf_T p 0))) + ((jf_O p 1) * (jf_T p 1))) + ((jf_O p 2) * (jf_T p 2))) + ((jf_O p 3) * (jf_T p 3)))], M)
  refine hR _ ⟨(show 0 ≤ (4 : Int) ∧ (4 : Int) < 5 from (by omega)), ?_⟩
  show R (16, [some (aR 8 0), some (aL ((((0 + ((jf_O p 0) * (jf_T p 0))) + ((jf_O p 1) * (jf_T p 1))) + ((jf_O p 2) * (jf_T p 2))) + ((jf_O p 3) * (jf_T p 3)))), none, some (aI 4)], [aI (M 41 0 4), aL ((((0 + ((jf_O p 0) * (jf_T p 0))) + ((jf_O p 1) * (jf_T p 1))) + ((jf_O p 2) * (jf_T p 2))) + ((jf_O p 3) * (jf_T p 3)))], M)
  rw [(show M 41 0 4 = jf_O p 4 from (hthr 4 (by omega)).2.2)]
  show R (16, [some (aR 8 0), some (aL ((((0 + ((jf_O p 0) * (jf_T p 0))) + ((jf_O p 1) * (jf_T p 1))) + ((jf_O p 2) * (jf_T p 2))) + ((jf_O p 3) * (jf_T p 3)))), none, some (aI 4)], [aI (jf_O p 4), aL ((((0 + ((jf_O p 0) * (jf_T p 0))) + ((jf_O p 1) * (jf_T p 1))) + ((jf_O p 2) * (jf_T p 2))) + ((jf_O p 3) * (jf_T p 3)))], M)
  refine hR _ ⟨(by omega), ?_⟩
  show R (17, [some (aR 8 0), some (aL ((((0 + ((jf_O p 0) * (jf_T p 0))) + ((jf_O p 1) * (jf_T p 1))) + ((jf_O p 2) * (jf_T p 2))) + ((jf_O p 3) * (jf_T p 3)))), none, some (aI 4)], [aL (jf_O p 4), aL ((((0 + ((jf_O p 0) * (jf_T p 0))) + ((jf_O p 1) * (jf_T p 1))) + ((jf_O p 2) * (jf_T p 2))) + ((jf_O p 3) * (jf_T p 3)))], M)
  refine hR _ (hR _ (hR _ (?_)))
  show R (22, [some (aR 8 0), some (aL ((((0 + ((jf_O p 0) * (jf_T p 0))) + ((jf_O p 1) * (jf_T p 1))) + ((jf_O p 2) * (jf_T p 2))) + ((jf_O p 3) * (jf_T p 3)))), none, some (aI 4)], [aI 4, aR 40 0, aL (jf_O p 4), aL ((((0 + ((jf_O p 0) * (jf_T p 0))) + ((jf_O p 1) * (jf_T p 1))) + ((jf_O p 2) * (jf_T p 2))) + ((jf_O p 3) * (jf_T p 3)))], M)
  refine hR _ ⟨(show 0 ≤ (4 : Int) ∧ (4 : Int) < 5 from (by omega)), ?_⟩
  show R (23, [some (aR 8 0), some (aL ((((0 + ((jf_O p 0) * (jf_T p 0))) + ((jf_O p 1) * (jf_T p 1))) + ((jf_O p 2) * (jf_T p 2))) + ((jf_O p 3) * (jf_T p 3)))), none, some (aI 4)], [aI (M 40 0 4), aL (jf_O p 4), aL ((((0 + ((jf_O p 0) * (jf_T p 0))) + ((jf_O p 1) * (jf_T p 1))) + ((jf_O p 2) * (jf_T p 2))) + ((jf_O p 3) * (jf_T p 3)))], M)
  rw [(show M 40 0 4 = jf_T p 4 from (hthr 4 (by omega)).2.1)]
  show R (23, [some (aR 8 0), some (aL ((((0 + ((jf_O p 0) * (jf_T p 0))) + ((jf_O p 1) * (jf_T p 1))) + ((jf_O p 2) * (jf_T p 2))) + ((jf_O p 3) * (jf_T p 3)))), none, some (aI 4)], [aI (jf_T p 4), aL (jf_O p 4), aL ((((0 + ((jf_O p 0) * (jf_T p 0))) + ((jf_O p 1) * (jf_T p 1))) + ((jf_O p 2) * (jf_T p 2))) + ((jf_O p 3) * (jf_T p 3)))], M)
  refine hR _ ⟨(by omega), ?_⟩
  show R (24, [some (aR 8 0), some (aL ((((0 + ((jf_O p 0) * (jf_T p 0))) + ((jf_O p 1) * (jf_T p 1))) + ((jf_O p 2) * (jf_T p 2))) + ((jf_O p 3) * (jf_T p 3)))), none, some (aI 4)], [aL (jf_T p 4), aL (jf_O p 4), aL ((((0 + ((jf_O p 0) * (jf_T p 0))) + ((jf_O p 1) * (jf_T p 1))) + ((jf_O p 2) * (jf_T p 2))) + ((jf_O p 3) * (jf_T p 3)))], M)
  refine hR _ (hR _ (hR _ (hR _ (hR _ (hR _ (hR _ (hR _ (am_brt (rg := am_in 5 ∧ am_in 5) (P := (5 : Int) ≤ 5) (A := R (33, [some (aR 8 0), some (aL (((((0 + ((jf_O p 0) * (jf_T p 0))) + ((jf_O p 1) * (jf_T p 1))) + ((jf_O p 2) * (jf_T p 2))) + ((jf_O p 3) * (jf_T p 3))) + ((jf_O p 4) * (jf_T p 4)))), none, some (aI 5)], [], M)) (B := R (9, [some (aR 8 0), some (aL (((((0 + ((jf_O p 0) * (jf_T p 0))) + ((jf_O p 1) * (jf_T p 1))) + ((jf_O p 2) * (jf_T p 2))) + ((jf_O p 3) * (jf_T p 3))) + ((jf_O p 4) * (jf_T p 4)))), none, some (aI 5)], [], M)) (by omega) (by omega) ?_))))))))
  show R (33, [some (aR 8 0), some (aL (((((0 + ((jf_O p 0) * (jf_T p 0))) + ((jf_O p 1) * (jf_T p 1))) + ((jf_O p 2) * (jf_T p 2))) + ((jf_O p 3) * (jf_T p 3))) + ((jf_O p 4) * (jf_T p 4)))), none, some (aI 5)], [], M)
  refine hR _ (?_)
  show R (34, [some (aR 8 0), some (aL (((((0 + ((jf_O p 0) * (jf_T p 0))) + ((jf_O p 1) * (jf_T p 1))) + ((jf_O p 2) * (jf_T p 2))) + ((jf_O p 3) * (jf_T p 3))) + ((jf_O p 4) * (jf_T p 4)))), none, some (aI 5)], [aL (((((0 + ((jf_O p 0) * (jf_T p 0))) + ((jf_O p 1) * (jf_T p 1))) + ((jf_O p 2) * (jf_T p 2))) + ((jf_O p 3) * (jf_T p 3))) + ((jf_O p 4) * (jf_T p 4)))], M)
  refine hR _ (show K (some (aL (((((0 + ((jf_O p 0) * (jf_T p 0))) + ((jf_O p 1) * (jf_T p 1))) + ((jf_O p 2) * (jf_T p 2))) + ((jf_O p 3) * (jf_T p 3))) + ((jf_O p 4) * (jf_T p 4))))) M from ?_)
  exact h

theorem sm_oftenAt {d : Nat} (hd : 1 ≤ d) {p : jf_par} {e : Int} {M : am_M} {K : am_K} (hok : jf_ok p) (hth : mo_th M p) (he : am_in e) (h : K (some (aL (jf_at p e))) M) : am_Call true d 166 [aR 8 0, aI e] M K := by
  obtain ⟨d, rfl⟩ : ∃ e, d = e + 1 := ⟨d - 1, by omega⟩
  refine ⟨rfl, fun R hR hC => ?_⟩
  replace hR : ∀ c, am_F true tb_f166 5 (am_Call true d) K R c → R c := hR
  obtain ⟨hthr, hthA, hthN⟩ := hth
  have hO0 := jf_O_b hok (a := 0) (by omega)
  have hO1 := jf_O_b hok (a := 1) (by omega)
  have hO2 := jf_O_b hok (a := 2) (by omega)
  have hO3 := jf_O_b hok (a := 3) (by omega)
  have hO4 := jf_O_b hok (a := 4) (by omega)
  have hE0 := jf_E_b hok (a := 0) (by omega)
  have hE1 := jf_E_b hok (a := 1) (by omega)
  have hE2 := jf_E_b hok (a := 2) (by omega)
  have hE3 := jf_E_b hok (a := 3) (by omega)
  have hE4 := jf_E_b hok (a := 4) (by omega)
  have hT0 := jf_T_b hok (a := 0) (by omega)
  have hT1 := jf_T_b hok (a := 1) (by omega)
  have hT2 := jf_T_b hok (a := 2) (by omega)
  have hT3 := jf_T_b hok (a := 3) (by omega)
  have hT4 := jf_T_b hok (a := 4) (by omega)
  show R (0, [some (aR 8 0), some (aI e), none, none, none], [], M)
  refine hR _ (hR _ (hR _ (hR _ (hR _ (hR _ (hR _ (am_brf (rg := am_in 0 ∧ am_in 5) (P := 5 ≤ 0) (A := R (43, [some (aR 8 0), some (aI e), some (aL 0), none, some (aI 0)], [], M)) (B := R (11, [some (aR 8 0), some (aI e), some (aL 0), none, some (aI 0)], [], M)) (by omega) (by omega) ?_)))))))
  show R (11, [some (aR 8 0), some (aI e), some (aL 0), none, some (aI 0)], [], M)
  refine hR _ (hR _ (hR _ (hR _ (?_))))
  show R (18, [some (aR 8 0), some (aI e), some (aL 0), none, some (aI 0)], [aI 0, aR 39 0, aL 0], M)
  refine hR _ ⟨(show 0 ≤ (0 : Int) ∧ (0 : Int) < 5 from (by omega)), ?_⟩
  show R (19, [some (aR 8 0), some (aI e), some (aL 0), none, some (aI 0)], [aI (M 39 0 0), aL 0], M)
  rw [(show M 39 0 0 = jf_E p 0 from (hthr 0 (by omega)).1)]
  show R (19, [some (aR 8 0), some (aI e), some (aL 0), none, some (aI 0)], [aI (jf_E p 0), aL 0], M)
  refine hR _ (?_)
  show R (20, [some (aR 8 0), some (aI e), some (aL 0), none, some (aI 0)], [aI e, aI (jf_E p 0), aL 0], M)
  suffices hJ : R (35, [some (aR 8 0), some (aI e), some (aL 0), none, some (aI 0)], [aL (if (jf_E p 0) = e then (jf_O p 0) else 0), aL 0], M) by
    refine hR _ (am_brc (rg := am_in (jf_E p 0) ∧ am_in e) (P := (jf_E p 0) ≠ e) (A := R (34, [some (aR 8 0), some (aI e), some (aL 0), none, some (aI 0)], [aL 0], M)) (B := R (23, [some (aR 8 0), some (aI e), some (aL 0), none, some (aI 0)], [aL 0], M)) (by omega) (fun c20 => ?_) (fun c20 => ?_))
    · refine hR _ (?_)
      show R (35, [some (aR 8 0), some (aI e), some (aL 0), none, some (aI 0)], [aL 0, aL 0], M)
      rw [if_neg (show ¬ ((jf_E p 0) = e) by omega)] at hJ
      exact hJ
    · refine hR _ (hR _ (hR _ (?_)))
      show R (29, [some (aR 8 0), some (aI e), some (aL 0), none, some (aI 0)], [aI 0, aR 41 0, aL 0], M)
      refine hR _ ⟨(show 0 ≤ (0 : Int) ∧ (0 : Int) < 5 from (by omega)), ?_⟩
      show R (30, [some (aR 8 0), some (aI e), some (aL 0), none, some (aI 0)], [aI (M 41 0 0), aL 0], M)
      rw [(show M 41 0 0 = jf_O p 0 from (hthr 0 (by omega)).2.2)]
      show R (30, [some (aR 8 0), some (aI e), some (aL 0), none, some (aI 0)], [aI (jf_O p 0), aL 0], M)
      refine hR _ ⟨(by omega), ?_⟩
      show R (31, [some (aR 8 0), some (aI e), some (aL 0), none, some (aI 0)], [aL (jf_O p 0), aL 0], M)
      refine hR _ (?_)
      show R (35, [some (aR 8 0), some (aI e), some (aL 0), none, some (aI 0)], [aL (jf_O p 0), aL 0], M)
      rw [if_pos (show (jf_E p 0) = e by omega)] at hJ
      exact hJ
  show R (35, [some (aR 8 0), some (aI e), some (aL 0), none, some (aI 0)], [aL (if (jf_E p 0) = e then (jf_O p 0) else 0), aL 0], M)
  refine hR _ (hR _ (hR _ (hR _ (hR _ (hR _ (hR _ (am_brf (rg := am_in 1 ∧ am_in 5) (P := 5 ≤ 1) (A := R (43, [some (aR 8 0), some (aI e), some (aL (0 + (if (jf_E p 0) = e then (jf_O p 0) else 0))), none, some (aI 1)], [], M)) (B := R (11, [some (aR 8 0), some (aI e), some (aL (0 + (if (jf_E p 0) = e then (jf_O p 0) else 0))), none, some (aI 1)], [], M)) (by omega) (by omega) ?_)))))))
  show R (11, [some (aR 8 0), some (aI e), some (aL (0 + (if (jf_E p 0) = e then (jf_O p 0) else 0))), none, some (aI 1)], [], M)
  refine hR _ (hR _ (hR _ (hR _ (?_))))
  show R (18, [some (aR 8 0), some (aI e), some (aL (0 + (if (jf_E p 0) = e then (jf_O p 0) else 0))), none, some (aI 1)], [aI 1, aR 39 0, aL (0 + (if (jf_E p 0) = e then (jf_O p 0) else 0))], M)
  refine hR _ ⟨(show 0 ≤ (1 : Int) ∧ (1 : Int) < 5 from (by omega)), ?_⟩
  show R (19, [some (aR 8 0), some (aI e), some (aL (0 + (if (jf_E p 0) = e then (jf_O p 0) else 0))), none, some (aI 1)], [aI (M 39 0 1), aL (0 + (if (jf_E p 0) = e then (jf_O p 0) else 0))], M)
  rw [(show M 39 0 1 = jf_E p 1 from (hthr 1 (by omega)).1)]
  show R (19, [some (aR 8 0), some (aI e), some (aL (0 + (if (jf_E p 0) = e then (jf_O p 0) else 0))), none, some (aI 1)], [aI (jf_E p 1), aL (0 + (if (jf_E p 0) = e then (jf_O p 0) else 0))], M)
  refine hR _ (?_)
  show R (20, [some (aR 8 0), some (aI e), some (aL (0 + (if (jf_E p 0) = e then (jf_O p 0) else 0))), none, some (aI 1)], [aI e, aI (jf_E p 1), aL (0 + (if (jf_E p 0) = e then (jf_O p 0) else 0))], M)
  suffices hJ : R (35, [some (aR 8 0), some (aI e), some (aL (0 + (if (jf_E p 0) = e then (jf_O p 0) else 0))), none, some (aI 1)], [aL (if (jf_E p 1) = e then (jf_O p 1) else 0), aL (0 + (if (jf_E p 0) = e then (jf_O p 0) else 0))], M) by
    refine hR _ (am_brc (rg := am_in (jf_E p 1) ∧ am_in e) (P := (jf_E p 1) ≠ e) (A := R (34, [some (aR 8 0), some (aI e), some (aL (0 + (if (jf_E p 0) = e then (jf_O p 0) else 0))), none, some (aI 1)], [aL (0 + (if (jf_E p 0) = e then (jf_O p 0) else 0))], M)) (B := R (23, [some (aR 8 0), some (aI e), some (aL (0 + (if (jf_E p 0) = e then (jf_O p 0) else 0))), none, some (aI 1)], [aL (0 + (if (jf_E p 0) = e then (jf_O p 0) else 0))], M)) (by omega) (fun c20 => ?_) (fun c20 => ?_))
    · refine hR _ (?_)
      show R (35, [some (aR 8 0), some (aI e), some (aL (0 + (if (jf_E p 0) = e then (jf_O p 0) else 0))), none, some (aI 1)], [aL 0, aL (0 + (if (jf_E p 0) = e then (jf_O p 0) else 0))], M)
      rw [if_neg (show ¬ ((jf_E p 1) = e) by omega)] at hJ
      exact hJ
    · refine hR _ (hR _ (hR _ (?_)))
      show R (29, [some (aR 8 0), some (aI e), some (aL (0 + (if (jf_E p 0) = e then (jf_O p 0) else 0))), none, some (aI 1)], [aI 1, aR 41 0, aL (0 + (if (jf_E p 0) = e then (jf_O p 0) else 0))], M)
      refine hR _ ⟨(show 0 ≤ (1 : Int) ∧ (1 : Int) < 5 from (by omega)), ?_⟩
      show R (30, [some (aR 8 0), some (aI e), some (aL (0 + (if (jf_E p 0) = e then (jf_O p 0) else 0))), none, some (aI 1)], [aI (M 41 0 1), aL (0 + (if (jf_E p 0) = e then (jf_O p 0) else 0))], M)
      rw [(show M 41 0 1 = jf_O p 1 from (hthr 1 (by omega)).2.2)]
      show R (30, [some (aR 8 0), some (aI e), some (aL (0 + (if (jf_E p 0) = e then (jf_O p 0) else 0))), none, some (aI 1)], [aI (jf_O p 1), aL (0 + (if (jf_E p 0) = e then (jf_O p 0) else 0))], M)
      refine hR _ ⟨(by omega), ?_⟩
      show R (31, [some (aR 8 0), some (aI e), some (aL (0 + (if (jf_E p 0) = e then (jf_O p 0) else 0))), none, some (aI 1)], [aL (jf_O p 1), aL (0 + (if (jf_E p 0) = e then (jf_O p 0) else 0))], M)
      refine hR _ (?_)
      show R (35, [some (aR 8 0), some (aI e), some (aL (0 + (if (jf_E p 0) = e then (jf_O p 0) else 0))), none, some (aI 1)], [aL (jf_O p 1), aL (0 + (if (jf_E p 0) = e then (jf_O p 0) else 0))], M)
      rw [if_pos (show (jf_E p 1) = e by omega)] at hJ
      exact hJ
  show R (35, [some (aR 8 0), some (aI e), some (aL (0 + (if (jf_E p 0) = e then (jf_O p 0) else 0))), none, some (aI 1)], [aL (if (jf_E p 1) = e then (jf_O p 1) else 0), aL (0 + (if (jf_E p 0) = e then (jf_O p 0) else 0))], M)
  refine hR _ (hR _ (hR _ (hR _ (hR _ (hR _ (hR _ (am_brf (rg := am_in 2 ∧ am_in 5) (P := 5 ≤ 2) (A := R (43, [some (aR 8 0), some (aI e), some (aL ((0 + (if (jf_E p 0) = e then (jf_O p 0) else 0)) + (if (jf_E p 1) = e then (jf_O p 1) else 0))), none, some (aI 2)], [], M)) (B := R (11, [some (aR 8 0), some (aI e), some (aL ((0 + (if (jf_E p 0) = e then (jf_O p 0) else 0)) + (if (jf_E p 1) = e then (jf_O p 1) else 0))), none, some (aI 2)], [], M)) (by omega) (by omega) ?_)))))))
  show R (11, [some (aR 8 0), some (aI e), some (aL ((0 + (if (jf_E p 0) = e then (jf_O p 0) else 0)) + (if (jf_E p 1) = e then (jf_O p 1) else 0))), none, some (aI 2)], [], M)
  refine hR _ (hR _ (hR _ (hR _ (?_))))
  show R (18, [some (aR 8 0), some (aI e), some (aL ((0 + (if (jf_E p 0) = e then (jf_O p 0) else 0)) + (if (jf_E p 1) = e then (jf_O p 1) else 0))), none, some (aI 2)], [aI 2, aR 39 0, aL ((0 + (if (jf_E p 0) = e then (jf_O p 0) else 0)) + (if (jf_E p 1) = e then (jf_O p 1) else 0))], M)
  refine hR _ ⟨(show 0 ≤ (2 : Int) ∧ (2 : Int) < 5 from (by omega)), ?_⟩
  show R (19, [some (aR 8 0), some (aI e), some (aL ((0 + (if (jf_E p 0) = e then (jf_O p 0) else 0)) + (if (jf_E p 1) = e then (jf_O p 1) else 0))), none, some (aI 2)], [aI (M 39 0 2), aL ((0 + (if (jf_E p 0) = e then (jf_O p 0) else 0)) + (if (jf_E p 1) = e then (jf_O p 1) else 0))], M)
  rw [(show M 39 0 2 = jf_E p 2 from (hthr 2 (by omega)).1)]
  show R (19, [some (aR 8 0), some (aI e), some (aL ((0 + (if (jf_E p 0) = e then (jf_O p 0) else 0)) + (if (jf_E p 1) = e then (jf_O p 1) else 0))), none, some (aI 2)], [aI (jf_E p 2), aL ((0 + (if (jf_E p 0) = e then (jf_O p 0) else 0)) + (if (jf_E p 1) = e then (jf_O p 1) else 0))], M)
  refine hR _ (?_)
  show R (20, [some (aR 8 0), some (aI e), some (aL ((0 + (if (jf_E p 0) = e then (jf_O p 0) else 0)) + (if (jf_E p 1) = e then (jf_O p 1) else 0))), none, some (aI 2)], [aI e, aI (jf_E p 2), aL ((0 + (if (jf_E p 0) = e then (jf_O p 0) else 0)) + (if (jf_E p 1) = e then (jf_O p 1) else 0))], M)
  suffices hJ : R (35, [some (aR 8 0), some (aI e), some (aL ((0 + (if (jf_E p 0) = e then (jf_O p 0) else 0)) + (if (jf_E p 1) = e then (jf_O p 1) else 0))), none, some (aI 2)], [aL (if (jf_E p 2) = e then (jf_O p 2) else 0), aL ((0 + (if (jf_E p 0) = e then (jf_O p 0) else 0)) + (if (jf_E p 1) = e then (jf_O p 1) else 0))], M) by
    refine hR _ (am_brc (rg := am_in (jf_E p 2) ∧ am_in e) (P := (jf_E p 2) ≠ e) (A := R (34, [some (aR 8 0), some (aI e), some (aL ((0 + (if (jf_E p 0) = e then (jf_O p 0) else 0)) + (if (jf_E p 1) = e then (jf_O p 1) else 0))), none, some (aI 2)], [aL ((0 + (if (jf_E p 0) = e then (jf_O p 0) else 0)) + (if (jf_E p 1) = e then (jf_O p 1) else 0))], M)) (B := R (23, [some (aR 8 0), some (aI e), some (aL ((0 + (if (jf_E p 0) = e then (jf_O p 0) else 0)) + (if (jf_E p 1) = e then (jf_O p 1) else 0))), none, some (aI 2)], [aL ((0 + (if (jf_E p 0) = e then (jf_O p 0) else 0)) + (if (jf_E p 1) = e then (jf_O p 1) else 0))], M)) (by omega) (fun c20 => ?_) (fun c20 => ?_))
    · refine hR _ (?_)
      show R (35, [some (aR 8 0), some (aI e), some (aL ((0 + (if (jf_E p 0) = e then (jf_O p 0) else 0)) + (if (jf_E p 1) = e then (jf_O p 1) else 0))), none, some (aI 2)], [aL 0, aL ((0 + (if (jf_E p 0) = e then (jf_O p 0) else 0)) + (if (jf_E p 1) = e then (jf_O p 1) else 0))], M)
      rw [if_neg (show ¬ ((jf_E p 2) = e) by omega)] at hJ
      exact hJ
    · refine hR _ (hR _ (hR _ (?_)))
      show R (29, [some (aR 8 0), some (aI e), some (aL ((0 + (if (jf_E p 0) = e then (jf_O p 0) else 0)) + (if (jf_E p 1) = e then (jf_O p 1) else 0))), none, some (aI 2)], [aI 2, aR 41 0, aL ((0 + (if (jf_E p 0) = e then (jf_O p 0) else 0)) + (if (jf_E p 1) = e then (jf_O p 1) else 0))], M)
      refine hR _ ⟨(show 0 ≤ (2 : Int) ∧ (2 : Int) < 5 from (by omega)), ?_⟩
      show R (30, [some (aR 8 0), some (aI e), some (aL ((0 + (if (jf_E p 0) = e then (jf_O p 0) else 0)) + (if (jf_E p 1) = e then (jf_O p 1) else 0))), none, some (aI 2)], [aI (M 41 0 2), aL ((0 + (if (jf_E p 0) = e then (jf_O p 0) else 0)) + (if (jf_E p 1) = e then (jf_O p 1) else 0))], M)
      rw [(show M 41 0 2 = jf_O p 2 from (hthr 2 (by omega)).2.2)]
      show R (30, [some (aR 8 0), some (aI e), some (aL ((0 + (if (jf_E p 0) = e then (jf_O p 0) else 0)) + (if (jf_E p 1) = e then (jf_O p 1) else 0))), none, some (aI 2)], [aI (jf_O p 2), aL ((0 + (if (jf_E p 0) = e then (jf_O p 0) else 0)) + (if (jf_E p 1) = e then (jf_O p 1) else 0))], M)
      refine hR _ ⟨(by omega), ?_⟩
      show R (31, [some (aR 8 0), some (aI e), some (aL ((0 + (if (jf_E p 0) = e then (jf_O p 0) else 0)) + (if (jf_E p 1) = e then (jf_O p 1) else 0))), none, some (aI 2)], [aL (jf_O p 2), aL ((0 + (if (jf_E p 0) = e then (jf_O p 0) else 0)) + (if (jf_E p 1) = e then (jf_O p 1) else 0))], M)
      refine hR _ (?_)
      show R (35, [some (aR 8 0), some (aI e), some (aL ((0 + (if (jf_E p 0) = e then (jf_O p 0) else 0)) + (if (jf_E p 1) = e then (jf_O p 1) else 0))), none, some (aI 2)], [aL (jf_O p 2), aL ((0 + (if (jf_E p 0) = e then (jf_O p 0) else 0)) + (if (jf_E p 1) = e then (jf_O p 1) else 0))], M)
      rw [if_pos (show (jf_E p 2) = e by omega)] at hJ
      exact hJ
  show R (35, [some (aR 8 0), some (aI e), some (aL ((0 + (if (jf_E p 0) = e then (jf_O p 0) else 0)) + (if (jf_E p 1) = e then (jf_O p 1) else 0))), none, some (aI 2)], [aL (if (jf_E p 2) = e then (jf_O p 2) else 0), aL ((0 + (if (jf_E p 0) = e then (jf_O p 0) else 0)) + (if (jf_E p 1) = e then (jf_O p 1) else 0))], M)
  refine hR _ (hR _ (hR _ (hR _ (hR _ (hR _ (hR _ (am_brf (rg := am_in 3 ∧ am_in 5) (P := 5 ≤ 3) (A := R (43, [some (aR 8 0), some (aI e), some (aL (((0 + (if (jf_E p 0) = e then (jf_O p 0) else 0)) + (if (jf_E p 1) = e then (jf_O p 1) else 0)) + (if (jf_E p 2) = e then (jf_O p 2) else 0))), none, some (aI 3)], [], M)) (B := R (11, [some (aR 8 0), some (aI e), some (aL (((0 + (if (jf_E p 0) = e then (jf_O p 0) else 0)) + (if (jf_E p 1) = e then (jf_O p 1) else 0)) + (if (jf_E p 2) = e then (jf_O p 2) else 0))), none, some (aI 3)], [], M)) (by omega) (by omega) ?_)))))))
  show R (11, [some (aR 8 0), some (aI e), some (aL (((0 + (if (jf_E p 0) = e then (jf_O p 0) else 0)) + (if (jf_E p 1) = e then (jf_O p 1) else 0)) + (if (jf_E p 2) = e then (jf_O p 2) else 0))), none, some (aI 3)], [], M)
  refine hR _ (hR _ (hR _ (hR _ (?_))))
  show R (18, [some (aR 8 0), some (aI e), some (aL (((0 + (if (jf_E p 0) = e then (jf_O p 0) else 0)) + (if (jf_E p 1) = e then (jf_O p 1) else 0)) + (if (jf_E p 2) = e then (jf_O p 2) else 0))), none, some (aI 3)], [aI 3, aR 39 0, aL (((0 + (if (jf_E p 0) = e then (jf_O p 0) else 0)) + (if (jf_E p 1) = e then (jf_O p 1) else 0)) + (if (jf_E p 2) = e then (jf_O p 2) else 0))], M)
  refine hR _ ⟨(show 0 ≤ (3 : Int) ∧ (3 : Int) < 5 from (by omega)), ?_⟩
  show R (19, [some (aR 8 0), some (aI e), some (aL (((0 + (if (jf_E p 0) = e then (jf_O p 0) else 0)) + (if (jf_E p 1) = e then (jf_O p 1) else 0)) + (if (jf_E p 2) = e then (jf_O p 2) else 0))), none, some (aI 3)], [aI (M 39 0 3), aL (((0 + (if (jf_E p 0) = e then (jf_O p 0) else 0)) + (if (jf_E p 1) = e then (jf_O p 1) else 0)) + (if (jf_E p 2) = e then (jf_O p 2) else 0))], M)
  rw [(show M 39 0 3 = jf_E p 3 from (hthr 3 (by omega)).1)]
  show R (19, [some (aR 8 0), some (aI e), some (aL (((0 + (if (jf_E p 0) = e then (jf_O p 0) else 0)) + (if (jf_E p 1) = e then (jf_O p 1) else 0)) + (if (jf_E p 2) = e then (jf_O p 2) else 0))), none, some (aI 3)], [aI (jf_E p 3), aL (((0 + (if (jf_E p 0) = e then (jf_O p 0) else 0)) + (if (jf_E p 1) = e then (jf_O p 1) else 0)) + (if (jf_E p 2) = e then (jf_O p 2) else 0))], M)
  refine hR _ (?_)
  show R (20, [some (aR 8 0), some (aI e), some (aL (((0 + (if (jf_E p 0) = e then (jf_O p 0) else 0)) + (if (jf_E p 1) = e then (jf_O p 1) else 0)) + (if (jf_E p 2) = e then (jf_O p 2) else 0))), none, some (aI 3)], [aI e, aI (jf_E p 3), aL (((0 + (if (jf_E p 0) = e then (jf_O p 0) else 0)) + (if (jf_E p 1) = e then (jf_O p 1) else 0)) + (if (jf_E p 2) = e then (jf_O p 2) else 0))], M)
  suffices hJ : R (35, [some (aR 8 0), some (aI e), some (aL (((0 + (if (jf_E p 0) = e then (jf_O p 0) else 0)) + (if (jf_E p 1) = e then (jf_O p 1) else 0)) + (if (jf_E p 2) = e then (jf_O p 2) else 0))), none, some (aI 3)], [aL (if (jf_E p 3) = e then (jf_O p 3) else 0), aL (((0 + (if (jf_E p 0) = e then (jf_O p 0) else 0)) + (if (jf_E p 1) = e then (jf_O p 1) else 0)) + (if (jf_E p 2) = e then (jf_O p 2) else 0))], M) by
    refine hR _ (am_brc (rg := am_in (jf_E p 3) ∧ am_in e) (P := (jf_E p 3) ≠ e) (A := R (34, [some (aR 8 0), some (aI e), some (aL (((0 + (if (jf_E p 0) = e then (jf_O p 0) else 0)) + (if (jf_E p 1) = e then (jf_O p 1) else 0)) + (if (jf_E p 2) = e then (jf_O p 2) else 0))), none, some (aI 3)], [aL (((0 + (if (jf_E p 0) = e then (jf_O p 0) else 0)) + (if (jf_E p 1) = e then (jf_O p 1) else 0)) + (if (jf_E p 2) = e then (jf_O p 2) else 0))], M)) (B := R (23, [some (aR 8 0), some (aI e), some (aL (((0 + (if (jf_E p 0) = e then (jf_O p 0) else 0)) + (if (jf_E p 1) = e then (jf_O p 1) else 0)) + (if (jf_E p 2) = e then (jf_O p 2) else 0))), none, some (aI 3)], [aL (((0 + (if (jf_E p 0) = e then (jf_O p 0) else 0)) + (if (jf_E p 1) = e then (jf_O p 1) else 0)) + (if (jf_E p 2) = e then (jf_O p 2) else 0))], M)) (by omega) (fun c20 => ?_) (fun c20 => ?_))
    · refine hR _ (?_)
      show R (35, [some (aR 8 0), some (aI e), some (aL (((0 + (if (jf_E p 0) = e then (jf_O p 0) else 0)) + (if (jf_E p 1) = e then (jf_O p 1) else 0)) + (if (jf_E p 2) = e then (jf_O p 2) else 0))), none, some (aI 3)], [aL 0, aL (((0 + (if (jf_E p 0) = e then (jf_O p 0) else 0)) + (if (jf_E p 1) = e then (jf_O p 1) else 0)) + (if (jf_E p 2) = e then (jf_O p 2) else 0))], M)
      rw [if_neg (show ¬ ((jf_E p 3) = e) by omega)] at hJ
      exact hJ
    · refine hR _ (hR _ (hR _ (?_)))
      show R (29, [some (aR 8 0), some (aI e), some (aL (((0 + (if (jf_E p 0) = e then (jf_O p 0) else 0)) + (if (jf_E p 1) = e then (jf_O p 1) else 0)) + (if (jf_E p 2) = e then (jf_O p 2) else 0))), none, some (aI 3)], [aI 3, aR 41 0, aL (((0 + (if (jf_E p 0) = e then (jf_O p 0) else 0)) + (if (jf_E p 1) = e then (jf_O p 1) else 0)) + (if (jf_E p 2) = e then (jf_O p 2) else 0))], M)
      refine hR _ ⟨(show 0 ≤ (3 : Int) ∧ (3 : Int) < 5 from (by omega)), ?_⟩
      show R (30, [some (aR 8 0), some (aI e), some (aL (((0 + (if (jf_E p 0) = e then (jf_O p 0) else 0)) + (if (jf_E p 1) = e then (jf_O p 1) else 0)) + (if (jf_E p 2) = e then (jf_O p 2) else 0))), none, some (aI 3)], [aI (M 41 0 3), aL (((0 + (if (jf_E p 0) = e then (jf_O p 0) else 0)) + (if (jf_E p 1) = e then (jf_O p 1) else 0)) + (if (jf_E p 2) = e then (jf_O p 2) else 0))], M)
      rw [(show M 41 0 3 = jf_O p 3 from (hthr 3 (by omega)).2.2)]
      show R (30, [some (aR 8 0), some (aI e), some (aL (((0 + (if (jf_E p 0) = e then (jf_O p 0) else 0)) + (if (jf_E p 1) = e then (jf_O p 1) else 0)) + (if (jf_E p 2) = e then (jf_O p 2) else 0))), none, some (aI 3)], [aI (jf_O p 3), aL (((0 + (if (jf_E p 0) = e then (jf_O p 0) else 0)) + (if (jf_E p 1) = e then (jf_O p 1) else 0)) + (if (jf_E p 2) = e then (jf_O p 2) else 0))], M)
      refine hR _ ⟨(by omega), ?_⟩
      show R (31, [some (aR 8 0), some (aI e), some (aL (((0 + (if (jf_E p 0) = e then (jf_O p 0) else 0)) + (if (jf_E p 1) = e then (jf_O p 1) else 0)) + (if (jf_E p 2) = e then (jf_O p 2) else 0))), none, some (aI 3)], [aL (jf_O p 3), aL (((0 + (if (jf_E p 0) = e then (jf_O p 0) else 0)) + (if (jf_E p 1) = e then (jf_O p 1) else 0)) + (if (jf_E p 2) = e then (jf_O p 2) else 0))], M)
      refine hR _ (?_)
      show R (35, [some (aR 8 0), some (aI e), some (aL (((0 + (if (jf_E p 0) = e then (jf_O p 0) else 0)) + (if (jf_E p 1) = e then (jf_O p 1) else 0)) + (if (jf_E p 2) = e then (jf_O p 2) else 0))), none, some (aI 3)], [aL (jf_O p 3), aL (((0 + (if (jf_E p 0) = e then (jf_O p 0) else 0)) + (if (jf_E p 1) = e then (jf_O p 1) else 0)) + (if (jf_E p 2) = e then (jf_O p 2) else 0))], M)
      rw [if_pos (show (jf_E p 3) = e by omega)] at hJ
      exact hJ
  show R (35, [some (aR 8 0), some (aI e), some (aL (((0 + (if (jf_E p 0) = e then (jf_O p 0) else 0)) + (if (jf_E p 1) = e then (jf_O p 1) else 0)) + (if (jf_E p 2) = e then (jf_O p 2) else 0))), none, some (aI 3)], [aL (if (jf_E p 3) = e then (jf_O p 3) else 0), aL (((0 + (if (jf_E p 0) = e then (jf_O p 0) else 0)) + (if (jf_E p 1) = e then (jf_O p 1) else 0)) + (if (jf_E p 2) = e then (jf_O p 2) else 0))], M)
  refine hR _ (hR _ (hR _ (hR _ (hR _ (hR _ (hR _ (am_brf (rg := am_in 4 ∧ am_in 5) (P := 5 ≤ 4) (A := R (43, [some (aR 8 0), some (aI e), some (aL ((((0 + (if (jf_E p 0) = e then (jf_O p 0) else 0)) + (if (jf_E p 1) = e then (jf_O p 1) else 0)) + (if (jf_E p 2) = e then (jf_O p 2) else 0)) + (if (jf_E p 3) = e then (jf_O p 3) else 0))), none, some (aI 4)], [], M)) (B := R (11, [some (aR 8 0), some (aI e), some (aL ((((0 + (if (jf_E p 0) = e then (jf_O p 0) else 0)) + (if (jf_E p 1) = e then (jf_O p 1) else 0)) + (if (jf_E p 2) = e then (jf_O p 2) else 0)) + (if (jf_E p 3) = e then (jf_O p 3) else 0))), none, some (aI 4)], [], M)) (by omega) (by omega) ?_)))))))
  show R (11, [some (aR 8 0), some (aI e), some (aL ((((0 + (if (jf_E p 0) = e then (jf_O p 0) else 0)) + (if (jf_E p 1) = e then (jf_O p 1) else 0)) + (if (jf_E p 2) = e then (jf_O p 2) else 0)) + (if (jf_E p 3) = e then (jf_O p 3) else 0))), none, some (aI 4)], [], M)
  refine hR _ (hR _ (hR _ (hR _ (?_))))
  show R (18, [some (aR 8 0), some (aI e), some (aL ((((0 + (if (jf_E p 0) = e then (jf_O p 0) else 0)) + (if (jf_E p 1) = e then (jf_O p 1) else 0)) + (if (jf_E p 2) = e then (jf_O p 2) else 0)) + (if (jf_E p 3) = e then (jf_O p 3) else 0))), none, some (aI 4)], [aI 4, aR 39 0, aL ((((0 + (if (jf_E p 0) = e then (jf_O p 0) else 0)) + (if (jf_E p 1) = e then (jf_O p 1) else 0)) + (if (jf_E p 2) = e then (jf_O p 2) else 0)) + (if (jf_E p 3) = e then (jf_O p 3) else 0))], M)
  refine hR _ ⟨(show 0 ≤ (4 : Int) ∧ (4 : Int) < 5 from (by omega)), ?_⟩
  show R (19, [some (aR 8 0), some (aI e), some (aL ((((0 + (if (jf_E p 0) = e then (jf_O p 0) else 0)) + (if (jf_E p 1) = e then (jf_O p 1) else 0)) + (if (jf_E p 2) = e then (jf_O p 2) else 0)) + (if (jf_E p 3) = e then (jf_O p 3) else 0))), none, some (aI 4)], [aI (M 39 0 4), aL ((((0 + (if (jf_E p 0) = e then (jf_O p 0) else 0)) + (if (jf_E p 1) = e then (jf_O p 1) else 0)) + (if (jf_E p 2) = e then (jf_O p 2) else 0)) + (if (jf_E p 3) = e then (jf_O p 3) else 0))], M)
  rw [(show M 39 0 4 = jf_E p 4 from (hthr 4 (by omega)).1)]
  show R (19, [some (aR 8 0), some (aI e), some (aL ((((0 + (if (jf_E p 0) = e then (jf_O p 0) else 0)) + (if (jf_E p 1) = e then (jf_O p 1) else 0)) + (if (jf_E p 2) = e then (jf_O p 2) else 0)) + (if (jf_E p 3) = e then (jf_O p 3) else 0))), none, some (aI 4)], [aI (jf_E p 4), aL ((((0 + (if (jf_E p 0) = e then (jf_O p 0) else 0)) + (if (jf_E p 1) = e then (jf_O p 1) else 0)) + (if (jf_E p 2) = e then (jf_O p 2) else 0)) + (if (jf_E p 3) = e then (jf_O p 3) else 0))], M)
  refine hR _ (?_)
  show R (20, [some (aR 8 0), some (aI e), some (aL ((((0 + (if (jf_E p 0) = e then (jf_O p 0) else 0)) + (if (jf_E p 1) = e then (jf_O p 1) else 0)) + (if (jf_E p 2) = e then (jf_O p 2) else 0)) + (if (jf_E p 3) = e then (jf_O p 3) else 0))), none, some (aI 4)], [aI e, aI (jf_E p 4), aL ((((0 + (if (jf_E p 0) = e then (jf_O p 0) else 0)) + (if (jf_E p 1) = e then (jf_O p 1) else 0)) + (if (jf_E p 2) = e then (jf_O p 2) else 0)) + (if (jf_E p 3) = e then (jf_O p 3) else 0))], M)
  suffices hJ : R (35, [some (aR 8 0), some (aI e), some (aL ((((0 + (if (jf_E p 0) = e then (jf_O p 0) else 0)) + (if (jf_E p 1) = e then (jf_O p 1) else 0)) + (if (jf_E p 2) = e then (jf_O p 2) else 0)) + (if (jf_E p 3) = e then (jf_O p 3) else 0))), none, some (aI 4)], [aL (if (jf_E p 4) = e then (jf_O p 4) else 0), aL ((((0 + (if (jf_E p 0) = e then (jf_O p 0) else 0)) + (if (jf_E p 1) = e then (jf_O p 1) else 0)) + (if (jf_E p 2) = e then (jf_O p 2) else 0)) + (if (jf_E p 3) = e then (jf_O p 3) else 0))], M) by
    refine hR _ (am_brc (rg := am_in (jf_E p 4) ∧ am_in e) (P := (jf_E p 4) ≠ e) (A := R (34, [some (aR 8 0), some (aI e), some (aL ((((0 + (if (jf_E p 0) = e then (jf_O p 0) else 0)) + (if (jf_E p 1) = e then (jf_O p 1) else 0)) + (if (jf_E p 2) = e then (jf_O p 2) else 0)) + (if (jf_E p 3) = e then (jf_O p 3) else 0))), none, some (aI 4)], [aL ((((0 + (if (jf_E p 0) = e then (jf_O p 0) else 0)) + (if (jf_E p 1) = e then (jf_O p 1) else 0)) + (if (jf_E p 2) = e then (jf_O p 2) else 0)) + (if (jf_E p 3) = e then (jf_O p 3) else 0))], M)) (B := R (23, [some (aR 8 0), some (aI e), some (aL ((((0 + (if (jf_E p 0) = e then (jf_O p 0) else 0)) + (if (jf_E p 1) = e then (jf_O p 1) else 0)) + (if (jf_E p 2) = e then (jf_O p 2) else 0)) + (if (jf_E p 3) = e then (jf_O p 3) else 0))), none, some (aI 4)], [aL ((((0 + (if (jf_E p 0) = e then (jf_O p 0) else 0)) + (if (jf_E p 1) = e then (jf_O p 1) else 0)) + (if (jf_E p 2) = e then (jf_O p 2) else 0)) + (if (jf_E p 3) = e then (jf_O p 3) else 0))], M)) (by omega) (fun c20 => ?_) (fun c20 => ?_))
    · refine hR _ (?_)
      show R (35, [some (aR 8 0), some (aI e), some (aL ((((0 + (if (jf_E p 0) = e then (jf_O p 0) else 0)) + (if (jf_E p 1) = e then (jf_O p 1) else 0)) + (if (jf_E p 2) = e then (jf_O p 2) else 0)) + (if (jf_E p 3) = e then (jf_O p 3) else 0))), none, some (aI 4)], [aL 0, aL ((((0 + (if (jf_E p 0) = e then (jf_O p 0) else 0)) + (if (jf_E p 1) = e then (jf_O p 1) else 0)) + (if (jf_E p 2) = e then (jf_O p 2) else 0)) + (if (jf_E p 3) = e then (jf_O p 3) else 0))], M)
      rw [if_neg (show ¬ ((jf_E p 4) = e) by omega)] at hJ
      exact hJ
    · refine hR _ (hR _ (hR _ (?_)))
      show R (29, [some (aR 8 0), some (aI e), some (aL ((((0 + (if (jf_E p 0) = e then (jf_O p 0) else 0)) + (if (jf_E p 1) = e then (jf_O p 1) else 0)) + (if (jf_E p 2) = e then (jf_O p 2) else 0)) + (if (jf_E p 3) = e then (jf_O p 3) else 0))), none, some (aI 4)], [aI 4, aR 41 0, aL ((((0 + (if (jf_E p 0) = e then (jf_O p 0) else 0)) + (if (jf_E p 1) = e then (jf_O p 1) else 0)) + (if (jf_E p 2) = e then (jf_O p 2) else 0)) + (if (jf_E p 3) = e then (jf_O p 3) else 0))], M)
      refine hR _ ⟨(show 0 ≤ (4 : Int) ∧ (4 : Int) < 5 from (by omega)), ?_⟩
      show R (30, [some (aR 8 0), some (aI e), some (aL ((((0 + (if (jf_E p 0) = e then (jf_O p 0) else 0)) + (if (jf_E p 1) = e then (jf_O p 1) else 0)) + (if (jf_E p 2) = e then (jf_O p 2) else 0)) + (if (jf_E p 3) = e then (jf_O p 3) else 0))), none, some (aI 4)], [aI (M 41 0 4), aL ((((0 + (if (jf_E p 0) = e then (jf_O p 0) else 0)) + (if (jf_E p 1) = e then (jf_O p 1) else 0)) + (if (jf_E p 2) = e then (jf_O p 2) else 0)) + (if (jf_E p 3) = e then (jf_O p 3) else 0))], M)
      rw [(show M 41 0 4 = jf_O p 4 from (hthr 4 (by omega)).2.2)]
      show R (30, [some (aR 8 0), some (aI e), some (aL ((((0 + (if (jf_E p 0) = e then (jf_O p 0) else 0)) + (if (jf_E p 1) = e then (jf_O p 1) else 0)) + (if (jf_E p 2) = e then (jf_O p 2) else 0)) + (if (jf_E p 3) = e then (jf_O p 3) else 0))), none, some (aI 4)], [aI (jf_O p 4), aL ((((0 + (if (jf_E p 0) = e then (jf_O p 0) else 0)) + (if (jf_E p 1) = e then (jf_O p 1) else 0)) + (if (jf_E p 2) = e then (jf_O p 2) else 0)) + (if (jf_E p 3) = e then (jf_O p 3) else 0))], M)
      refine hR _ ⟨(by omega), ?_⟩
      show R (31, [some (aR 8 0), some (aI e), some (aL ((((0 + (if (jf_E p 0) = e then (jf_O p 0) else 0)) + (if (jf_E p 1) = e then (jf_O p 1) else 0)) + (if (jf_E p 2) = e then (jf_O p 2) else 0)) + (if (jf_E p 3) = e then (jf_O p 3) else 0))), none, some (aI 4)], [aL (jf_O p 4), aL ((((0 + (if (jf_E p 0) = e then (jf_O p 0) else 0)) + (if (jf_E p 1) = e then (jf_O p 1) else 0)) + (if (jf_E p 2) = e then (jf_O p 2) else 0)) + (if (jf_E p 3) = e then (jf_O p 3) else 0))], M)
      refine hR _ (?_)
      show R (35, [some (aR 8 0), some (aI e), some (aL ((((0 + (if (jf_E p 0) = e then (jf_O p 0) else 0)) + (if (jf_E p 1) = e then (jf_O p 1) else 0)) + (if (jf_E p 2) = e then (jf_O p 2) else 0)) + (if (jf_E p 3) = e then (jf_O p 3) else 0))), none, some (aI 4)], [aL (jf_O p 4), aL ((((0 + (if (jf_E p 0) = e then (jf_O p 0) else 0)) + (if (jf_E p 1) = e then (jf_O p 1) else 0)) + (if (jf_E p 2) = e then (jf_O p 2) else 0)) + (if (jf_E p 3) = e then (jf_O p 3) else 0))], M)
      rw [if_pos (show (jf_E p 4) = e by omega)] at hJ
      exact hJ
  show R (35, [some (aR 8 0), some (aI e), some (aL ((((0 + (if (jf_E p 0) = e then (jf_O p 0) else 0)) + (if (jf_E p 1) = e then (jf_O p 1) else 0)) + (if (jf_E p 2) = e then (jf_O p 2) else 0)) + (if (jf_E p 3) = e then (jf_O p 3) else 0))), none, some (aI 4)], [aL (if (jf_E p 4) = e then (jf_O p 4) else 0), aL ((((0 + (if (jf_E p 0) = e then (jf_O p 0) else 0)) + (if (jf_E p 1) = e then (jf_O p 1) else 0)) + (if (jf_E p 2) = e then (jf_O p 2) else 0)) + (if (jf_E p 3) = e then (jf_O p 3) else 0))], M)
  refine hR _ (hR _ (hR _ (hR _ (hR _ (hR _ (hR _ (am_brt (rg := am_in 5 ∧ am_in 5) (P := (5 : Int) ≤ 5) (A := R (43, [some (aR 8 0), some (aI e), some (aL (((((0 + (if (jf_E p 0) = e then (jf_O p 0) else 0)) + (if (jf_E p 1) = e then (jf_O p 1) else 0)) + (if (jf_E p 2) = e then (jf_O p 2) else 0)) + (if (jf_E p 3) = e then (jf_O p 3) else 0)) + (if (jf_E p 4) = e then (jf_O p 4) else 0))), none, some (aI 5)], [], M)) (B := R (11, [some (aR 8 0), some (aI e), some (aL (((((0 + (if (jf_E p 0) = e then (jf_O p 0) else 0)) + (if (jf_E p 1) = e then (jf_O p 1) else 0)) + (if (jf_E p 2) = e then (jf_O p 2) else 0)) + (if (jf_E p 3) = e then (jf_O p 3) else 0)) + (if (jf_E p 4) = e then (jf_O p 4) else 0))), none, some (aI 5)], [], M)) (by omega) (by omega) ?_)))))))
  show R (43, [some (aR 8 0), some (aI e), some (aL (((((0 + (if (jf_E p 0) = e then (jf_O p 0) else 0)) + (if (jf_E p 1) = e then (jf_O p 1) else 0)) + (if (jf_E p 2) = e then (jf_O p 2) else 0)) + (if (jf_E p 3) = e then (jf_O p 3) else 0)) + (if (jf_E p 4) = e then (jf_O p 4) else 0))), none, some (aI 5)], [], M)
  refine hR _ (?_)
  show R (44, [some (aR 8 0), some (aI e), some (aL (((((0 + (if (jf_E p 0) = e then (jf_O p 0) else 0)) + (if (jf_E p 1) = e then (jf_O p 1) else 0)) + (if (jf_E p 2) = e then (jf_O p 2) else 0)) + (if (jf_E p 3) = e then (jf_O p 3) else 0)) + (if (jf_E p 4) = e then (jf_O p 4) else 0))), none, some (aI 5)], [aL (((((0 + (if (jf_E p 0) = e then (jf_O p 0) else 0)) + (if (jf_E p 1) = e then (jf_O p 1) else 0)) + (if (jf_E p 2) = e then (jf_O p 2) else 0)) + (if (jf_E p 3) = e then (jf_O p 3) else 0)) + (if (jf_E p 4) = e then (jf_O p 4) else 0))], M)
  refine hR _ (show K (some (aL (((((0 + (if (jf_E p 0) = e then (jf_O p 0) else 0)) + (if (jf_E p 1) = e then (jf_O p 1) else 0)) + (if (jf_E p 2) = e then (jf_O p 2) else 0)) + (if (jf_E p 3) = e then (jf_O p 3) else 0)) + (if (jf_E p 4) = e then (jf_O p 4) else 0)))) M from ?_)
  exact h

theorem sm_aboveOf {d : Nat} (hd : 6 ≤ d) {k r : Nat} {p : jf_par} {gl : Int} {M : am_M} {K : am_K} (hk : k < 5) (hr : M 431 0 0 = (r : Int)) (hr6 : r < 6) (hwt : mo_wt M r) (hp : mo_p M k r p) (hok : jf_ok p) (hth : mo_th M p) (hmk : p.mk = M 22 0 0) (hgl : 0 ≤ gl ∧ gl ≤ 2) (h : ∀ g, K (some (aL (-(jf_wo p gl)))) (am_mix [37, 38] g M)) : am_Call true d 168 [aR 8 0, aI ((k : Nat) : Int), aI gl] M K := by
  obtain ⟨d, rfl⟩ : ∃ e, d = e + 1 := ⟨d - 1, by omega⟩
  refine ⟨rfl, fun R hR hC => ?_⟩
  replace hR : ∀ c, am_F true tb_f168 5 (am_Call true d) K R c → R c := hR
  have hm1 := hok.2.2.2.2.2.2.2.1
  rw [hmk] at hm1
  show R (0, [some (aR 8 0), some (aI ((k : Nat) : Int)), some (aI gl)], [], M)
  refine hR _ (hR _ (am_brc (rg := am_in gl) (P := gl ≠ 0) (A := R (18, [some (aR 8 0), some (aI ((k : Nat) : Int)), some (aI gl)], [], M)) (B := R (4, [some (aR 8 0), some (aI ((k : Nat) : Int)), some (aI gl)], [], M)) (by omega) (fun c1 => ?_) (fun c1 => ?_)))
  · refine hR _ (hR _ (hR _ (am_brc (rg := am_in gl ∧ am_in 1) (P := gl ≠ 1) (A := R (30, [some (aR 8 0), some (aI ((k : Nat) : Int)), some (aI gl)], [], M)) (B := R (23, [some (aR 8 0), some (aI ((k : Nat) : Int)), some (aI gl)], [], M)) (by omega) (fun c20 => ?_) (fun c20 => ?_))))
    · refine hR _ (hR _ (hR _ (hR _ (?_))))
      show R (36, [some (aR 8 0), some (aI ((k : Nat) : Int)), some (aI gl)], [aI 0, aR 22 0, aR 8 0], M)
      refine hR _ ⟨(show 0 ≤ (0 : Int) ∧ (0 : Int) < 4 from (by omega)), ?_⟩
      show R (37, [some (aR 8 0), some (aI ((k : Nat) : Int)), some (aI gl)], [aI (M 22 0 0), aR 8 0], M)
      refine hR _ (sm_oftenAt (by omega) hok hth (by omega) ?_)
      have hat37 := jf_at_b hok (M 22 0 0)
      show R (40, [some (aR 8 0), some (aI ((k : Nat) : Int)), some (aI gl)], [aL (jf_at p (M 22 0 0))], M)
      refine hR _ (?_)
      show R (41, [some (aR 8 0), some (aI ((k : Nat) : Int)), some (aI gl)], [aL (-(jf_at p (M 22 0 0)))], M)
      refine hR _ (show K (some (aL (-(jf_at p (M 22 0 0))))) M from ?_)
      have hw : -(jf_wo p gl) = (-(jf_at p (M 22 0 0))) := by
        unfold jf_wo
        repeat' split
        all_goals first | omega | (rw [Int.neg_neg, hmk]; done) | (rw [hmk]; done) | (exfalso; omega)
      rw [← hw]
      have e9 : am_ag [37, 38] M M := am_ag.rf
      rw [e9.eq]
      exact h _
    · refine hR _ (?_)
      show R (24, [some (aR 8 0), some (aI ((k : Nat) : Int)), some (aI gl)], [aR 8 0], M)
      refine hR _ (sm_tenthsOfAll (by omega) hok hth ?_)
      have htt24 := jf_tt_b hok
      show R (27, [some (aR 8 0), some (aI ((k : Nat) : Int)), some (aI gl)], [aL (jf_tt p)], M)
      refine hR _ (?_)
      show R (41, [some (aR 8 0), some (aI ((k : Nat) : Int)), some (aI gl)], [aL (jf_tt p)], M)
      refine hR _ (show K (some (aL (jf_tt p))) M from ?_)
      have hw : -(jf_wo p gl) = (jf_tt p) := by
        unfold jf_wo
        repeat' split
        all_goals first | omega | (rw [Int.neg_neg, hmk]; done) | (rw [hmk]; done) | (exfalso; omega)
      rw [← hw]
      have e9 : am_ag [37, 38] M M := am_ag.rf
      rw [e9.eq]
      exact h _
  · refine hR _ (hR _ (hR _ (hR _ (hR _ (?_)))))
    show R (11, [some (aR 8 0), some (aI ((k : Nat) : Int)), some (aI gl)], [aI 0, aR 22 0, aI ((k : Nat) : Int), aR 8 0], M)
    refine hR _ ⟨(show 0 ≤ (0 : Int) ∧ (0 : Int) < 4 from (by omega)), ?_⟩
    show R (12, [some (aR 8 0), some (aI ((k : Nat) : Int)), some (aI gl)], [aI (M 22 0 0), aI ((k : Nat) : Int), aR 8 0], M)
    refine hR _ (sm_costsBy (p := p) (r := r) (by omega) hk hr hr6 hwt hp hok hth (by omega) (fun g151 => ?_))
    have hcc12 := jf_cc_b hok (M 22 0 0)
    show R (15, [some (aR 8 0), some (aI ((k : Nat) : Int)), some (aI gl)], [aL (jf_cc p (M 22 0 0))], am_mix [37, 38] g151 M)
    refine hR _ (?_)
    show R (41, [some (aR 8 0), some (aI ((k : Nat) : Int)), some (aI gl)], [aL (jf_cc p (M 22 0 0))], am_mix [37, 38] g151 M)
    refine hR _ (show K (some (aL (jf_cc p (M 22 0 0)))) (am_mix [37, 38] g151 M) from ?_)
    have hw : -(jf_wo p gl) = (jf_cc p (M 22 0 0)) := by
      unfold jf_wo
      repeat' split
      all_goals first | omega | (rw [Int.neg_neg, hmk]; done) | (rw [hmk]; done) | (exfalso; omega)
    rw [← hw]
    have e9 : am_ag [37, 38] M (am_mix [37, 38] g151 M) := (am_ag.rf).mix rfl
    rw [e9.eq]
    exact h _

theorem sm_lateBy {d : Nat} (hd : 1 ≤ d) {p : jf_par} {seed : Int} {M : am_M} {K : am_K} (hok : jf_ok p) (hth : mo_th M p) (hs : 0 ≤ seed ∧ seed ≤ 200000) (h : K (some (aI (jf_lb p seed))) M) : am_Call true d 193 [aR 8 0, aI seed] M K := by
  obtain ⟨d, rfl⟩ : ∃ e, d = e + 1 := ⟨d - 1, by omega⟩
  refine ⟨rfl, fun R hR hC => ?_⟩
  replace hR : ∀ c, am_F true tb_f193 1 (am_Call true d) K R c → R c := hR
  obtain ⟨hthr, hthA, hthN⟩ := hth
  have hO0 := jf_O_b hok (a := 0) (by omega)
  have hO1 := jf_O_b hok (a := 1) (by omega)
  have hO2 := jf_O_b hok (a := 2) (by omega)
  have hO3 := jf_O_b hok (a := 3) (by omega)
  have hO4 := jf_O_b hok (a := 4) (by omega)
  have hE0 := jf_E_b hok (a := 0) (by omega)
  have hE1 := jf_E_b hok (a := 1) (by omega)
  have hE2 := jf_E_b hok (a := 2) (by omega)
  have hE3 := jf_E_b hok (a := 3) (by omega)
  have hE4 := jf_E_b hok (a := 4) (by omega)
  have hT0 := jf_T_b hok (a := 0) (by omega)
  have hT1 := jf_T_b hok (a := 1) (by omega)
  have hT2 := jf_T_b hok (a := 2) (by omega)
  have hT3 := jf_T_b hok (a := 3) (by omega)
  have hT4 := jf_T_b hok (a := 4) (by omega)
  have hA := jf_A_b hok
  have hAs := jf_A_sum hok
  have hlot := jf_lot_b hok hs
  show R (0, [some (aR 8 0), some (aI seed), none, none, none, none, none], [], M)
  refine hR _ (?_)
  show R (1, [some (aR 8 0), some (aI seed), none, none, none, none, none], [aI seed], M)
  refine hR _ ⟨(by omega), ?_⟩
  show R (2, [some (aR 8 0), some (aI seed), none, none, none, none, none], [aL seed], M)
  refine hR _ (hR _ (hR _ (hR _ (hR _ (?_)))))
  show R (11, [some (aR 8 0), some (aI seed), none, none, none, none, none], [aL 2147483647, aL ((seed + 1) * 48271)], M)
  refine hR _ ⟨(by omega), ?_⟩
  show R (12, [some (aR 8 0), some (aI seed), none, none, none, none, none], [aL (Int.tmod ((seed + 1) * 48271) 2147483647)], M)
  have hl22 : 0 ≤ (Int.tmod ((seed + 1) * 48271) 2147483647) ∧ (Int.tmod ((seed + 1) * 48271) 2147483647) < 2147483647 := by
      rw [jf_tm _ _ (by omega)]
      exact ⟨Int.emod_nonneg _ (by omega), Int.emod_lt_of_pos _ (by omega)⟩
  refine hR _ (hR _ (?_))
  show R (16, [some (aR 8 0), some (aI seed), none, none, none, none, none], [aI (M 454 0 0), aL (Int.tmod ((seed + 1) * 48271) 2147483647)], M)
  rw [(show M 454 0 0 = jf_A p from hthA)]
  show R (16, [some (aR 8 0), some (aI seed), none, none, none, none, none], [aI (jf_A p), aL (Int.tmod ((seed + 1) * 48271) 2147483647)], M)
  refine hR _ ⟨(by omega), ?_⟩
  show R (17, [some (aR 8 0), some (aI seed), none, none, none, none, none], [aL (jf_A p), aL (Int.tmod ((seed + 1) * 48271) 2147483647)], M)
  refine hR _ ⟨(by omega), ?_⟩
  show R (18, [some (aR 8 0), some (aI seed), none, none, none, none, none], [aL (Int.tmod (Int.tmod ((seed + 1) * 48271) 2147483647) (jf_A p))], M)
  show R (18, [some (aR 8 0), some (aI seed), none, none, none, none, none], [aL (jf_lot p seed)], M)
  refine hR _ (hR _ (hR _ (hR _ (hR _ (hR _ (hR _ (hR _ (am_brf (rg := am_in 0 ∧ am_in 5) (P := 5 ≤ 0) (A := R (60, [some (aR 8 0), some (aI seed), some (aL (jf_lot p seed)), none, some (aL 0), none, some (aI 0)], [], M)) (B := R (31, [some (aR 8 0), some (aI seed), some (aL (jf_lot p seed)), none, some (aL 0), none, some (aI 0)], [], M)) (by omega) (by omega) ?_))))))))
  show R (31, [some (aR 8 0), some (aI seed), some (aL (jf_lot p seed)), none, some (aL 0), none, some (aI 0)], [], M)
  refine hR _ (hR _ (hR _ (hR _ (?_))))
  show R (39, [some (aR 8 0), some (aI seed), some (aL (jf_lot p seed)), none, some (aL 0), none, some (aI 0)], [aI 0, aR 41 0, aL 0], M)
  refine hR _ ⟨(show 0 ≤ (0 : Int) ∧ (0 : Int) < 5 from (by omega)), ?_⟩
  show R (40, [some (aR 8 0), some (aI seed), some (aL (jf_lot p seed)), none, some (aL 0), none, some (aI 0)], [aI (M 41 0 0), aL 0], M)
  rw [(show M 41 0 0 = jf_O p 0 from (hthr 0 (by omega)).2.2)]
  show R (40, [some (aR 8 0), some (aI seed), some (aL (jf_lot p seed)), none, some (aL 0), none, some (aI 0)], [aI (jf_O p 0), aL 0], M)
  refine hR _ ⟨(by omega), ?_⟩
  show R (41, [some (aR 8 0), some (aI seed), some (aL (jf_lot p seed)), none, some (aL 0), none, some (aI 0)], [aL (jf_O p 0), aL 0], M)
  refine hR _ (hR _ (hR _ (hR _ (?_))))
  show R (47, [some (aR 8 0), some (aI seed), some (aL (jf_lot p seed)), none, some (aL (0 + (jf_O p 0))), none, some (aI 0)], [aL (jf_lot p seed), aL (0 + (jf_O p 0))], M)
  refine am_lc (x := (0 + (jf_O p 0))) (y := (jf_lot p seed)) (P := (0 + (jf_O p 0)) ≤ (jf_lot p seed)) (A := R (54, [some (aR 8 0), some (aI seed), some (aL (jf_lot p seed)), none, some (aL (0 + (jf_O p 0))), none, some (aI 0)], [], M)) (B := R (51, [some (aR 8 0), some (aI seed), some (aL (jf_lot p seed)), none, some (aL (0 + (jf_O p 0))), none, some (aI 0)], [], M)) (by omega) (fun hA hB => hR _ ⟨(by omega), (fun hz => hR _ (am_brt (P := (-1 : Int) ≤ 0) (A := R (54, [some (aR 8 0), some (aI seed), some (aL (jf_lot p seed)), none, some (aL (0 + (jf_O p 0))), none, some (aI 0)], [], M)) (B := R (51, [some (aR 8 0), some (aI seed), some (aL (jf_lot p seed)), none, some (aL (0 + (jf_O p 0))), none, some (aI 0)], [], M)) (by omega) (by omega) (hA (by omega)))), (fun hz => hR _ (am_brt (P := (0 : Int) ≤ 0) (A := R (54, [some (aR 8 0), some (aI seed), some (aL (jf_lot p seed)), none, some (aL (0 + (jf_O p 0))), none, some (aI 0)], [], M)) (B := R (51, [some (aR 8 0), some (aI seed), some (aL (jf_lot p seed)), none, some (aL (0 + (jf_O p 0))), none, some (aI 0)], [], M)) (by omega) (by omega) (hA (by omega)))), (fun hz => hR _ (am_brf (P := (1 : Int) ≤ 0) (A := R (54, [some (aR 8 0), some (aI seed), some (aL (jf_lot p seed)), none, some (aL (0 + (jf_O p 0))), none, some (aI 0)], [], M)) (B := R (51, [some (aR 8 0), some (aI seed), some (aL (jf_lot p seed)), none, some (aL (0 + (jf_O p 0))), none, some (aI 0)], [], M)) (by omega) (by omega) (hB (by omega))))⟩) (fun c47 => ?_) (fun c47 => ?_)
  · refine hR _ (hR _ (hR _ (hR _ (hR _ (am_brf (rg := am_in 1 ∧ am_in 5) (P := 5 ≤ 1) (A := R (60, [some (aR 8 0), some (aI seed), some (aL (jf_lot p seed)), none, some (aL (0 + (jf_O p 0))), none, some (aI 1)], [], M)) (B := R (31, [some (aR 8 0), some (aI seed), some (aL (jf_lot p seed)), none, some (aL (0 + (jf_O p 0))), none, some (aI 1)], [], M)) (by omega) (by omega) ?_)))))
    show R (31, [some (aR 8 0), some (aI seed), some (aL (jf_lot p seed)), none, some (aL (0 + (jf_O p 0))), none, some (aI 1)], [], M)
    refine hR _ (hR _ (hR _ (hR _ (?_))))
    show R (39, [some (aR 8 0), some (aI seed), some (aL (jf_lot p seed)), none, some (aL (0 + (jf_O p 0))), none, some (aI 1)], [aI 1, aR 41 0, aL (0 + (jf_O p 0))], M)
    refine hR _ ⟨(show 0 ≤ (1 : Int) ∧ (1 : Int) < 5 from (by omega)), ?_⟩
    show R (40, [some (aR 8 0), some (aI seed), some (aL (jf_lot p seed)), none, some (aL (0 + (jf_O p 0))), none, some (aI 1)], [aI (M 41 0 1), aL (0 + (jf_O p 0))], M)
    rw [(show M 41 0 1 = jf_O p 1 from (hthr 1 (by omega)).2.2)]
    show R (40, [some (aR 8 0), some (aI seed), some (aL (jf_lot p seed)), none, some (aL (0 + (jf_O p 0))), none, some (aI 1)], [aI (jf_O p 1), aL (0 + (jf_O p 0))], M)
    refine hR _ ⟨(by omega), ?_⟩
    show R (41, [some (aR 8 0), some (aI seed), some (aL (jf_lot p seed)), none, some (aL (0 + (jf_O p 0))), none, some (aI 1)], [aL (jf_O p 1), aL (0 + (jf_O p 0))], M)
    refine hR _ (hR _ (hR _ (hR _ (?_))))
    show R (47, [some (aR 8 0), some (aI seed), some (aL (jf_lot p seed)), none, some (aL ((0 + (jf_O p 0)) + (jf_O p 1))), none, some (aI 1)], [aL (jf_lot p seed), aL ((0 + (jf_O p 0)) + (jf_O p 1))], M)
    refine am_lc (x := ((0 + (jf_O p 0)) + (jf_O p 1))) (y := (jf_lot p seed)) (P := ((0 + (jf_O p 0)) + (jf_O p 1)) ≤ (jf_lot p seed)) (A := R (54, [some (aR 8 0), some (aI seed), some (aL (jf_lot p seed)), none, some (aL ((0 + (jf_O p 0)) + (jf_O p 1))), none, some (aI 1)], [], M)) (B := R (51, [some (aR 8 0), some (aI seed), some (aL (jf_lot p seed)), none, some (aL ((0 + (jf_O p 0)) + (jf_O p 1))), none, some (aI 1)], [], M)) (by omega) (fun hA hB => hR _ ⟨(by omega), (fun hz => hR _ (am_brt (P := (-1 : Int) ≤ 0) (A := R (54, [some (aR 8 0), some (aI seed), some (aL (jf_lot p seed)), none, some (aL ((0 + (jf_O p 0)) + (jf_O p 1))), none, some (aI 1)], [], M)) (B := R (51, [some (aR 8 0), some (aI seed), some (aL (jf_lot p seed)), none, some (aL ((0 + (jf_O p 0)) + (jf_O p 1))), none, some (aI 1)], [], M)) (by omega) (by omega) (hA (by omega)))), (fun hz => hR _ (am_brt (P := (0 : Int) ≤ 0) (A := R (54, [some (aR 8 0), some (aI seed), some (aL (jf_lot p seed)), none, some (aL ((0 + (jf_O p 0)) + (jf_O p 1))), none, some (aI 1)], [], M)) (B := R (51, [some (aR 8 0), some (aI seed), some (aL (jf_lot p seed)), none, some (aL ((0 + (jf_O p 0)) + (jf_O p 1))), none, some (aI 1)], [], M)) (by omega) (by omega) (hA (by omega)))), (fun hz => hR _ (am_brf (P := (1 : Int) ≤ 0) (A := R (54, [some (aR 8 0), some (aI seed), some (aL (jf_lot p seed)), none, some (aL ((0 + (jf_O p 0)) + (jf_O p 1))), none, some (aI 1)], [], M)) (B := R (51, [some (aR 8 0), some (aI seed), some (aL (jf_lot p seed)), none, some (aL ((0 + (jf_O p 0)) + (jf_O p 1))), none, some (aI 1)], [], M)) (by omega) (by omega) (hB (by omega))))⟩) (fun c47 => ?_) (fun c47 => ?_)
    · refine hR _ (hR _ (hR _ (hR _ (hR _ (am_brf (rg := am_in 2 ∧ am_in 5) (P := 5 ≤ 2) (A := R (60, [some (aR 8 0), some (aI seed), some (aL (jf_lot p seed)), none, some (aL ((0 + (jf_O p 0)) + (jf_O p 1))), none, some (aI 2)], [], M)) (B := R (31, [some (aR 8 0), some (aI seed), some (aL (jf_lot p seed)), none, some (aL ((0 + (jf_O p 0)) + (jf_O p 1))), none, some (aI 2)], [], M)) (by omega) (by omega) ?_)))))
      show R (31, [some (aR 8 0), some (aI seed), some (aL (jf_lot p seed)), none, some (aL ((0 + (jf_O p 0)) + (jf_O p 1))), none, some (aI 2)], [], M)
      refine hR _ (hR _ (hR _ (hR _ (?_))))
      show R (39, [some (aR 8 0), some (aI seed), some (aL (jf_lot p seed)), none, some (aL ((0 + (jf_O p 0)) + (jf_O p 1))), none, some (aI 2)], [aI 2, aR 41 0, aL ((0 + (jf_O p 0)) + (jf_O p 1))], M)
      refine hR _ ⟨(show 0 ≤ (2 : Int) ∧ (2 : Int) < 5 from (by omega)), ?_⟩
      show R (40, [some (aR 8 0), some (aI seed), some (aL (jf_lot p seed)), none, some (aL ((0 + (jf_O p 0)) + (jf_O p 1))), none, some (aI 2)], [aI (M 41 0 2), aL ((0 + (jf_O p 0)) + (jf_O p 1))], M)
      rw [(show M 41 0 2 = jf_O p 2 from (hthr 2 (by omega)).2.2)]
      show R (40, [some (aR 8 0), some (aI seed), some (aL (jf_lot p seed)), none, some (aL ((0 + (jf_O p 0)) + (jf_O p 1))), none, some (aI 2)], [aI (jf_O p 2), aL ((0 + (jf_O p 0)) + (jf_O p 1))], M)
      refine hR _ ⟨(by omega), ?_⟩
      show R (41, [some (aR 8 0), some (aI seed), some (aL (jf_lot p seed)), none, some (aL ((0 + (jf_O p 0)) + (jf_O p 1))), none, some (aI 2)], [aL (jf_O p 2), aL ((0 + (jf_O p 0)) + (jf_O p 1))], M)
      refine hR _ (hR _ (hR _ (hR _ (?_))))
      show R (47, [some (aR 8 0), some (aI seed), some (aL (jf_lot p seed)), none, some (aL (((0 + (jf_O p 0)) + (jf_O p 1)) + (jf_O p 2))), none, some (aI 2)], [aL (jf_lot p seed), aL (((0 + (jf_O p 0)) + (jf_O p 1)) + (jf_O p 2))], M)
      refine am_lc (x := (((0 + (jf_O p 0)) + (jf_O p 1)) + (jf_O p 2))) (y := (jf_lot p seed)) (P := (((0 + (jf_O p 0)) + (jf_O p 1)) + (jf_O p 2)) ≤ (jf_lot p seed)) (A := R (54, [some (aR 8 0), some (aI seed), some (aL (jf_lot p seed)), none, some (aL (((0 + (jf_O p 0)) + (jf_O p 1)) + (jf_O p 2))), none, some (aI 2)], [], M)) (B := R (51, [some (aR 8 0), some (aI seed), some (aL (jf_lot p seed)), none, some (aL (((0 + (jf_O p 0)) + (jf_O p 1)) + (jf_O p 2))), none, some (aI 2)], [], M)) (by omega) (fun hA hB => hR _ ⟨(by omega), (fun hz => hR _ (am_brt (P := (-1 : Int) ≤ 0) (A := R (54, [some (aR 8 0), some (aI seed), some (aL (jf_lot p seed)), none, some (aL (((0 + (jf_O p 0)) + (jf_O p 1)) + (jf_O p 2))), none, some (aI 2)], [], M)) (B := R (51, [some (aR 8 0), some (aI seed), some (aL (jf_lot p seed)), none, some (aL (((0 + (jf_O p 0)) + (jf_O p 1)) + (jf_O p 2))), none, some (aI 2)], [], M)) (by omega) (by omega) (hA (by omega)))), (fun hz => hR _ (am_brt (P := (0 : Int) ≤ 0) (A := R (54, [some (aR 8 0), some (aI seed), some (aL (jf_lot p seed)), none, some (aL (((0 + (jf_O p 0)) + (jf_O p 1)) + (jf_O p 2))), none, some (aI 2)], [], M)) (B := R (51, [some (aR 8 0), some (aI seed), some (aL (jf_lot p seed)), none, some (aL (((0 + (jf_O p 0)) + (jf_O p 1)) + (jf_O p 2))), none, some (aI 2)], [], M)) (by omega) (by omega) (hA (by omega)))), (fun hz => hR _ (am_brf (P := (1 : Int) ≤ 0) (A := R (54, [some (aR 8 0), some (aI seed), some (aL (jf_lot p seed)), none, some (aL (((0 + (jf_O p 0)) + (jf_O p 1)) + (jf_O p 2))), none, some (aI 2)], [], M)) (B := R (51, [some (aR 8 0), some (aI seed), some (aL (jf_lot p seed)), none, some (aL (((0 + (jf_O p 0)) + (jf_O p 1)) + (jf_O p 2))), none, some (aI 2)], [], M)) (by omega) (by omega) (hB (by omega))))⟩) (fun c47 => ?_) (fun c47 => ?_)
      · refine hR _ (hR _ (hR _ (hR _ (hR _ (am_brf (rg := am_in 3 ∧ am_in 5) (P := 5 ≤ 3) (A := R (60, [some (aR 8 0), some (aI seed), some (aL (jf_lot p seed)), none, some (aL (((0 + (jf_O p 0)) + (jf_O p 1)) + (jf_O p 2))), none, some (aI 3)], [], M)) (B := R (31, [some (aR 8 0), some (aI seed), some (aL (jf_lot p seed)), none, some (aL (((0 + (jf_O p 0)) + (jf_O p 1)) + (jf_O p 2))), none, some (aI 3)], [], M)) (by omega) (by omega) ?_)))))
        show R (31, [some (aR 8 0), some (aI seed), some (aL (jf_lot p seed)), none, some (aL (((0 + (jf_O p 0)) + (jf_O p 1)) + (jf_O p 2))), none, some (aI 3)], [], M)
        refine hR _ (hR _ (hR _ (hR _ (?_))))
        show R (39, [some (aR 8 0), some (aI seed), some (aL (jf_lot p seed)), none, some (aL (((0 + (jf_O p 0)) + (jf_O p 1)) + (jf_O p 2))), none, some (aI 3)], [aI 3, aR 41 0, aL (((0 + (jf_O p 0)) + (jf_O p 1)) + (jf_O p 2))], M)
        refine hR _ ⟨(show 0 ≤ (3 : Int) ∧ (3 : Int) < 5 from (by omega)), ?_⟩
        show R (40, [some (aR 8 0), some (aI seed), some (aL (jf_lot p seed)), none, some (aL (((0 + (jf_O p 0)) + (jf_O p 1)) + (jf_O p 2))), none, some (aI 3)], [aI (M 41 0 3), aL (((0 + (jf_O p 0)) + (jf_O p 1)) + (jf_O p 2))], M)
        rw [(show M 41 0 3 = jf_O p 3 from (hthr 3 (by omega)).2.2)]
        show R (40, [some (aR 8 0), some (aI seed), some (aL (jf_lot p seed)), none, some (aL (((0 + (jf_O p 0)) + (jf_O p 1)) + (jf_O p 2))), none, some (aI 3)], [aI (jf_O p 3), aL (((0 + (jf_O p 0)) + (jf_O p 1)) + (jf_O p 2))], M)
        refine hR _ ⟨(by omega), ?_⟩
        show R (41, [some (aR 8 0), some (aI seed), some (aL (jf_lot p seed)), none, some (aL (((0 + (jf_O p 0)) + (jf_O p 1)) + (jf_O p 2))), none, some (aI 3)], [aL (jf_O p 3), aL (((0 + (jf_O p 0)) + (jf_O p 1)) + (jf_O p 2))], M)
        refine hR _ (hR _ (hR _ (hR _ (?_))))
        show R (47, [some (aR 8 0), some (aI seed), some (aL (jf_lot p seed)), none, some (aL ((((0 + (jf_O p 0)) + (jf_O p 1)) + (jf_O p 2)) + (jf_O p 3))), none, some (aI 3)], [aL (jf_lot p seed), aL ((((0 + (jf_O p 0)) + (jf_O p 1)) + (jf_O p 2)) + (jf_O p 3))], M)
        refine am_lc (x := ((((0 + (jf_O p 0)) + (jf_O p 1)) + (jf_O p 2)) + (jf_O p 3))) (y := (jf_lot p seed)) (P := ((((0 + (jf_O p 0)) + (jf_O p 1)) + (jf_O p 2)) + (jf_O p 3)) ≤ (jf_lot p seed)) (A := R (54, [some (aR 8 0), some (aI seed), some (aL (jf_lot p seed)), none, some (aL ((((0 + (jf_O p 0)) + (jf_O p 1)) + (jf_O p 2)) + (jf_O p 3))), none, some (aI 3)], [], M)) (B := R (51, [some (aR 8 0), some (aI seed), some (aL (jf_lot p seed)), none, some (aL ((((0 + (jf_O p 0)) + (jf_O p 1)) + (jf_O p 2)) + (jf_O p 3))), none, some (aI 3)], [], M)) (by omega) (fun hA hB => hR _ ⟨(by omega), (fun hz => hR _ (am_brt (P := (-1 : Int) ≤ 0) (A := R (54, [some (aR 8 0), some (aI seed), some (aL (jf_lot p seed)), none, some (aL ((((0 + (jf_O p 0)) + (jf_O p 1)) + (jf_O p 2)) + (jf_O p 3))), none, some (aI 3)], [], M)) (B := R (51, [some (aR 8 0), some (aI seed), some (aL (jf_lot p seed)), none, some (aL ((((0 + (jf_O p 0)) + (jf_O p 1)) + (jf_O p 2)) + (jf_O p 3))), none, some (aI 3)], [], M)) (by omega) (by omega) (hA (by omega)))), (fun hz => hR _ (am_brt (P := (0 : Int) ≤ 0) (A := R (54, [some (aR 8 0), some (aI seed), some (aL (jf_lot p seed)), none, some (aL ((((0 + (jf_O p 0)) + (jf_O p 1)) + (jf_O p 2)) + (jf_O p 3))), none, some (aI 3)], [], M)) (B := R (51, [some (aR 8 0), some (aI seed), some (aL (jf_lot p seed)), none, some (aL ((((0 + (jf_O p 0)) + (jf_O p 1)) + (jf_O p 2)) + (jf_O p 3))), none, some (aI 3)], [], M)) (by omega) (by omega) (hA (by omega)))), (fun hz => hR _ (am_brf (P := (1 : Int) ≤ 0) (A := R (54, [some (aR 8 0), some (aI seed), some (aL (jf_lot p seed)), none, some (aL ((((0 + (jf_O p 0)) + (jf_O p 1)) + (jf_O p 2)) + (jf_O p 3))), none, some (aI 3)], [], M)) (B := R (51, [some (aR 8 0), some (aI seed), some (aL (jf_lot p seed)), none, some (aL ((((0 + (jf_O p 0)) + (jf_O p 1)) + (jf_O p 2)) + (jf_O p 3))), none, some (aI 3)], [], M)) (by omega) (by omega) (hB (by omega))))⟩) (fun c47 => ?_) (fun c47 => ?_)
        · refine hR _ (hR _ (hR _ (hR _ (hR _ (am_brf (rg := am_in 4 ∧ am_in 5) (P := 5 ≤ 4) (A := R (60, [some (aR 8 0), some (aI seed), some (aL (jf_lot p seed)), none, some (aL ((((0 + (jf_O p 0)) + (jf_O p 1)) + (jf_O p 2)) + (jf_O p 3))), none, some (aI 4)], [], M)) (B := R (31, [some (aR 8 0), some (aI seed), some (aL (jf_lot p seed)), none, some (aL ((((0 + (jf_O p 0)) + (jf_O p 1)) + (jf_O p 2)) + (jf_O p 3))), none, some (aI 4)], [], M)) (by omega) (by omega) ?_)))))
          show R (31, [some (aR 8 0), some (aI seed), some (aL (jf_lot p seed)), none, some (aL ((((0 + (jf_O p 0)) + (jf_O p 1)) + (jf_O p 2)) + (jf_O p 3))), none, some (aI 4)], [], M)
          refine hR _ (hR _ (hR _ (hR _ (?_))))
          show R (39, [some (aR 8 0), some (aI seed), some (aL (jf_lot p seed)), none, some (aL ((((0 + (jf_O p 0)) + (jf_O p 1)) + (jf_O p 2)) + (jf_O p 3))), none, some (aI 4)], [aI 4, aR 41 0, aL ((((0 + (jf_O p 0)) + (jf_O p 1)) + (jf_O p 2)) + (jf_O p 3))], M)
          refine hR _ ⟨(show 0 ≤ (4 : Int) ∧ (4 : Int) < 5 from (by omega)), ?_⟩
          show R (40, [some (aR 8 0), some (aI seed), some (aL (jf_lot p seed)), none, some (aL ((((0 + (jf_O p 0)) + (jf_O p 1)) + (jf_O p 2)) + (jf_O p 3))), none, some (aI 4)], [aI (M 41 0 4), aL ((((0 + (jf_O p 0)) + (jf_O p 1)) + (jf_O p 2)) + (jf_O p 3))], M)
          rw [(show M 41 0 4 = jf_O p 4 from (hthr 4 (by omega)).2.2)]
          show R (40, [some (aR 8 0), some (aI seed), some (aL (jf_lot p seed)), none, some (aL ((((0 + (jf_O p 0)) + (jf_O p 1)) + (jf_O p 2)) + (jf_O p 3))), none, some (aI 4)], [aI (jf_O p 4), aL ((((0 + (jf_O p 0)) + (jf_O p 1)) + (jf_O p 2)) + (jf_O p 3))], M)
          refine hR _ ⟨(by omega), ?_⟩
          show R (41, [some (aR 8 0), some (aI seed), some (aL (jf_lot p seed)), none, some (aL ((((0 + (jf_O p 0)) + (jf_O p 1)) + (jf_O p 2)) + (jf_O p 3))), none, some (aI 4)], [aL (jf_O p 4), aL ((((0 + (jf_O p 0)) + (jf_O p 1)) + (jf_O p 2)) + (jf_O p 3))], M)
          refine hR _ (hR _ (hR _ (hR _ (?_))))
          show R (47, [some (aR 8 0), some (aI seed), some (aL (jf_lot p seed)), none, some (aL (((((0 + (jf_O p 0)) + (jf_O p 1)) + (jf_O p 2)) + (jf_O p 3)) + (jf_O p 4))), none, some (aI 4)], [aL (jf_lot p seed), aL (((((0 + (jf_O p 0)) + (jf_O p 1)) + (jf_O p 2)) + (jf_O p 3)) + (jf_O p 4))], M)
          refine am_lc (x := (((((0 + (jf_O p 0)) + (jf_O p 1)) + (jf_O p 2)) + (jf_O p 3)) + (jf_O p 4))) (y := (jf_lot p seed)) (P := (((((0 + (jf_O p 0)) + (jf_O p 1)) + (jf_O p 2)) + (jf_O p 3)) + (jf_O p 4)) ≤ (jf_lot p seed)) (A := R (54, [some (aR 8 0), some (aI seed), some (aL (jf_lot p seed)), none, some (aL (((((0 + (jf_O p 0)) + (jf_O p 1)) + (jf_O p 2)) + (jf_O p 3)) + (jf_O p 4))), none, some (aI 4)], [], M)) (B := R (51, [some (aR 8 0), some (aI seed), some (aL (jf_lot p seed)), none, some (aL (((((0 + (jf_O p 0)) + (jf_O p 1)) + (jf_O p 2)) + (jf_O p 3)) + (jf_O p 4))), none, some (aI 4)], [], M)) (by omega) (fun hA hB => hR _ ⟨(by omega), (fun hz => hR _ (am_brt (P := (-1 : Int) ≤ 0) (A := R (54, [some (aR 8 0), some (aI seed), some (aL (jf_lot p seed)), none, some (aL (((((0 + (jf_O p 0)) + (jf_O p 1)) + (jf_O p 2)) + (jf_O p 3)) + (jf_O p 4))), none, some (aI 4)], [], M)) (B := R (51, [some (aR 8 0), some (aI seed), some (aL (jf_lot p seed)), none, some (aL (((((0 + (jf_O p 0)) + (jf_O p 1)) + (jf_O p 2)) + (jf_O p 3)) + (jf_O p 4))), none, some (aI 4)], [], M)) (by omega) (by omega) (hA (by omega)))), (fun hz => hR _ (am_brt (P := (0 : Int) ≤ 0) (A := R (54, [some (aR 8 0), some (aI seed), some (aL (jf_lot p seed)), none, some (aL (((((0 + (jf_O p 0)) + (jf_O p 1)) + (jf_O p 2)) + (jf_O p 3)) + (jf_O p 4))), none, some (aI 4)], [], M)) (B := R (51, [some (aR 8 0), some (aI seed), some (aL (jf_lot p seed)), none, some (aL (((((0 + (jf_O p 0)) + (jf_O p 1)) + (jf_O p 2)) + (jf_O p 3)) + (jf_O p 4))), none, some (aI 4)], [], M)) (by omega) (by omega) (hA (by omega)))), (fun hz => hR _ (am_brf (P := (1 : Int) ≤ 0) (A := R (54, [some (aR 8 0), some (aI seed), some (aL (jf_lot p seed)), none, some (aL (((((0 + (jf_O p 0)) + (jf_O p 1)) + (jf_O p 2)) + (jf_O p 3)) + (jf_O p 4))), none, some (aI 4)], [], M)) (B := R (51, [some (aR 8 0), some (aI seed), some (aL (jf_lot p seed)), none, some (aL (((((0 + (jf_O p 0)) + (jf_O p 1)) + (jf_O p 2)) + (jf_O p 3)) + (jf_O p 4))), none, some (aI 4)], [], M)) (by omega) (by omega) (hB (by omega))))⟩) (fun c47 => ?_) (fun c47 => ?_)
          · refine hR _ (hR _ (hR _ (hR _ (hR _ (am_brt (rg := am_in 5 ∧ am_in 5) (P := (5 : Int) ≤ 5) (A := R (60, [some (aR 8 0), some (aI seed), some (aL (jf_lot p seed)), none, some (aL (((((0 + (jf_O p 0)) + (jf_O p 1)) + (jf_O p 2)) + (jf_O p 3)) + (jf_O p 4))), none, some (aI 5)], [], M)) (B := R (31, [some (aR 8 0), some (aI seed), some (aL (jf_lot p seed)), none, some (aL (((((0 + (jf_O p 0)) + (jf_O p 1)) + (jf_O p 2)) + (jf_O p 3)) + (jf_O p 4))), none, some (aI 5)], [], M)) (by omega) (by omega) ?_)))))
            show R (60, [some (aR 8 0), some (aI seed), some (aL (jf_lot p seed)), none, some (aL (((((0 + (jf_O p 0)) + (jf_O p 1)) + (jf_O p 2)) + (jf_O p 3)) + (jf_O p 4))), none, some (aI 5)], [], M)
            refine hR _ (?_)
            show R (61, [some (aR 8 0), some (aI seed), some (aL (jf_lot p seed)), none, some (aL (((((0 + (jf_O p 0)) + (jf_O p 1)) + (jf_O p 2)) + (jf_O p 3)) + (jf_O p 4))), none, some (aI 5)], [aI 4], M)
            refine hR _ (show K (some (aI 4)) M from ?_)
            first | (exfalso; omega) | (rw [show jf_lb p seed = 4 by unfold jf_lb; rw [if_neg (by omega)]; rw [if_neg (by omega)]; rw [if_neg (by omega)]; rw [if_neg (by omega)];] at h; exact h)
          · refine hR _ (?_)
            show R (53, [some (aR 8 0), some (aI seed), some (aL (jf_lot p seed)), none, some (aL (((((0 + (jf_O p 0)) + (jf_O p 1)) + (jf_O p 2)) + (jf_O p 3)) + (jf_O p 4))), none, some (aI 4)], [aI 4], M)
            refine hR _ (show K (some (aI 4)) M from ?_)
            first | (exfalso; omega) | (rw [show jf_lb p seed = 4 by unfold jf_lb; rw [if_neg (by omega)]; rw [if_neg (by omega)]; rw [if_neg (by omega)]; rw [if_neg (by omega)];] at h; exact h)
        · refine hR _ (?_)
          show R (53, [some (aR 8 0), some (aI seed), some (aL (jf_lot p seed)), none, some (aL ((((0 + (jf_O p 0)) + (jf_O p 1)) + (jf_O p 2)) + (jf_O p 3))), none, some (aI 3)], [aI 3], M)
          refine hR _ (show K (some (aI 3)) M from ?_)
          first | (exfalso; omega) | (rw [show jf_lb p seed = 3 by unfold jf_lb; rw [if_neg (by omega)]; rw [if_neg (by omega)]; rw [if_neg (by omega)]; rw [if_pos (by omega)]] at h; exact h)
      · refine hR _ (?_)
        show R (53, [some (aR 8 0), some (aI seed), some (aL (jf_lot p seed)), none, some (aL (((0 + (jf_O p 0)) + (jf_O p 1)) + (jf_O p 2))), none, some (aI 2)], [aI 2], M)
        refine hR _ (show K (some (aI 2)) M from ?_)
        first | (exfalso; omega) | (rw [show jf_lb p seed = 2 by unfold jf_lb; rw [if_neg (by omega)]; rw [if_neg (by omega)]; rw [if_pos (by omega)]] at h; exact h)
    · refine hR _ (?_)
      show R (53, [some (aR 8 0), some (aI seed), some (aL (jf_lot p seed)), none, some (aL ((0 + (jf_O p 0)) + (jf_O p 1))), none, some (aI 1)], [aI 1], M)
      refine hR _ (show K (some (aI 1)) M from ?_)
      first | (exfalso; omega) | (rw [show jf_lb p seed = 1 by unfold jf_lb; rw [if_neg (by omega)]; rw [if_pos (by omega)]] at h; exact h)
  · refine hR _ (?_)
    show R (53, [some (aR 8 0), some (aI seed), some (aL (jf_lot p seed)), none, some (aL (0 + (jf_O p 0))), none, some (aI 0)], [aI 0], M)
    refine hR _ (show K (some (aI 0)) M from ?_)
    first | (exfalso; omega) | (rw [show jf_lb p seed = 0 by unfold jf_lb;  rw [if_pos (by omega)]] at h; exact h)
