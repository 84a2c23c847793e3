/-! wb -/
/-! THE PAIRS: a text -/
def rd_cg (f : Nat → rd_R) : Prop := ∀ n m w, f n = (m, some w) → ∀ x ∈ w, jf_cg x
theorem rd_cg_2 {w : List Int} {c : Int} (hw : ∀ x ∈ w, jf_cg x) (hc : jf_cg c) : ∀ x ∈ w ++ [c], jf_cg x := by
  intro x hx
  rcases List.mem_append.mp hx with h | h
  · exact hw x h
  · rw [List.mem_singleton.mp h]
    exact hc
theorem rd_cg_3 {w w2 : List Int} {c : Int} (hw : ∀ x ∈ w, jf_cg x) (hw2 : ∀ x ∈ w2, jf_cg x) (hc : jf_cg c) : ∀ x ∈ w ++ (w2 ++ [c]), jf_cg x := by
  intro x hx
  rcases List.mem_append.mp hx with h | h
  · exact hw x h
  · exact rd_cg_2 hw2 hc x h
theorem rd_cg_1 {c : Int} (hc : jf_cg c) : ∀ x ∈ [c], jf_cg x := by
  intro x hx
  rw [List.mem_singleton.mp hx]
  exact hc
theorem rd_loop_cg {T : Nat → Int} {op : Int → Bool} {sub : Nat → rd_R} (hop : ∀ x, op x = true → jf_cg (jf_cv x 0)) (hs : rd_cg sub) : ∀ f n w m w', rd_loop T op sub f n w = (m, some w') → (∀ x ∈ w, jf_cg x) → ∀ x ∈ w', jf_cg x
  | 0, n, w, m, w', h, hw => by
    cases h
    exact hw
  | f + 1, n, w, m, w', h, hw => by
    unfold rd_loop at h
    cases ho : op (T n) with
    | false =>
      rw [ho] at h
      cases h
      exact hw
    | true =>
      rw [ho] at h
      obtain ⟨m1, w1, h1, h2⟩ := rd_then_some h
      exact rd_loop_cg hop hs f m1 _ m w' h2 (rd_cg_3 hw (hs _ _ _ h1) (hop _ ho))
theorem rd_then_cg {T : Nat → Int} {op : Int → Bool} {a sub : Nat → rd_R} (hop : ∀ x, op x = true → jf_cg (jf_cv x 0)) (ha : rd_cg a) (hs : rd_cg sub) : rd_cg (fun n => rd_then (a n) (fun m w => rd_loop T op sub 160 m w)) := by
  intro n m w h
  obtain ⟨m1, w1, h1, h2⟩ := rd_then_some h
  exact rd_loop_cg hop hs _ _ _ _ _ h2 (ha _ _ _ h1)
def rd_ncg (nx : rd_N) : Prop := ∀ x, nx = some x → rd_cg (x 0) ∧ rd_cg (x 1) ∧ rd_cg (x 2)
theorem rd_one_cg {T V : Nat → Int} {nx : rd_N} (hV : ∀ n, T n = 2 → 0 ≤ V n ∧ V n ≤ 9999) (hn : rd_ncg nx) : rd_cg (rd_one T V nx) := by
  intro n m w h
  unfold rd_one at h
  by_cases h1 : T n = 40 ∨ T n = 45
  · rw [if_pos h1] at h
    match nx, hn, h with
    | none, _, h => cases h
    | some x, hn, h =>
      have hx := hn x rfl
      dsimp only at h
      unfold rd_opn at h
      by_cases h2 : T n = 45
      · rw [if_pos h2] at h
        obtain ⟨m1, w1, h3, h4⟩ := rd_then_some h
        cases h4
        exact rd_cg_2 (hx.1 _ _ _ h3) (Or.inr (Or.inl ⟨by decide, by decide⟩))
      · rw [if_neg h2] at h
        obtain ⟨m1, w1, h3, h4⟩ := rd_then_some h
        by_cases h5 : T m1 = 41
        · rw [if_pos h5] at h4
          cases h4
          exact hx.2.2 _ _ _ h3
        · rw [if_neg h5] at h4
          cases h4
  · rw [if_neg h1] at h
    by_cases h2 : T n = 2
    · rw [if_pos h2] at h
      cases h
      have hv := hV n h2
      exact rd_cg_1 (Or.inr (Or.inr (by omega)))
    · rw [if_neg h2] at h
      by_cases h3 : 10 ≤ T n ∧ T n ≤ 15
      · rw [if_pos h3] at h
        cases h
        exact rd_cg_1 (Or.inl (by omega))
      · rw [if_neg h3] at h
        cases h
theorem rd_g1 : ∀ x, rd_op1 x = true → jf_cg (jf_cv x 0) := fun x h => by have e := of_decide_eq_true h; subst e; exact Or.inr (Or.inl ⟨by decide, by decide⟩)
theorem rd_g2 : ∀ x, rd_op2 x = true → jf_cg (jf_cv x 0) := fun x h => by rcases of_decide_eq_true h with rfl | rfl <;> exact Or.inr (Or.inl ⟨by decide, by decide⟩)
theorem rd_g5 : ∀ x, rd_op5 x = true → jf_cg (jf_cv x 0) := fun x h => by have e := of_decide_eq_true h; subst e; exact Or.inr (Or.inl ⟨by decide, by decide⟩)
theorem rd_g6 : ∀ x, rd_op6 x = true → jf_cg (jf_cv x 0) := fun x h => by have e := of_decide_eq_true h; subst e; exact Or.inr (Or.inl ⟨by decide, by decide⟩)
theorem rd_sum_cg {T V : Nat → Int} {nx : rd_N} (hV : ∀ n, T n = 2 → 0 ≤ V n ∧ V n ≤ 9999) (hn : rd_ncg nx) : rd_cg (rd_sum T V nx) := by
  have h1 : rd_cg (rd_term T V nx) := rd_then_cg rd_g1 (rd_one_cg hV hn) (rd_one_cg hV hn)
  exact rd_then_cg rd_g2 h1 h1
theorem rd_not_cg {T V : Nat → Int} {nx : rd_N} (hV : ∀ n, T n = 2 → 0 ≤ V n ∧ V n ≤ 9999) (hn : rd_ncg nx) : rd_cg (rd_not T V nx) := by
  intro n m w h
  unfold rd_not at h
  by_cases h1 : T n = 6
  · rw [if_pos h1] at h
    match nx, hn, h with
    | none, _, h => cases h
    | some x, hn, h =>
      have hx := hn x rfl
      dsimp only at h
      obtain ⟨m1, w1, h3, h4⟩ := rd_then_some h
      cases h4
      exact rd_cg_2 (hx.2.1 _ _ _ h3) (Or.inr (Or.inl ⟨by decide, by decide⟩))
  · rw [if_neg h1] at h
    obtain ⟨m1, w1, h3, h4⟩ := rd_then_some h
    have h5 := rd_sum_cg hV hn _ _ _ h3
    by_cases h2 : T m1 = 60 ∨ T m1 = 61
    · rw [if_pos h2] at h4
      obtain ⟨m2, w2, h6, h7⟩ := rd_then_some h4
      cases h7
      have h8 := rd_sum_cg hV hn _ _ _ h6
      have h9 : jf_cg (jf_cv (T m1) 0) := by rcases h2 with h2 | h2 <;> rw [h2] <;> exact Or.inr (Or.inl ⟨by decide, by decide⟩)
      exact rd_cg_3 h5 h8 h9
    · rw [if_neg h2] at h4
      cases h4
      exact h5
theorem rd_or_cg {T V : Nat → Int} {nx : rd_N} (hV : ∀ n, T n = 2 → 0 ≤ V n ∧ V n ≤ 9999) (hn : rd_ncg nx) : rd_cg (rd_or T V nx) := by
  have h1 : rd_cg (rd_and T V nx) := rd_then_cg rd_g5 (rd_not_cg hV hn) (rd_not_cg hV hn)
  exact rd_then_cg rd_g6 h1 h1
theorem rd_nx_cg {T V : Nat → Int} (hV : ∀ n, T n = 2 → 0 ≤ V n ∧ V n ≤ 9999) : ∀ r, rd_ncg (rd_nx T V r)
  | 0 => fun x h => by cases h
  | r + 1 => fun x h => by
    have e : rd_k T V (rd_nx T V r) = x := Option.some.inj h
    rw [← e]
    have ih := rd_nx_cg hV r
    exact ⟨rd_one_cg hV ih, rd_not_cg hV ih, rd_or_cg hV ih⟩
theorem tx_part_cg {T V : Nat → Int} (hV : ∀ n, T n = 2 → 0 ≤ V n ∧ V n ≤ 9999) {p : Int} {n m : Nat} {w : List Int} (h : tx_part T V p n = (m, some w)) : ∀ x ∈ w, jf_cg x := by
  unfold tx_part at h
  by_cases h1 : T n = 3 + p
  · rw [if_pos h1] at h
    obtain ⟨m1, w1, h2, h3⟩ := rd_then_some h
    by_cases h4 : T m1 = 59
    · rw [if_pos h4] at h3
      cases h3
      exact rd_or_cg hV (rd_nx_cg hV 5) _ _ _ h2
    · rw [if_neg h4] at h3
      cases h3
  · rw [if_neg h1] at h
    cases h
theorem tx_all_cg {T V : Nat → Int} (hV : ∀ n, T n = 2 → 0 ≤ V n ∧ V n ≤ 9999) {m : Nat} {w0 w1 w2 : List Int} (h : tx_all T V = (m, some (w0, w1, w2))) : ∀ x ∈ w0 ++ (w1 ++ w2), jf_cg x := by
  unfold tx_all at h
  obtain ⟨n1, v0, h0, h⟩ := tx_then_some h
  obtain ⟨n2, v1, h1, h⟩ := tx_then_some h
  obtain ⟨n3, v2, h2, h⟩ := tx_then_some h
  by_cases h4 : T n3 = 0
  · rw [if_pos h4] at h
    cases h
    intro x hx
    rcases List.mem_append.mp hx with q | q
    · exact tx_part_cg hV h0 x q
    · rcases List.mem_append.mp q with q | q
      · exact tx_part_cg hV h1 x q
      · exact tx_part_cg hV h2 x q
  · rw [if_neg h4] at h
    cases h
theorem pr_wt3 {st vl pe st' vl' pe' : Nat → Nat → Int} {t : Nat} (h1 : st' t = st t) (h2 : vl' t = vl t) (h3 : pe' t = pe t) : (∀ p, jf_tk3 st' vl' pe' t p = jf_tk3 st vl pe t p) ∧ (jf_wt3 st vl pe t → jf_wt3 st' vl' pe' t) := by
  have e : ∀ p, jf_tk3 st' vl' pe' t p = jf_tk3 st vl pe t p := by
    intro p
    simp only [jf_tk3, jf_lo3, h1, h2, h3]
  refine ⟨e, fun h => ?_⟩
  unfold jf_wt3 at h ⊢
  rw [h1, h2, h3]
  exact ⟨h.1, fun p hp => by rw [e p]; exact h.2.1 p hp, h.2.2⟩
theorem pr_mw3 {cd st cd' st' : Nat → Int} {t : Nat} (hc : ∀ k, k < 200 → cd' (200 * t + k) = cd (200 * t + k)) (hs : ∀ p, p < 4 → st' (4 * t + p) = st (4 * t + p)) (h : mo_wt3 cd st t) : mo_wt3 cd' st' t ∧ ∀ p, p < 3 → mo_tk3 cd' st' t p = mo_tk3 cd st t p := by
  have e : ∀ p, p < 3 → mo_tk3 cd' st' t p = mo_tk3 cd st t p := by
    intro p hp
    have e1 := hs p (by omega)
    have e2 : st' (4 * t + p + 1) = st (4 * t + p + 1) := hs (p + 1) (by omega)
    have h1 := (h.1 p hp).1
    have h2 := h.2.1
    unfold mo_tk3
    rw [e1, e2]
    refine List.map_congr_left fun k hk => hc k ?_
    have h3 := (List.mem_range'_1.mp hk)
    omega
  have e3 : st' (4 * t + 3) = st (4 * t + 3) := hs 3 (by omega)
  refine ⟨⟨fun p hp => ⟨?_, ?_⟩, ?_, fun k hk => ?_⟩, e⟩
  · have e1 := hs p (by omega)
    have e2 : st' (4 * t + p + 1) = st (4 * t + p + 1) := hs (p + 1) (by omega)
    rw [e1, e2, e3]
    exact (h.1 p hp).1
  · rw [e p hp]
    exact (h.1 p hp).2
  · rw [e3]
    exact h.2.1
  · rw [e3] at hk
    have h2 := h.2.1
    rw [hc k (by omega)]
    exact h.2.2 k hk
theorem pr_text {d : Nat} (hd : 60 ≤ d) {M : am_M} {K : am_K} (hJ : jf_J M) (hW : jf_C M) (hp : pr_K d M 123 [aR 8 0] K) : am_Call true d 11 [aR 7 0] M K := by
  obtain ⟨jk1, jk2⟩ := hJ.2.2.2.2.1
  obtain ⟨z, hz⟩ : ∃ z : Nat, M 301 0 0 = (z : Int) := ⟨(M 301 0 0).toNat, by omega⟩
  have hz2 : z ≤ 160 := by omega
  have hby : lx_by_ok (M 20 0) z := fun j hj => jk2 j (by omega)
  obtain ⟨jt1, jt2⟩ := hJ.2.2.1
  obtain ⟨w1, w2, w3, w4⟩ := hW.1.2.1
  have hcg : ∀ n w0 w1 w2, tx_all (lx_T (M 20 0) z) (lx_V (M 20 0) z) = (n, some (w0, w1, w2)) → ∀ x ∈ w0 ++ (w1 ++ w2), jf_cg x := fun n w0 w1 w2 h => tx_all_cg (fun n hn => lx_V_b hn) h
  have hck : ∀ j, j < z → M 27 0 j = M 20 0 j := fun j hj => hW.2.1.2.1 j (by omega)
  have hct := hW.2.1.2.2
  obtain ⟨tt, htt⟩ : ∃ tt : Nat, M 386 0 0 = (tt : Int) := ⟨(M 386 0 0).toNat, by omega⟩
  have etn : (M 386 0 0).toNat = tt := by omega
  have etm : (M 430 0 0).toNat = tt := by omega
  refine sq_text (by omega) hz hz2 hby (by omega) (fun h0 => hp _ M ⟨rfl, rfl⟩ (fun K2 h2 => ?_)) (fun n hx h0 g1 x1 x2 => hp _ (am_mix [15, 16, 18, 301, 302, 303, 304, 305, 345] g1 M) ⟨rfl, rfl⟩ (fun K2 h2 => ?_)) (fun n v0 v1 v2 hx h0 g1 x1 x2 x3 x4 => hp _ (am_mix [15, 16, 18, 301, 302, 303, 304, 305, 345, 386] g1 M) ⟨rfl, rfl⟩ (fun K2 h2 => ?_))
  · exact sm_text (b := M 20 0) (z := z) (by omega) (by omega) hz2 hck hby hW.2.2.2.2 (by omega) hcg (fun _ => h2 _ ⟨hJ, hW, rfl, rfl⟩) (fun _ _ h3 _ _ _ _ _ => absurd h3 (by omega)) (fun _ _ _ _ _ h3 _ _ _ _ _ _ _ => absurd h3 (by omega))
  · rw [etn] at x2
    refine sm_text (b := M 20 0) (z := z) (M := am_mix [15, 16, 18, 301, 302, 303, 304, 305, 345] g1 M) (by omega) (show M 427 0 0 = (z : Int) by omega) hz2 hck hby hW.2.2.2.2 (show 0 ≤ M 430 0 0 ∧ M 430 0 0 ≤ 6 by omega) hcg (fun h3 => absurd (show M 430 0 0 = 6 from h3) (by omega)) (fun n2 hx2 _ g2 y1 y2 y3 y4 => ?_) (fun n2 v0 v1 v2 hx2 _ _ _ _ _ _ _ _ => by rw [hx] at hx2; cases hx2)
    rw [hx] at hx2
    cases hx2
    replace y2 : g2 430 0 0 = M 430 0 0 := y2
    replace y3 : ∀ j, (j < 200 * (M 430 0 0).toNat ∨ 200 * (M 430 0 0).toNat + 200 ≤ j) → g2 28 0 j = M 28 0 j := y3
    replace y4 : ∀ j, (j < 4 * (M 430 0 0).toNat ∨ 4 * (M 430 0 0).toNat + 4 ≤ j) → g2 29 0 j = M 29 0 j := y4
    rw [etm] at y3 y4
    refine h2 _ ⟨⟨hJ.1, hJ.2.1, ⟨jt1, fun t ht => ?_⟩, hJ.2.2.2.1, ⟨?_, fun j hj => ?_⟩, hJ.2.2.2.2.2⟩, ⟨⟨hW.1.1, ⟨w1, ?_, w3, ?_⟩, hW.1.2.2⟩, ⟨hW.2.1.1, fun j hj => ?_, fun t ht => ?_⟩, hW.2.2⟩, rfl, rfl⟩
    · replace ht : (t : Int) < M 386 0 0 := ht
      obtain ⟨q1, q2, q3⟩ := x2 t (by omega)
      exact (pr_wt3 q1 q2 q3).2 (jt2 t ht)
    · show 0 ≤ g1 301 0 0 ∧ g1 301 0 0 ≤ 160
      omega
    · replace hj : (j : Int) < g1 301 0 0 := hj
      omega
    · show g2 430 0 0 = M 386 0 0
      omega
    · show g2 427 0 0 = g1 301 0 0
      omega
    · replace hj : (j : Int) < g1 301 0 0 := hj
      omega
    · replace ht : (t : Int) < M 386 0 0 := ht
      obtain ⟨q1, q2, q3⟩ := x2 t (by omega)
      obtain ⟨r1, r2⟩ := hct t ht
      obtain ⟨s1, s2⟩ := pr_mw3 (cd' := g2 28 0) (st' := g2 29 0) (t := t) (fun k hk => y3 _ (by omega)) (fun p hp => y4 _ (by omega)) r1
      exact ⟨s1, fun p hp => ((s2 p hp).trans (r2 p hp)).trans ((pr_wt3 q1 q2 q3).1 p).symm⟩
  · rw [etn] at x2 x3 x4
    refine sm_text (b := M 20 0) (z := z) (M := am_mix [15, 16, 18, 301, 302, 303, 304, 305, 345, 386] g1 M) (by omega) (show M 427 0 0 = (z : Int) by omega) hz2 hck hby hW.2.2.2.2 (show 0 ≤ M 430 0 0 ∧ M 430 0 0 ≤ 6 by omega) hcg (fun h3 => absurd (show M 430 0 0 = 6 from h3) (by omega)) (fun n2 hx2 _ _ _ _ _ _ => by rw [hx] at hx2; cases hx2) (fun n2 u0 u1 u2 hx2 _ g2 y1 y2 y3 y4 y5 y6 => ?_)
    rw [hx] at hx2
    cases hx2
    show K2 (some (aI (M 430 0 0))) _
    replace y2 : g2 430 0 0 = M 430 0 0 + 1 := y2
    replace y3 : ∀ j, (j < 200 * (M 430 0 0).toNat ∨ 200 * (M 430 0 0).toNat + 200 ≤ j) → g2 28 0 j = M 28 0 j := y3
    replace y4 : ∀ j, (j < 4 * (M 430 0 0).toNat ∨ 4 * (M 430 0 0).toNat + 4 ≤ j) → g2 29 0 j = M 29 0 j := y4
    replace y5 : mo_tk3 (g2 28 0) (g2 29 0) (M 430 0 0).toNat 0 = v0 ∧ mo_tk3 (g2 28 0) (g2 29 0) (M 430 0 0).toNat 1 = v1 ∧ mo_tk3 (g2 28 0) (g2 29 0) (M 430 0 0).toNat 2 = v2 := y5
    replace y6 : mo_wt3 (g2 28 0) (g2 29 0) (M 430 0 0).toNat := y6
    rw [etm] at y3 y4 y5 y6
    rw [w2]
    have n0 := hJ.1.1
    have n1 := hJ.1.2
    have hn386 : g1 386 0 0 = M 386 0 0 + 1 := x1.2
    obtain ⟨a1, a2, a3, a4, a5, a6, a7, a8, a9⟩ := n0
    obtain ⟨b1, b2, b3, b4, b5, b6, b7, b8, b9⟩ := n1
    have hall : ∀ t : Nat, (t : Int) < g1 386 0 0 → (jf_wt3 (g1 15) (g1 16) (g1 18) t) ∧ (mo_wt3 (g2 28 0) (g2 29 0) t ∧ ∀ p, p < 3 → mo_tk3 (g2 28 0) (g2 29 0) t p = jf_tk3 (g1 15) (g1 16) (g1 18) t p) := by
      intro t ht
      by_cases e : t = tt
      · subst e
        obtain ⟨x30, x31, x32⟩ := x3
        obtain ⟨y50, y51, y52⟩ := y5
        refine ⟨x4, y6, fun p hp => ?_⟩
        match p, hp with
        | 0, _ => exact y50.trans x30.symm
        | 1, _ => exact y51.trans x31.symm
        | 2, _ => exact y52.trans x32.symm
      · obtain ⟨q1, q2, q3⟩ := x2 t e
        obtain ⟨r1, r2⟩ := hct t (by omega)
        obtain ⟨s1, s2⟩ := pr_mw3 (cd' := g2 28 0) (st' := g2 29 0) (t := t) (fun k hk => y3 _ (by omega)) (fun p hp => y4 _ (by omega)) r1
        exact ⟨(pr_wt3 q1 q2 q3).2 (jt2 t (by omega)), s1, fun p hp => ((s2 p hp).trans (r2 p hp)).trans ((pr_wt3 q1 q2 q3).1 p).symm⟩
    refine h2 _ ⟨⟨⟨⟨a1, a2, a3, a4, a5, a6, a7, a8, a9.1, ?_⟩, ⟨b1, b2, b3, b4, b5, b6, b7, b8, b9.1, ?_⟩⟩, hJ.2.1, ⟨?_, fun t ht => (hall t ht).1⟩, hJ.2.2.2.1, ⟨?_, fun j hj => ?_⟩, hJ.2.2.2.2.2⟩, ⟨⟨hW.1.1, ⟨w1, ?_, w3, ?_⟩, hW.1.2.2⟩, ⟨hW.2.1.1, fun j hj => ?_, fun t ht => (hall t ht).2⟩, hW.2.2⟩, rfl, rfl⟩
    · show M 228 0 0 < g1 386 0 0
      omega
    · show M 228 1 0 < g1 386 0 0
      omega
    · show 1 ≤ g1 386 0 0 ∧ g1 386 0 0 ≤ 6
      omega
    · show 0 ≤ g1 301 0 0 ∧ g1 301 0 0 ≤ 160
      omega
    · replace hj : (j : Int) < g1 301 0 0 := hj
      omega
    · show g2 430 0 0 = g1 386 0 0
      omega
    · show g2 427 0 0 = g1 301 0 0
      omega
    · replace hj : (j : Int) < g1 301 0 0 := hj
      omega
