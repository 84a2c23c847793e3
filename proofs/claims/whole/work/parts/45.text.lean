/-! wb -/
variable {wb : Bool}
/-! A TEXT, read whole -/
def tx_part (T V : Nat → Int) (p : Int) (n : Nat) : rd_R := if T n = 3 + p then rd_then (rd_or T V (rd_nx T V 5) (n + 1)) (fun m w => if T m = 59 then (m + 1, some w) else (m, none)) else (n, none)
abbrev tx_R : Type := Nat × Option (List Int × (List Int × List Int))
def tx_then (a : rd_R) (f : Nat → List Int → tx_R) : tx_R := match a with
  | (m, some w) => f m w
  | (m, none) => (m, none)
def tx_all (T V : Nat → Int) : tx_R := tx_then (tx_part T V 0 0) fun n1 w0 => tx_then (tx_part T V 1 n1) fun n2 w1 => tx_then (tx_part T V 2 n2) fun n3 w2 => if T n3 = 0 then (n3, some (w0, w1, w2)) else (n3, none)
theorem tx_then_some {a : rd_R} {f : Nat → List Int → tx_R} {m : Nat} {w : List Int × (List Int × List Int)} (h : tx_then a f = (m, some w)) : ∃ m1 w1, a = (m1, some w1) ∧ f m1 w1 = (m, some w) := by
  match a, h with
  | (m1, some w1), h => exact ⟨m1, w1, rfl, h⟩
  | (m1, none), h => exact absurd h (by simp [tx_then])
/-- what is read leaves one number more on a stack -/
def rd_wf (f : Nat → rd_R) : Prop := ∀ n m w, f n = (m, some w) → ∀ cs k, jf_wf cs (k + 1) → jf_wf (w ++ cs) k
theorem rd_loop_wf {T : Nat → Int} {op : Int → Bool} {sub : Nat → rd_R} (hop : ∀ x, op x = true → jf_ar (jf_cv x 0) = 2) (hs : rd_wf sub) : ∀ f n w m w', rd_loop T op sub f n w = (m, some w') → (∀ cs k, jf_wf cs (k + 1) → jf_wf (w ++ cs) k) → ∀ cs k, jf_wf cs (k + 1) → jf_wf (w' ++ cs) k
  | 0, n, w, m, w', h, hw => by
    cases h
    exact hw
  | f + 1, n, w, m, w', h, hw => by
    unfold rd_loop at h
    cases ho : op (T n) with
    | false =>
      rw [ho] at h
      cases h
      exact hw
    | true =>
      rw [ho] at h
      obtain ⟨m1, w1, h1, h2⟩ := rd_then_some h
      refine rd_loop_wf hop hs f m1 _ m w' h2 (fun cs k hc => ?_)
      rw [List.append_assoc, List.append_assoc]
      refine hw _ _ (hs _ _ _ h1 _ _ ?_)
      have := hop _ ho
      refine ⟨by rw [this]; omega, ?_⟩
      rw [this]
      exact hc
theorem rd_then_wf {T : Nat → Int} {op : Int → Bool} {a sub : Nat → rd_R} (hop : ∀ x, op x = true → jf_ar (jf_cv x 0) = 2) (ha : rd_wf a) (hs : rd_wf sub) : rd_wf (fun n => rd_then (a n) (fun m w => rd_loop T op sub 160 m w)) := by
  intro n m w h
  obtain ⟨m1, w1, h1, h2⟩ := rd_then_some h
  exact rd_loop_wf hop hs _ _ _ _ _ h2 (ha _ _ _ h1)
def rd_nwf (nx : rd_N) : Prop := ∀ x, nx = some x → rd_wf (x 0) ∧ rd_wf (x 1) ∧ rd_wf (x 2)
theorem jf_wf_1 {c : Int} {cs : List Int} {k : Nat} (hc : jf_ar c = 0) (h : jf_wf cs (k + 1)) : jf_wf ([c] ++ cs) k := ⟨by rw [hc]; omega, by rw [hc]; exact h⟩
theorem jf_wf_2 {c : Int} {w cs : List Int} {k : Nat} (hw : ∀ cs k, jf_wf cs (k + 1) → jf_wf (w ++ cs) k) (hc : jf_ar c = 1) (h : jf_wf cs (k + 1)) : jf_wf ((w ++ [c]) ++ cs) k := by
  rw [List.append_assoc]
  exact hw _ _ ⟨by rw [hc]; omega, by rw [hc]; exact h⟩
theorem rd_one_wf {T V : Nat → Int} {nx : rd_N} (hV : ∀ n, T n = 2 → 0 ≤ V n) (hn : rd_nwf nx) : rd_wf (rd_one T V nx) := by
  intro n m w h
  unfold rd_one at h
  by_cases h1 : T n = 40 ∨ T n = 45
  · rw [if_pos h1] at h
    match nx, hn, h with
    | none, _, h => cases h
    | some x, hn, h =>
      have hx := hn x rfl
      dsimp only at h
      unfold rd_opn at h
      by_cases h2 : T n = 45
      · rw [if_pos h2] at h
        obtain ⟨m1, w1, h3, h4⟩ := rd_then_some h
        cases h4
        exact fun cs k hc => jf_wf_2 (hx.1 _ _ _ h3) rfl hc
      · rw [if_neg h2] at h
        obtain ⟨m1, w1, h3, h4⟩ := rd_then_some h
        by_cases h5 : T m1 = 41
        · rw [if_pos h5] at h4
          cases h4
          exact hx.2.2 _ _ _ h3
        · rw [if_neg h5] at h4
          cases h4
  · rw [if_neg h1] at h
    by_cases h2 : T n = 2
    · rw [if_pos h2] at h
      cases h
      have hv := hV n h2
      refine fun cs k hc => jf_wf_1 ?_ hc
      unfold jf_ar
      rw [if_neg (by omega), if_pos (by omega)]
    · rw [if_neg h2] at h
      by_cases h3 : 10 ≤ T n ∧ T n ≤ 15
      · rw [if_pos h3] at h
        cases h
        refine fun cs k hc => jf_wf_1 ?_ hc
        unfold jf_ar
        rw [if_pos (by omega)]
      · rw [if_neg h3] at h
        cases h
theorem rd_w1 : ∀ x, rd_op1 x = true → jf_ar (jf_cv x 0) = 2 := fun x h => by have e := of_decide_eq_true h; subst e; rfl
theorem rd_w2 : ∀ x, rd_op2 x = true → jf_ar (jf_cv x 0) = 2 := fun x h => by rcases of_decide_eq_true h with rfl | rfl <;> rfl
theorem rd_w5 : ∀ x, rd_op5 x = true → jf_ar (jf_cv x 0) = 2 := fun x h => by have e := of_decide_eq_true h; subst e; rfl
theorem rd_w6 : ∀ x, rd_op6 x = true → jf_ar (jf_cv x 0) = 2 := fun x h => by have e := of_decide_eq_true h; subst e; rfl
theorem rd_sum_wf {T V : Nat → Int} {nx : rd_N} (hV : ∀ n, T n = 2 → 0 ≤ V n) (hn : rd_nwf nx) : rd_wf (rd_sum T V nx) := by
  have h1 : rd_wf (rd_term T V nx) := rd_then_wf rd_w1 (rd_one_wf hV hn) (rd_one_wf hV hn)
  exact rd_then_wf rd_w2 h1 h1
theorem rd_not_wf {T V : Nat → Int} {nx : rd_N} (hV : ∀ n, T n = 2 → 0 ≤ V n) (hn : rd_nwf nx) : rd_wf (rd_not T V nx) := by
  intro n m w h
  unfold rd_not at h
  by_cases h1 : T n = 6
  · rw [if_pos h1] at h
    match nx, hn, h with
    | none, _, h => cases h
    | some x, hn, h =>
      have hx := hn x rfl
      dsimp only at h
      obtain ⟨m1, w1, h3, h4⟩ := rd_then_some h
      cases h4
      exact fun cs k hc => jf_wf_2 (hx.2.1 _ _ _ h3) rfl hc
  · rw [if_neg h1] at h
    obtain ⟨m1, w1, h3, h4⟩ := rd_then_some h
    have h5 := rd_sum_wf hV hn _ _ _ h3
    by_cases h2 : T m1 = 60 ∨ T m1 = 61
    · rw [if_pos h2] at h4
      obtain ⟨m2, w2, h6, h7⟩ := rd_then_some h4
      cases h7
      have h8 := rd_sum_wf hV hn _ _ _ h6
      intro cs k hc
      rw [List.append_assoc, List.append_assoc]
      have h9 : jf_ar (jf_cv (T m1) 0) = 2 := by rcases h2 with h2 | h2 <;> rw [h2] <;> rfl
      exact h5 _ _ (h8 _ _ ⟨by rw [h9]; omega, by rw [h9]; exact hc⟩)
    · rw [if_neg h2] at h4
      cases h4
      exact h5
theorem rd_or_wf {T V : Nat → Int} {nx : rd_N} (hV : ∀ n, T n = 2 → 0 ≤ V n) (hn : rd_nwf nx) : rd_wf (rd_or T V nx) := by
  have h1 : rd_wf (rd_and T V nx) := rd_then_wf rd_w5 (rd_not_wf hV hn) (rd_not_wf hV hn)
  exact rd_then_wf rd_w6 h1 h1
theorem rd_nx_wf {T V : Nat → Int} (hV : ∀ n, T n = 2 → 0 ≤ V n) : ∀ r, rd_nwf (rd_nx T V r)
  | 0 => fun x h => by cases h
  | r + 1 => fun x h => by
    have e : rd_k T V (rd_nx T V r) = x := Option.some.inj h
    rw [← e]
    have ih := rd_nx_wf hV r
    exact ⟨rd_one_wf hV ih, rd_not_wf hV ih, rd_or_wf hV ih⟩
theorem tx_part_ok {T V : Nat → Int} {P : Nat → Nat} (hP : ∀ n, T n ≠ 0 → P n + 1 ≤ P (n + 1)) (hV : ∀ n, T n = 2 → 0 ≤ V n) {p : Int} {n m : Nat} {w : List Int} (hp : 0 ≤ p) (h : tx_part T V p n = (m, some w)) : jf_wf w 0 ∧ P n + w.length ≤ P m := by
  unfold tx_part at h
  by_cases h1 : T n = 3 + p
  · rw [if_pos h1] at h
    obtain ⟨m1, w1, h2, h3⟩ := rd_then_some h
    by_cases h4 : T m1 = 59
    · rw [if_pos h4] at h3
      cases h3
      have h5 := rd_or_wf hV (rd_nx_wf hV 5) _ _ _ h2 [] 0 rfl
      have h6 := rd_or_mo hP (rd_nx_mo (V := V) hP 5) _ _ _ h2
      have h7 := hP n (by omega)
      have h8 := hP m1 (by omega)
      rw [List.append_nil] at h5
      exact ⟨h5, by omega⟩
    · rw [if_neg h4] at h3
      cases h3
  · rw [if_neg h1] at h
    cases h
theorem tx_all_ok {T V : Nat → Int} {P : Nat → Nat} (hP : ∀ n, T n ≠ 0 → P n + 1 ≤ P (n + 1)) (hV : ∀ n, T n = 2 → 0 ≤ V n) {m : Nat} {w0 w1 w2 : List Int} (h : tx_all T V = (m, some (w0, w1, w2))) : (jf_wf w0 0 ∧ jf_wf w1 0 ∧ jf_wf w2 0) ∧ (w0 ++ (w1 ++ w2)).length ≤ P m := by
  unfold tx_all at h
  obtain ⟨n1, v0, h0, h⟩ := tx_then_some h
  obtain ⟨n2, v1, h1, h⟩ := tx_then_some h
  obtain ⟨n3, v2, h2, h⟩ := tx_then_some h
  by_cases h4 : T n3 = 0
  · rw [if_pos h4] at h
    cases h
    have e0 := tx_part_ok hP hV (by decide) h0
    have e1 := tx_part_ok hP hV (by decide) h1
    have e2 := tx_part_ok hP hV (by decide) h2
    rw [List.length_append, List.length_append]
    exact ⟨⟨e0.1, e1.1, e2.1⟩, by omega⟩
  · rw [if_neg h4] at h
    cases h
/-- text t holds what was read -/
def jf_txt (m : am_M) (t : Nat) (w0 w1 w2 : List Int) : Prop := jf_tw m t (w0 ++ (w1 ++ w2)) ∧ m 18 t 0 = (w0.length : Int) ∧ m 18 t 1 = ((w0 ++ w1).length : Int) ∧ m 18 t 2 = ((w0 ++ (w1 ++ w2)).length : Int)
theorem jf_txt_tk {m : am_M} {t : Nat} {a w c : List Int} (h : ∀ j, j < (a ++ (w ++ c)).length → jf_cv (m 15 t j) (m 16 t j) = (a ++ (w ++ c)).getD j 0) {lo hi : Nat} (h1 : lo = a.length) (h2 : hi = (a ++ w).length) : (List.range' lo (hi - lo)).map (fun k => jf_cv (m 15 t k) (m 16 t k)) = w := by
  subst h1 h2
  rw [List.length_append, Nat.add_sub_cancel_left]
  apply List.ext_getElem
  · rw [List.length_map, List.length_range']
  · intro i h3 h4
    rw [List.getElem_map, List.getElem_range', Nat.one_mul, h (a.length + i) (by rw [List.length_append, List.length_append]; omega), List.getD_eq_getElem?_getD, List.getElem?_append_right (by omega), Nat.add_sub_cancel_left, List.getElem?_append_left h4, List.getElem?_eq_getElem h4]
    rfl
theorem jf_txt.ok {m : am_M} {t : Nat} {w0 w1 w2 : List Int} (h : jf_txt m t w0 w1 w2) (hw : jf_wf w0 0 ∧ jf_wf w1 0 ∧ jf_wf w2 0) (hl : (w0 ++ (w1 ++ w2)).length ≤ 160) : (jf_tk m t 0 = w0 ∧ jf_tk m t 1 = w1 ∧ jf_tk m t 2 = w2) ∧ jf_wt m t := by
  obtain ⟨⟨hs, hc⟩, h0, h1, h2⟩ := h
  have k0 : jf_tk m t 0 = w0 := jf_txt_tk (a := []) (w := w0) (c := w1 ++ w2) (fun j hj => (hc j hj).1) rfl (by rw [h0]; rfl)
  have k1 : jf_tk m t 1 = w1 := jf_txt_tk (a := w0) (w := w1) (c := w2) (fun j hj => (hc j hj).1) (by show (m 18 t 0).toNat = _; rw [h0]; rfl) (by show (m 18 t 1).toNat = _; rw [h1]; rfl)
  have k2 : jf_tk m t 2 = w2 := jf_txt_tk (a := w0 ++ w1) (w := w2) (c := []) (fun j hj => by
    rw [List.append_nil, List.append_assoc] at hj ⊢
    exact (hc j hj).1) (by show (m 18 t 1).toNat = _; rw [h1]; rfl) (by show (m 18 t 2).toNat = _; rw [h2, List.append_assoc]; rfl)
  refine ⟨⟨k0, k1, k2⟩, ⟨by omega, ?_, ?_, by omega⟩, fun p hp => ?_, fun k hk => ?_⟩
  · rw [h0, h1, List.length_append]
    omega
  · rw [h1, h2, List.length_append, List.length_append, List.length_append]
    omega
  · match p, hp with
    | 0, _ => show jf_wf (jf_tk m t 0) 0; rw [k0]; exact hw.1
    | 1, _ => show jf_wf (jf_tk m t 1) 0; rw [k1]; exact hw.2.1
    | 2, _ => show jf_wf (jf_tk m t 2) 0; rw [k2]; exact hw.2.2
  · exact (hc k (by omega)).2
theorem am_mix_wr {S : List Nat} {g M : am_M} {v i j : Nat} {x : Int} (h : am_el S v = false) : am_wr (am_mix S g M) v i j x = am_mix S g (am_wr M v i j x) := by
  funext v'
  by_cases e : v' = v
  · subst e
    rw [am_mix_out h]
    funext i' j'
    unfold am_wr
    rw [am_mix_out h]
  · cases hv : am_el S v' with
    | true =>
      rw [am_mix_in hv]
      funext i' j'
      rw [am_wr_ne (Or.inl e), am_mix_in hv]
    | false =>
      rw [am_mix_out hv]
      funext i' j'
      rw [am_wr_ne (Or.inl e), am_wr_ne (Or.inl e), am_mix_out hv]

theorem cr_p.up {id k k2 : Nat} {b : Nat → Int} {z t : Nat} {M : am_M} {f : Nat → rd_R} {o : Int} (h : cr_p wb id k b z t M f o) (hk : k ≤ k2) : cr_p wb id k2 b z t M f o := fun _ hd => h (by omega)
theorem cr_all {b : Nat → Int} {z t : Nat} {M : am_M} (hz : M 301 0 0 = (z : Int)) (hz2 : z ≤ 160) (hb : M 20 0 = b) (hby : lx_by_ok b z) (ht : t < 6) : ∀ (r : Nat) (o : Int), 0 ≤ o → o + (r : Int) = 5 → cr_p wb 28 (8 + 7 * r) b z t M (rd_one (lx_T b z) (lx_V b z) (rd_nx (lx_T b z) (lx_V b z) r)) o ∧ cr_p wb 24 (11 + 7 * r) b z t M (rd_not (lx_T b z) (lx_V b z) (rd_nx (lx_T b z) (lx_V b z) r)) o ∧ cr_p wb 22 (13 + 7 * r) b z t M (rd_or (lx_T b z) (lx_V b z) (rd_nx (lx_T b z) (lx_V b z) r)) o := by
  intro r
  induction r with
  | zero =>
    intro o h0 h5
    have hoo : 0 ≤ o ∧ o ≤ 5 := by omega
    have hm := rd_nx_mo (V := lx_V b z) (lx_P_1 (b := b) (z := z)) 0
    have h1 : cr_p wb 28 8 b z t M (rd_one (lx_T b z) (lx_V b z) (rd_nx (lx_T b z) (lx_V b z) 0)) o := cr_one0 hoo hz hz2 hb hby ht (by omega)
    have h2 := cr_term hoo hz hz2 hb hby ht (by decide) h1 (rd_one_mo lx_P_1 hm)
    have h3 := cr_sum hoo hz hz2 hb hby ht (by decide) h2 (rd_term_mo lx_P_1 hm)
    have h4 := cr_not0 hoo hz hz2 hb hby ht (by decide) h3 (rd_sum_mo lx_P_1 hm) (by omega)
    have h5 := cr_and hoo hz hz2 hb hby ht (by decide) h4 (rd_not_mo lx_P_1 hm)
    have h6 := cr_or hoo hz hz2 hb hby ht (by decide) h5 (rd_and_mo lx_P_1 hm)
    exact ⟨h1, h4, h6⟩
  | succ r ih =>
    intro o h0 h5
    have hoo : 0 ≤ o ∧ o ≤ 5 := by omega
    obtain ⟨i1, i2, i3⟩ := ih (o + 1) (by omega) (by omega)
    have hm := rd_nx_mo (V := lx_V b z) (lx_P_1 (b := b) (z := z)) (r + 1)
    have hm' := rd_nx_mo (V := lx_V b z) (lx_P_1 (b := b) (z := z)) r
    have ho1 : 0 ≤ o + 1 ∧ o + 1 ≤ 5 := by omega
    have ho := cr_opn (x := rd_k (lx_T b z) (lx_V b z) (rd_nx (lx_T b z) (lx_V b z) r)) (k := 13 + 7 * r) ho1 hz hz2 hb hby ht (by omega) (i1.up (by omega)) i3 (rd_one_mo lx_P_1 hm') (rd_or_mo lx_P_1 hm')
    have hmo := rd_opn_mo (x := rd_k (lx_T b z) (lx_V b z) (rd_nx (lx_T b z) (lx_V b z) r)) (rd_one_mo lx_P_1 hm') (rd_or_mo lx_P_1 hm')
    have h1 : cr_p wb 28 (8 + 7 * (r + 1)) b z t M (rd_one (lx_T b z) (lx_V b z) (rd_nx (lx_T b z) (lx_V b z) (r + 1))) o := (cr_one1 hoo hz hz2 hb hby ht (by omega) (by omega) ho hmo).up (by omega)
    have h2 := cr_term hoo hz hz2 hb hby ht (by omega) h1 (rd_one_mo lx_P_1 hm)
    have h3 := cr_sum hoo hz hz2 hb hby ht (by omega) h2 (rd_term_mo lx_P_1 hm)
    have h4 : cr_p wb 24 (8 + 7 * (r + 1) + 1 + 1 + 1) b z t M (rd_not (lx_T b z) (lx_V b z) (rd_nx (lx_T b z) (lx_V b z) (r + 1))) o := cr_not1 hoo hz hz2 hb hby ht (by omega) h3 (rd_sum_mo lx_P_1 hm) (by omega) (i2.up (by omega)) (rd_not_mo lx_P_1 hm')
    have h5 := cr_and hoo hz hz2 hb hby ht (by omega) h4 (rd_not_mo lx_P_1 hm)
    have h6 := cr_or hoo hz hz2 hb hby ht (by omega) h5 (rd_and_mo lx_P_1 hm)
    exact ⟨h1, h4.up (by omega), h6.up (by omega)⟩
