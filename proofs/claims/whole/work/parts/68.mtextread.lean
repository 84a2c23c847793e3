/-! wb -/
/-! THE REFERENCE: a text -/
abbrev mo_SX : List Nat := [28, 29, 36, 427, 430, 440, 441, 442, 443, 446, 447, 448]
def mo_so (M m : am_M) (t : Nat) : Prop := ∀ j, (j < 4 * t ∨ 4 * t + 4 ≤ j) → m 29 0 j = M 29 0 j
def mo_txt (m : am_M) (t : Nat) (w0 w1 w2 : List Int) : Prop := (∀ j, j < (w0 ++ (w1 ++ w2)).length → m 28 0 (200 * t + j) = (w0 ++ (w1 ++ w2)).getD j 0) ∧ m 29 0 (4 * t) = 0 ∧ m 29 0 (4 * t + 1) = (w0.length : Int) ∧ m 29 0 (4 * t + 2) = ((w0 ++ w1).length : Int) ∧ m 29 0 (4 * t + 3) = ((w0 ++ (w1 ++ w2)).length : Int)
theorem mo_txt_tk {m : am_M} {t : Nat} {a w c : List Int} (h : ∀ j, j < (a ++ (w ++ c)).length → m 28 0 (200 * t + j) = (a ++ (w ++ c)).getD j 0) {lo hi : Nat} (h1 : lo = a.length) (h2 : hi = (a ++ w).length) : (List.range' lo (hi - lo)).map (fun k => m 28 0 (200 * t + k)) = w := by
  subst h1 h2
  rw [List.length_append, Nat.add_sub_cancel_left]
  apply List.ext_getElem
  · rw [List.length_map, List.length_range']
  · intro i h3 h4
    rw [List.getElem_map, List.getElem_range', Nat.one_mul, h (a.length + i) (by rw [List.length_append, List.length_append]; omega), List.getD_eq_getElem?_getD, List.getElem?_append_right (by omega), Nat.add_sub_cancel_left, List.getElem?_append_left h4, List.getElem?_eq_getElem h4]
    rfl
theorem mo_txt.ok {m : am_M} {t : Nat} {w0 w1 w2 : List Int} (h : mo_txt m t w0 w1 w2) (hw : jf_wf w0 0 ∧ jf_wf w1 0 ∧ jf_wf w2 0) (hl : (w0 ++ (w1 ++ w2)).length ≤ 160) (hcg : ∀ x ∈ w0 ++ (w1 ++ w2), jf_cg x) : (mo_tk m t 0 = w0 ∧ mo_tk m t 1 = w1 ∧ mo_tk m t 2 = w2) ∧ mo_wt m t := by
  obtain ⟨hc, h0, h1, h2, h3⟩ := h
  have k0 : mo_tk m t 0 = w0 := mo_txt_tk (a := []) (w := w0) (c := w1 ++ w2) hc (by show (m 29 0 (4 * t)).toNat = _; rw [h0]; rfl) (by show (m 29 0 (4 * t + 1)).toNat = _; rw [h1]; rfl)
  have k1 : mo_tk m t 1 = w1 := mo_txt_tk (a := w0) (w := w1) (c := w2) hc (by show (m 29 0 (4 * t + 1)).toNat = _; rw [h1]; rfl) (by show (m 29 0 (4 * t + 2)).toNat = _; rw [h2]; rfl)
  have k2 : mo_tk m t 2 = w2 := mo_txt_tk (a := w0 ++ w1) (w := w2) (c := []) (fun j hj => by
    rw [List.append_nil, List.append_assoc] at hj ⊢
    exact hc j hj) (by show (m 29 0 (4 * t + 2)).toNat = _; rw [h2]; rfl) (by show (m 29 0 (4 * t + 3)).toNat = _; rw [h3, List.append_assoc]; rfl)
  have hl1 : (w0 ++ (w1 ++ w2)).length = w0.length + (w1.length + w2.length) := by rw [List.length_append, List.length_append]
  have hl2 : (w0 ++ w1).length = w0.length + w1.length := List.length_append
  refine ⟨⟨k0, k1, k2⟩, fun p hp => ?_, by omega, fun k hk => ?_⟩
  · match p, hp with
    | 0, _ => exact ⟨⟨by show 0 ≤ m 29 0 (4 * t); omega, by show m 29 0 (4 * t) ≤ m 29 0 (4 * t + 1); omega, by show m 29 0 (4 * t + 1) ≤ m 29 0 (4 * t + 3); omega⟩, by show jf_wf (mo_tk m t 0) 0; rw [k0]; exact hw.1⟩
    | 1, _ => exact ⟨⟨by omega, by show m 29 0 (4 * t + 1) ≤ m 29 0 (4 * t + 2); omega, by show m 29 0 (4 * t + 2) ≤ m 29 0 (4 * t + 3); omega⟩, by show jf_wf (mo_tk m t 1) 0; rw [k1]; exact hw.2.1⟩
    | 2, _ => exact ⟨⟨by omega, by show m 29 0 (4 * t + 2) ≤ m 29 0 (4 * t + 3); omega, by show m 29 0 (4 * t + 3) ≤ m 29 0 (4 * t + 3); omega⟩, by show jf_wf (mo_tk m t 2) 0; rw [k2]; exact hw.2.2⟩
  · have hk2 : k < (w0 ++ (w1 ++ w2)).length := by omega
    rw [hc k hk2, List.getD_eq_getElem?_getD, List.getElem?_eq_getElem hk2]
    exact hcg _ (List.getElem_mem hk2)
theorem mo_ho.to {N M m m' : am_M} {t : Nat} {out : List Int} (h : mo_ho N m t out) (h28 : N 28 = M 28) (e1 : m' 448 = m 448) (e2 : m' 28 = m 28) : mo_ho M m' t out := ⟨by rw [e1]; exact h.1, fun j hj => by rw [e2]; exact h.2.1 j hj, fun j hj => by rw [e2, h.2.2 j hj, h28]⟩
theorem mo_oc.to {N M m m' : am_M} {t : Nat} (h : mo_oc N m t) (h28 : N 28 = M 28) (e2 : m' 28 = m 28) : mo_oc M m' t := fun j hj => by rw [e2, h j hj, h28]
theorem tx_part_no {T V : Nat → Int} {p : Int} {n : Nat} (h : T n ≠ 3 + p) : tx_part T V p n = (n, none) := if_neg h
theorem tx_part_f {T V : Nat → Int} {p : Int} {n m : Nat} (h : T n = 3 + p) (hf : rd_or T V (rd_nx T V 5) (n + 1) = (m, none) ∨ ∃ w, rd_or T V (rd_nx T V 5) (n + 1) = (m, some w) ∧ T m ≠ 59) : tx_part T V p n = (m, none) := by
  unfold tx_part
  rw [if_pos h]
  rcases hf with hf | ⟨w, hf, h9⟩
  · rw [hf]
    rfl
  · rw [hf]
    exact if_neg h9
theorem tx_part_s {T V : Nat → Int} {p : Int} {n m : Nat} {w : List Int} (h : T n = 3 + p) (hf : rd_or T V (rd_nx T V 5) (n + 1) = (m, some w)) (h9 : T m = 59) : tx_part T V p n = (m + 1, some w) := by
  unfold tx_part
  rw [if_pos h, hf]
  exact if_pos h9

set_option maxHeartbeats 4000000 in
theorem sm_text {d : Nat} (hd : 7 ≤ d) {b : Nat → Int} {z : Nat} {M : am_M} {K : am_K} (hz : M 427 0 0 = (z : Int)) (hz2 : z ≤ 160) (hb : ∀ j, j < z → M 27 0 j = b j) (hby : lx_by_ok b z) (hwd : jf_Cw M) (hn : 0 ≤ M 430 0 0 ∧ M 430 0 0 ≤ 6) (hcg : ∀ n w0 w1 w2, tx_all (lx_T b z) (lx_V b z) = (n, some (w0, w1, w2)) → ∀ x ∈ w0 ++ (w1 ++ w2), jf_cg x) (hK0 : M 430 0 0 = 6 → K (some (aI (-4))) M) (hK1 : ∀ n, tx_all (lx_T b z) (lx_V b z) = (n, none) → M 430 0 0 < 6 → ∀ g, g 427 0 0 = 0 → g 430 0 0 = M 430 0 0 → mo_oc M (am_mix mo_SX g M) (M 430 0 0).toNat → mo_so M (am_mix mo_SX g M) (M 430 0 0).toNat → K (some (aI (-100 - (lx_Q b z n : Int)))) (am_mix mo_SX g M)) (hK2 : ∀ n w0 w1 w2, tx_all (lx_T b z) (lx_V b z) = (n, some (w0, w1, w2)) → M 430 0 0 < 6 → ∀ g, g 427 0 0 = 0 → g 430 0 0 = M 430 0 0 + 1 → mo_oc M (am_mix mo_SX g M) (M 430 0 0).toNat → mo_so M (am_mix mo_SX g M) (M 430 0 0).toNat → mo_tk (am_mix mo_SX g M) (M 430 0 0).toNat 0 = w0 ∧ mo_tk (am_mix mo_SX g M) (M 430 0 0).toNat 1 = w1 ∧ mo_tk (am_mix mo_SX g M) (M 430 0 0).toNat 2 = w2 → mo_wt (am_mix mo_SX g M) (M 430 0 0).toNat → K (some (aI (M 430 0 0))) (am_mix mo_SX g M)) : am_Call true d 123 [aR 8 0] M K := by
  obtain ⟨d, rfl⟩ : ∃ e, d = e + 1 := ⟨d - 1, by omega⟩
  refine ⟨rfl, fun R hR hC => ?_⟩
  replace hR : ∀ c, am_F true tb_f123 1 (am_Call true d) K R c → R c := hR
  show R (0, [some (aR 8 0), none, none], [], M)
  by_cases h6 : M 430 0 0 = 6
  · skip
    refine hR _ (hR _ (hR _ (hR _ (am_brc (rg := am_in (M 430 0 0) ∧ am_in 6) (P := M 430 0 0 ≠ 6) (A := R (12, [some (aR 8 0), none, none], [], M)) (B := R (9, [some (aR 8 0), none, none], [], M)) (by omega) (fun c6 => ?_) (fun c6 => ?_)))))
    · exfalso
      omega
    · refine hR _ (?_)
      show R (11, [some (aR 8 0), none, none], [aI (-4)], M)
      refine hR _ (show K (some (aI (-4))) M from ?_)
      exact hK0 h6
  obtain ⟨t, ht⟩ : ∃ t : Nat, M 430 0 0 = (t : Int) := ⟨(M 430 0 0).toNat, by omega⟩
  have ht5 : t ≤ 5 := by omega
  have htt : (M 430 0 0).toNat = t := by omega
  have base : ∀ N, am_ag [29] M N → N 427 0 0 = (z : Int) ∧ (∀ j, j < z → N 27 0 j = b j) ∧ jf_Cw N ∧ N 28 = M 28 ∧ N 430 = M 430 := fun N hN => by
    rw [hN.eq]
    exact ⟨hz, hb, hwd, rfl, rfl⟩
  have tailF : ∀ (m : Nat) (x : Int) (g N : am_M), 0 ≤ x ∧ x ≤ 3 → tx_all (lx_T b z) (lx_V b z) = (m, none) → am_ag [29] M N → mo_so M N t → mo_oc M (am_mix mo_SR g N) t → mo_at b z (am_mix mo_SR g N) (lx_P b z m) → R (26, [some (aR 8 0), some (aI 0), some (aI x)], [], am_mix mo_SR g N) := by
    intro m x g N hx htx hN hso hoc hat
    obtain ⟨hzN, hbN, hwdN, hN28, hN430⟩ := base N hN
    have hNt : N 430 0 0 = (t : Int) := by rw [hN430]; exact ht
    have hQ : lx_Q b z m ≤ z := (lx_q_b (lx_P_b _ _ _)).2
    refine hR _ (hR _ (hR _ (am_brc (rg := am_in x ∧ am_in 3) (P := 3 ≤ x) (A := R (101, [some (aR 8 0), some (aI 0), some (aI x)], [], am_mix mo_SR g N)) (B := R (31, [some (aR 8 0), some (aI 0), some (aI x)], [], am_mix mo_SR g N)) (by omega) (fun c28 => ?_) (fun c28 => ?_))))
    · refine hR _ (hR _ (am_brt (rg := am_in 0) (P := (0 : Int) = 0) (A := R (122, [some (aR 8 0), some (aI 0), some (aI x)], [], am_mix mo_SR g N)) (B := R (105, [some (aR 8 0), some (aI 0), some (aI x)], [], am_mix mo_SR g N)) (by omega) (by omega) ?_))
      show R (122, [some (aR 8 0), some (aI 0), some (aI x)], [], am_mix mo_SR g N)
      refine hR _ (hR _ (hR _ (hR _ (hR _ (?_)))))
      show R (131, [some (aR 8 0), some (aI 0), some (aI x)], [aI (N 430 0 0), aI 4, aR 29 0], am_mix mo_SR g N)
      rw [(show N 430 0 0 = ((t : Nat) : Int) from hNt)]
      show R (131, [some (aR 8 0), some (aI 0), some (aI x)], [aI ((t : Nat) : Int), aI 4, aR 29 0], am_mix mo_SR g N)
      refine hR _ (hR _ (hR _ (hR _ (hR _ (?_)))))
      show R (138, [some (aR 8 0), some (aI 0), some (aI x)], [aI (g 448 0 0), aI ((4 * ((t : Nat) : Int)) + 3), aR 29 0], am_mix mo_SR g N)
      refine hR _ ⟨(show 0 ≤ (((4 * ((t : Nat) : Int)) + 3) : Int) ∧ (((4 * ((t : Nat) : Int)) + 3) : Int) < 24 from (by omega)), ?_⟩
      show R (139, [some (aR 8 0), some (aI 0), some (aI x)], [], am_wr (am_mix mo_SR g N) 29 0 ((((4 * ((t : Nat) : Int)) + 3)).toNat) (g 448 0 0))
      refine hR _ (hR _ (hR _ (hR _ (hR _ (am_brf (rg := am_in 0) (P := (0 : Int) ≠ 0) (A := R (156, [some (aR 8 0), some (aI 0), some (aI x)], [], am_wr (am_wr (am_mix mo_SR g N) 29 0 ((((4 * ((t : Nat) : Int)) + 3)).toNat) (g 448 0 0)) 427 0 0 0)) (B := R (148, [some (aR 8 0), some (aI 0), some (aI x)], [], am_wr (am_wr (am_mix mo_SR g N) 29 0 ((((4 * ((t : Nat) : Int)) + 3)).toNat) (g 448 0 0)) 427 0 0 0)) (by omega) (by omega) ?_)))))
      show R (148, [some (aR 8 0), some (aI 0), some (aI x)], [], am_wr (am_wr (am_mix mo_SR g N) 29 0 ((((4 * ((t : Nat) : Int)) + 3)).toNat) (g 448 0 0)) 427 0 0 0)
      refine hR _ (hR _ (hR _ (?_)))
      show R (154, [some (aR 8 0), some (aI 0), some (aI x)], [aI (g 441 0 0), aI (-100)], am_wr (am_wr (am_mix mo_SR g N) 29 0 ((((4 * ((t : Nat) : Int)) + 3)).toNat) (g 448 0 0)) 427 0 0 0)
      rw [(show g 441 0 0 = ((lx_Q b z m : Nat) : Int) from hat.2.1)]
      show R (154, [some (aR 8 0), some (aI 0), some (aI x)], [aI ((lx_Q b z m : Nat) : Int), aI (-100)], am_wr (am_wr (am_mix mo_SR g N) 29 0 ((((4 * ((t : Nat) : Int)) + 3)).toNat) (g 448 0 0)) 427 0 0 0)
      refine hR _ (?_)
      show R (155, [some (aR 8 0), some (aI 0), some (aI x)], [aI ((-100) - ((lx_Q b z m : Nat) : Int))], am_wr (am_wr (am_mix mo_SR g N) 29 0 ((((4 * ((t : Nat) : Int)) + 3)).toNat) (g 448 0 0)) 427 0 0 0)
      refine hR _ (show K (some (aI ((-100) - ((lx_Q b z m : Nat) : Int)))) (am_wr (am_wr (am_mix mo_SR g N) 29 0 ((((4 * ((t : Nat) : Int)) + 3)).toNat) (g 448 0 0)) 427 0 0 0) from ?_)
      have e9 : am_ag mo_SX M (am_wr (am_wr (am_mix mo_SR g N) 29 0 ((((4 * ((t : Nat) : Int)) + 3)).toNat) (g 448 0 0)) 427 0 0 0) := (((hN.sub rfl).mix rfl).wr rfl).wr rfl
      refine am_fin (S := mo_SX) (F := fun m2 => m2 427 0 0 = 0 ∧ m2 430 0 0 = M 430 0 0 ∧ mo_oc M m2 (M 430 0 0).toNat ∧ mo_so M m2 (M 430 0 0).toNat) e9 ⟨am_wr_eq, hNt.trans ht.symm, ?_, ?_⟩ (fun g9 hg => hK1 m htx (by omega) g9 hg.1 hg.2.1 hg.2.2.1 hg.2.2.2)
      · rw [htt]
        exact mo_oc.to hoc rfl rfl
      · rw [htt]
        intro j hj
        show (am_wr (am_mix mo_SR g N) 29 0 ((((4 * ((t : Nat) : Int)) + 3)).toNat) (g 448 0 0)) 29 0 j = M 29 0 j
        exact (am_wr_ne (Or.inr (Or.inr (by omega)))).trans (hso j hj)
    · refine hR _ (hR _ (am_brt (rg := am_in 0) (P := (0 : Int) = 0) (A := R (101, [some (aR 8 0), some (aI 0), some (aI x)], [], am_mix mo_SR g N)) (B := R (35, [some (aR 8 0), some (aI 0), some (aI x)], [], am_mix mo_SR g N)) (by omega) (by omega) ?_))
      show R (101, [some (aR 8 0), some (aI 0), some (aI x)], [], am_mix mo_SR g N)
      refine hR _ (hR _ (am_brt (rg := am_in 0) (P := (0 : Int) = 0) (A := R (122, [some (aR 8 0), some (aI 0), some (aI x)], [], am_mix mo_SR g N)) (B := R (105, [some (aR 8 0), some (aI 0), some (aI x)], [], am_mix mo_SR g N)) (by omega) (by omega) ?_))
      show R (122, [some (aR 8 0), some (aI 0), some (aI x)], [], am_mix mo_SR g N)
      refine hR _ (hR _ (hR _ (hR _ (hR _ (?_)))))
      show R (131, [some (aR 8 0), some (aI 0), some (aI x)], [aI (N 430 0 0), aI 4, aR 29 0], am_mix mo_SR g N)
      rw [(show N 430 0 0 = ((t : Nat) : Int) from hNt)]
      show R (131, [some (aR 8 0), some (aI 0), some (aI x)], [aI ((t : Nat) : Int), aI 4, aR 29 0], am_mix mo_SR g N)
      refine hR _ (hR _ (hR _ (hR _ (hR _ (?_)))))
      show R (138, [some (aR 8 0), some (aI 0), some (aI x)], [aI (g 448 0 0), aI ((4 * ((t : Nat) : Int)) + 3), aR 29 0], am_mix mo_SR g N)
      refine hR _ ⟨(show 0 ≤ (((4 * ((t : Nat) : Int)) + 3) : Int) ∧ (((4 * ((t : Nat) : Int)) + 3) : Int) < 24 from (by omega)), ?_⟩
      show R (139, [some (aR 8 0), some (aI 0), some (aI x)], [], am_wr (am_mix mo_SR g N) 29 0 ((((4 * ((t : Nat) : Int)) + 3)).toNat) (g 448 0 0))
      refine hR _ (hR _ (hR _ (hR _ (hR _ (am_brf (rg := am_in 0) (P := (0 : Int) ≠ 0) (A := R (156, [some (aR 8 0), some (aI 0), some (aI x)], [], am_wr (am_wr (am_mix mo_SR g N) 29 0 ((((4 * ((t : Nat) : Int)) + 3)).toNat) (g 448 0 0)) 427 0 0 0)) (B := R (148, [some (aR 8 0), some (aI 0), some (aI x)], [], am_wr (am_wr (am_mix mo_SR g N) 29 0 ((((4 * ((t : Nat) : Int)) + 3)).toNat) (g 448 0 0)) 427 0 0 0)) (by omega) (by omega) ?_)))))
      show R (148, [some (aR 8 0), some (aI 0), some (aI x)], [], am_wr (am_wr (am_mix mo_SR g N) 29 0 ((((4 * ((t : Nat) : Int)) + 3)).toNat) (g 448 0 0)) 427 0 0 0)
      refine hR _ (hR _ (hR _ (?_)))
      show R (154, [some (aR 8 0), some (aI 0), some (aI x)], [aI (g 441 0 0), aI (-100)], am_wr (am_wr (am_mix mo_SR g N) 29 0 ((((4 * ((t : Nat) : Int)) + 3)).toNat) (g 448 0 0)) 427 0 0 0)
      rw [(show g 441 0 0 = ((lx_Q b z m : Nat) : Int) from hat.2.1)]
      show R (154, [some (aR 8 0), some (aI 0), some (aI x)], [aI ((lx_Q b z m : Nat) : Int), aI (-100)], am_wr (am_wr (am_mix mo_SR g N) 29 0 ((((4 * ((t : Nat) : Int)) + 3)).toNat) (g 448 0 0)) 427 0 0 0)
      refine hR _ (?_)
      show R (155, [some (aR 8 0), some (aI 0), some (aI x)], [aI ((-100) - ((lx_Q b z m : Nat) : Int))], am_wr (am_wr (am_mix mo_SR g N) 29 0 ((((4 * ((t : Nat) : Int)) + 3)).toNat) (g 448 0 0)) 427 0 0 0)
      refine hR _ (show K (some (aI ((-100) - ((lx_Q b z m : Nat) : Int)))) (am_wr (am_wr (am_mix mo_SR g N) 29 0 ((((4 * ((t : Nat) : Int)) + 3)).toNat) (g 448 0 0)) 427 0 0 0) from ?_)
      have e9 : am_ag mo_SX M (am_wr (am_wr (am_mix mo_SR g N) 29 0 ((((4 * ((t : Nat) : Int)) + 3)).toNat) (g 448 0 0)) 427 0 0 0) := (((hN.sub rfl).mix rfl).wr rfl).wr rfl
      refine am_fin (S := mo_SX) (F := fun m2 => m2 427 0 0 = 0 ∧ m2 430 0 0 = M 430 0 0 ∧ mo_oc M m2 (M 430 0 0).toNat ∧ mo_so M m2 (M 430 0 0).toNat) e9 ⟨am_wr_eq, hNt.trans ht.symm, ?_, ?_⟩ (fun g9 hg => hK1 m htx (by omega) g9 hg.1 hg.2.1 hg.2.2.1 hg.2.2.2)
      · rw [htt]
        exact mo_oc.to hoc rfl rfl
      · rw [htt]
        intro j hj
        show (am_wr (am_mix mo_SR g N) 29 0 ((((4 * ((t : Nat) : Int)) + 3)).toNat) (g 448 0 0)) 29 0 j = M 29 0 j
        exact (am_wr_ne (Or.inr (Or.inr (by omega)))).trans (hso j hj)
  have tailS : ∀ (n : Nat) (out : List Int) (g N : am_M), am_ag [29] M N → mo_so M N t → mo_ho M (am_mix mo_SR g N) t out → out.length ≤ lx_P b z n → g 440 0 0 = ((lx_P b z n : Nat) : Int) → (lx_T b z n ≠ 0 → tx_all (lx_T b z) (lx_V b z) = (n, none)) → (lx_T b z n = 0 → ∃ w0 w1 w2, tx_all (lx_T b z) (lx_V b z) = (n, some (w0, w1, w2)) ∧ out = w0 ++ (w1 ++ w2) ∧ N 29 0 (4 * t) = 0 ∧ N 29 0 (4 * t + 1) = (w0.length : Int) ∧ N 29 0 (4 * t + 2) = ((w0 ++ w1).length : Int)) → R (26, [some (aR 8 0), some (aI 1), some (aI 3)], [], am_mix mo_SR g N) := by
    intro n out g N hN hso hs hl h440 htx0 htx1
    obtain ⟨hzN, hbN, hwdN, hN28, hN430⟩ := base N hN
    have hNt : N 430 0 0 = (t : Int) := by rw [hN430]; exact ht
    refine hR _ (hR _ (hR _ (am_brt (rg := am_in 3 ∧ am_in 3) (P := (3 : Int) ≤ 3) (A := R (101, [some (aR 8 0), some (aI 1), some (aI 3)], [], am_mix mo_SR g N)) (B := R (31, [some (aR 8 0), some (aI 1), some (aI 3)], [], am_mix mo_SR g N)) (by omega) (by omega) ?_)))
    show R (101, [some (aR 8 0), some (aI 1), some (aI 3)], [], am_mix mo_SR g N)
    refine hR _ (hR _ (am_brf (rg := am_in 1) (P := (1 : Int) = 0) (A := R (122, [some (aR 8 0), some (aI 1), some (aI 3)], [], am_mix mo_SR g N)) (B := R (105, [some (aR 8 0), some (aI 1), some (aI 3)], [], am_mix mo_SR g N)) (by omega) (by omega) ?_))
    show R (105, [some (aR 8 0), some (aI 1), some (aI 3)], [], am_mix mo_SR g N)
    refine hR _ (?_)
    show R (106, [some (aR 8 0), some (aI 1), some (aI 3)], [aR 8 0], am_mix mo_SR g N)
    refine hR _ (sm_goesNext (b := b) (z := z) (p := lx_P b z n) (by omega) hzN hz2 hbN hby hwdN h440 (lx_P_b _ _ _) (fun g2 hat => ?_))
    have hs1 : mo_ho M (am_mix [440, 441, 442, 443] g2 (am_mix mo_SR g N)) t out := hs
    have e9 : am_ag mo_SR N (am_mix [440, 441, 442, 443] g2 (am_mix mo_SR g N)) := (am_ag.rf.mix rfl).mix rfl
    rw [e9.eq] at hat hs1 ⊢
    generalize am_mix [440, 441, 442, 443] g2 (am_mix mo_SR g N) = g1 at hat hs1 ⊢
    have hTr := lx_T_b b z n
    have hm := mo_mt_f (lx_T_b b z n) (lx_T_9 b z n)
    have h442 : g1 442 0 0 = mo_mt (lx_T b z n) := hat.1
    have h440b : g1 440 0 0 = ((lx_P b z (n + 1) : Nat) : Int) := hat.2.2.1
    have hPn := lx_P_b b z n
    have hPn1 := lx_P_b b z (n + 1)
    have hP1 := lx_P_1 (b := b) (z := z) n
    have hQ : lx_Q b z n ≤ z := (lx_q_b (lx_P_b _ _ _)).2
    show R (109, [some (aR 8 0), some (aI 1), some (aI 3)], [], am_mix mo_SR g1 N)
    refine hR _ (hR _ (?_))
    show R (113, [some (aR 8 0), some (aI 1), some (aI 3)], [aI (g1 442 0 0)], am_mix mo_SR g1 N)
    rw [(show g1 442 0 0 = mo_mt (lx_T b z n) from h442)]
    show R (113, [some (aR 8 0), some (aI 1), some (aI 3)], [aI (mo_mt (lx_T b z n))], am_mix mo_SR g1 N)
    refine hR _ (am_brc (rg := am_in (mo_mt (lx_T b z n))) (P := (mo_mt (lx_T b z n)) ≠ 0) (A := R (120, [some (aR 8 0), some (aI 1), some (aI 3)], [], am_mix mo_SR g1 N)) (B := R (116, [some (aR 8 0), some (aI 1), some (aI 3)], [], am_mix mo_SR g1 N)) (by omega) (fun c113 => ?_) (fun c113 => ?_))
    · refine hR _ (hR _ (hR _ (hR _ (hR _ (hR _ (hR _ (?_)))))))
      show R (131, [some (aR 8 0), some (aI 0), some (aI 3)], [aI (N 430 0 0), aI 4, aR 29 0], am_mix mo_SR g1 N)
      rw [(show N 430 0 0 = ((t : Nat) : Int) from hNt)]
      show R (131, [some (aR 8 0), some (aI 0), some (aI 3)], [aI ((t : Nat) : Int), aI 4, aR 29 0], am_mix mo_SR g1 N)
      refine hR _ (hR _ (hR _ (hR _ (hR _ (?_)))))
      show R (138, [some (aR 8 0), some (aI 0), some (aI 3)], [aI (g1 448 0 0), aI ((4 * ((t : Nat) : Int)) + 3), aR 29 0], am_mix mo_SR g1 N)
      rw [(show g1 448 0 0 = ((out.length : Nat) : Int) from hs1.1)]
      show R (138, [some (aR 8 0), some (aI 0), some (aI 3)], [aI ((out.length : Nat) : Int), aI ((4 * ((t : Nat) : Int)) + 3), aR 29 0], am_mix mo_SR g1 N)
      refine hR _ ⟨(show 0 ≤ (((4 * ((t : Nat) : Int)) + 3) : Int) ∧ (((4 * ((t : Nat) : Int)) + 3) : Int) < 24 from (by omega)), ?_⟩
      show R (139, [some (aR 8 0), some (aI 0), some (aI 3)], [], am_wr (am_mix mo_SR g1 N) 29 0 ((((4 * ((t : Nat) : Int)) + 3)).toNat) ((out.length : Nat) : Int))
      refine hR _ (hR _ (hR _ (hR _ (hR _ (am_brf (rg := am_in 0) (P := (0 : Int) ≠ 0) (A := R (156, [some (aR 8 0), some (aI 0), some (aI 3)], [], am_wr (am_wr (am_mix mo_SR g1 N) 29 0 ((((4 * ((t : Nat) : Int)) + 3)).toNat) ((out.length : Nat) : Int)) 427 0 0 0)) (B := R (148, [some (aR 8 0), some (aI 0), some (aI 3)], [], am_wr (am_wr (am_mix mo_SR g1 N) 29 0 ((((4 * ((t : Nat) : Int)) + 3)).toNat) ((out.length : Nat) : Int)) 427 0 0 0)) (by omega) (by omega) ?_)))))
      show R (148, [some (aR 8 0), some (aI 0), some (aI 3)], [], am_wr (am_wr (am_mix mo_SR g1 N) 29 0 ((((4 * ((t : Nat) : Int)) + 3)).toNat) ((out.length : Nat) : Int)) 427 0 0 0)
      refine hR _ (hR _ (hR _ (?_)))
      show R (154, [some (aR 8 0), some (aI 0), some (aI 3)], [aI (g1 441 0 0), aI (-100)], am_wr (am_wr (am_mix mo_SR g1 N) 29 0 ((((4 * ((t : Nat) : Int)) + 3)).toNat) ((out.length : Nat) : Int)) 427 0 0 0)
      rw [(show g1 441 0 0 = ((lx_Q b z n : Nat) : Int) from hat.2.1)]
      show R (154, [some (aR 8 0), some (aI 0), some (aI 3)], [aI ((lx_Q b z n : Nat) : Int), aI (-100)], am_wr (am_wr (am_mix mo_SR g1 N) 29 0 ((((4 * ((t : Nat) : Int)) + 3)).toNat) ((out.length : Nat) : Int)) 427 0 0 0)
      refine hR _ (?_)
      show R (155, [some (aR 8 0), some (aI 0), some (aI 3)], [aI ((-100) - ((lx_Q b z n : Nat) : Int))], am_wr (am_wr (am_mix mo_SR g1 N) 29 0 ((((4 * ((t : Nat) : Int)) + 3)).toNat) ((out.length : Nat) : Int)) 427 0 0 0)
      refine hR _ (show K (some (aI ((-100) - ((lx_Q b z n : Nat) : Int)))) (am_wr (am_wr (am_mix mo_SR g1 N) 29 0 ((((4 * ((t : Nat) : Int)) + 3)).toNat) ((out.length : Nat) : Int)) 427 0 0 0) from ?_)
      have e9 : am_ag mo_SX M (am_wr (am_wr (am_mix mo_SR g1 N) 29 0 ((((4 * ((t : Nat) : Int)) + 3)).toNat) ((out.length : Nat) : Int)) 427 0 0 0) := (((hN.sub rfl).mix rfl).wr rfl).wr rfl
      refine am_fin (S := mo_SX) (F := fun m2 => m2 427 0 0 = 0 ∧ m2 430 0 0 = M 430 0 0 ∧ mo_oc M m2 (M 430 0 0).toNat ∧ mo_so M m2 (M 430 0 0).toNat) e9 ⟨am_wr_eq, hNt.trans ht.symm, ?_, ?_⟩ (fun g9 hg => hK1 n (htx0 (by omega)) (by omega) g9 hg.1 hg.2.1 hg.2.2.1 hg.2.2.2)
      · rw [htt]
        exact mo_oc.to (hs1.2.2) rfl rfl
      · rw [htt]
        intro j hj
        show (am_wr (am_mix mo_SR g1 N) 29 0 ((((4 * ((t : Nat) : Int)) + 3)).toNat) ((out.length : Nat) : Int)) 29 0 j = M 29 0 j
        exact (am_wr_ne (Or.inr (Or.inr (by omega)))).trans (hso j hj)
    · refine hR _ (hR _ (hR _ (hR _ (hR _ (hR _ (hR _ (hR _ (?_))))))))
      show R (131, [some (aR 8 0), some (aI 1), some (aI 3)], [aI (N 430 0 0), aI 4, aR 29 0], am_mix mo_SR g1 N)
      rw [(show N 430 0 0 = ((t : Nat) : Int) from hNt)]
      show R (131, [some (aR 8 0), some (aI 1), some (aI 3)], [aI ((t : Nat) : Int), aI 4, aR 29 0], am_mix mo_SR g1 N)
      refine hR _ (hR _ (hR _ (hR _ (hR _ (?_)))))
      show R (138, [some (aR 8 0), some (aI 1), some (aI 3)], [aI (g1 448 0 0), aI ((4 * ((t : Nat) : Int)) + 3), aR 29 0], am_mix mo_SR g1 N)
      rw [(show g1 448 0 0 = ((out.length : Nat) : Int) from hs1.1)]
      show R (138, [some (aR 8 0), some (aI 1), some (aI 3)], [aI ((out.length : Nat) : Int), aI ((4 * ((t : Nat) : Int)) + 3), aR 29 0], am_mix mo_SR g1 N)
      refine hR _ ⟨(show 0 ≤ (((4 * ((t : Nat) : Int)) + 3) : Int) ∧ (((4 * ((t : Nat) : Int)) + 3) : Int) < 24 from (by omega)), ?_⟩
      show R (139, [some (aR 8 0), some (aI 1), some (aI 3)], [], am_wr (am_mix mo_SR g1 N) 29 0 ((((4 * ((t : Nat) : Int)) + 3)).toNat) ((out.length : Nat) : Int))
      refine hR _ (hR _ (hR _ (hR _ (hR _ (am_brt (rg := am_in 1) (P := (1 : Int) ≠ 0) (A := R (156, [some (aR 8 0), some (aI 1), some (aI 3)], [], am_wr (am_wr (am_mix mo_SR g1 N) 29 0 ((((4 * ((t : Nat) : Int)) + 3)).toNat) ((out.length : Nat) : Int)) 427 0 0 0)) (B := R (148, [some (aR 8 0), some (aI 1), some (aI 3)], [], am_wr (am_wr (am_mix mo_SR g1 N) 29 0 ((((4 * ((t : Nat) : Int)) + 3)).toNat) ((out.length : Nat) : Int)) 427 0 0 0)) (by omega) (by omega) ?_)))))
      show R (156, [some (aR 8 0), some (aI 1), some (aI 3)], [], am_wr (am_wr (am_mix mo_SR g1 N) 29 0 ((((4 * ((t : Nat) : Int)) + 3)).toNat) ((out.length : Nat) : Int)) 427 0 0 0)
      refine hR _ (hR _ (hR _ (?_)))
      show R (161, [some (aR 8 0), some (aI 1), some (aI 3)], [aI (N 430 0 0), aR 8 0], am_wr (am_wr (am_mix mo_SR g1 N) 29 0 ((((4 * ((t : Nat) : Int)) + 3)).toNat) ((out.length : Nat) : Int)) 427 0 0 0)
      rw [(show N 430 0 0 = ((t : Nat) : Int) from hNt)]
      show R (161, [some (aR 8 0), some (aI 1), some (aI 3)], [aI ((t : Nat) : Int), aR 8 0], am_wr (am_wr (am_mix mo_SR g1 N) 29 0 ((((4 * ((t : Nat) : Int)) + 3)).toNat) ((out.length : Nat) : Int)) 427 0 0 0)
      refine hR _ (hR _ (hR _ (hR _ (hR _ (hR _ (hR _ (?_)))))))
      show R (172, [some (aR 8 0), some (aI 1), some (aI 3)], [aI ((((t : Nat) : Int) + 1) - 1)], am_wr (am_wr (am_wr (am_mix mo_SR g1 N) 29 0 ((((4 * ((t : Nat) : Int)) + 3)).toNat) ((out.length : Nat) : Int)) 427 0 0 0) 430 0 0 (((t : Nat) : Int) + 1))
      refine hR _ (show K (some (aI ((((t : Nat) : Int) + 1) - 1))) (am_wr (am_wr (am_wr (am_mix mo_SR g1 N) 29 0 ((((4 * ((t : Nat) : Int)) + 3)).toNat) ((out.length : Nat) : Int)) 427 0 0 0) 430 0 0 (((t : Nat) : Int) + 1)) from ?_)
      rw [show ((t : Nat) : Int) + 1 - 1 = M 430 0 0 by omega]
      obtain ⟨w0, w1, w2, htx, hout, k0, k1, k2⟩ := htx1 (by omega)
      have e9 : am_ag mo_SX M (am_wr (am_wr (am_wr (am_mix mo_SR g1 N) 29 0 ((((4 * ((t : Nat) : Int)) + 3)).toNat) ((out.length : Nat) : Int)) 427 0 0 0) 430 0 0 (((t : Nat) : Int) + 1)) := ((((hN.sub rfl).mix rfl).wr rfl).wr rfl).wr rfl
      have hq := tx_all_ok (P := lx_P b z) lx_P_1 (fun n h => (lx_V_b h).1) htx
      have e29 : (am_wr (am_wr (am_wr (am_mix mo_SR g1 N) 29 0 ((((4 * ((t : Nat) : Int)) + 3)).toNat) ((out.length : Nat) : Int)) 427 0 0 0) 430 0 0 (((t : Nat) : Int) + 1)) 29 = (am_wr (am_mix mo_SR g1 N) 29 0 ((((4 * ((t : Nat) : Int)) + 3)).toNat) ((out.length : Nat) : Int)) 29 := rfl
      have hx : mo_txt (am_wr (am_wr (am_wr (am_mix mo_SR g1 N) 29 0 ((((4 * ((t : Nat) : Int)) + 3)).toNat) ((out.length : Nat) : Int)) 427 0 0 0) 430 0 0 (((t : Nat) : Int) + 1)) t w0 w1 w2 := by
        refine ⟨fun j hj => ?_, ?_, ?_, ?_, ?_⟩
        · rw [← hout] at hj ⊢
          exact hs1.2.1 j hj
        · rw [e29]
          exact (am_wr_ne (Or.inr (Or.inr (by omega)))).trans k0
        · rw [e29]
          exact (am_wr_ne (Or.inr (Or.inr (by omega)))).trans k1
        · rw [e29]
          exact (am_wr_ne (Or.inr (Or.inr (by omega)))).trans k2
        · rw [e29, ← hout, show 4 * t + 3 = (((4 * ((t : Nat) : Int)) + 3)).toNat by omega]
          exact am_wr_eq
      have hx2 := hx.ok hq.1 (by omega) (hcg _ _ _ _ htx)
      refine am_fin (S := mo_SX) (F := fun m2 => m2 427 0 0 = 0 ∧ m2 430 0 0 = M 430 0 0 + 1 ∧ mo_oc M m2 (M 430 0 0).toNat ∧ mo_so M m2 (M 430 0 0).toNat ∧ (mo_tk m2 (M 430 0 0).toNat 0 = w0 ∧ mo_tk m2 (M 430 0 0).toNat 1 = w1 ∧ mo_tk m2 (M 430 0 0).toNat 2 = w2) ∧ mo_wt m2 (M 430 0 0).toNat) e9 ⟨rfl, ?_, ?_, ?_, by rw [htt]; exact hx2.1, by rw [htt]; exact hx2.2⟩ (fun g9 hg => hK2 n w0 w1 w2 htx (by omega) g9 hg.1 hg.2.1 hg.2.2.1 hg.2.2.2.1 hg.2.2.2.2.1 hg.2.2.2.2.2)
      · rw [ht]
        exact am_wr_eq
      · rw [htt]
        exact mo_oc.to hs1.2.2 rfl rfl
      · rw [htt]
        intro j hj
        show (am_wr (am_mix mo_SR g1 N) 29 0 ((((4 * ((t : Nat) : Int)) + 3)).toNat) ((out.length : Nat) : Int)) 29 0 j = M 29 0 j
        exact (am_wr_ne (Or.inr (Or.inr (by omega)))).trans (hso j hj)
  have part : ∀ (p n : Nat) (out : List Int) (g N : am_M), p < 3 → am_ag [29] M N → mo_so M N t → mo_ho M (am_mix mo_SR g N) t out → out.length ≤ lx_P b z n → g 440 0 0 = ((lx_P b z n : Nat) : Int) → (∀ m, tx_part (lx_T b z) (lx_V b z) (p : Int) n = (m, none) → ∀ g N, am_ag [29] M N → mo_so M N t → mo_oc M (am_mix mo_SR g N) t → mo_at b z (am_mix mo_SR g N) (lx_P b z m) → R (26, [some (aR 8 0), some (aI 0), some (aI ((p : Int) + 1))], [], am_mix mo_SR g N)) → (∀ m w, tx_part (lx_T b z) (lx_V b z) (p : Int) n = (m, some w) → ∀ g N2, am_ag [29] M N2 → mo_so M N2 t → (∀ q, q < p → N2 29 0 (4 * t + q) = N 29 0 (4 * t + q)) → N2 29 0 (4 * t + p) = (out.length : Int) → mo_ho M (am_mix mo_SR g N2) t (out ++ w) → g 440 0 0 = ((lx_P b z m : Nat) : Int) → R (26, [some (aR 8 0), some (aI 1), some (aI ((p : Int) + 1))], [], am_mix mo_SR g N2)) → R (26, [some (aR 8 0), some (aI 1), some (aI (p : Int))], [], am_mix mo_SR g N) := by
    intro p n out g N hp3 hN hso hs hl h440 hfail hok
    obtain ⟨hzN, hbN, hwdN, hN28, hN430⟩ := base N hN
    have hNt : N 430 0 0 = (t : Int) := by rw [hN430]; exact ht
    refine hR _ (hR _ (hR _ (am_brc (rg := am_in (p : Int) ∧ am_in 3) (P := 3 ≤ (p : Int)) (A := R (101, [some (aR 8 0), some (aI 1), some (aI (p : Int))], [], am_mix mo_SR g N)) (B := R (31, [some (aR 8 0), some (aI 1), some (aI (p : Int))], [], am_mix mo_SR g N)) (by omega) (fun c28 => ?_) (fun c28 => ?_))))
    · refine hR _ (hR _ (am_brf (rg := am_in 1) (P := (1 : Int) = 0) (A := R (122, [some (aR 8 0), some (aI 1), some (aI (p : Int))], [], am_mix mo_SR g N)) (B := R (105, [some (aR 8 0), some (aI 1), some (aI (p : Int))], [], am_mix mo_SR g N)) (by omega) (by omega) ?_))
      show R (105, [some (aR 8 0), some (aI 1), some (aI (p : Int))], [], am_mix mo_SR g N)
      refine hR _ (?_)
      show R (106, [some (aR 8 0), some (aI 1), some (aI (p : Int))], [aR 8 0], am_mix mo_SR g N)
      refine hR _ (sm_goesNext (b := b) (z := z) (p := lx_P b z n) (by omega) hzN hz2 hbN hby hwdN h440 (lx_P_b _ _ _) (fun g2 hat => ?_))
      have hs1 : mo_ho M (am_mix [440, 441, 442, 443] g2 (am_mix mo_SR g N)) t out := hs
      have e9 : am_ag mo_SR N (am_mix [440, 441, 442, 443] g2 (am_mix mo_SR g N)) := (am_ag.rf.mix rfl).mix rfl
      rw [e9.eq] at hat hs1 ⊢
      generalize am_mix [440, 441, 442, 443] g2 (am_mix mo_SR g N) = g1 at hat hs1 ⊢
      have hTr := lx_T_b b z n
      have hm := mo_mt_f (lx_T_b b z n) (lx_T_9 b z n)
      have h442 : g1 442 0 0 = mo_mt (lx_T b z n) := hat.1
      have h440b : g1 440 0 0 = ((lx_P b z (n + 1) : Nat) : Int) := hat.2.2.1
      have hPn := lx_P_b b z n
      have hPn1 := lx_P_b b z (n + 1)
      have hP1 := lx_P_1 (b := b) (z := z) n
      have hQ : lx_Q b z n ≤ z := (lx_q_b (lx_P_b _ _ _)).2
      show R (109, [some (aR 8 0), some (aI 1), some (aI (p : Int))], [], am_mix mo_SR g1 N)
      refine hR _ (hR _ (?_))
      show R (113, [some (aR 8 0), some (aI 1), some (aI (p : Int))], [aI (g1 442 0 0)], am_mix mo_SR g1 N)
      rw [(show g1 442 0 0 = mo_mt (lx_T b z n) from h442)]
      show R (113, [some (aR 8 0), some (aI 1), some (aI (p : Int))], [aI (mo_mt (lx_T b z n))], am_mix mo_SR g1 N)
      refine hR _ (am_brc (rg := am_in (mo_mt (lx_T b z n))) (P := (mo_mt (lx_T b z n)) ≠ 0) (A := R (120, [some (aR 8 0), some (aI 1), some (aI (p : Int))], [], am_mix mo_SR g1 N)) (B := R (116, [some (aR 8 0), some (aI 1), some (aI (p : Int))], [], am_mix mo_SR g1 N)) (by omega) (fun c113 => ?_) (fun c113 => ?_))
      · refine hR _ (hR _ (hR _ (hR _ (hR _ (hR _ (hR _ (?_)))))))
        show R (131, [some (aR 8 0), some (aI 0), some (aI (p : Int))], [aI (N 430 0 0), aI 4, aR 29 0], am_mix mo_SR g1 N)
        rw [(show N 430 0 0 = ((t : Nat) : Int) from hNt)]
        show R (131, [some (aR 8 0), some (aI 0), some (aI (p : Int))], [aI ((t : Nat) : Int), aI 4, aR 29 0], am_mix mo_SR g1 N)
        refine hR _ (hR _ (hR _ (hR _ (hR _ (?_)))))
        show R (138, [some (aR 8 0), some (aI 0), some (aI (p : Int))], [aI (g1 448 0 0), aI ((4 * ((t : Nat) : Int)) + 3), aR 29 0], am_mix mo_SR g1 N)
        rw [(show g1 448 0 0 = ((out.length : Nat) : Int) from hs1.1)]
        show R (138, [some (aR 8 0), some (aI 0), some (aI (p : Int))], [aI ((out.length : Nat) : Int), aI ((4 * ((t : Nat) : Int)) + 3), aR 29 0], am_mix mo_SR g1 N)
        refine hR _ ⟨(show 0 ≤ (((4 * ((t : Nat) : Int)) + 3) : Int) ∧ (((4 * ((t : Nat) : Int)) + 3) : Int) < 24 from (by omega)), ?_⟩
        show R (139, [some (aR 8 0), some (aI 0), some (aI (p : Int))], [], am_wr (am_mix mo_SR g1 N) 29 0 ((((4 * ((t : Nat) : Int)) + 3)).toNat) ((out.length : Nat) : Int))
        refine hR _ (hR _ (hR _ (hR _ (hR _ (am_brf (rg := am_in 0) (P := (0 : Int) ≠ 0) (A := R (156, [some (aR 8 0), some (aI 0), some (aI (p : Int))], [], am_wr (am_wr (am_mix mo_SR g1 N) 29 0 ((((4 * ((t : Nat) : Int)) + 3)).toNat) ((out.length : Nat) : Int)) 427 0 0 0)) (B := R (148, [some (aR 8 0), some (aI 0), some (aI (p : Int))], [], am_wr (am_wr (am_mix mo_SR g1 N) 29 0 ((((4 * ((t : Nat) : Int)) + 3)).toNat) ((out.length : Nat) : Int)) 427 0 0 0)) (by omega) (by omega) ?_)))))
        show R (148, [some (aR 8 0), some (aI 0), some (aI (p : Int))], [], am_wr (am_wr (am_mix mo_SR g1 N) 29 0 ((((4 * ((t : Nat) : Int)) + 3)).toNat) ((out.length : Nat) : Int)) 427 0 0 0)
        refine hR _ (hR _ (hR _ (hR _ (?_))))
        show R (155, [some (aR 8 0), some (aI 0), some (aI (p : Int))], [aI ((-100) - g1 441 0 0)], am_wr (am_wr (am_mix mo_SR g1 N) 29 0 ((((4 * ((t : Nat) : Int)) + 3)).toNat) ((out.length : Nat) : Int)) 427 0 0 0)
        refine hR _ (show K (some (aI ((-100) - g1 441 0 0))) (am_wr (am_wr (am_mix mo_SR g1 N) 29 0 ((((4 * ((t : Nat) : Int)) + 3)).toNat) ((out.length : Nat) : Int)) 427 0 0 0) from ?_)
        exfalso
        omega
      · refine hR _ (hR _ (hR _ (hR _ (hR _ (hR _ (hR _ (hR _ (?_))))))))
        show R (131, [some (aR 8 0), some (aI 1), some (aI (p : Int))], [aI (N 430 0 0), aI 4, aR 29 0], am_mix mo_SR g1 N)
        rw [(show N 430 0 0 = ((t : Nat) : Int) from hNt)]
        show R (131, [some (aR 8 0), some (aI 1), some (aI (p : Int))], [aI ((t : Nat) : Int), aI 4, aR 29 0], am_mix mo_SR g1 N)
        refine hR _ (hR _ (hR _ (hR _ (hR _ (?_)))))
        show R (138, [some (aR 8 0), some (aI 1), some (aI (p : Int))], [aI (g1 448 0 0), aI ((4 * ((t : Nat) : Int)) + 3), aR 29 0], am_mix mo_SR g1 N)
        rw [(show g1 448 0 0 = ((out.length : Nat) : Int) from hs1.1)]
        show R (138, [some (aR 8 0), some (aI 1), some (aI (p : Int))], [aI ((out.length : Nat) : Int), aI ((4 * ((t : Nat) : Int)) + 3), aR 29 0], am_mix mo_SR g1 N)
        refine hR _ ⟨(show 0 ≤ (((4 * ((t : Nat) : Int)) + 3) : Int) ∧ (((4 * ((t : Nat) : Int)) + 3) : Int) < 24 from (by omega)), ?_⟩
        show R (139, [some (aR 8 0), some (aI 1), some (aI (p : Int))], [], am_wr (am_mix mo_SR g1 N) 29 0 ((((4 * ((t : Nat) : Int)) + 3)).toNat) ((out.length : Nat) : Int))
        refine hR _ (hR _ (hR _ (hR _ (hR _ (am_brt (rg := am_in 1) (P := (1 : Int) ≠ 0) (A := R (156, [some (aR 8 0), some (aI 1), some (aI (p : Int))], [], am_wr (am_wr (am_mix mo_SR g1 N) 29 0 ((((4 * ((t : Nat) : Int)) + 3)).toNat) ((out.length : Nat) : Int)) 427 0 0 0)) (B := R (148, [some (aR 8 0), some (aI 1), some (aI (p : Int))], [], am_wr (am_wr (am_mix mo_SR g1 N) 29 0 ((((4 * ((t : Nat) : Int)) + 3)).toNat) ((out.length : Nat) : Int)) 427 0 0 0)) (by omega) (by omega) ?_)))))
        show R (156, [some (aR 8 0), some (aI 1), some (aI (p : Int))], [], am_wr (am_wr (am_mix mo_SR g1 N) 29 0 ((((4 * ((t : Nat) : Int)) + 3)).toNat) ((out.length : Nat) : Int)) 427 0 0 0)
        refine hR _ (hR _ (hR _ (?_)))
        show R (161, [some (aR 8 0), some (aI 1), some (aI (p : Int))], [aI (N 430 0 0), aR 8 0], am_wr (am_wr (am_mix mo_SR g1 N) 29 0 ((((4 * ((t : Nat) : Int)) + 3)).toNat) ((out.length : Nat) : Int)) 427 0 0 0)
        rw [(show N 430 0 0 = ((t : Nat) : Int) from hNt)]
        show R (161, [some (aR 8 0), some (aI 1), some (aI (p : Int))], [aI ((t : Nat) : Int), aR 8 0], am_wr (am_wr (am_mix mo_SR g1 N) 29 0 ((((4 * ((t : Nat) : Int)) + 3)).toNat) ((out.length : Nat) : Int)) 427 0 0 0)
        refine hR _ (hR _ (hR _ (hR _ (hR _ (hR _ (hR _ (?_)))))))
        show R (172, [some (aR 8 0), some (aI 1), some (aI (p : Int))], [aI ((((t : Nat) : Int) + 1) - 1)], am_wr (am_wr (am_wr (am_mix mo_SR g1 N) 29 0 ((((4 * ((t : Nat) : Int)) + 3)).toNat) ((out.length : Nat) : Int)) 427 0 0 0) 430 0 0 (((t : Nat) : Int) + 1))
        refine hR _ (show K (some (aI ((((t : Nat) : Int) + 1) - 1))) (am_wr (am_wr (am_wr (am_mix mo_SR g1 N) 29 0 ((((4 * ((t : Nat) : Int)) + 3)).toNat) ((out.length : Nat) : Int)) 427 0 0 0) 430 0 0 (((t : Nat) : Int) + 1)) from ?_)
        exfalso
        omega
    · refine hR _ (hR _ (am_brf (rg := am_in 1) (P := (1 : Int) = 0) (A := R (101, [some (aR 8 0), some (aI 1), some (aI (p : Int))], [], am_mix mo_SR g N)) (B := R (35, [some (aR 8 0), some (aI 1), some (aI (p : Int))], [], am_mix mo_SR g N)) (by omega) (by omega) ?_))
      show R (35, [some (aR 8 0), some (aI 1), some (aI (p : Int))], [], am_mix mo_SR g N)
      refine hR _ (?_)
      show R (36, [some (aR 8 0), some (aI 1), some (aI (p : Int))], [aR 8 0], am_mix mo_SR g N)
      refine hR _ (sm_goesNext (b := b) (z := z) (p := lx_P b z n) (by omega) hzN hz2 hbN hby hwdN h440 (lx_P_b _ _ _) (fun g2 hat => ?_))
      have hs1 : mo_ho M (am_mix [440, 441, 442, 443] g2 (am_mix mo_SR g N)) t out := hs
      have e9 : am_ag mo_SR N (am_mix [440, 441, 442, 443] g2 (am_mix mo_SR g N)) := (am_ag.rf.mix rfl).mix rfl
      rw [e9.eq] at hat hs1 ⊢
      generalize am_mix [440, 441, 442, 443] g2 (am_mix mo_SR g N) = g1 at hat hs1 ⊢
      have hTr := lx_T_b b z n
      have hm := mo_mt_f (lx_T_b b z n) (lx_T_9 b z n)
      have h442 : g1 442 0 0 = mo_mt (lx_T b z n) := hat.1
      have h440b : g1 440 0 0 = ((lx_P b z (n + 1) : Nat) : Int) := hat.2.2.1
      have hPn := lx_P_b b z n
      have hPn1 := lx_P_b b z (n + 1)
      have hP1 := lx_P_1 (b := b) (z := z) n
      have hQ : lx_Q b z n ≤ z := (lx_q_b (lx_P_b _ _ _)).2
      show R (39, [some (aR 8 0), some (aI 1), some (aI (p : Int))], [], am_mix mo_SR g1 N)
      refine hR _ (hR _ (?_))
      show R (43, [some (aR 8 0), some (aI 1), some (aI (p : Int))], [aI (g1 442 0 0)], am_mix mo_SR g1 N)
      rw [(show g1 442 0 0 = mo_mt (lx_T b z n) from h442)]
      show R (43, [some (aR 8 0), some (aI 1), some (aI (p : Int))], [aI (mo_mt (lx_T b z n))], am_mix mo_SR g1 N)
      refine hR _ (hR _ (am_brc (rg := am_in (mo_mt (lx_T b z n)) ∧ am_in 3) (P := (mo_mt (lx_T b z n)) ≠ 3) (A := R (59, [some (aR 8 0), some (aI 1), some (aI (p : Int))], [], am_mix mo_SR g1 N)) (B := R (47, [some (aR 8 0), some (aI 1), some (aI (p : Int))], [], am_mix mo_SR g1 N)) (by omega) (fun c44 => ?_) (fun c44 => ?_)))
      · refine hR _ (hR _ (hR _ (hR _ (hR _ (hR _ (hR _ (?_)))))))
        show R (70, [some (aR 8 0), some (aI 0), some (aI (p : Int))], [aI (N 430 0 0), aI 4, aR 29 0], am_mix mo_SR g1 N)
        rw [(show N 430 0 0 = ((t : Nat) : Int) from hNt)]
        show R (70, [some (aR 8 0), some (aI 0), some (aI (p : Int))], [aI ((t : Nat) : Int), aI 4, aR 29 0], am_mix mo_SR g1 N)
        refine hR _ (hR _ (hR _ (hR _ (hR _ (?_)))))
        show R (77, [some (aR 8 0), some (aI 0), some (aI (p : Int))], [aI (g1 448 0 0), aI ((4 * ((t : Nat) : Int)) + (p : Int)), aR 29 0], am_mix mo_SR g1 N)
        rw [(show g1 448 0 0 = ((out.length : Nat) : Int) from hs1.1)]
        show R (77, [some (aR 8 0), some (aI 0), some (aI (p : Int))], [aI ((out.length : Nat) : Int), aI ((4 * ((t : Nat) : Int)) + (p : Int)), aR 29 0], am_mix mo_SR g1 N)
        refine hR _ ⟨(show 0 ≤ (((4 * ((t : Nat) : Int)) + (p : Int)) : Int) ∧ (((4 * ((t : Nat) : Int)) + (p : Int)) : Int) < 24 from (by omega)), ?_⟩
        show R (78, [some (aR 8 0), some (aI 0), some (aI (p : Int))], [], am_wr (am_mix mo_SR g1 N) 29 0 ((((4 * ((t : Nat) : Int)) + (p : Int))).toNat) ((out.length : Nat) : Int))
        rw [show ((((4 * ((t : Nat) : Int)) + (p : Int))).toNat) = 4 * t + p by omega, am_mix_wr (S := mo_SR) (g := g1) (M := N) rfl]
        obtain ⟨N2, hN2d⟩ : ∃ N2, N2 = am_wr N 29 0 (4 * t + p) ((out.length : Nat) : Int) := ⟨_, rfl⟩
        rw [← hN2d]
        have hN2 : am_ag [29] M N2 := by rw [hN2d]; exact hN.wr rfl
        have hq : N2 29 0 (4 * t + p) = ((out.length : Nat) : Int) := by rw [hN2d]; exact am_wr_eq
        have hqo : ∀ j, j ≠ 4 * t + p → N2 29 0 j = N 29 0 j := fun j hj => by rw [hN2d]; exact am_wr_ne (Or.inr (Or.inr hj))
        have hso2 : mo_so M N2 t := fun j hj => (hqo j (by omega)).trans (hso j hj)
        obtain ⟨hzN2, hbN2, hwdN2, hN228, hN2430⟩ := base N2 hN2
        have hNt2 : N2 430 0 0 = (t : Int) := by rw [hN2430]; exact ht
        have hs2 : mo_ho N2 (am_mix mo_SR g1 N2) t out := mo_ho.to hs1 hN228.symm rfl rfl
        show R (78, [some (aR 8 0), some (aI 0), some (aI (p : Int))], [], am_mix mo_SR g1 N2)
        refine hR _ (hR _ (am_brt (rg := am_in 0) (P := (0 : Int) = 0) (A := R (93, [some (aR 8 0), some (aI 0), some (aI (p : Int))], [], am_mix mo_SR g1 N2)) (B := R (82, [some (aR 8 0), some (aI 0), some (aI (p : Int))], [], am_mix mo_SR g1 N2)) (by omega) (by omega) ?_))
        show R (93, [some (aR 8 0), some (aI 0), some (aI (p : Int))], [], am_mix mo_SR g1 N2)
        refine hR _ (hR _ (hR _ (hR _ (?_))))
        show R (26, [some (aR 8 0), some (aI 0), some (aI ((p : Int) + 1))], [], am_mix mo_SR g1 N2)
        have hp := tx_part_no (V := lx_V b z) (p := (p : Int)) (show lx_T b z n ≠ 3 + (p : Int) by omega)
        exact hfail _ hp g1 N2 hN2 hso2 (mo_oc.to hs2.2.2 hN228 rfl) hat
      · refine hR _ (hR _ (?_))
        show R (51, [some (aR 8 0), some (aI 1), some (aI (p : Int))], [aI (g1 443 0 0)], am_mix mo_SR g1 N)
        rw [show g1 443 0 0 = lx_T b z n - 3 from hat.2.2.2.2.1 (show 3 ≤ lx_T b z n ∧ lx_T b z n ≤ 5 by omega)]
        show R (51, [some (aR 8 0), some (aI 1), some (aI (p : Int))], [aI (lx_T b z n - 3)], am_mix mo_SR g1 N)
        refine hR _ (hR _ (am_brc (rg := am_in (lx_T b z n - 3) ∧ am_in (p : Int)) (P := (lx_T b z n - 3) ≠ (p : Int)) (A := R (59, [some (aR 8 0), some (aI 1), some (aI (p : Int))], [], am_mix mo_SR g1 N)) (B := R (55, [some (aR 8 0), some (aI 1), some (aI (p : Int))], [], am_mix mo_SR g1 N)) (by omega) (fun c52 => ?_) (fun c52 => ?_)))
        · refine hR _ (hR _ (hR _ (hR _ (hR _ (hR _ (hR _ (?_)))))))
          show R (70, [some (aR 8 0), some (aI 0), some (aI (p : Int))], [aI (N 430 0 0), aI 4, aR 29 0], am_mix mo_SR g1 N)
          rw [(show N 430 0 0 = ((t : Nat) : Int) from hNt)]
          show R (70, [some (aR 8 0), some (aI 0), some (aI (p : Int))], [aI ((t : Nat) : Int), aI 4, aR 29 0], am_mix mo_SR g1 N)
          refine hR _ (hR _ (hR _ (hR _ (hR _ (?_)))))
          show R (77, [some (aR 8 0), some (aI 0), some (aI (p : Int))], [aI (g1 448 0 0), aI ((4 * ((t : Nat) : Int)) + (p : Int)), aR 29 0], am_mix mo_SR g1 N)
          rw [(show g1 448 0 0 = ((out.length : Nat) : Int) from hs1.1)]
          show R (77, [some (aR 8 0), some (aI 0), some (aI (p : Int))], [aI ((out.length : Nat) : Int), aI ((4 * ((t : Nat) : Int)) + (p : Int)), aR 29 0], am_mix mo_SR g1 N)
          refine hR _ ⟨(show 0 ≤ (((4 * ((t : Nat) : Int)) + (p : Int)) : Int) ∧ (((4 * ((t : Nat) : Int)) + (p : Int)) : Int) < 24 from (by omega)), ?_⟩
          show R (78, [some (aR 8 0), some (aI 0), some (aI (p : Int))], [], am_wr (am_mix mo_SR g1 N) 29 0 ((((4 * ((t : Nat) : Int)) + (p : Int))).toNat) ((out.length : Nat) : Int))
          rw [show ((((4 * ((t : Nat) : Int)) + (p : Int))).toNat) = 4 * t + p by omega, am_mix_wr (S := mo_SR) (g := g1) (M := N) rfl]
          obtain ⟨N2, hN2d⟩ : ∃ N2, N2 = am_wr N 29 0 (4 * t + p) ((out.length : Nat) : Int) := ⟨_, rfl⟩
          rw [← hN2d]
          have hN2 : am_ag [29] M N2 := by rw [hN2d]; exact hN.wr rfl
          have hq : N2 29 0 (4 * t + p) = ((out.length : Nat) : Int) := by rw [hN2d]; exact am_wr_eq
          have hqo : ∀ j, j ≠ 4 * t + p → N2 29 0 j = N 29 0 j := fun j hj => by rw [hN2d]; exact am_wr_ne (Or.inr (Or.inr hj))
          have hso2 : mo_so M N2 t := fun j hj => (hqo j (by omega)).trans (hso j hj)
          obtain ⟨hzN2, hbN2, hwdN2, hN228, hN2430⟩ := base N2 hN2
          have hNt2 : N2 430 0 0 = (t : Int) := by rw [hN2430]; exact ht
          have hs2 : mo_ho N2 (am_mix mo_SR g1 N2) t out := mo_ho.to hs1 hN228.symm rfl rfl
          show R (78, [some (aR 8 0), some (aI 0), some (aI (p : Int))], [], am_mix mo_SR g1 N2)
          refine hR _ (hR _ (am_brt (rg := am_in 0) (P := (0 : Int) = 0) (A := R (93, [some (aR 8 0), some (aI 0), some (aI (p : Int))], [], am_mix mo_SR g1 N2)) (B := R (82, [some (aR 8 0), some (aI 0), some (aI (p : Int))], [], am_mix mo_SR g1 N2)) (by omega) (by omega) ?_))
          show R (93, [some (aR 8 0), some (aI 0), some (aI (p : Int))], [], am_mix mo_SR g1 N2)
          refine hR _ (hR _ (hR _ (hR _ (?_))))
          show R (26, [some (aR 8 0), some (aI 0), some (aI ((p : Int) + 1))], [], am_mix mo_SR g1 N2)
          have hp := tx_part_no (V := lx_V b z) (p := (p : Int)) (show lx_T b z n ≠ 3 + (p : Int) by omega)
          exact hfail _ hp g1 N2 hN2 hso2 (mo_oc.to hs2.2.2 hN228 rfl) hat
        · refine hR _ (hR _ (hR _ (hR _ (hR _ (hR _ (hR _ (hR _ (?_))))))))
          show R (70, [some (aR 8 0), some (aI 1), some (aI (p : Int))], [aI (N 430 0 0), aI 4, aR 29 0], am_mix mo_SR g1 N)
          rw [(show N 430 0 0 = ((t : Nat) : Int) from hNt)]
          show R (70, [some (aR 8 0), some (aI 1), some (aI (p : Int))], [aI ((t : Nat) : Int), aI 4, aR 29 0], am_mix mo_SR g1 N)
          refine hR _ (hR _ (hR _ (hR _ (hR _ (?_)))))
          show R (77, [some (aR 8 0), some (aI 1), some (aI (p : Int))], [aI (g1 448 0 0), aI ((4 * ((t : Nat) : Int)) + (p : Int)), aR 29 0], am_mix mo_SR g1 N)
          rw [(show g1 448 0 0 = ((out.length : Nat) : Int) from hs1.1)]
          show R (77, [some (aR 8 0), some (aI 1), some (aI (p : Int))], [aI ((out.length : Nat) : Int), aI ((4 * ((t : Nat) : Int)) + (p : Int)), aR 29 0], am_mix mo_SR g1 N)
          refine hR _ ⟨(show 0 ≤ (((4 * ((t : Nat) : Int)) + (p : Int)) : Int) ∧ (((4 * ((t : Nat) : Int)) + (p : Int)) : Int) < 24 from (by omega)), ?_⟩
          show R (78, [some (aR 8 0), some (aI 1), some (aI (p : Int))], [], am_wr (am_mix mo_SR g1 N) 29 0 ((((4 * ((t : Nat) : Int)) + (p : Int))).toNat) ((out.length : Nat) : Int))
          rw [show ((((4 * ((t : Nat) : Int)) + (p : Int))).toNat) = 4 * t + p by omega, am_mix_wr (S := mo_SR) (g := g1) (M := N) rfl]
          obtain ⟨N2, hN2d⟩ : ∃ N2, N2 = am_wr N 29 0 (4 * t + p) ((out.length : Nat) : Int) := ⟨_, rfl⟩
          rw [← hN2d]
          have hN2 : am_ag [29] M N2 := by rw [hN2d]; exact hN.wr rfl
          have hq : N2 29 0 (4 * t + p) = ((out.length : Nat) : Int) := by rw [hN2d]; exact am_wr_eq
          have hqo : ∀ j, j ≠ 4 * t + p → N2 29 0 j = N 29 0 j := fun j hj => by rw [hN2d]; exact am_wr_ne (Or.inr (Or.inr hj))
          have hso2 : mo_so M N2 t := fun j hj => (hqo j (by omega)).trans (hso j hj)
          obtain ⟨hzN2, hbN2, hwdN2, hN228, hN2430⟩ := base N2 hN2
          have hNt2 : N2 430 0 0 = (t : Int) := by rw [hN2430]; exact ht
          have hs2 : mo_ho N2 (am_mix mo_SR g1 N2) t out := mo_ho.to hs1 hN228.symm rfl rfl
          show R (78, [some (aR 8 0), some (aI 1), some (aI (p : Int))], [], am_mix mo_SR g1 N2)
          refine hR _ (hR _ (am_brf (rg := am_in 1) (P := (1 : Int) = 0) (A := R (93, [some (aR 8 0), some (aI 1), some (aI (p : Int))], [], am_mix mo_SR g1 N2)) (B := R (82, [some (aR 8 0), some (aI 1), some (aI (p : Int))], [], am_mix mo_SR g1 N2)) (by omega) (by omega) ?_))
          show R (82, [some (aR 8 0), some (aI 1), some (aI (p : Int))], [], am_mix mo_SR g1 N2)
          refine hR _ (?_)
          show R (83, [some (aR 8 0), some (aI 1), some (aI (p : Int))], [aR 8 0], am_mix mo_SR g1 N2)
          refine hR _ (sm_eRead (b := b) (z := z) (t := t) (n0 := n + 1) (out0 := out) (g0 := g1) (M := N2) (by omega) hzN2 hz2 hbN2 hby hwdN2 hNt2 ht5 hs2 (by omega) h440b (fun m2 hf g5 hoc5 hat5 => ?_) (fun m2 w5 hf h59 g5 hs5 hat5 => ?_))
          · show R (86, [some (aR 8 0), some (aI 1), some (aI (p : Int))], [aI 0], am_mix mo_SR g5 N2)
            refine hR _ (am_brt (rg := am_in 0) (P := (0 : Int) = 0) (A := R (93, [some (aR 8 0), some (aI 1), some (aI (p : Int))], [], am_mix mo_SR g5 N2)) (B := R (89, [some (aR 8 0), some (aI 1), some (aI (p : Int))], [], am_mix mo_SR g5 N2)) (by omega) (by omega) ?_)
            show R (93, [some (aR 8 0), some (aI 1), some (aI (p : Int))], [], am_mix mo_SR g5 N2)
            refine hR _ (hR _ (hR _ (hR _ (?_))))
            show R (26, [some (aR 8 0), some (aI 0), some (aI ((p : Int) + 1))], [], am_mix mo_SR g5 N2)
            have hp := tx_part_f (V := lx_V b z) (p := (p : Int)) (by omega) hf
            exact hfail _ hp g5 N2 hN2 hso2 (mo_oc.to hoc5 hN228 rfl) hat5
          · show R (86, [some (aR 8 0), some (aI 1), some (aI (p : Int))], [aI 1], am_mix mo_SR g5 N2)
            refine hR _ (am_brf (rg := am_in 1) (P := (1 : Int) = 0) (A := R (93, [some (aR 8 0), some (aI 1), some (aI (p : Int))], [], am_mix mo_SR g5 N2)) (B := R (89, [some (aR 8 0), some (aI 1), some (aI (p : Int))], [], am_mix mo_SR g5 N2)) (by omega) (by omega) ?_)
            show R (89, [some (aR 8 0), some (aI 1), some (aI (p : Int))], [], am_mix mo_SR g5 N2)
            refine hR _ (hR _ (hR _ (hR _ (hR _ (?_)))))
            show R (26, [some (aR 8 0), some (aI 1), some (aI ((p : Int) + 1))], [], am_mix mo_SR g5 N2)
            have hp := tx_part_s (V := lx_V b z) (p := (p : Int)) (by omega) hf h59
            exact hok _ _ hp g5 N2 hN2 hso2 (fun q hq2 => hqo _ (by omega)) hq (mo_ho.to hs5 hN228 rfl rfl) hat5.2.2.1
  have hall : ∀ (g : am_M), mo_ho M (am_mix mo_SR g M) t [] → g 440 0 0 = 0 → R (26, [some (aR 8 0), some (aI 1), some (aI 0)], [], am_mix mo_SR g M) := by
    intro g hs h440
    have hP0 : lx_P b z 0 = 0 := rfl
    refine part 0 0 [] g M (by omega) am_ag.rf (fun _ _ => rfl) hs (Nat.zero_le _) (by rw [h440, hP0]; rfl) (fun m hm g1 N1 a1 a2 a3 a4 => ?_) (fun n1 w0 hm0 g1 N1 a1 a2 a3 a4 a5 a6 => ?_)
    · refine tailF m _ g1 N1 (by omega) ?_ a1 a2 a3 a4
      unfold tx_all
      rw [show tx_part (lx_T b z) (lx_V b z) 0 0 = (m, none) from hm]
      rfl
    have c0 := (tx_part_ok (P := lx_P b z) lx_P_1 (fun n h => (lx_V_b h).1) (by omega) hm0).2
    refine part 1 n1 ([] ++ w0) g1 N1 (by omega) a1 a2 a5 (by rw [List.nil_append]; omega) a6 (fun m hm g2 N2 b1 b2 b3 b4 => ?_) (fun n2 w1 hm1 g2 N2 b1 b2 b3 b4 b5 b6 => ?_)
    · refine tailF m _ g2 N2 (by omega) ?_ b1 b2 b3 b4
      unfold tx_all
      rw [show tx_part (lx_T b z) (lx_V b z) 0 0 = (n1, some w0) from hm0]
      show tx_then (tx_part (lx_T b z) (lx_V b z) 1 n1) _ = _
      rw [show tx_part (lx_T b z) (lx_V b z) 1 n1 = (m, none) from hm]
      rfl
    have c1 := (tx_part_ok (P := lx_P b z) lx_P_1 (fun n h => (lx_V_b h).1) (by omega) hm1).2
    refine part 2 n2 ([] ++ w0 ++ w1) g2 N2 (by omega) b1 b2 b5 (by rw [List.nil_append, List.length_append]; omega) b6 (fun m hm g3 N3 d1 d2 d3 d4 => ?_) (fun n3 w2 hm2 g3 N3 d1 d2 d3 d4 d5 d6 => ?_)
    · refine tailF m _ g3 N3 (by omega) ?_ d1 d2 d3 d4
      unfold tx_all
      rw [show tx_part (lx_T b z) (lx_V b z) 0 0 = (n1, some w0) from hm0]
      show tx_then (tx_part (lx_T b z) (lx_V b z) 1 n1) _ = _
      rw [show tx_part (lx_T b z) (lx_V b z) 1 n1 = (n2, some w1) from hm1]
      show tx_then (tx_part (lx_T b z) (lx_V b z) 2 n2) _ = _
      rw [show tx_part (lx_T b z) (lx_V b z) 2 n2 = (m, none) from hm]
      rfl
    have c2 := (tx_part_ok (P := lx_P b z) lx_P_1 (fun n h => (lx_V_b h).1) (by omega) hm2).2
    have hall2 : tx_all (lx_T b z) (lx_V b z) = if lx_T b z n3 = 0 then (n3, some (w0, w1, w2)) else (n3, none) := by
      unfold tx_all
      rw [show tx_part (lx_T b z) (lx_V b z) 0 0 = (n1, some w0) from hm0]
      show tx_then (tx_part (lx_T b z) (lx_V b z) 1 n1) _ = _
      rw [show tx_part (lx_T b z) (lx_V b z) 1 n1 = (n2, some w1) from hm1]
      show tx_then (tx_part (lx_T b z) (lx_V b z) 2 n2) _ = _
      rw [show tx_part (lx_T b z) (lx_V b z) 2 n2 = (n3, some w2) from hm2]
      rfl
    rw [List.nil_append] at b4 d4 d5
    rw [List.append_assoc] at d5
    refine tailS n3 (w0 ++ (w1 ++ w2)) g3 N3 d1 d2 d5 (by rw [List.length_append, List.length_append]; omega) d6 (fun h => by rw [hall2, if_neg h]) (fun h => ⟨w0, w1, w2, by rw [hall2, if_pos h], rfl, ?_, ?_, ?_⟩)
    · exact (d3 0 (by omega)).trans ((b3 0 (by omega)).trans a4)
    · exact (d3 1 (by omega)).trans b4
    · exact d4
  refine hR _ (hR _ (hR _ (hR _ (am_brc (rg := am_in (M 430 0 0) ∧ am_in 6) (P := M 430 0 0 ≠ 6) (A := R (12, [some (aR 8 0), none, none], [], M)) (B := R (9, [some (aR 8 0), none, none], [], M)) (by omega) (fun c6 => ?_) (fun c6 => ?_)))))
  · refine hR _ (hR _ (hR _ (hR _ (hR _ (hR _ (hR _ (hR _ (hR _ (hR _ (?_))))))))))
    show R (26, [some (aR 8 0), some (aI 1), some (aI 0)], [], am_wr (am_wr M 440 0 0 0) 448 0 0 0)
    have e9 : am_ag mo_SR M (am_wr (am_wr M 440 0 0 0) 448 0 0 0) := (am_ag.rf.wr rfl).wr rfl
    have hs : mo_ho M (am_wr (am_wr M 440 0 0 0) 448 0 0 0) t [] := ⟨am_wr_eq, fun j hj => absurd hj (Nat.not_lt_zero j), fun _ _ => rfl⟩
    have h4 : (am_wr (am_wr M 440 0 0 0) 448 0 0 0) 440 0 0 = 0 := (am_wr_ne (Or.inl (by decide))).trans am_wr_eq
    rw [e9.eq] at hs h4 ⊢
    exact hall _ hs h4
  · refine hR _ (?_)
    show R (11, [some (aR 8 0), none, none], [aI (-4)], M)
    refine hR _ (show K (some (aI (-4))) M from ?_)
    exact absurd (by omega) h6
