/-! wb -/
variable {wb : Bool}
/-! The tape: reading a text -/
theorem cr_tok {d : Nat} (hd : 7 ≤ d) {b : Nat → Int} {z t : Nat} {M : am_M} {n : Nat} {l : List Int} {g : am_M} {K : am_K} (hz : M 301 0 0 = (z : Int)) (hz2 : z ≤ 160) (hb : M 20 0 = b) (hby : lx_by_ok b z) (ht : t < 6) (hs : cr_s b z M (am_mix cr_S g M) t n l) (h : ∀ g, cr_s b z M (am_mix cr_S g M) t (n + 1) l → K none (am_mix cr_S g M)) : am_Call wb d 14 [aR 5 0] (am_mix cr_S g M) K := by
  subst hb
  refine sp_readToken (p := lx_P (M 20 0) z (n + 1)) (z := z) hd hz hz2 hby hs.1.2.2.1 (lx_P_b _ _ _) (fun g2 h2 => ?_)
  have h3 : cr_s (M 20 0) z M (am_mix [302, 303, 304, 305] g2 (am_mix cr_S g M)) t (n + 1) l := cr_s_t hs rfl rfl rfl h2
  have e9 : am_ag cr_S M (am_mix [302, 303, 304, 305] g2 (am_mix cr_S g M)) := (am_ag.rf.mix rfl).mix rfl
  rw [e9.eq] at h3 ⊢
  exact h _ h3

theorem cr_put {d : Nat} (hd : 1 ≤ d) {b : Nat → Int} {z t : Nat} {n : Nat} {l : List Int} {s v : Int} {g : am_M} {M : am_M} {K : am_K} (ht : t < 6) (hs : cr_s b z M (am_mix cr_S g M) t n l) (hl : l.length < 160) (hsv : jf_sv s v) (h : ∀ g, cr_s b z M (am_mix cr_S g M) t n (l ++ [jf_cv s v]) → K none (am_mix cr_S g M)) : am_Call wb d 25 [aR 6 t, aI s, aI v] (am_mix cr_S g M) K := by
  obtain ⟨d, rfl⟩ : ∃ e, d = e + 1 := ⟨d - 1, by omega⟩
  refine ⟨rfl, fun R hR hC => ?_⟩
  replace hR : ∀ c, am_F wb tb_f25 0 (am_Call wb d) K R c → R c := hR
  have hq : g 345 t 0 = (l.length : Int) := hs.2.1.1
  show R (0, [some (aR 6 t), some (aI s), some (aI v)], [], (am_mix cr_S g M))
  refine hR _ (?_)
  show R (1, [some (aR 6 t), some (aI s), some (aI v)], [aR 6 t], am_mix cr_S g M)
  refine hR _ (am_ct (am_vi (by omega : t < 6)) ?_)
  show R (4, [some (aR 6 t), some (aI s), some (aI v)], [aI (g 345 t 0)], am_mix cr_S g M)
  refine hR _ (hR _ (am_brc (rg := am_in (g 345 t 0) ∧ am_in 160) (P := g 345 t 0 < 160) (A := R (11, [some (aR 6 t), some (aI s), some (aI v)], [], am_mix cr_S g M)) (B := R (10, [some (aR 6 t), some (aI s), some (aI v)], [], am_mix cr_S g M)) (by omega) (fun c7 => ?_) (fun c7 => ?_)))
  · refine hR _ (?_)
    show R (12, [some (aR 6 t), some (aI s), some (aI v)], [aR 6 t], am_mix cr_S g M)
    refine hR _ (am_ct (am_vi (by omega : t < 6)) ?_)
    show R (15, [some (aR 6 t), some (aI s), some (aI v)], [aR 15 t], am_mix cr_S g M)
    refine hR _ (?_)
    show R (16, [some (aR 6 t), some (aI s), some (aI v)], [aR 6 t, aR 15 t], am_mix cr_S g M)
    refine hR _ (am_ct (am_vi (by omega : t < 6)) ?_)
    show R (19, [some (aR 6 t), some (aI s), some (aI v)], [aI (g 345 t 0), aR 15 t], am_mix cr_S g M)
    refine hR _ (?_)
    show R (20, [some (aR 6 t), some (aI s), some (aI v)], [aI s, aI (g 345 t 0), aR 15 t], am_mix cr_S g M)
    refine hR _ (am_ct (am_vi (by omega : t < 6)) ⟨(show 0 ≤ (g 345 t 0 : Int) ∧ (g 345 t 0 : Int) < 160 from (by omega)), ?_⟩)
    show R (21, [some (aR 6 t), some (aI s), some (aI v)], [], am_wr (am_mix cr_S g M) 15 t ((g 345 t 0).toNat) s)
    refine hR _ (?_)
    show R (22, [some (aR 6 t), some (aI s), some (aI v)], [aR 6 t], am_wr (am_mix cr_S g M) 15 t ((g 345 t 0).toNat) s)
    refine hR _ (am_ct (am_vi (by omega : t < 6)) ?_)
    show R (25, [some (aR 6 t), some (aI s), some (aI v)], [aR 16 t], am_wr (am_mix cr_S g M) 15 t ((g 345 t 0).toNat) s)
    refine hR _ (?_)
    show R (26, [some (aR 6 t), some (aI s), some (aI v)], [aR 6 t, aR 16 t], am_wr (am_mix cr_S g M) 15 t ((g 345 t 0).toNat) s)
    refine hR _ (am_ct (am_vi (by omega : t < 6)) ?_)
    show R (29, [some (aR 6 t), some (aI s), some (aI v)], [aI (g 345 t 0), aR 16 t], am_wr (am_mix cr_S g M) 15 t ((g 345 t 0).toNat) s)
    refine hR _ (?_)
    show R (30, [some (aR 6 t), some (aI s), some (aI v)], [aI v, aI (g 345 t 0), aR 16 t], am_wr (am_mix cr_S g M) 15 t ((g 345 t 0).toNat) s)
    refine hR _ (am_ct (am_vi (by omega : t < 6)) ⟨(show 0 ≤ (g 345 t 0 : Int) ∧ (g 345 t 0 : Int) < 160 from (by omega)), ?_⟩)
    show R (31, [some (aR 6 t), some (aI s), some (aI v)], [], am_wr (am_wr (am_mix cr_S g M) 15 t ((g 345 t 0).toNat) s) 16 t ((g 345 t 0).toNat) v)
    refine hR _ (hR _ (?_))
    show R (33, [some (aR 6 t), some (aI s), some (aI v)], [aR 6 t, aR 6 t], am_wr (am_wr (am_mix cr_S g M) 15 t ((g 345 t 0).toNat) s) 16 t ((g 345 t 0).toNat) v)
    refine hR _ (am_ct (am_vi (by omega : t < 6)) ?_)
    show R (36, [some (aR 6 t), some (aI s), some (aI v)], [aI (g 345 t 0), aR 6 t], am_wr (am_wr (am_mix cr_S g M) 15 t ((g 345 t 0).toNat) s) 16 t ((g 345 t 0).toNat) v)
    refine hR _ (hR _ (?_))
    show R (38, [some (aR 6 t), some (aI s), some (aI v)], [aI (g 345 t 0 + 1), aR 6 t], am_wr (am_wr (am_mix cr_S g M) 15 t ((g 345 t 0).toNat) s) 16 t ((g 345 t 0).toNat) v)
    refine hR _ (am_ct (am_vi (by omega : t < 6)) ?_)
    show R (41, [some (aR 6 t), some (aI s), some (aI v)], [], am_wr (am_wr (am_wr (am_mix cr_S g M) 15 t ((g 345 t 0).toNat) s) 16 t ((g 345 t 0).toNat) v) 345 t 0 (g 345 t 0 + 1))
    refine hR _ (show K none (am_wr (am_wr (am_wr (am_mix cr_S g M) 15 t ((g 345 t 0).toNat) s) 16 t ((g 345 t 0).toNat) v) 345 t 0 (g 345 t 0 + 1)) from ?_)
    have hsz : (g 345 t 0).toNat = l.length := by omega
    have e9 : am_ag cr_S M (am_wr (am_wr (am_wr (am_mix cr_S g M) 15 t ((g 345 t 0).toNat) s) 16 t ((g 345 t 0).toNat) v) 345 t 0 (g 345 t 0 + 1)) := (((am_ag.rf.mix rfl).wr rfl).wr rfl).wr rfl
    refine am_fin (S := cr_S) (F := fun m => cr_s b z M m t n (l ++ [jf_cv s v])) e9 ⟨hs.1, ⟨?_, ?_⟩, ?_⟩ h
    · refine am_wr_eq.trans ?_
      rw [List.length_append, List.length_singleton]
      omega
    · intro j hj
      rw [List.length_append, List.length_singleton] at hj
      rw [show ∀ (m : am_M) (x : Int), am_wr m 345 t 0 x 15 t j = m 15 t j from fun m x => am_wr_ne (Or.inl (by decide)), show ∀ (m : am_M) (x : Int), am_wr m 345 t 0 x 16 t j = m 16 t j from fun m x => am_wr_ne (Or.inl (by decide))]
      rw [show ∀ (m : am_M) (i : Nat) (x : Int), am_wr m 16 t i x 15 t j = m 15 t j from fun m i x => am_wr_ne (Or.inl (by decide)), hsz]
      by_cases e : j = l.length
      · subst e
        rw [am_wr_eq, am_wr_eq]
        refine ⟨?_, hsv⟩
        simp
      · have h9 := hs.2.1.2 j (by omega)
        rw [am_wr_ne (Or.inr (Or.inr e)), am_wr_ne (Or.inr (Or.inr e))]
        rw [am_wr_ne (Or.inl (by decide))]
        refine ⟨h9.1.trans ?_, h9.2⟩
        rw [List.getD_eq_getElem?_getD, List.getD_eq_getElem?_getD, List.getElem?_append_left (by omega)]
    · intro i hi
      have h9 := hs.2.2 i hi
      refine ⟨Eq.trans (funext fun j => ?_) h9.1, Eq.trans (funext fun j => ?_) h9.2⟩
      · exact (am_wr_ne (Or.inl (by decide))).trans ((am_wr_ne (Or.inl (by decide))).trans (am_wr_ne (Or.inr (Or.inl hi))))
      · exact (am_wr_ne (Or.inl (by decide))).trans ((am_wr_ne (Or.inr (Or.inl hi))).trans (am_wr_ne (Or.inl (by decide))))
  · refine hR _ (show K none (am_mix cr_S g M) from ?_)
    exact absurd hl (by omega)

/-- a method that reads f -/
def cr_p (wb : Bool) (id rank : Nat) (b : Nat → Int) (z t : Nat) (M : am_M) (f : Nat → rd_R) (o : Int) : Prop := ∀ ⦃d : Nat⦄, rank ≤ d → ∀ ⦃n : Nat⦄ ⦃l : List Int⦄ ⦃g : am_M⦄ ⦃K : am_K⦄, cr_s b z M (am_mix cr_S g M) t n l → l.length ≤ lx_P b z n → (∀ g m, f n = (m, none) → lx_st b z (am_mix cr_S g M) m → jf_oth M (am_mix cr_S g M) t → K (some (aI 0)) (am_mix cr_S g M)) → (∀ g m w, f n = (m, some w) → cr_s b z M (am_mix cr_S g M) t m (l ++ w) → K (some (aI 1)) (am_mix cr_S g M)) → am_Call wb d id [aR 5 0, aR 6 t, aI o] (am_mix cr_S g M) K
theorem cr_len {b : Nat → Int} {z m n k : Nat} {l w : List Int} (h : l.length + k ≤ lx_P b z n) (h2 : lx_P b z n + w.length ≤ lx_P b z m) : (l ++ w).length + k ≤ lx_P b z m := by
  rw [List.length_append]
  omega
theorem cr_len1 {l : List Int} {c : Int} {k p : Nat} (h : l.length + (k + 1) ≤ p) : (l ++ [c]).length + k ≤ p := by
  rw [List.length_append, List.length_singleton]
  omega
theorem cr_le0 {b : Nat → Int} {z n k : Nat} {l : List Int} (h : l.length + k ≤ lx_P b z n) : l.length + k ≤ lx_P b z (n + 1) := by
  have := (lx_e_b (b := b) (lx_P_b b z n)).1
  exact Nat.le_trans h this
theorem cr_lt0 {b : Nat → Int} {z n k : Nat} {l : List Int} (h : l.length + k ≤ lx_P b z n) (hT : lx_T b z n ≠ 0) : l.length + (k + 1) ≤ lx_P b z (n + 1) := by
  have := lx_P_1 (b := b) (z := z) n hT
  omega

set_option maxHeartbeats 1000000 in
theorem cr_opn {b : Nat → Int} {z t : Nat} {M : am_M} {x : Nat → Nat → rd_R} {k : Nat} {o : Int} (hoo : 0 ≤ o ∧ o ≤ 5) (hz : M 301 0 0 = (z : Int)) (hz2 : z ≤ 160) (hb : M 20 0 = b) (hby : lx_by_ok b z) (ht : t < 6) (hk : 7 ≤ k) (h0 : cr_p wb 28 k b z t M (x 0) o) (h2 : cr_p wb 22 k b z t M (x 2) o) (mo0 : rd_mo (lx_P b z) (x 0)) (mo2 : rd_mo (lx_P b z) (x 2)) : cr_p wb 29 (k + 1) b z t M (rd_opn (lx_T b z) x) o := by
  intro d hd n l g K hs hl0 hfl hok
  have hl : l.length + 0 ≤ lx_P b z n := hl0
  have hTn := lx_T_b b z n
  obtain ⟨d, rfl⟩ : ∃ e, d = e + 1 := ⟨d - 1, by omega⟩
  refine ⟨rfl, fun R hR hC => ?_⟩
  replace hR : ∀ c, am_F wb tb_f29 2 (am_Call wb d) K R c → R c := hR
  show R (0, [some (aR 5 0), some (aR 6 t), some (aI o), none], [], am_mix cr_S g M)
  refine hR _ (hR _ (?_))
  show R (4, [some (aR 5 0), some (aR 6 t), some (aI o), none], [aI (g 303 0 0)], am_mix cr_S g M)
  rw [(show g 303 0 0 = lx_T b z n from hs.1.1)]
  show R (4, [some (aR 5 0), some (aR 6 t), some (aI o), none], [aI (lx_T b z n)], am_mix cr_S g M)
  refine hR _ (hR _ (am_brc (rg := am_in (lx_T b z n) ∧ am_in 45) (P := (lx_T b z n) ≠ 45) (A := R (13, [some (aR 5 0), some (aR 6 t), some (aI o), none], [], am_mix cr_S g M)) (B := R (9, [some (aR 5 0), some (aR 6 t), some (aI o), none], [], am_mix cr_S g M)) (by omega) (fun c6 => ?_) (fun c6 => ?_)))
  · refine hR _ (hR _ (hR _ (?_)))
    show R (16, [some (aR 5 0), some (aR 6 t), some (aI o), some (aI 0)], [aR 5 0], am_mix cr_S g M)
    refine hR _ (cr_tok (by omega) hz hz2 hb hby ht hs (fun g1 hs2 => ?_))
    have hl3 : (l).length + 0 ≤ lx_P b z (n + 1) := cr_le0 hl
    have hT4 := lx_T_b b z (n + 1)
    show R (19, [some (aR 5 0), some (aR 6 t), some (aI o), some (aI 0)], [], am_mix cr_S g1 M)
    refine hR _ (hR _ (am_brt (rg := am_in 0) (P := (0 : Int) = 0) (A := R (43, [some (aR 5 0), some (aR 6 t), some (aI o), some (aI 0)], [], am_mix cr_S g1 M)) (B := R (23, [some (aR 5 0), some (aR 6 t), some (aI o), some (aI 0)], [], am_mix cr_S g1 M)) (by omega) (by omega) ?_))
    show R (43, [some (aR 5 0), some (aR 6 t), some (aI o), some (aI 0)], [], am_mix cr_S g1 M)
    refine hR _ (hR _ (hR _ (?_)))
    show R (46, [some (aR 5 0), some (aR 6 t), some (aI o), some (aI 0)], [aI o, aR 6 t, aR 5 0], am_mix cr_S g1 M)
    refine hR _ (h2 (by omega) hs2 (by omega) (fun g11 m12 e13 hs14 ho => ?_) (fun g5 m9 w10 e8 hs6 => ?_))
    · show R (49, [some (aR 5 0), some (aR 6 t), some (aI o), some (aI 0)], [aI 0], am_mix cr_S g11 M)
      refine hR _ (am_brt (rg := am_in 0) (P := (0 : Int) = 0) (A := R (61, [some (aR 5 0), some (aR 6 t), some (aI o), some (aI 0)], [], am_mix cr_S g11 M)) (B := R (52, [some (aR 5 0), some (aR 6 t), some (aI o), some (aI 0)], [], am_mix cr_S g11 M)) (by omega) (by omega) ?_)
      show R (61, [some (aR 5 0), some (aR 6 t), some (aI o), some (aI 0)], [], am_mix cr_S g11 M)
      refine hR _ (?_)
      show R (62, [some (aR 5 0), some (aR 6 t), some (aI o), some (aI 0)], [aI 0], am_mix cr_S g11 M)
      refine hR _ (show ((0 : Int) = 0 ∨ (0 : Int) = 1) ∧ K (some (aI 0)) (am_mix cr_S g11 M) from ?_)
      refine ⟨by omega, hfl _ _ (by
        unfold rd_opn
        repeat (first | rw [if_pos (by omega)] | rw [if_neg (by omega)] | rw [e13] | (simp only [rd_then]))
        ) hs14 ho⟩
    · have hl7 : (l ++ w10).length + 0 ≤ lx_P b z m9 := cr_len hl3 (mo2 _ _ _ e8)
      have hT15 := lx_T_b b z m9
      show R (49, [some (aR 5 0), some (aR 6 t), some (aI o), some (aI 0)], [aI 1], am_mix cr_S g5 M)
      refine hR _ (am_brf (rg := am_in 1) (P := (1 : Int) = 0) (A := R (61, [some (aR 5 0), some (aR 6 t), some (aI o), some (aI 0)], [], am_mix cr_S g5 M)) (B := R (52, [some (aR 5 0), some (aR 6 t), some (aI o), some (aI 0)], [], am_mix cr_S g5 M)) (by omega) (by omega) ?_)
      show R (52, [some (aR 5 0), some (aR 6 t), some (aI o), some (aI 0)], [], am_mix cr_S g5 M)
      refine hR _ (hR _ (?_))
      show R (56, [some (aR 5 0), some (aR 6 t), some (aI o), some (aI 0)], [aI (g5 303 0 0)], am_mix cr_S g5 M)
      rw [(show g5 303 0 0 = lx_T b z m9 from hs6.1.1)]
      show R (56, [some (aR 5 0), some (aR 6 t), some (aI o), some (aI 0)], [aI (lx_T b z m9)], am_mix cr_S g5 M)
      refine hR _ (hR _ (am_brc (rg := am_in (lx_T b z m9) ∧ am_in 41) (P := (lx_T b z m9) = 41) (A := R (63, [some (aR 5 0), some (aR 6 t), some (aI o), some (aI 0)], [], am_mix cr_S g5 M)) (B := R (61, [some (aR 5 0), some (aR 6 t), some (aI o), some (aI 0)], [], am_mix cr_S g5 M)) (by omega) (fun c58 => ?_) (fun c58 => ?_)))
      · refine hR _ (?_)
        show R (64, [some (aR 5 0), some (aR 6 t), some (aI o), some (aI 0)], [aR 5 0], am_mix cr_S g5 M)
        refine hR _ (cr_tok (by omega) hz hz2 hb hby ht hs6 (fun g16 hs17 => ?_))
        have hl18 : ((l ++ w10)).length + 1 ≤ lx_P b z (m9 + 1) := cr_lt0 hl7 (by omega)
        have hT19 := lx_T_b b z (m9 + 1)
        show R (67, [some (aR 5 0), some (aR 6 t), some (aI o), some (aI 0)], [], am_mix cr_S g16 M)
        refine hR _ (?_)
        show R (68, [some (aR 5 0), some (aR 6 t), some (aI o), some (aI 0)], [aI 1], am_mix cr_S g16 M)
        refine hR _ (show ((1 : Int) = 0 ∨ (1 : Int) = 1) ∧ K (some (aI 1)) (am_mix cr_S g16 M) from ?_)
        refine ⟨by omega, hok _ (m9 + 1) w10 (by
          unfold rd_opn
          repeat (first | rw [if_pos (by omega)] | rw [if_neg (by omega)] | rw [e8] | (simp only [rd_then]))
          try rfl
          ) (by first | exact hs17 | (simp only [← List.append_assoc]; exact hs17))⟩
      · refine hR _ (?_)
        show R (62, [some (aR 5 0), some (aR 6 t), some (aI o), some (aI 0)], [aI 0], am_mix cr_S g5 M)
        refine hR _ (show ((0 : Int) = 0 ∨ (0 : Int) = 1) ∧ K (some (aI 0)) (am_mix cr_S g5 M) from ?_)
        refine ⟨by omega, hfl _ _ (by
          unfold rd_opn
          repeat (first | rw [if_pos (by omega)] | rw [if_neg (by omega)] | rw [e8] | (simp only [rd_then]))
          ) hs6.1 hs6.2.2⟩
  · refine hR _ (hR _ (hR _ (hR _ (?_))))
    show R (16, [some (aR 5 0), some (aR 6 t), some (aI o), some (aI 1)], [aR 5 0], am_mix cr_S g M)
    refine hR _ (cr_tok (by omega) hz hz2 hb hby ht hs (fun g20 hs21 => ?_))
    have hl22 : (l).length + 1 ≤ lx_P b z (n + 1) := cr_lt0 hl (by omega)
    have hT23 := lx_T_b b z (n + 1)
    show R (19, [some (aR 5 0), some (aR 6 t), some (aI o), some (aI 1)], [], am_mix cr_S g20 M)
    refine hR _ (hR _ (am_brf (rg := am_in 1) (P := (1 : Int) = 0) (A := R (43, [some (aR 5 0), some (aR 6 t), some (aI o), some (aI 1)], [], am_mix cr_S g20 M)) (B := R (23, [some (aR 5 0), some (aR 6 t), some (aI o), some (aI 1)], [], am_mix cr_S g20 M)) (by omega) (by omega) ?_))
    show R (23, [some (aR 5 0), some (aR 6 t), some (aI o), some (aI 1)], [], am_mix cr_S g20 M)
    refine hR _ (hR _ (hR _ (?_)))
    show R (26, [some (aR 5 0), some (aR 6 t), some (aI o), some (aI 1)], [aI o, aR 6 t, aR 5 0], am_mix cr_S g20 M)
    refine hR _ (h0 (by omega) hs21 (by omega) (fun g30 m31 e32 hs33 ho => ?_) (fun g24 m28 w29 e27 hs25 => ?_))
    · show R (29, [some (aR 5 0), some (aR 6 t), some (aI o), some (aI 1)], [aI 0], am_mix cr_S g30 M)
      refine hR _ (am_brf (rg := am_in 0) (P := (0 : Int) ≠ 0) (A := R (34, [some (aR 5 0), some (aR 6 t), some (aI o), some (aI 1)], [], am_mix cr_S g30 M)) (B := R (32, [some (aR 5 0), some (aR 6 t), some (aI o), some (aI 1)], [], am_mix cr_S g30 M)) (by omega) (by omega) ?_)
      show R (32, [some (aR 5 0), some (aR 6 t), some (aI o), some (aI 1)], [], am_mix cr_S g30 M)
      refine hR _ (?_)
      show R (33, [some (aR 5 0), some (aR 6 t), some (aI o), some (aI 1)], [aI 0], am_mix cr_S g30 M)
      refine hR _ (show ((0 : Int) = 0 ∨ (0 : Int) = 1) ∧ K (some (aI 0)) (am_mix cr_S g30 M) from ?_)
      refine ⟨by omega, hfl _ _ (by
        unfold rd_opn
        repeat (first | rw [if_pos (by omega)] | rw [if_neg (by omega)] | rw [e32] | (simp only [rd_then]))
        ) hs33 ho⟩
    · have hl26 : (l ++ w29).length + 1 ≤ lx_P b z m28 := cr_len hl22 (mo0 _ _ _ e27)
      have hT34 := lx_T_b b z m28
      show R (29, [some (aR 5 0), some (aR 6 t), some (aI o), some (aI 1)], [aI 1], am_mix cr_S g24 M)
      refine hR _ (am_brt (rg := am_in 1) (P := (1 : Int) ≠ 0) (A := R (34, [some (aR 5 0), some (aR 6 t), some (aI o), some (aI 1)], [], am_mix cr_S g24 M)) (B := R (32, [some (aR 5 0), some (aR 6 t), some (aI o), some (aI 1)], [], am_mix cr_S g24 M)) (by omega) (by omega) ?_)
      show R (34, [some (aR 5 0), some (aR 6 t), some (aI o), some (aI 1)], [], am_mix cr_S g24 M)
      refine hR _ (hR _ (hR _ (?_)))
      show R (38, [some (aR 5 0), some (aR 6 t), some (aI o), some (aI 1)], [aI 0, aI 16, aR 6 t], am_mix cr_S g24 M)
      refine hR _ (am_ct (am_vi (by omega : t < 6)) (cr_put (s := 16) (v := 0) (by omega) ht hs25 (by have := lx_P_b b z m28; have := lx_P_b b z (m28 + 1); have := lx_P_1 (b := b) (z := z) m28; omega) (by unfold jf_sv; omega) (fun g35 hs36 => ?_)))
      have hl37 : (((l ++ w29) ++ [jf_cv 16 0])).length + 0 ≤ lx_P b z m28 := cr_len1 hl26
      show R (41, [some (aR 5 0), some (aR 6 t), some (aI o), some (aI 1)], [], am_mix cr_S g35 M)
      refine hR _ (?_)
      show R (42, [some (aR 5 0), some (aR 6 t), some (aI o), some (aI 1)], [aI 1], am_mix cr_S g35 M)
      refine hR _ (show ((1 : Int) = 0 ∨ (1 : Int) = 1) ∧ K (some (aI 1)) (am_mix cr_S g35 M) from ?_)
      refine ⟨by omega, hok _ m28 (w29 ++ [jf_cv 16 0]) (by
        unfold rd_opn
        repeat (first | rw [if_pos (by omega)] | rw [if_neg (by omega)] | rw [e27] | (simp only [rd_then]))
        try rfl
        ) (by first | exact hs36 | (simp only [← List.append_assoc]; exact hs36))⟩

theorem rd_opn_mo {b : Nat → Int} {z : Nat} {x : Nat → Nat → rd_R} (mo0 : rd_mo (lx_P b z) (x 0)) (mo2 : rd_mo (lx_P b z) (x 2)) : rd_mo (lx_P b z) (rd_opn (lx_T b z) x) := by
  intro n m w h
  have h1 := (lx_e_b (b := b) (lx_P_b b z n)).1
  unfold rd_opn at h
  by_cases h2 : lx_T b z n = 45
  · rw [if_pos h2] at h
    obtain ⟨m1, w1, h3, h4⟩ := rd_then_some h
    cases h4
    have := mo0 _ _ _ h3
    have := lx_P_1 (b := b) (z := z) n (by omega)
    rw [List.length_append, List.length_singleton]
    omega
  · rw [if_neg h2] at h
    obtain ⟨m1, w1, h3, h4⟩ := rd_then_some h
    have := mo2 _ _ _ h3
    by_cases h5 : lx_T b z m1 = 41
    · rw [if_pos h5] at h4
      cases h4
      have := lx_P_1 (b := b) (z := z) m1 (by omega)
      have e : lx_P b z (n + 1) = lx_e b z (lx_P b z n) := rfl
      omega
    · rw [if_neg h5] at h4
      cases h4

set_option maxHeartbeats 1000000 in
theorem cr_one0 {b : Nat → Int} {z t : Nat} {M : am_M}  {o : Int} (hoo : 0 ≤ o ∧ o ≤ 5) (hz : M 301 0 0 = (z : Int)) (hz2 : z ≤ 160) (hb : M 20 0 = b) (hby : lx_by_ok b z) (ht : t < 6) (ho5 : o = 5) : cr_p wb 28 8 b z t M (rd_one (lx_T b z) (lx_V b z) none) o := by
  intro d hd n l g K hs hl0 hfl hok
  have hl : l.length + 0 ≤ lx_P b z n := hl0
  have hTn := lx_T_b b z n
  obtain ⟨d, rfl⟩ : ∃ e, d = e + 1 := ⟨d - 1, by omega⟩
  refine ⟨rfl, fun R hR hC => ?_⟩
  replace hR : ∀ c, am_F wb tb_f28 2 (am_Call wb d) K R c → R c := hR
  show R (0, [some (aR 5 0), some (aR 6 t), some (aI o)], [], am_mix cr_S g M)
  refine hR _ (hR _ (?_))
  show R (4, [some (aR 5 0), some (aR 6 t), some (aI o)], [aI (g 303 0 0)], am_mix cr_S g M)
  rw [(show g 303 0 0 = lx_T b z n from hs.1.1)]
  show R (4, [some (aR 5 0), some (aR 6 t), some (aI o)], [aI (lx_T b z n)], am_mix cr_S g M)
  refine hR _ (hR _ (am_brc (rg := am_in (lx_T b z n) ∧ am_in 40) (P := (lx_T b z n) = 40) (A := R (18, [some (aR 5 0), some (aR 6 t), some (aI o)], [], am_mix cr_S g M)) (B := R (9, [some (aR 5 0), some (aR 6 t), some (aI o)], [], am_mix cr_S g M)) (by omega) (fun c6 => ?_) (fun c6 => ?_)))
  · refine hR _ (hR _ (hR _ (am_brt (rg := am_in o ∧ am_in 5) (P := 5 ≤ o) (A := R (38, [some (aR 5 0), some (aR 6 t), some (aI o)], [], am_mix cr_S g M)) (B := R (23, [some (aR 5 0), some (aR 6 t), some (aI o)], [], am_mix cr_S g M)) (by omega) (by omega) ?_)))
    show R (38, [some (aR 5 0), some (aR 6 t), some (aI o)], [], am_mix cr_S g M)
    refine hR _ (?_)
    show R (39, [some (aR 5 0), some (aR 6 t), some (aI o)], [aI 0], am_mix cr_S g M)
    refine hR _ (show ((0 : Int) = 0 ∨ (0 : Int) = 1) ∧ K (some (aI 0)) (am_mix cr_S g M) from ?_)
    refine ⟨by omega, hfl _ _ (by
      unfold rd_one
      repeat (first | rw [if_pos (by omega)] | rw [if_neg (by omega)] | (simp only [rd_then]))
      ) hs.1 hs.2.2⟩
  · refine hR _ (hR _ (?_))
    show R (13, [some (aR 5 0), some (aR 6 t), some (aI o)], [aI (g 303 0 0)], am_mix cr_S g M)
    rw [(show g 303 0 0 = lx_T b z n from hs.1.1)]
    show R (13, [some (aR 5 0), some (aR 6 t), some (aI o)], [aI (lx_T b z n)], am_mix cr_S g M)
    refine hR _ (hR _ (am_brc (rg := am_in (lx_T b z n) ∧ am_in 45) (P := (lx_T b z n) ≠ 45) (A := R (40, [some (aR 5 0), some (aR 6 t), some (aI o)], [], am_mix cr_S g M)) (B := R (18, [some (aR 5 0), some (aR 6 t), some (aI o)], [], am_mix cr_S g M)) (by omega) (fun c15 => ?_) (fun c15 => ?_)))
    · refine hR _ (hR _ (?_))
      show R (44, [some (aR 5 0), some (aR 6 t), some (aI o)], [aI (g 303 0 0)], am_mix cr_S g M)
      rw [(show g 303 0 0 = lx_T b z n from hs.1.1)]
      show R (44, [some (aR 5 0), some (aR 6 t), some (aI o)], [aI (lx_T b z n)], am_mix cr_S g M)
      refine hR _ (hR _ (am_brc (rg := am_in (lx_T b z n) ∧ am_in 2) (P := (lx_T b z n) ≠ 2) (A := R (60, [some (aR 5 0), some (aR 6 t), some (aI o)], [], am_mix cr_S g M)) (B := R (48, [some (aR 5 0), some (aR 6 t), some (aI o)], [], am_mix cr_S g M)) (by omega) (fun c45 => ?_) (fun c45 => ?_)))
      · refine hR _ (hR _ (?_))
        show R (64, [some (aR 5 0), some (aR 6 t), some (aI o)], [aI (g 303 0 0)], am_mix cr_S g M)
        rw [(show g 303 0 0 = lx_T b z n from hs.1.1)]
        show R (64, [some (aR 5 0), some (aR 6 t), some (aI o)], [aI (lx_T b z n)], am_mix cr_S g M)
        refine hR _ (hR _ (?_))
        show R (68, [some (aR 5 0), some (aR 6 t), some (aI o)], [aI 15, aI 10, aI (lx_T b z n)], am_mix cr_S g M)
        refine hR _ (sp_within (by omega) (by omega) (fun h68 => ?_) (fun h68 => ?_))
        · show R (71, [some (aR 5 0), some (aR 6 t), some (aI o)], [aI 1], am_mix cr_S g M)
          refine hR _ (am_brf (rg := am_in 1) (P := (1 : Int) = 0) (A := R (90, [some (aR 5 0), some (aR 6 t), some (aI o)], [], am_mix cr_S g M)) (B := R (74, [some (aR 5 0), some (aR 6 t), some (aI o)], [], am_mix cr_S g M)) (by omega) (by omega) ?_)
          show R (74, [some (aR 5 0), some (aR 6 t), some (aI o)], [], am_mix cr_S g M)
          refine hR _ (hR _ (hR _ (hR _ (?_))))
          show R (81, [some (aR 5 0), some (aR 6 t), some (aI o)], [aI (g 303 0 0), aI 9, aR 6 t], am_mix cr_S g M)
          rw [(show g 303 0 0 = lx_T b z n from hs.1.1)]
          show R (81, [some (aR 5 0), some (aR 6 t), some (aI o)], [aI (lx_T b z n), aI 9, aR 6 t], am_mix cr_S g M)
          refine hR _ (hR _ (?_))
          show R (84, [some (aR 5 0), some (aR 6 t), some (aI o)], [aI ((lx_T b z n) - 10), aI 9, aR 6 t], am_mix cr_S g M)
          refine hR _ (am_ct (am_vi (by omega : t < 6)) (cr_put (s := 9) (v := ((lx_T b z n) - 10)) (by omega) ht hs (by have := lx_P_b b z n; have := lx_P_b b z (n + 1); have := lx_P_1 (b := b) (z := z) n; omega) (by unfold jf_sv; omega) (fun g38 hs39 => ?_)))
          have hl40 : ((l ++ [jf_cv 9 ((lx_T b z n) - 10)])).length + 0 ≤ lx_P b z (n + 1) := cr_len1 (cr_lt0 hl (by omega))
          show R (87, [some (aR 5 0), some (aR 6 t), some (aI o)], [], am_mix cr_S g38 M)
          refine hR _ (hR _ (?_))
          show R (93, [some (aR 5 0), some (aR 6 t), some (aI o)], [aR 5 0], am_mix cr_S g38 M)
          refine hR _ (cr_tok (by omega) hz hz2 hb hby ht hs39 (fun g41 hs42 => ?_))
          show R (96, [some (aR 5 0), some (aR 6 t), some (aI o)], [], am_mix cr_S g41 M)
          refine hR _ (?_)
          show R (97, [some (aR 5 0), some (aR 6 t), some (aI o)], [aI 1], am_mix cr_S g41 M)
          refine hR _ (show ((1 : Int) = 0 ∨ (1 : Int) = 1) ∧ K (some (aI 1)) (am_mix cr_S g41 M) from ?_)
          refine ⟨by omega, hok _ (n + 1) [jf_cv 9 ((lx_T b z n) - 10)] (by
            unfold rd_one
            repeat (first | rw [if_pos (by omega)] | rw [if_neg (by omega)] | (simp only [rd_then]))
            try rfl
            ) (by first | exact hs42 | (simp only [← List.append_assoc]; exact hs42))⟩
        · show R (71, [some (aR 5 0), some (aR 6 t), some (aI o)], [aI 0], am_mix cr_S g M)
          refine hR _ (am_brt (rg := am_in 0) (P := (0 : Int) = 0) (A := R (90, [some (aR 5 0), some (aR 6 t), some (aI o)], [], am_mix cr_S g M)) (B := R (74, [some (aR 5 0), some (aR 6 t), some (aI o)], [], am_mix cr_S g M)) (by omega) (by omega) ?_)
          show R (90, [some (aR 5 0), some (aR 6 t), some (aI o)], [], am_mix cr_S g M)
          refine hR _ (?_)
          show R (91, [some (aR 5 0), some (aR 6 t), some (aI o)], [aI 0], am_mix cr_S g M)
          refine hR _ (show ((0 : Int) = 0 ∨ (0 : Int) = 1) ∧ K (some (aI 0)) (am_mix cr_S g M) from ?_)
          refine ⟨by omega, hfl _ _ (by
            unfold rd_one
            repeat (first | rw [if_pos (by omega)] | rw [if_neg (by omega)] | (simp only [rd_then]))
            ) hs.1 hs.2.2⟩
      · refine hR _ (hR _ (hR _ (hR _ (?_))))
        show R (54, [some (aR 5 0), some (aR 6 t), some (aI o)], [aI (g 305 0 0), aI 2, aR 6 t], am_mix cr_S g M)
        rw [(show g 305 0 0 = lx_V b z n from hs.1.2.2.2 (by omega))]
        show R (54, [some (aR 5 0), some (aR 6 t), some (aI o)], [aI (lx_V b z n), aI 2, aR 6 t], am_mix cr_S g M)
        refine hR _ (am_ct (am_vi (by omega : t < 6)) (cr_put (s := 2) (v := (lx_V b z n)) (by omega) ht hs (by have := lx_P_b b z n; have := lx_P_b b z (n + 1); have := lx_P_1 (b := b) (z := z) n; omega) (by have := lx_V_b (b := b) (z := z) (n := n) (by omega); unfold jf_sv; omega) (fun g43 hs44 => ?_)))
        have hl45 : ((l ++ [jf_cv 2 (lx_V b z n)])).length + 0 ≤ lx_P b z (n + 1) := cr_len1 (cr_lt0 hl (by omega))
        show R (57, [some (aR 5 0), some (aR 6 t), some (aI o)], [], am_mix cr_S g43 M)
        refine hR _ (hR _ (?_))
        show R (93, [some (aR 5 0), some (aR 6 t), some (aI o)], [aR 5 0], am_mix cr_S g43 M)
        refine hR _ (cr_tok (by omega) hz hz2 hb hby ht hs44 (fun g46 hs47 => ?_))
        show R (96, [some (aR 5 0), some (aR 6 t), some (aI o)], [], am_mix cr_S g46 M)
        refine hR _ (?_)
        show R (97, [some (aR 5 0), some (aR 6 t), some (aI o)], [aI 1], am_mix cr_S g46 M)
        refine hR _ (show ((1 : Int) = 0 ∨ (1 : Int) = 1) ∧ K (some (aI 1)) (am_mix cr_S g46 M) from ?_)
        refine ⟨by omega, hok _ (n + 1) [jf_cv 2 (lx_V b z n)] (by
          unfold rd_one
          repeat (first | rw [if_pos (by omega)] | rw [if_neg (by omega)] | (simp only [rd_then]))
          try rfl
          ) (by first | exact hs47 | (simp only [← List.append_assoc]; exact hs47))⟩
    · refine hR _ (hR _ (hR _ (am_brt (rg := am_in o ∧ am_in 5) (P := 5 ≤ o) (A := R (38, [some (aR 5 0), some (aR 6 t), some (aI o)], [], am_mix cr_S g M)) (B := R (23, [some (aR 5 0), some (aR 6 t), some (aI o)], [], am_mix cr_S g M)) (by omega) (by omega) ?_)))
      show R (38, [some (aR 5 0), some (aR 6 t), some (aI o)], [], am_mix cr_S g M)
      refine hR _ (?_)
      show R (39, [some (aR 5 0), some (aR 6 t), some (aI o)], [aI 0], am_mix cr_S g M)
      refine hR _ (show ((0 : Int) = 0 ∨ (0 : Int) = 1) ∧ K (some (aI 0)) (am_mix cr_S g M) from ?_)
      refine ⟨by omega, hfl _ _ (by
        unfold rd_one
        repeat (first | rw [if_pos (by omega)] | rw [if_neg (by omega)] | (simp only [rd_then]))
        ) hs.1 hs.2.2⟩

set_option maxHeartbeats 1000000 in
theorem cr_one1 {b : Nat → Int} {z t : Nat} {M : am_M} {x : Nat → Nat → rd_R} {k : Nat} {o : Int} (hoo : 0 ≤ o ∧ o ≤ 5) (hz : M 301 0 0 = (z : Int)) (hz2 : z ≤ 160) (hb : M 20 0 = b) (hby : lx_by_ok b z) (ht : t < 6) (hk : 7 ≤ k) (ho5 : o < 5) (hop : cr_p wb 29 k b z t M (rd_opn (lx_T b z) x) (o + 1)) (mop : rd_mo (lx_P b z) (rd_opn (lx_T b z) x)) : cr_p wb 28 (k + 1) b z t M (rd_one (lx_T b z) (lx_V b z) (some x)) o := by
  intro d hd n l g K hs hl0 hfl hok
  have hl : l.length + 0 ≤ lx_P b z n := hl0
  have hTn := lx_T_b b z n
  obtain ⟨d, rfl⟩ : ∃ e, d = e + 1 := ⟨d - 1, by omega⟩
  refine ⟨rfl, fun R hR hC => ?_⟩
  replace hR : ∀ c, am_F wb tb_f28 2 (am_Call wb d) K R c → R c := hR
  show R (0, [some (aR 5 0), some (aR 6 t), some (aI o)], [], am_mix cr_S g M)
  refine hR _ (hR _ (?_))
  show R (4, [some (aR 5 0), some (aR 6 t), some (aI o)], [aI (g 303 0 0)], am_mix cr_S g M)
  rw [(show g 303 0 0 = lx_T b z n from hs.1.1)]
  show R (4, [some (aR 5 0), some (aR 6 t), some (aI o)], [aI (lx_T b z n)], am_mix cr_S g M)
  refine hR _ (hR _ (am_brc (rg := am_in (lx_T b z n) ∧ am_in 40) (P := (lx_T b z n) = 40) (A := R (18, [some (aR 5 0), some (aR 6 t), some (aI o)], [], am_mix cr_S g M)) (B := R (9, [some (aR 5 0), some (aR 6 t), some (aI o)], [], am_mix cr_S g M)) (by omega) (fun c6 => ?_) (fun c6 => ?_)))
  · refine hR _ (hR _ (hR _ (am_brf (rg := am_in o ∧ am_in 5) (P := 5 ≤ o) (A := R (38, [some (aR 5 0), some (aR 6 t), some (aI o)], [], am_mix cr_S g M)) (B := R (23, [some (aR 5 0), some (aR 6 t), some (aI o)], [], am_mix cr_S g M)) (by omega) (by omega) ?_)))
    show R (23, [some (aR 5 0), some (aR 6 t), some (aI o)], [], am_mix cr_S g M)
    refine hR _ (hR _ (hR _ (hR _ (hR _ (?_)))))
    show R (28, [some (aR 5 0), some (aR 6 t), some (aI o)], [aI (o + 1), aR 6 t, aR 5 0], am_mix cr_S g M)
    refine hR _ (hop (by omega) hs (by omega) (fun g54 m55 e56 hs57 ho => ?_) (fun g48 m52 w53 e51 hs49 => ?_))
    · show R (31, [some (aR 5 0), some (aR 6 t), some (aI o)], [aI 0], am_mix cr_S g54 M)
      refine hR _ (am_brt (rg := am_in 0) (P := (0 : Int) = 0) (A := R (38, [some (aR 5 0), some (aR 6 t), some (aI o)], [], am_mix cr_S g54 M)) (B := R (34, [some (aR 5 0), some (aR 6 t), some (aI o)], [], am_mix cr_S g54 M)) (by omega) (by omega) ?_)
      show R (38, [some (aR 5 0), some (aR 6 t), some (aI o)], [], am_mix cr_S g54 M)
      refine hR _ (?_)
      show R (39, [some (aR 5 0), some (aR 6 t), some (aI o)], [aI 0], am_mix cr_S g54 M)
      refine hR _ (show ((0 : Int) = 0 ∨ (0 : Int) = 1) ∧ K (some (aI 0)) (am_mix cr_S g54 M) from ?_)
      refine ⟨by omega, hfl _ _ (by
        unfold rd_one
        repeat (first | rw [if_pos (by omega)] | rw [if_neg (by omega)] | rw [e56] | (simp only [rd_then]))
        ) hs57 ho⟩
    · have hl50 : (l ++ w53).length + 0 ≤ lx_P b z m52 := cr_len hl (mop _ _ _ e51)
      have hT58 := lx_T_b b z m52
      show R (31, [some (aR 5 0), some (aR 6 t), some (aI o)], [aI 1], am_mix cr_S g48 M)
      refine hR _ (am_brf (rg := am_in 1) (P := (1 : Int) = 0) (A := R (38, [some (aR 5 0), some (aR 6 t), some (aI o)], [], am_mix cr_S g48 M)) (B := R (34, [some (aR 5 0), some (aR 6 t), some (aI o)], [], am_mix cr_S g48 M)) (by omega) (by omega) ?_)
      show R (34, [some (aR 5 0), some (aR 6 t), some (aI o)], [], am_mix cr_S g48 M)
      refine hR _ (hR _ (?_))
      show R (39, [some (aR 5 0), some (aR 6 t), some (aI o)], [aI 1], am_mix cr_S g48 M)
      refine hR _ (show ((1 : Int) = 0 ∨ (1 : Int) = 1) ∧ K (some (aI 1)) (am_mix cr_S g48 M) from ?_)
      refine ⟨by omega, hok _ m52 w53 (by
        unfold rd_one
        repeat (first | rw [if_pos (by omega)] | rw [if_neg (by omega)] | rw [e51] | (simp only [rd_then]))
        try rfl
        ) (by first | exact hs49 | (simp only [← List.append_assoc]; exact hs49))⟩
  · refine hR _ (hR _ (?_))
    show R (13, [some (aR 5 0), some (aR 6 t), some (aI o)], [aI (g 303 0 0)], am_mix cr_S g M)
    rw [(show g 303 0 0 = lx_T b z n from hs.1.1)]
    show R (13, [some (aR 5 0), some (aR 6 t), some (aI o)], [aI (lx_T b z n)], am_mix cr_S g M)
    refine hR _ (hR _ (am_brc (rg := am_in (lx_T b z n) ∧ am_in 45) (P := (lx_T b z n) ≠ 45) (A := R (40, [some (aR 5 0), some (aR 6 t), some (aI o)], [], am_mix cr_S g M)) (B := R (18, [some (aR 5 0), some (aR 6 t), some (aI o)], [], am_mix cr_S g M)) (by omega) (fun c15 => ?_) (fun c15 => ?_)))
    · refine hR _ (hR _ (?_))
      show R (44, [some (aR 5 0), some (aR 6 t), some (aI o)], [aI (g 303 0 0)], am_mix cr_S g M)
      rw [(show g 303 0 0 = lx_T b z n from hs.1.1)]
      show R (44, [some (aR 5 0), some (aR 6 t), some (aI o)], [aI (lx_T b z n)], am_mix cr_S g M)
      refine hR _ (hR _ (am_brc (rg := am_in (lx_T b z n) ∧ am_in 2) (P := (lx_T b z n) ≠ 2) (A := R (60, [some (aR 5 0), some (aR 6 t), some (aI o)], [], am_mix cr_S g M)) (B := R (48, [some (aR 5 0), some (aR 6 t), some (aI o)], [], am_mix cr_S g M)) (by omega) (fun c45 => ?_) (fun c45 => ?_)))
      · refine hR _ (hR _ (?_))
        show R (64, [some (aR 5 0), some (aR 6 t), some (aI o)], [aI (g 303 0 0)], am_mix cr_S g M)
        rw [(show g 303 0 0 = lx_T b z n from hs.1.1)]
        show R (64, [some (aR 5 0), some (aR 6 t), some (aI o)], [aI (lx_T b z n)], am_mix cr_S g M)
        refine hR _ (hR _ (?_))
        show R (68, [some (aR 5 0), some (aR 6 t), some (aI o)], [aI 15, aI 10, aI (lx_T b z n)], am_mix cr_S g M)
        refine hR _ (sp_within (by omega) (by omega) (fun h68 => ?_) (fun h68 => ?_))
        · show R (71, [some (aR 5 0), some (aR 6 t), some (aI o)], [aI 1], am_mix cr_S g M)
          refine hR _ (am_brf (rg := am_in 1) (P := (1 : Int) = 0) (A := R (90, [some (aR 5 0), some (aR 6 t), some (aI o)], [], am_mix cr_S g M)) (B := R (74, [some (aR 5 0), some (aR 6 t), some (aI o)], [], am_mix cr_S g M)) (by omega) (by omega) ?_)
          show R (74, [some (aR 5 0), some (aR 6 t), some (aI o)], [], am_mix cr_S g M)
          refine hR _ (hR _ (hR _ (hR _ (?_))))
          show R (81, [some (aR 5 0), some (aR 6 t), some (aI o)], [aI (g 303 0 0), aI 9, aR 6 t], am_mix cr_S g M)
          rw [(show g 303 0 0 = lx_T b z n from hs.1.1)]
          show R (81, [some (aR 5 0), some (aR 6 t), some (aI o)], [aI (lx_T b z n), aI 9, aR 6 t], am_mix cr_S g M)
          refine hR _ (hR _ (?_))
          show R (84, [some (aR 5 0), some (aR 6 t), some (aI o)], [aI ((lx_T b z n) - 10), aI 9, aR 6 t], am_mix cr_S g M)
          refine hR _ (am_ct (am_vi (by omega : t < 6)) (cr_put (s := 9) (v := ((lx_T b z n) - 10)) (by omega) ht hs (by have := lx_P_b b z n; have := lx_P_b b z (n + 1); have := lx_P_1 (b := b) (z := z) n; omega) (by unfold jf_sv; omega) (fun g59 hs60 => ?_)))
          have hl61 : ((l ++ [jf_cv 9 ((lx_T b z n) - 10)])).length + 0 ≤ lx_P b z (n + 1) := cr_len1 (cr_lt0 hl (by omega))
          show R (87, [some (aR 5 0), some (aR 6 t), some (aI o)], [], am_mix cr_S g59 M)
          refine hR _ (hR _ (?_))
          show R (93, [some (aR 5 0), some (aR 6 t), some (aI o)], [aR 5 0], am_mix cr_S g59 M)
          refine hR _ (cr_tok (by omega) hz hz2 hb hby ht hs60 (fun g62 hs63 => ?_))
          show R (96, [some (aR 5 0), some (aR 6 t), some (aI o)], [], am_mix cr_S g62 M)
          refine hR _ (?_)
          show R (97, [some (aR 5 0), some (aR 6 t), some (aI o)], [aI 1], am_mix cr_S g62 M)
          refine hR _ (show ((1 : Int) = 0 ∨ (1 : Int) = 1) ∧ K (some (aI 1)) (am_mix cr_S g62 M) from ?_)
          refine ⟨by omega, hok _ (n + 1) [jf_cv 9 ((lx_T b z n) - 10)] (by
            unfold rd_one
            repeat (first | rw [if_pos (by omega)] | rw [if_neg (by omega)] | (simp only [rd_then]))
            try rfl
            ) (by first | exact hs63 | (simp only [← List.append_assoc]; exact hs63))⟩
        · show R (71, [some (aR 5 0), some (aR 6 t), some (aI o)], [aI 0], am_mix cr_S g M)
          refine hR _ (am_brt (rg := am_in 0) (P := (0 : Int) = 0) (A := R (90, [some (aR 5 0), some (aR 6 t), some (aI o)], [], am_mix cr_S g M)) (B := R (74, [some (aR 5 0), some (aR 6 t), some (aI o)], [], am_mix cr_S g M)) (by omega) (by omega) ?_)
          show R (90, [some (aR 5 0), some (aR 6 t), some (aI o)], [], am_mix cr_S g M)
          refine hR _ (?_)
          show R (91, [some (aR 5 0), some (aR 6 t), some (aI o)], [aI 0], am_mix cr_S g M)
          refine hR _ (show ((0 : Int) = 0 ∨ (0 : Int) = 1) ∧ K (some (aI 0)) (am_mix cr_S g M) from ?_)
          refine ⟨by omega, hfl _ _ (by
            unfold rd_one
            repeat (first | rw [if_pos (by omega)] | rw [if_neg (by omega)] | (simp only [rd_then]))
            ) hs.1 hs.2.2⟩
      · refine hR _ (hR _ (hR _ (hR _ (?_))))
        show R (54, [some (aR 5 0), some (aR 6 t), some (aI o)], [aI (g 305 0 0), aI 2, aR 6 t], am_mix cr_S g M)
        rw [(show g 305 0 0 = lx_V b z n from hs.1.2.2.2 (by omega))]
        show R (54, [some (aR 5 0), some (aR 6 t), some (aI o)], [aI (lx_V b z n), aI 2, aR 6 t], am_mix cr_S g M)
        refine hR _ (am_ct (am_vi (by omega : t < 6)) (cr_put (s := 2) (v := (lx_V b z n)) (by omega) ht hs (by have := lx_P_b b z n; have := lx_P_b b z (n + 1); have := lx_P_1 (b := b) (z := z) n; omega) (by have := lx_V_b (b := b) (z := z) (n := n) (by omega); unfold jf_sv; omega) (fun g64 hs65 => ?_)))
        have hl66 : ((l ++ [jf_cv 2 (lx_V b z n)])).length + 0 ≤ lx_P b z (n + 1) := cr_len1 (cr_lt0 hl (by omega))
        show R (57, [some (aR 5 0), some (aR 6 t), some (aI o)], [], am_mix cr_S g64 M)
        refine hR _ (hR _ (?_))
        show R (93, [some (aR 5 0), some (aR 6 t), some (aI o)], [aR 5 0], am_mix cr_S g64 M)
        refine hR _ (cr_tok (by omega) hz hz2 hb hby ht hs65 (fun g67 hs68 => ?_))
        show R (96, [some (aR 5 0), some (aR 6 t), some (aI o)], [], am_mix cr_S g67 M)
        refine hR _ (?_)
        show R (97, [some (aR 5 0), some (aR 6 t), some (aI o)], [aI 1], am_mix cr_S g67 M)
        refine hR _ (show ((1 : Int) = 0 ∨ (1 : Int) = 1) ∧ K (some (aI 1)) (am_mix cr_S g67 M) from ?_)
        refine ⟨by omega, hok _ (n + 1) [jf_cv 2 (lx_V b z n)] (by
          unfold rd_one
          repeat (first | rw [if_pos (by omega)] | rw [if_neg (by omega)] | (simp only [rd_then]))
          try rfl
          ) (by first | exact hs68 | (simp only [← List.append_assoc]; exact hs68))⟩
    · refine hR _ (hR _ (hR _ (am_brf (rg := am_in o ∧ am_in 5) (P := 5 ≤ o) (A := R (38, [some (aR 5 0), some (aR 6 t), some (aI o)], [], am_mix cr_S g M)) (B := R (23, [some (aR 5 0), some (aR 6 t), some (aI o)], [], am_mix cr_S g M)) (by omega) (by omega) ?_)))
      show R (23, [some (aR 5 0), some (aR 6 t), some (aI o)], [], am_mix cr_S g M)
      refine hR _ (hR _ (hR _ (hR _ (hR _ (?_)))))
      show R (28, [some (aR 5 0), some (aR 6 t), some (aI o)], [aI (o + 1), aR 6 t, aR 5 0], am_mix cr_S g M)
      refine hR _ (hop (by omega) hs (by omega) (fun g75 m76 e77 hs78 ho => ?_) (fun g69 m73 w74 e72 hs70 => ?_))
      · show R (31, [some (aR 5 0), some (aR 6 t), some (aI o)], [aI 0], am_mix cr_S g75 M)
        refine hR _ (am_brt (rg := am_in 0) (P := (0 : Int) = 0) (A := R (38, [some (aR 5 0), some (aR 6 t), some (aI o)], [], am_mix cr_S g75 M)) (B := R (34, [some (aR 5 0), some (aR 6 t), some (aI o)], [], am_mix cr_S g75 M)) (by omega) (by omega) ?_)
        show R (38, [some (aR 5 0), some (aR 6 t), some (aI o)], [], am_mix cr_S g75 M)
        refine hR _ (?_)
        show R (39, [some (aR 5 0), some (aR 6 t), some (aI o)], [aI 0], am_mix cr_S g75 M)
        refine hR _ (show ((0 : Int) = 0 ∨ (0 : Int) = 1) ∧ K (some (aI 0)) (am_mix cr_S g75 M) from ?_)
        refine ⟨by omega, hfl _ _ (by
          unfold rd_one
          repeat (first | rw [if_pos (by omega)] | rw [if_neg (by omega)] | rw [e77] | (simp only [rd_then]))
          ) hs78 ho⟩
      · have hl71 : (l ++ w74).length + 0 ≤ lx_P b z m73 := cr_len hl (mop _ _ _ e72)
        have hT79 := lx_T_b b z m73
        show R (31, [some (aR 5 0), some (aR 6 t), some (aI o)], [aI 1], am_mix cr_S g69 M)
        refine hR _ (am_brf (rg := am_in 1) (P := (1 : Int) = 0) (A := R (38, [some (aR 5 0), some (aR 6 t), some (aI o)], [], am_mix cr_S g69 M)) (B := R (34, [some (aR 5 0), some (aR 6 t), some (aI o)], [], am_mix cr_S g69 M)) (by omega) (by omega) ?_)
        show R (34, [some (aR 5 0), some (aR 6 t), some (aI o)], [], am_mix cr_S g69 M)
        refine hR _ (hR _ (?_))
        show R (39, [some (aR 5 0), some (aR 6 t), some (aI o)], [aI 1], am_mix cr_S g69 M)
        refine hR _ (show ((1 : Int) = 0 ∨ (1 : Int) = 1) ∧ K (some (aI 1)) (am_mix cr_S g69 M) from ?_)
        refine ⟨by omega, hok _ m73 w74 (by
          unfold rd_one
          repeat (first | rw [if_pos (by omega)] | rw [if_neg (by omega)] | rw [e72] | (simp only [rd_then]))
          try rfl
          ) (by first | exact hs70 | (simp only [← List.append_assoc]; exact hs70))⟩

set_option maxHeartbeats 1000000 in
theorem cr_term {b : Nat → Int} {z t : Nat} {M : am_M} {nx : rd_N} {k : Nat} {o : Int} (hoo : 0 ≤ o ∧ o ≤ 5) (hz : M 301 0 0 = (z : Int)) (hz2 : z ≤ 160) (hb : M 20 0 = b) (hby : lx_by_ok b z) (ht : t < 6) (hk : 7 ≤ k) (hsub : cr_p wb 28 k b z t M (rd_one (lx_T b z) (lx_V b z) nx) o) (mosub : rd_mo (lx_P b z) (rd_one (lx_T b z) (lx_V b z) nx)) : cr_p wb 27 (k + 1) b z t M (rd_term (lx_T b z) (lx_V b z) nx) o := by
  intro d hd n l g K hs hl0 hfl hok
  have hl : l.length + 0 ≤ lx_P b z n := hl0
  have hTn := lx_T_b b z n
  obtain ⟨d, rfl⟩ : ∃ e, d = e + 1 := ⟨d - 1, by omega⟩
  refine ⟨rfl, fun R hR hC => ?_⟩
  replace hR : ∀ c, am_F wb tb_f27 2 (am_Call wb d) K R c → R c := hR
  show R (0, [some (aR 5 0), some (aR 6 t), some (aI o), none], [], am_mix cr_S g M)
  have key : ∀ (f i : Nat) (x : Int) (g : am_M) (n1 : Nat) (w1 : List Int), x = (i : Int) → i + f = 160 → cr_s b z M (am_mix cr_S g M) t n1 (l ++ w1) → (l ++ w1).length + 0 ≤ lx_P b z n1 → rd_term (lx_T b z) (lx_V b z) nx n = rd_loop (lx_T b z) rd_op1 (rd_one (lx_T b z) (lx_V b z) nx) f n1 w1 → R (13, [some (aR 5 0), some (aR 6 t), some (aI o), some (aI x)], [], am_mix cr_S g M) := by
    intro f
    induction f with
    | zero =>
      intro i x g n1 w1 hx hin hs hl he
      subst hx
      have hTn1 := lx_T_b b z n1
      refine hR _ (hR _ (hR _ (am_brt (rg := am_in ((i : Nat) : Int) ∧ am_in 160) (P := 160 ≤ ((i : Nat) : Int)) (A := R (57, [some (aR 5 0), some (aR 6 t), some (aI o), some (aI ((i : Nat) : Int))], [], am_mix cr_S g M)) (B := R (20, [some (aR 5 0), some (aR 6 t), some (aI o), some (aI ((i : Nat) : Int))], [], am_mix cr_S g M)) (by omega) (by omega) ?_)))
      show R (57, [some (aR 5 0), some (aR 6 t), some (aI o), some (aI ((i : Nat) : Int))], [], am_mix cr_S g M)
      refine hR _ (?_)
      show R (58, [some (aR 5 0), some (aR 6 t), some (aI o), some (aI ((i : Nat) : Int))], [aI 1], am_mix cr_S g M)
      refine hR _ (show ((1 : Int) = 0 ∨ (1 : Int) = 1) ∧ K (some (aI 1)) (am_mix cr_S g M) from ?_)
      exact ⟨by omega, hok _ _ _ he hs⟩
    | succ f ih =>
      intro i x g n1 w1 hx hin hs hl he
      subst hx
      have hTn1 := lx_T_b b z n1
      unfold rd_loop at he
      refine hR _ (hR _ (hR _ (am_brf (rg := am_in ((i : Nat) : Int) ∧ am_in 160) (P := 160 ≤ ((i : Nat) : Int)) (A := R (57, [some (aR 5 0), some (aR 6 t), some (aI o), some (aI ((i : Nat) : Int))], [], am_mix cr_S g M)) (B := R (20, [some (aR 5 0), some (aR 6 t), some (aI o), some (aI ((i : Nat) : Int))], [], am_mix cr_S g M)) (by omega) (by omega) ?_)))
      show R (20, [some (aR 5 0), some (aR 6 t), some (aI o), some (aI ((i : Nat) : Int))], [], am_mix cr_S g M)
      refine hR _ (hR _ (?_))
      show R (24, [some (aR 5 0), some (aR 6 t), some (aI o), some (aI ((i : Nat) : Int))], [aI (g 303 0 0)], am_mix cr_S g M)
      rw [(show g 303 0 0 = lx_T b z n1 from hs.1.1)]
      show R (24, [some (aR 5 0), some (aR 6 t), some (aI o), some (aI ((i : Nat) : Int))], [aI (lx_T b z n1)], am_mix cr_S g M)
      refine hR _ (hR _ (am_brc (rg := am_in (lx_T b z n1) ∧ am_in 42) (P := (lx_T b z n1) ≠ 42) (A := R (57, [some (aR 5 0), some (aR 6 t), some (aI o), some (aI ((i : Nat) : Int))], [], am_mix cr_S g M)) (B := R (29, [some (aR 5 0), some (aR 6 t), some (aI o), some (aI ((i : Nat) : Int))], [], am_mix cr_S g M)) (by omega) (fun c26 => ?_) (fun c26 => ?_)))
      · refine hR _ (?_)
        show R (58, [some (aR 5 0), some (aR 6 t), some (aI o), some (aI ((i : Nat) : Int))], [aI 1], am_mix cr_S g M)
        refine hR _ (show ((1 : Int) = 0 ∨ (1 : Int) = 1) ∧ K (some (aI 1)) (am_mix cr_S g M) from ?_)
        rw [show rd_op1 (lx_T b z n1) = false from decide_eq_false (by omega)] at he
        exact ⟨by omega, hok _ _ _ he hs⟩
      · refine hR _ (?_)
        show R (30, [some (aR 5 0), some (aR 6 t), some (aI o), some (aI ((i : Nat) : Int))], [aR 5 0], am_mix cr_S g M)
        refine hR _ (cr_tok (by omega) hz hz2 hb hby ht hs (fun g80 hs81 => ?_))
        have hl82 : ((l ++ w1)).length + 1 ≤ lx_P b z (n1 + 1) := cr_lt0 hl (by omega)
        have hT83 := lx_T_b b z (n1 + 1)
        show R (33, [some (aR 5 0), some (aR 6 t), some (aI o), some (aI ((i : Nat) : Int))], [], am_mix cr_S g80 M)
        refine hR _ (hR _ (hR _ (?_)))
        show R (36, [some (aR 5 0), some (aR 6 t), some (aI o), some (aI ((i : Nat) : Int))], [aI o, aR 6 t, aR 5 0], am_mix cr_S g80 M)
        refine hR _ (hsub (by omega) hs81 (by omega) (fun g90 m91 e92 hs93 ho => ?_) (fun g84 m88 w89 e87 hs85 => ?_))
        · show R (39, [some (aR 5 0), some (aR 6 t), some (aI o), some (aI ((i : Nat) : Int))], [aI 0], am_mix cr_S g90 M)
          refine hR _ (am_brf (rg := am_in 0) (P := (0 : Int) ≠ 0) (A := R (44, [some (aR 5 0), some (aR 6 t), some (aI o), some (aI ((i : Nat) : Int))], [], am_mix cr_S g90 M)) (B := R (42, [some (aR 5 0), some (aR 6 t), some (aI o), some (aI ((i : Nat) : Int))], [], am_mix cr_S g90 M)) (by omega) (by omega) ?_)
          show R (42, [some (aR 5 0), some (aR 6 t), some (aI o), some (aI ((i : Nat) : Int))], [], am_mix cr_S g90 M)
          refine hR _ (?_)
          show R (43, [some (aR 5 0), some (aR 6 t), some (aI o), some (aI ((i : Nat) : Int))], [aI 0], am_mix cr_S g90 M)
          refine hR _ (show ((0 : Int) = 0 ∨ (0 : Int) = 1) ∧ K (some (aI 0)) (am_mix cr_S g90 M) from ?_)
          rw [show rd_op1 (lx_T b z n1) = true from decide_eq_true (by omega)] at he
          simp only [cond_true, e92, rd_then] at he
          exact ⟨by omega, hfl _ _ he hs93 ho⟩
        · have hl86 : ((l ++ w1) ++ w89).length + 1 ≤ lx_P b z m88 := cr_len hl82 (mosub _ _ _ e87)
          have hT94 := lx_T_b b z m88
          show R (39, [some (aR 5 0), some (aR 6 t), some (aI o), some (aI ((i : Nat) : Int))], [aI 1], am_mix cr_S g84 M)
          refine hR _ (am_brt (rg := am_in 1) (P := (1 : Int) ≠ 0) (A := R (44, [some (aR 5 0), some (aR 6 t), some (aI o), some (aI ((i : Nat) : Int))], [], am_mix cr_S g84 M)) (B := R (42, [some (aR 5 0), some (aR 6 t), some (aI o), some (aI ((i : Nat) : Int))], [], am_mix cr_S g84 M)) (by omega) (by omega) ?_)
          show R (44, [some (aR 5 0), some (aR 6 t), some (aI o), some (aI ((i : Nat) : Int))], [], am_mix cr_S g84 M)
          refine hR _ (hR _ (hR _ (?_)))
          show R (48, [some (aR 5 0), some (aR 6 t), some (aI o), some (aI ((i : Nat) : Int))], [aI 0, aI 42, aR 6 t], am_mix cr_S g84 M)
          refine hR _ (am_ct (am_vi (by omega : t < 6)) (cr_put (s := 42) (v := 0) (by omega) ht hs85 (by have := lx_P_b b z m88; have := lx_P_b b z (m88 + 1); have := lx_P_1 (b := b) (z := z) m88; omega) (by unfold jf_sv; omega) (fun g95 hs96 => ?_)))
          have hl97 : ((((l ++ w1) ++ w89) ++ [jf_cv 42 0])).length + 0 ≤ lx_P b z m88 := cr_len1 hl86
          show R (51, [some (aR 5 0), some (aR 6 t), some (aI o), some (aI ((i : Nat) : Int))], [], am_mix cr_S g95 M)
          refine hR _ (hR _ (?_))
          show R (13, [some (aR 5 0), some (aR 6 t), some (aI o), some (aI (((i : Nat) : Int) + 1))], [], am_mix cr_S g95 M)
          rw [show rd_op1 (lx_T b z n1) = true from decide_eq_true (by omega)] at he
          simp only [cond_true, e87, rd_then] at he
          have hnew : (((l ++ w1) ++ w89) ++ [jf_cv 42 0]) = (l ++ (w1 ++ (w89 ++ [jf_cv (lx_T b z n1) 0]))) := by
            rw [show lx_T b z n1 = 42 by omega]
            simp only [List.append_assoc]
          rw [hnew] at hs96 hl97
          exact ih (i + 1) _ _ _ _ rfl (by omega) hs96 (by omega) he
  refine hR _ (hR _ (hR _ (?_)))
  show R (3, [some (aR 5 0), some (aR 6 t), some (aI o), none], [aI o, aR 6 t, aR 5 0], am_mix cr_S g M)
  refine hR _ (hsub (by omega) hs (by omega) (fun g104 m105 e106 hs107 ho => ?_) (fun g98 m102 w103 e101 hs99 => ?_))
  · show R (6, [some (aR 5 0), some (aR 6 t), some (aI o), none], [aI 0], am_mix cr_S g104 M)
    refine hR _ (am_brf (rg := am_in 0) (P := (0 : Int) ≠ 0) (A := R (11, [some (aR 5 0), some (aR 6 t), some (aI o), none], [], am_mix cr_S g104 M)) (B := R (9, [some (aR 5 0), some (aR 6 t), some (aI o), none], [], am_mix cr_S g104 M)) (by omega) (by omega) ?_)
    show R (9, [some (aR 5 0), some (aR 6 t), some (aI o), none], [], am_mix cr_S g104 M)
    refine hR _ (?_)
    show R (10, [some (aR 5 0), some (aR 6 t), some (aI o), none], [aI 0], am_mix cr_S g104 M)
    refine hR _ (show ((0 : Int) = 0 ∨ (0 : Int) = 1) ∧ K (some (aI 0)) (am_mix cr_S g104 M) from ?_)
    exact ⟨by omega, hfl _ _ (by unfold rd_term; rw [e106]; rfl) hs107 ho⟩
  · have hl100 : (l ++ w103).length + 0 ≤ lx_P b z m102 := cr_len hl (mosub _ _ _ e101)
    have hT108 := lx_T_b b z m102
    show R (6, [some (aR 5 0), some (aR 6 t), some (aI o), none], [aI 1], am_mix cr_S g98 M)
    refine hR _ (am_brt (rg := am_in 1) (P := (1 : Int) ≠ 0) (A := R (11, [some (aR 5 0), some (aR 6 t), some (aI o), none], [], am_mix cr_S g98 M)) (B := R (9, [some (aR 5 0), some (aR 6 t), some (aI o), none], [], am_mix cr_S g98 M)) (by omega) (by omega) ?_)
    show R (11, [some (aR 5 0), some (aR 6 t), some (aI o), none], [], am_mix cr_S g98 M)
    refine hR _ (hR _ (?_))
    show R (13, [some (aR 5 0), some (aR 6 t), some (aI o), some (aI 0)], [], am_mix cr_S g98 M)
    exact key 160 0 _ _ _ _ rfl rfl hs99 (by omega) (by unfold rd_term; rw [e101]; rfl)

set_option maxHeartbeats 1000000 in
theorem cr_sum {b : Nat → Int} {z t : Nat} {M : am_M} {nx : rd_N} {k : Nat} {o : Int} (hoo : 0 ≤ o ∧ o ≤ 5) (hz : M 301 0 0 = (z : Int)) (hz2 : z ≤ 160) (hb : M 20 0 = b) (hby : lx_by_ok b z) (ht : t < 6) (hk : 7 ≤ k) (hsub : cr_p wb 27 k b z t M (rd_term (lx_T b z) (lx_V b z) nx) o) (mosub : rd_mo (lx_P b z) (rd_term (lx_T b z) (lx_V b z) nx)) : cr_p wb 26 (k + 1) b z t M (rd_sum (lx_T b z) (lx_V b z) nx) o := by
  intro d hd n l g K hs hl0 hfl hok
  have hl : l.length + 0 ≤ lx_P b z n := hl0
  have hTn := lx_T_b b z n
  obtain ⟨d, rfl⟩ : ∃ e, d = e + 1 := ⟨d - 1, by omega⟩
  refine ⟨rfl, fun R hR hC => ?_⟩
  replace hR : ∀ c, am_F wb tb_f26 2 (am_Call wb d) K R c → R c := hR
  show R (0, [some (aR 5 0), some (aR 6 t), some (aI o), none, none], [], am_mix cr_S g M)
  have key : ∀ (f i : Nat) (x : Int) (o5 : Option am_V) (g : am_M) (n1 : Nat) (w1 : List Int), x = (i : Int) → i + f = 160 → cr_s b z M (am_mix cr_S g M) t n1 (l ++ w1) → (l ++ w1).length + 0 ≤ lx_P b z n1 → rd_sum (lx_T b z) (lx_V b z) nx n = rd_loop (lx_T b z) rd_op2 (rd_term (lx_T b z) (lx_V b z) nx) f n1 w1 → R (13, [some (aR 5 0), some (aR 6 t), some (aI o), some (aI x), o5], [], am_mix cr_S g M) := by
    intro f
    induction f with
    | zero =>
      intro i x o5 g n1 w1 hx hin hs hl he
      subst hx
      have hTn1 := lx_T_b b z n1
      refine hR _ (hR _ (hR _ (am_brt (rg := am_in ((i : Nat) : Int) ∧ am_in 160) (P := 160 ≤ ((i : Nat) : Int)) (A := R (72, [some (aR 5 0), some (aR 6 t), some (aI o), some (aI ((i : Nat) : Int)), o5], [], am_mix cr_S g M)) (B := R (20, [some (aR 5 0), some (aR 6 t), some (aI o), some (aI ((i : Nat) : Int)), o5], [], am_mix cr_S g M)) (by omega) (by omega) ?_)))
      show R (72, [some (aR 5 0), some (aR 6 t), some (aI o), some (aI ((i : Nat) : Int)), o5], [], am_mix cr_S g M)
      refine hR _ (?_)
      show R (73, [some (aR 5 0), some (aR 6 t), some (aI o), some (aI ((i : Nat) : Int)), o5], [aI 1], am_mix cr_S g M)
      refine hR _ (show ((1 : Int) = 0 ∨ (1 : Int) = 1) ∧ K (some (aI 1)) (am_mix cr_S g M) from ?_)
      exact ⟨by omega, hok _ _ _ he hs⟩
    | succ f ih =>
      intro i x o5 g n1 w1 hx hin hs hl he
      subst hx
      have hTn1 := lx_T_b b z n1
      unfold rd_loop at he
      refine hR _ (hR _ (hR _ (am_brf (rg := am_in ((i : Nat) : Int) ∧ am_in 160) (P := 160 ≤ ((i : Nat) : Int)) (A := R (72, [some (aR 5 0), some (aR 6 t), some (aI o), some (aI ((i : Nat) : Int)), o5], [], am_mix cr_S g M)) (B := R (20, [some (aR 5 0), some (aR 6 t), some (aI o), some (aI ((i : Nat) : Int)), o5], [], am_mix cr_S g M)) (by omega) (by omega) ?_)))
      show R (20, [some (aR 5 0), some (aR 6 t), some (aI o), some (aI ((i : Nat) : Int)), o5], [], am_mix cr_S g M)
      refine hR _ (hR _ (?_))
      show R (24, [some (aR 5 0), some (aR 6 t), some (aI o), some (aI ((i : Nat) : Int)), o5], [aI (g 303 0 0)], am_mix cr_S g M)
      rw [(show g 303 0 0 = lx_T b z n1 from hs.1.1)]
      show R (24, [some (aR 5 0), some (aR 6 t), some (aI o), some (aI ((i : Nat) : Int)), o5], [aI (lx_T b z n1)], am_mix cr_S g M)
      refine hR _ (hR _ (am_brc (rg := am_in (lx_T b z n1) ∧ am_in 43) (P := (lx_T b z n1) = 43) (A := R (38, [some (aR 5 0), some (aR 6 t), some (aI o), some (aI ((i : Nat) : Int)), o5], [], am_mix cr_S g M)) (B := R (29, [some (aR 5 0), some (aR 6 t), some (aI o), some (aI ((i : Nat) : Int)), o5], [], am_mix cr_S g M)) (by omega) (fun c26 => ?_) (fun c26 => ?_)))
      · refine hR _ (hR _ (?_))
        show R (42, [some (aR 5 0), some (aR 6 t), some (aI o), some (aI ((i : Nat) : Int)), o5], [aI (g 303 0 0)], am_mix cr_S g M)
        rw [(show g 303 0 0 = lx_T b z n1 from hs.1.1)]
        show R (42, [some (aR 5 0), some (aR 6 t), some (aI o), some (aI ((i : Nat) : Int)), o5], [aI (lx_T b z n1)], am_mix cr_S g M)
        refine hR _ (hR _ (?_))
        show R (45, [some (aR 5 0), some (aR 6 t), some (aI o), some (aI ((i : Nat) : Int)), some (aI (lx_T b z n1))], [aR 5 0], am_mix cr_S g M)
        refine hR _ (cr_tok (by omega) hz hz2 hb hby ht hs (fun g109 hs110 => ?_))
        have hl111 : ((l ++ w1)).length + 1 ≤ lx_P b z (n1 + 1) := cr_lt0 hl (by omega)
        have hT112 := lx_T_b b z (n1 + 1)
        show R (48, [some (aR 5 0), some (aR 6 t), some (aI o), some (aI ((i : Nat) : Int)), some (aI (lx_T b z n1))], [], am_mix cr_S g109 M)
        refine hR _ (hR _ (hR _ (?_)))
        show R (51, [some (aR 5 0), some (aR 6 t), some (aI o), some (aI ((i : Nat) : Int)), some (aI (lx_T b z n1))], [aI o, aR 6 t, aR 5 0], am_mix cr_S g109 M)
        refine hR _ (hsub (by omega) hs110 (by omega) (fun g119 m120 e121 hs122 ho => ?_) (fun g113 m117 w118 e116 hs114 => ?_))
        · show R (54, [some (aR 5 0), some (aR 6 t), some (aI o), some (aI ((i : Nat) : Int)), some (aI (lx_T b z n1))], [aI 0], am_mix cr_S g119 M)
          refine hR _ (am_brf (rg := am_in 0) (P := (0 : Int) ≠ 0) (A := R (59, [some (aR 5 0), some (aR 6 t), some (aI o), some (aI ((i : Nat) : Int)), some (aI (lx_T b z n1))], [], am_mix cr_S g119 M)) (B := R (57, [some (aR 5 0), some (aR 6 t), some (aI o), some (aI ((i : Nat) : Int)), some (aI (lx_T b z n1))], [], am_mix cr_S g119 M)) (by omega) (by omega) ?_)
          show R (57, [some (aR 5 0), some (aR 6 t), some (aI o), some (aI ((i : Nat) : Int)), some (aI (lx_T b z n1))], [], am_mix cr_S g119 M)
          refine hR _ (?_)
          show R (58, [some (aR 5 0), some (aR 6 t), some (aI o), some (aI ((i : Nat) : Int)), some (aI (lx_T b z n1))], [aI 0], am_mix cr_S g119 M)
          refine hR _ (show ((0 : Int) = 0 ∨ (0 : Int) = 1) ∧ K (some (aI 0)) (am_mix cr_S g119 M) from ?_)
          rw [show rd_op2 (lx_T b z n1) = true from decide_eq_true (by omega)] at he
          simp only [cond_true, e121, rd_then] at he
          exact ⟨by omega, hfl _ _ he hs122 ho⟩
        · have hl115 : ((l ++ w1) ++ w118).length + 1 ≤ lx_P b z m117 := cr_len hl111 (mosub _ _ _ e116)
          have hT123 := lx_T_b b z m117
          show R (54, [some (aR 5 0), some (aR 6 t), some (aI o), some (aI ((i : Nat) : Int)), some (aI (lx_T b z n1))], [aI 1], am_mix cr_S g113 M)
          refine hR _ (am_brt (rg := am_in 1) (P := (1 : Int) ≠ 0) (A := R (59, [some (aR 5 0), some (aR 6 t), some (aI o), some (aI ((i : Nat) : Int)), some (aI (lx_T b z n1))], [], am_mix cr_S g113 M)) (B := R (57, [some (aR 5 0), some (aR 6 t), some (aI o), some (aI ((i : Nat) : Int)), some (aI (lx_T b z n1))], [], am_mix cr_S g113 M)) (by omega) (by omega) ?_)
          show R (59, [some (aR 5 0), some (aR 6 t), some (aI o), some (aI ((i : Nat) : Int)), some (aI (lx_T b z n1))], [], am_mix cr_S g113 M)
          refine hR _ (hR _ (hR _ (?_)))
          show R (63, [some (aR 5 0), some (aR 6 t), some (aI o), some (aI ((i : Nat) : Int)), some (aI (lx_T b z n1))], [aI 0, aI (lx_T b z n1), aR 6 t], am_mix cr_S g113 M)
          refine hR _ (am_ct (am_vi (by omega : t < 6)) (cr_put (s := (lx_T b z n1)) (v := 0) (by omega) ht hs114 (by have := lx_P_b b z m117; have := lx_P_b b z (m117 + 1); have := lx_P_1 (b := b) (z := z) m117; omega) (by unfold jf_sv; omega) (fun g124 hs125 => ?_)))
          have hl126 : ((((l ++ w1) ++ w118) ++ [jf_cv (lx_T b z n1) 0])).length + 0 ≤ lx_P b z m117 := cr_len1 hl115
          show R (66, [some (aR 5 0), some (aR 6 t), some (aI o), some (aI ((i : Nat) : Int)), some (aI (lx_T b z n1))], [], am_mix cr_S g124 M)
          refine hR _ (hR _ (?_))
          show R (13, [some (aR 5 0), some (aR 6 t), some (aI o), some (aI (((i : Nat) : Int) + 1)), some (aI (lx_T b z n1))], [], am_mix cr_S g124 M)
          rw [show rd_op2 (lx_T b z n1) = true from decide_eq_true (by omega)] at he
          simp only [cond_true, e116, rd_then] at he
          have hnew : (((l ++ w1) ++ w118) ++ [jf_cv (lx_T b z n1) 0]) = (l ++ (w1 ++ (w118 ++ [jf_cv (lx_T b z n1) 0]))) := by
            simp only [List.append_assoc]
          rw [hnew] at hs125 hl126
          exact ih (i + 1) _ _ _ _ _ rfl (by omega) hs125 (by omega) he
      · refine hR _ (hR _ (?_))
        show R (33, [some (aR 5 0), some (aR 6 t), some (aI o), some (aI ((i : Nat) : Int)), o5], [aI (g 303 0 0)], am_mix cr_S g M)
        rw [(show g 303 0 0 = lx_T b z n1 from hs.1.1)]
        show R (33, [some (aR 5 0), some (aR 6 t), some (aI o), some (aI ((i : Nat) : Int)), o5], [aI (lx_T b z n1)], am_mix cr_S g M)
        refine hR _ (hR _ (am_brc (rg := am_in (lx_T b z n1) ∧ am_in 45) (P := (lx_T b z n1) ≠ 45) (A := R (72, [some (aR 5 0), some (aR 6 t), some (aI o), some (aI ((i : Nat) : Int)), o5], [], am_mix cr_S g M)) (B := R (38, [some (aR 5 0), some (aR 6 t), some (aI o), some (aI ((i : Nat) : Int)), o5], [], am_mix cr_S g M)) (by omega) (fun c35 => ?_) (fun c35 => ?_)))
        · refine hR _ (?_)
          show R (73, [some (aR 5 0), some (aR 6 t), some (aI o), some (aI ((i : Nat) : Int)), o5], [aI 1], am_mix cr_S g M)
          refine hR _ (show ((1 : Int) = 0 ∨ (1 : Int) = 1) ∧ K (some (aI 1)) (am_mix cr_S g M) from ?_)
          rw [show rd_op2 (lx_T b z n1) = false from decide_eq_false (by omega)] at he
          exact ⟨by omega, hok _ _ _ he hs⟩
        · refine hR _ (hR _ (?_))
          show R (42, [some (aR 5 0), some (aR 6 t), some (aI o), some (aI ((i : Nat) : Int)), o5], [aI (g 303 0 0)], am_mix cr_S g M)
          rw [(show g 303 0 0 = lx_T b z n1 from hs.1.1)]
          show R (42, [some (aR 5 0), some (aR 6 t), some (aI o), some (aI ((i : Nat) : Int)), o5], [aI (lx_T b z n1)], am_mix cr_S g M)
          refine hR _ (hR _ (?_))
          show R (45, [some (aR 5 0), some (aR 6 t), some (aI o), some (aI ((i : Nat) : Int)), some (aI (lx_T b z n1))], [aR 5 0], am_mix cr_S g M)
          refine hR _ (cr_tok (by omega) hz hz2 hb hby ht hs (fun g127 hs128 => ?_))
          have hl129 : ((l ++ w1)).length + 1 ≤ lx_P b z (n1 + 1) := cr_lt0 hl (by omega)
          have hT130 := lx_T_b b z (n1 + 1)
          show R (48, [some (aR 5 0), some (aR 6 t), some (aI o), some (aI ((i : Nat) : Int)), some (aI (lx_T b z n1))], [], am_mix cr_S g127 M)
          refine hR _ (hR _ (hR _ (?_)))
          show R (51, [some (aR 5 0), some (aR 6 t), some (aI o), some (aI ((i : Nat) : Int)), some (aI (lx_T b z n1))], [aI o, aR 6 t, aR 5 0], am_mix cr_S g127 M)
          refine hR _ (hsub (by omega) hs128 (by omega) (fun g137 m138 e139 hs140 ho => ?_) (fun g131 m135 w136 e134 hs132 => ?_))
          · show R (54, [some (aR 5 0), some (aR 6 t), some (aI o), some (aI ((i : Nat) : Int)), some (aI (lx_T b z n1))], [aI 0], am_mix cr_S g137 M)
            refine hR _ (am_brf (rg := am_in 0) (P := (0 : Int) ≠ 0) (A := R (59, [some (aR 5 0), some (aR 6 t), some (aI o), some (aI ((i : Nat) : Int)), some (aI (lx_T b z n1))], [], am_mix cr_S g137 M)) (B := R (57, [some (aR 5 0), some (aR 6 t), some (aI o), some (aI ((i : Nat) : Int)), some (aI (lx_T b z n1))], [], am_mix cr_S g137 M)) (by omega) (by omega) ?_)
            show R (57, [some (aR 5 0), some (aR 6 t), some (aI o), some (aI ((i : Nat) : Int)), some (aI (lx_T b z n1))], [], am_mix cr_S g137 M)
            refine hR _ (?_)
            show R (58, [some (aR 5 0), some (aR 6 t), some (aI o), some (aI ((i : Nat) : Int)), some (aI (lx_T b z n1))], [aI 0], am_mix cr_S g137 M)
            refine hR _ (show ((0 : Int) = 0 ∨ (0 : Int) = 1) ∧ K (some (aI 0)) (am_mix cr_S g137 M) from ?_)
            rw [show rd_op2 (lx_T b z n1) = true from decide_eq_true (by omega)] at he
            simp only [cond_true, e139, rd_then] at he
            exact ⟨by omega, hfl _ _ he hs140 ho⟩
          · have hl133 : ((l ++ w1) ++ w136).length + 1 ≤ lx_P b z m135 := cr_len hl129 (mosub _ _ _ e134)
            have hT141 := lx_T_b b z m135
            show R (54, [some (aR 5 0), some (aR 6 t), some (aI o), some (aI ((i : Nat) : Int)), some (aI (lx_T b z n1))], [aI 1], am_mix cr_S g131 M)
            refine hR _ (am_brt (rg := am_in 1) (P := (1 : Int) ≠ 0) (A := R (59, [some (aR 5 0), some (aR 6 t), some (aI o), some (aI ((i : Nat) : Int)), some (aI (lx_T b z n1))], [], am_mix cr_S g131 M)) (B := R (57, [some (aR 5 0), some (aR 6 t), some (aI o), some (aI ((i : Nat) : Int)), some (aI (lx_T b z n1))], [], am_mix cr_S g131 M)) (by omega) (by omega) ?_)
            show R (59, [some (aR 5 0), some (aR 6 t), some (aI o), some (aI ((i : Nat) : Int)), some (aI (lx_T b z n1))], [], am_mix cr_S g131 M)
            refine hR _ (hR _ (hR _ (?_)))
            show R (63, [some (aR 5 0), some (aR 6 t), some (aI o), some (aI ((i : Nat) : Int)), some (aI (lx_T b z n1))], [aI 0, aI (lx_T b z n1), aR 6 t], am_mix cr_S g131 M)
            refine hR _ (am_ct (am_vi (by omega : t < 6)) (cr_put (s := (lx_T b z n1)) (v := 0) (by omega) ht hs132 (by have := lx_P_b b z m135; have := lx_P_b b z (m135 + 1); have := lx_P_1 (b := b) (z := z) m135; omega) (by unfold jf_sv; omega) (fun g142 hs143 => ?_)))
            have hl144 : ((((l ++ w1) ++ w136) ++ [jf_cv (lx_T b z n1) 0])).length + 0 ≤ lx_P b z m135 := cr_len1 hl133
            show R (66, [some (aR 5 0), some (aR 6 t), some (aI o), some (aI ((i : Nat) : Int)), some (aI (lx_T b z n1))], [], am_mix cr_S g142 M)
            refine hR _ (hR _ (?_))
            show R (13, [some (aR 5 0), some (aR 6 t), some (aI o), some (aI (((i : Nat) : Int) + 1)), some (aI (lx_T b z n1))], [], am_mix cr_S g142 M)
            rw [show rd_op2 (lx_T b z n1) = true from decide_eq_true (by omega)] at he
            simp only [cond_true, e134, rd_then] at he
            have hnew : (((l ++ w1) ++ w136) ++ [jf_cv (lx_T b z n1) 0]) = (l ++ (w1 ++ (w136 ++ [jf_cv (lx_T b z n1) 0]))) := by
              simp only [List.append_assoc]
            rw [hnew] at hs143 hl144
            exact ih (i + 1) _ _ _ _ _ rfl (by omega) hs143 (by omega) he
  refine hR _ (hR _ (hR _ (?_)))
  show R (3, [some (aR 5 0), some (aR 6 t), some (aI o), none, none], [aI o, aR 6 t, aR 5 0], am_mix cr_S g M)
  refine hR _ (hsub (by omega) hs (by omega) (fun g151 m152 e153 hs154 ho => ?_) (fun g145 m149 w150 e148 hs146 => ?_))
  · show R (6, [some (aR 5 0), some (aR 6 t), some (aI o), none, none], [aI 0], am_mix cr_S g151 M)
    refine hR _ (am_brf (rg := am_in 0) (P := (0 : Int) ≠ 0) (A := R (11, [some (aR 5 0), some (aR 6 t), some (aI o), none, none], [], am_mix cr_S g151 M)) (B := R (9, [some (aR 5 0), some (aR 6 t), some (aI o), none, none], [], am_mix cr_S g151 M)) (by omega) (by omega) ?_)
    show R (9, [some (aR 5 0), some (aR 6 t), some (aI o), none, none], [], am_mix cr_S g151 M)
    refine hR _ (?_)
    show R (10, [some (aR 5 0), some (aR 6 t), some (aI o), none, none], [aI 0], am_mix cr_S g151 M)
    refine hR _ (show ((0 : Int) = 0 ∨ (0 : Int) = 1) ∧ K (some (aI 0)) (am_mix cr_S g151 M) from ?_)
    exact ⟨by omega, hfl _ _ (by unfold rd_sum; rw [e153]; rfl) hs154 ho⟩
  · have hl147 : (l ++ w150).length + 0 ≤ lx_P b z m149 := cr_len hl (mosub _ _ _ e148)
    have hT155 := lx_T_b b z m149
    show R (6, [some (aR 5 0), some (aR 6 t), some (aI o), none, none], [aI 1], am_mix cr_S g145 M)
    refine hR _ (am_brt (rg := am_in 1) (P := (1 : Int) ≠ 0) (A := R (11, [some (aR 5 0), some (aR 6 t), some (aI o), none, none], [], am_mix cr_S g145 M)) (B := R (9, [some (aR 5 0), some (aR 6 t), some (aI o), none, none], [], am_mix cr_S g145 M)) (by omega) (by omega) ?_)
    show R (11, [some (aR 5 0), some (aR 6 t), some (aI o), none, none], [], am_mix cr_S g145 M)
    refine hR _ (hR _ (?_))
    show R (13, [some (aR 5 0), some (aR 6 t), some (aI o), some (aI 0), none], [], am_mix cr_S g145 M)
    exact key 160 0 _ _ _ _ _ rfl rfl hs146 (by omega) (by unfold rd_sum; rw [e148]; rfl)

set_option maxHeartbeats 1000000 in
theorem cr_and {b : Nat → Int} {z t : Nat} {M : am_M} {nx : rd_N} {k : Nat} {o : Int} (hoo : 0 ≤ o ∧ o ≤ 5) (hz : M 301 0 0 = (z : Int)) (hz2 : z ≤ 160) (hb : M 20 0 = b) (hby : lx_by_ok b z) (ht : t < 6) (hk : 7 ≤ k) (hsub : cr_p wb 24 k b z t M (rd_not (lx_T b z) (lx_V b z) nx) o) (mosub : rd_mo (lx_P b z) (rd_not (lx_T b z) (lx_V b z) nx)) : cr_p wb 23 (k + 1) b z t M (rd_and (lx_T b z) (lx_V b z) nx) o := by
  intro d hd n l g K hs hl0 hfl hok
  have hl : l.length + 0 ≤ lx_P b z n := hl0
  have hTn := lx_T_b b z n
  obtain ⟨d, rfl⟩ : ∃ e, d = e + 1 := ⟨d - 1, by omega⟩
  refine ⟨rfl, fun R hR hC => ?_⟩
  replace hR : ∀ c, am_F wb tb_f23 2 (am_Call wb d) K R c → R c := hR
  show R (0, [some (aR 5 0), some (aR 6 t), some (aI o), none], [], am_mix cr_S g M)
  have key : ∀ (f i : Nat) (x : Int) (g : am_M) (n1 : Nat) (w1 : List Int), x = (i : Int) → i + f = 160 → cr_s b z M (am_mix cr_S g M) t n1 (l ++ w1) → (l ++ w1).length + 0 ≤ lx_P b z n1 → rd_and (lx_T b z) (lx_V b z) nx n = rd_loop (lx_T b z) rd_op5 (rd_not (lx_T b z) (lx_V b z) nx) f n1 w1 → R (13, [some (aR 5 0), some (aR 6 t), some (aI o), some (aI x)], [], am_mix cr_S g M) := by
    intro f
    induction f with
    | zero =>
      intro i x g n1 w1 hx hin hs hl he
      subst hx
      have hTn1 := lx_T_b b z n1
      refine hR _ (hR _ (hR _ (am_brt (rg := am_in ((i : Nat) : Int) ∧ am_in 160) (P := 160 ≤ ((i : Nat) : Int)) (A := R (57, [some (aR 5 0), some (aR 6 t), some (aI o), some (aI ((i : Nat) : Int))], [], am_mix cr_S g M)) (B := R (20, [some (aR 5 0), some (aR 6 t), some (aI o), some (aI ((i : Nat) : Int))], [], am_mix cr_S g M)) (by omega) (by omega) ?_)))
      show R (57, [some (aR 5 0), some (aR 6 t), some (aI o), some (aI ((i : Nat) : Int))], [], am_mix cr_S g M)
      refine hR _ (?_)
      show R (58, [some (aR 5 0), some (aR 6 t), some (aI o), some (aI ((i : Nat) : Int))], [aI 1], am_mix cr_S g M)
      refine hR _ (show ((1 : Int) = 0 ∨ (1 : Int) = 1) ∧ K (some (aI 1)) (am_mix cr_S g M) from ?_)
      exact ⟨by omega, hok _ _ _ he hs⟩
    | succ f ih =>
      intro i x g n1 w1 hx hin hs hl he
      subst hx
      have hTn1 := lx_T_b b z n1
      unfold rd_loop at he
      refine hR _ (hR _ (hR _ (am_brf (rg := am_in ((i : Nat) : Int) ∧ am_in 160) (P := 160 ≤ ((i : Nat) : Int)) (A := R (57, [some (aR 5 0), some (aR 6 t), some (aI o), some (aI ((i : Nat) : Int))], [], am_mix cr_S g M)) (B := R (20, [some (aR 5 0), some (aR 6 t), some (aI o), some (aI ((i : Nat) : Int))], [], am_mix cr_S g M)) (by omega) (by omega) ?_)))
      show R (20, [some (aR 5 0), some (aR 6 t), some (aI o), some (aI ((i : Nat) : Int))], [], am_mix cr_S g M)
      refine hR _ (hR _ (?_))
      show R (24, [some (aR 5 0), some (aR 6 t), some (aI o), some (aI ((i : Nat) : Int))], [aI (g 303 0 0)], am_mix cr_S g M)
      rw [(show g 303 0 0 = lx_T b z n1 from hs.1.1)]
      show R (24, [some (aR 5 0), some (aR 6 t), some (aI o), some (aI ((i : Nat) : Int))], [aI (lx_T b z n1)], am_mix cr_S g M)
      refine hR _ (hR _ (am_brc (rg := am_in (lx_T b z n1) ∧ am_in 7) (P := (lx_T b z n1) ≠ 7) (A := R (57, [some (aR 5 0), some (aR 6 t), some (aI o), some (aI ((i : Nat) : Int))], [], am_mix cr_S g M)) (B := R (29, [some (aR 5 0), some (aR 6 t), some (aI o), some (aI ((i : Nat) : Int))], [], am_mix cr_S g M)) (by omega) (fun c26 => ?_) (fun c26 => ?_)))
      · refine hR _ (?_)
        show R (58, [some (aR 5 0), some (aR 6 t), some (aI o), some (aI ((i : Nat) : Int))], [aI 1], am_mix cr_S g M)
        refine hR _ (show ((1 : Int) = 0 ∨ (1 : Int) = 1) ∧ K (some (aI 1)) (am_mix cr_S g M) from ?_)
        rw [show rd_op5 (lx_T b z n1) = false from decide_eq_false (by omega)] at he
        exact ⟨by omega, hok _ _ _ he hs⟩
      · refine hR _ (?_)
        show R (30, [some (aR 5 0), some (aR 6 t), some (aI o), some (aI ((i : Nat) : Int))], [aR 5 0], am_mix cr_S g M)
        refine hR _ (cr_tok (by omega) hz hz2 hb hby ht hs (fun g156 hs157 => ?_))
        have hl158 : ((l ++ w1)).length + 1 ≤ lx_P b z (n1 + 1) := cr_lt0 hl (by omega)
        have hT159 := lx_T_b b z (n1 + 1)
        show R (33, [some (aR 5 0), some (aR 6 t), some (aI o), some (aI ((i : Nat) : Int))], [], am_mix cr_S g156 M)
        refine hR _ (hR _ (hR _ (?_)))
        show R (36, [some (aR 5 0), some (aR 6 t), some (aI o), some (aI ((i : Nat) : Int))], [aI o, aR 6 t, aR 5 0], am_mix cr_S g156 M)
        refine hR _ (hsub (by omega) hs157 (by omega) (fun g166 m167 e168 hs169 ho => ?_) (fun g160 m164 w165 e163 hs161 => ?_))
        · show R (39, [some (aR 5 0), some (aR 6 t), some (aI o), some (aI ((i : Nat) : Int))], [aI 0], am_mix cr_S g166 M)
          refine hR _ (am_brf (rg := am_in 0) (P := (0 : Int) ≠ 0) (A := R (44, [some (aR 5 0), some (aR 6 t), some (aI o), some (aI ((i : Nat) : Int))], [], am_mix cr_S g166 M)) (B := R (42, [some (aR 5 0), some (aR 6 t), some (aI o), some (aI ((i : Nat) : Int))], [], am_mix cr_S g166 M)) (by omega) (by omega) ?_)
          show R (42, [some (aR 5 0), some (aR 6 t), some (aI o), some (aI ((i : Nat) : Int))], [], am_mix cr_S g166 M)
          refine hR _ (?_)
          show R (43, [some (aR 5 0), some (aR 6 t), some (aI o), some (aI ((i : Nat) : Int))], [aI 0], am_mix cr_S g166 M)
          refine hR _ (show ((0 : Int) = 0 ∨ (0 : Int) = 1) ∧ K (some (aI 0)) (am_mix cr_S g166 M) from ?_)
          rw [show rd_op5 (lx_T b z n1) = true from decide_eq_true (by omega)] at he
          simp only [cond_true, e168, rd_then] at he
          exact ⟨by omega, hfl _ _ he hs169 ho⟩
        · have hl162 : ((l ++ w1) ++ w165).length + 1 ≤ lx_P b z m164 := cr_len hl158 (mosub _ _ _ e163)
          have hT170 := lx_T_b b z m164
          show R (39, [some (aR 5 0), some (aR 6 t), some (aI o), some (aI ((i : Nat) : Int))], [aI 1], am_mix cr_S g160 M)
          refine hR _ (am_brt (rg := am_in 1) (P := (1 : Int) ≠ 0) (A := R (44, [some (aR 5 0), some (aR 6 t), some (aI o), some (aI ((i : Nat) : Int))], [], am_mix cr_S g160 M)) (B := R (42, [some (aR 5 0), some (aR 6 t), some (aI o), some (aI ((i : Nat) : Int))], [], am_mix cr_S g160 M)) (by omega) (by omega) ?_)
          show R (44, [some (aR 5 0), some (aR 6 t), some (aI o), some (aI ((i : Nat) : Int))], [], am_mix cr_S g160 M)
          refine hR _ (hR _ (hR _ (?_)))
          show R (48, [some (aR 5 0), some (aR 6 t), some (aI o), some (aI ((i : Nat) : Int))], [aI 0, aI 7, aR 6 t], am_mix cr_S g160 M)
          refine hR _ (am_ct (am_vi (by omega : t < 6)) (cr_put (s := 7) (v := 0) (by omega) ht hs161 (by have := lx_P_b b z m164; have := lx_P_b b z (m164 + 1); have := lx_P_1 (b := b) (z := z) m164; omega) (by unfold jf_sv; omega) (fun g171 hs172 => ?_)))
          have hl173 : ((((l ++ w1) ++ w165) ++ [jf_cv 7 0])).length + 0 ≤ lx_P b z m164 := cr_len1 hl162
          show R (51, [some (aR 5 0), some (aR 6 t), some (aI o), some (aI ((i : Nat) : Int))], [], am_mix cr_S g171 M)
          refine hR _ (hR _ (?_))
          show R (13, [some (aR 5 0), some (aR 6 t), some (aI o), some (aI (((i : Nat) : Int) + 1))], [], am_mix cr_S g171 M)
          rw [show rd_op5 (lx_T b z n1) = true from decide_eq_true (by omega)] at he
          simp only [cond_true, e163, rd_then] at he
          have hnew : (((l ++ w1) ++ w165) ++ [jf_cv 7 0]) = (l ++ (w1 ++ (w165 ++ [jf_cv (lx_T b z n1) 0]))) := by
            rw [show lx_T b z n1 = 7 by omega]
            simp only [List.append_assoc]
          rw [hnew] at hs172 hl173
          exact ih (i + 1) _ _ _ _ rfl (by omega) hs172 (by omega) he
  refine hR _ (hR _ (hR _ (?_)))
  show R (3, [some (aR 5 0), some (aR 6 t), some (aI o), none], [aI o, aR 6 t, aR 5 0], am_mix cr_S g M)
  refine hR _ (hsub (by omega) hs (by omega) (fun g180 m181 e182 hs183 ho => ?_) (fun g174 m178 w179 e177 hs175 => ?_))
  · show R (6, [some (aR 5 0), some (aR 6 t), some (aI o), none], [aI 0], am_mix cr_S g180 M)
    refine hR _ (am_brf (rg := am_in 0) (P := (0 : Int) ≠ 0) (A := R (11, [some (aR 5 0), some (aR 6 t), some (aI o), none], [], am_mix cr_S g180 M)) (B := R (9, [some (aR 5 0), some (aR 6 t), some (aI o), none], [], am_mix cr_S g180 M)) (by omega) (by omega) ?_)
    show R (9, [some (aR 5 0), some (aR 6 t), some (aI o), none], [], am_mix cr_S g180 M)
    refine hR _ (?_)
    show R (10, [some (aR 5 0), some (aR 6 t), some (aI o), none], [aI 0], am_mix cr_S g180 M)
    refine hR _ (show ((0 : Int) = 0 ∨ (0 : Int) = 1) ∧ K (some (aI 0)) (am_mix cr_S g180 M) from ?_)
    exact ⟨by omega, hfl _ _ (by unfold rd_and; rw [e182]; rfl) hs183 ho⟩
  · have hl176 : (l ++ w179).length + 0 ≤ lx_P b z m178 := cr_len hl (mosub _ _ _ e177)
    have hT184 := lx_T_b b z m178
    show R (6, [some (aR 5 0), some (aR 6 t), some (aI o), none], [aI 1], am_mix cr_S g174 M)
    refine hR _ (am_brt (rg := am_in 1) (P := (1 : Int) ≠ 0) (A := R (11, [some (aR 5 0), some (aR 6 t), some (aI o), none], [], am_mix cr_S g174 M)) (B := R (9, [some (aR 5 0), some (aR 6 t), some (aI o), none], [], am_mix cr_S g174 M)) (by omega) (by omega) ?_)
    show R (11, [some (aR 5 0), some (aR 6 t), some (aI o), none], [], am_mix cr_S g174 M)
    refine hR _ (hR _ (?_))
    show R (13, [some (aR 5 0), some (aR 6 t), some (aI o), some (aI 0)], [], am_mix cr_S g174 M)
    exact key 160 0 _ _ _ _ rfl rfl hs175 (by omega) (by unfold rd_and; rw [e177]; rfl)

set_option maxHeartbeats 1000000 in
theorem cr_or {b : Nat → Int} {z t : Nat} {M : am_M} {nx : rd_N} {k : Nat} {o : Int} (hoo : 0 ≤ o ∧ o ≤ 5) (hz : M 301 0 0 = (z : Int)) (hz2 : z ≤ 160) (hb : M 20 0 = b) (hby : lx_by_ok b z) (ht : t < 6) (hk : 7 ≤ k) (hsub : cr_p wb 23 k b z t M (rd_and (lx_T b z) (lx_V b z) nx) o) (mosub : rd_mo (lx_P b z) (rd_and (lx_T b z) (lx_V b z) nx)) : cr_p wb 22 (k + 1) b z t M (rd_or (lx_T b z) (lx_V b z) nx) o := by
  intro d hd n l g K hs hl0 hfl hok
  have hl : l.length + 0 ≤ lx_P b z n := hl0
  have hTn := lx_T_b b z n
  obtain ⟨d, rfl⟩ : ∃ e, d = e + 1 := ⟨d - 1, by omega⟩
  refine ⟨rfl, fun R hR hC => ?_⟩
  replace hR : ∀ c, am_F wb tb_f22 2 (am_Call wb d) K R c → R c := hR
  show R (0, [some (aR 5 0), some (aR 6 t), some (aI o), none], [], am_mix cr_S g M)
  have key : ∀ (f i : Nat) (x : Int) (g : am_M) (n1 : Nat) (w1 : List Int), x = (i : Int) → i + f = 160 → cr_s b z M (am_mix cr_S g M) t n1 (l ++ w1) → (l ++ w1).length + 0 ≤ lx_P b z n1 → rd_or (lx_T b z) (lx_V b z) nx n = rd_loop (lx_T b z) rd_op6 (rd_and (lx_T b z) (lx_V b z) nx) f n1 w1 → R (13, [some (aR 5 0), some (aR 6 t), some (aI o), some (aI x)], [], am_mix cr_S g M) := by
    intro f
    induction f with
    | zero =>
      intro i x g n1 w1 hx hin hs hl he
      subst hx
      have hTn1 := lx_T_b b z n1
      refine hR _ (hR _ (hR _ (am_brt (rg := am_in ((i : Nat) : Int) ∧ am_in 160) (P := 160 ≤ ((i : Nat) : Int)) (A := R (57, [some (aR 5 0), some (aR 6 t), some (aI o), some (aI ((i : Nat) : Int))], [], am_mix cr_S g M)) (B := R (20, [some (aR 5 0), some (aR 6 t), some (aI o), some (aI ((i : Nat) : Int))], [], am_mix cr_S g M)) (by omega) (by omega) ?_)))
      show R (57, [some (aR 5 0), some (aR 6 t), some (aI o), some (aI ((i : Nat) : Int))], [], am_mix cr_S g M)
      refine hR _ (?_)
      show R (58, [some (aR 5 0), some (aR 6 t), some (aI o), some (aI ((i : Nat) : Int))], [aI 1], am_mix cr_S g M)
      refine hR _ (show ((1 : Int) = 0 ∨ (1 : Int) = 1) ∧ K (some (aI 1)) (am_mix cr_S g M) from ?_)
      exact ⟨by omega, hok _ _ _ he hs⟩
    | succ f ih =>
      intro i x g n1 w1 hx hin hs hl he
      subst hx
      have hTn1 := lx_T_b b z n1
      unfold rd_loop at he
      refine hR _ (hR _ (hR _ (am_brf (rg := am_in ((i : Nat) : Int) ∧ am_in 160) (P := 160 ≤ ((i : Nat) : Int)) (A := R (57, [some (aR 5 0), some (aR 6 t), some (aI o), some (aI ((i : Nat) : Int))], [], am_mix cr_S g M)) (B := R (20, [some (aR 5 0), some (aR 6 t), some (aI o), some (aI ((i : Nat) : Int))], [], am_mix cr_S g M)) (by omega) (by omega) ?_)))
      show R (20, [some (aR 5 0), some (aR 6 t), some (aI o), some (aI ((i : Nat) : Int))], [], am_mix cr_S g M)
      refine hR _ (hR _ (?_))
      show R (24, [some (aR 5 0), some (aR 6 t), some (aI o), some (aI ((i : Nat) : Int))], [aI (g 303 0 0)], am_mix cr_S g M)
      rw [(show g 303 0 0 = lx_T b z n1 from hs.1.1)]
      show R (24, [some (aR 5 0), some (aR 6 t), some (aI o), some (aI ((i : Nat) : Int))], [aI (lx_T b z n1)], am_mix cr_S g M)
      refine hR _ (hR _ (am_brc (rg := am_in (lx_T b z n1) ∧ am_in 8) (P := (lx_T b z n1) ≠ 8) (A := R (57, [some (aR 5 0), some (aR 6 t), some (aI o), some (aI ((i : Nat) : Int))], [], am_mix cr_S g M)) (B := R (29, [some (aR 5 0), some (aR 6 t), some (aI o), some (aI ((i : Nat) : Int))], [], am_mix cr_S g M)) (by omega) (fun c26 => ?_) (fun c26 => ?_)))
      · refine hR _ (?_)
        show R (58, [some (aR 5 0), some (aR 6 t), some (aI o), some (aI ((i : Nat) : Int))], [aI 1], am_mix cr_S g M)
        refine hR _ (show ((1 : Int) = 0 ∨ (1 : Int) = 1) ∧ K (some (aI 1)) (am_mix cr_S g M) from ?_)
        rw [show rd_op6 (lx_T b z n1) = false from decide_eq_false (by omega)] at he
        exact ⟨by omega, hok _ _ _ he hs⟩
      · refine hR _ (?_)
        show R (30, [some (aR 5 0), some (aR 6 t), some (aI o), some (aI ((i : Nat) : Int))], [aR 5 0], am_mix cr_S g M)
        refine hR _ (cr_tok (by omega) hz hz2 hb hby ht hs (fun g185 hs186 => ?_))
        have hl187 : ((l ++ w1)).length + 1 ≤ lx_P b z (n1 + 1) := cr_lt0 hl (by omega)
        have hT188 := lx_T_b b z (n1 + 1)
        show R (33, [some (aR 5 0), some (aR 6 t), some (aI o), some (aI ((i : Nat) : Int))], [], am_mix cr_S g185 M)
        refine hR _ (hR _ (hR _ (?_)))
        show R (36, [some (aR 5 0), some (aR 6 t), some (aI o), some (aI ((i : Nat) : Int))], [aI o, aR 6 t, aR 5 0], am_mix cr_S g185 M)
        refine hR _ (hsub (by omega) hs186 (by omega) (fun g195 m196 e197 hs198 ho => ?_) (fun g189 m193 w194 e192 hs190 => ?_))
        · show R (39, [some (aR 5 0), some (aR 6 t), some (aI o), some (aI ((i : Nat) : Int))], [aI 0], am_mix cr_S g195 M)
          refine hR _ (am_brf (rg := am_in 0) (P := (0 : Int) ≠ 0) (A := R (44, [some (aR 5 0), some (aR 6 t), some (aI o), some (aI ((i : Nat) : Int))], [], am_mix cr_S g195 M)) (B := R (42, [some (aR 5 0), some (aR 6 t), some (aI o), some (aI ((i : Nat) : Int))], [], am_mix cr_S g195 M)) (by omega) (by omega) ?_)
          show R (42, [some (aR 5 0), some (aR 6 t), some (aI o), some (aI ((i : Nat) : Int))], [], am_mix cr_S g195 M)
          refine hR _ (?_)
          show R (43, [some (aR 5 0), some (aR 6 t), some (aI o), some (aI ((i : Nat) : Int))], [aI 0], am_mix cr_S g195 M)
          refine hR _ (show ((0 : Int) = 0 ∨ (0 : Int) = 1) ∧ K (some (aI 0)) (am_mix cr_S g195 M) from ?_)
          rw [show rd_op6 (lx_T b z n1) = true from decide_eq_true (by omega)] at he
          simp only [cond_true, e197, rd_then] at he
          exact ⟨by omega, hfl _ _ he hs198 ho⟩
        · have hl191 : ((l ++ w1) ++ w194).length + 1 ≤ lx_P b z m193 := cr_len hl187 (mosub _ _ _ e192)
          have hT199 := lx_T_b b z m193
          show R (39, [some (aR 5 0), some (aR 6 t), some (aI o), some (aI ((i : Nat) : Int))], [aI 1], am_mix cr_S g189 M)
          refine hR _ (am_brt (rg := am_in 1) (P := (1 : Int) ≠ 0) (A := R (44, [some (aR 5 0), some (aR 6 t), some (aI o), some (aI ((i : Nat) : Int))], [], am_mix cr_S g189 M)) (B := R (42, [some (aR 5 0), some (aR 6 t), some (aI o), some (aI ((i : Nat) : Int))], [], am_mix cr_S g189 M)) (by omega) (by omega) ?_)
          show R (44, [some (aR 5 0), some (aR 6 t), some (aI o), some (aI ((i : Nat) : Int))], [], am_mix cr_S g189 M)
          refine hR _ (hR _ (hR _ (?_)))
          show R (48, [some (aR 5 0), some (aR 6 t), some (aI o), some (aI ((i : Nat) : Int))], [aI 0, aI 8, aR 6 t], am_mix cr_S g189 M)
          refine hR _ (am_ct (am_vi (by omega : t < 6)) (cr_put (s := 8) (v := 0) (by omega) ht hs190 (by have := lx_P_b b z m193; have := lx_P_b b z (m193 + 1); have := lx_P_1 (b := b) (z := z) m193; omega) (by unfold jf_sv; omega) (fun g200 hs201 => ?_)))
          have hl202 : ((((l ++ w1) ++ w194) ++ [jf_cv 8 0])).length + 0 ≤ lx_P b z m193 := cr_len1 hl191
          show R (51, [some (aR 5 0), some (aR 6 t), some (aI o), some (aI ((i : Nat) : Int))], [], am_mix cr_S g200 M)
          refine hR _ (hR _ (?_))
          show R (13, [some (aR 5 0), some (aR 6 t), some (aI o), some (aI (((i : Nat) : Int) + 1))], [], am_mix cr_S g200 M)
          rw [show rd_op6 (lx_T b z n1) = true from decide_eq_true (by omega)] at he
          simp only [cond_true, e192, rd_then] at he
          have hnew : (((l ++ w1) ++ w194) ++ [jf_cv 8 0]) = (l ++ (w1 ++ (w194 ++ [jf_cv (lx_T b z n1) 0]))) := by
            rw [show lx_T b z n1 = 8 by omega]
            simp only [List.append_assoc]
          rw [hnew] at hs201 hl202
          exact ih (i + 1) _ _ _ _ rfl (by omega) hs201 (by omega) he
  refine hR _ (hR _ (hR _ (?_)))
  show R (3, [some (aR 5 0), some (aR 6 t), some (aI o), none], [aI o, aR 6 t, aR 5 0], am_mix cr_S g M)
  refine hR _ (hsub (by omega) hs (by omega) (fun g209 m210 e211 hs212 ho => ?_) (fun g203 m207 w208 e206 hs204 => ?_))
  · show R (6, [some (aR 5 0), some (aR 6 t), some (aI o), none], [aI 0], am_mix cr_S g209 M)
    refine hR _ (am_brf (rg := am_in 0) (P := (0 : Int) ≠ 0) (A := R (11, [some (aR 5 0), some (aR 6 t), some (aI o), none], [], am_mix cr_S g209 M)) (B := R (9, [some (aR 5 0), some (aR 6 t), some (aI o), none], [], am_mix cr_S g209 M)) (by omega) (by omega) ?_)
    show R (9, [some (aR 5 0), some (aR 6 t), some (aI o), none], [], am_mix cr_S g209 M)
    refine hR _ (?_)
    show R (10, [some (aR 5 0), some (aR 6 t), some (aI o), none], [aI 0], am_mix cr_S g209 M)
    refine hR _ (show ((0 : Int) = 0 ∨ (0 : Int) = 1) ∧ K (some (aI 0)) (am_mix cr_S g209 M) from ?_)
    exact ⟨by omega, hfl _ _ (by unfold rd_or; rw [e211]; rfl) hs212 ho⟩
  · have hl205 : (l ++ w208).length + 0 ≤ lx_P b z m207 := cr_len hl (mosub _ _ _ e206)
    have hT213 := lx_T_b b z m207
    show R (6, [some (aR 5 0), some (aR 6 t), some (aI o), none], [aI 1], am_mix cr_S g203 M)
    refine hR _ (am_brt (rg := am_in 1) (P := (1 : Int) ≠ 0) (A := R (11, [some (aR 5 0), some (aR 6 t), some (aI o), none], [], am_mix cr_S g203 M)) (B := R (9, [some (aR 5 0), some (aR 6 t), some (aI o), none], [], am_mix cr_S g203 M)) (by omega) (by omega) ?_)
    show R (11, [some (aR 5 0), some (aR 6 t), some (aI o), none], [], am_mix cr_S g203 M)
    refine hR _ (hR _ (?_))
    show R (13, [some (aR 5 0), some (aR 6 t), some (aI o), some (aI 0)], [], am_mix cr_S g203 M)
    exact key 160 0 _ _ _ _ rfl rfl hs204 (by omega) (by unfold rd_or; rw [e206]; rfl)

set_option maxHeartbeats 1000000 in
theorem cr_not0 {b : Nat → Int} {z t : Nat} {M : am_M} {k : Nat} {o : Int} (hoo : 0 ≤ o ∧ o ≤ 5) (hz : M 301 0 0 = (z : Int)) (hz2 : z ≤ 160) (hb : M 20 0 = b) (hby : lx_by_ok b z) (ht : t < 6) (hk : 7 ≤ k) (hsub : cr_p wb 26 k b z t M (rd_sum (lx_T b z) (lx_V b z) none) o) (mosub : rd_mo (lx_P b z) (rd_sum (lx_T b z) (lx_V b z) none)) (ho5 : o = 5) : cr_p wb 24 (k + 1) b z t M (rd_not (lx_T b z) (lx_V b z) none) o := by
  intro d hd n l g K hs hl0 hfl hok
  have hl : l.length + 0 ≤ lx_P b z n := hl0
  have hTn := lx_T_b b z n
  obtain ⟨d, rfl⟩ : ∃ e, d = e + 1 := ⟨d - 1, by omega⟩
  refine ⟨rfl, fun R hR hC => ?_⟩
  replace hR : ∀ c, am_F wb tb_f24 2 (am_Call wb d) K R c → R c := hR
  show R (0, [some (aR 5 0), some (aR 6 t), some (aI o), none], [], am_mix cr_S g M)
  refine hR _ (hR _ (?_))
  show R (4, [some (aR 5 0), some (aR 6 t), some (aI o), none], [aI (g 303 0 0)], am_mix cr_S g M)
  rw [(show g 303 0 0 = lx_T b z n from hs.1.1)]
  show R (4, [some (aR 5 0), some (aR 6 t), some (aI o), none], [aI (lx_T b z n)], am_mix cr_S g M)
  refine hR _ (hR _ (am_brc (rg := am_in (lx_T b z n) ∧ am_in 6) (P := (lx_T b z n) ≠ 6) (A := R (42, [some (aR 5 0), some (aR 6 t), some (aI o), none], [], am_mix cr_S g M)) (B := R (9, [some (aR 5 0), some (aR 6 t), some (aI o), none], [], am_mix cr_S g M)) (by omega) (fun c6 => ?_) (fun c6 => ?_)))
  · refine hR _ (hR _ (hR _ (?_)))
    show R (45, [some (aR 5 0), some (aR 6 t), some (aI o), none], [aI o, aR 6 t, aR 5 0], am_mix cr_S g M)
    refine hR _ (hsub (by omega) hs (by omega) (fun g220 m221 e222 hs223 ho => ?_) (fun g214 m218 w219 e217 hs215 => ?_))
    · show R (48, [some (aR 5 0), some (aR 6 t), some (aI o), none], [aI 0], am_mix cr_S g220 M)
      refine hR _ (am_brf (rg := am_in 0) (P := (0 : Int) ≠ 0) (A := R (53, [some (aR 5 0), some (aR 6 t), some (aI o), none], [], am_mix cr_S g220 M)) (B := R (51, [some (aR 5 0), some (aR 6 t), some (aI o), none], [], am_mix cr_S g220 M)) (by omega) (by omega) ?_)
      show R (51, [some (aR 5 0), some (aR 6 t), some (aI o), none], [], am_mix cr_S g220 M)
      refine hR _ (?_)
      show R (52, [some (aR 5 0), some (aR 6 t), some (aI o), none], [aI 0], am_mix cr_S g220 M)
      refine hR _ (show ((0 : Int) = 0 ∨ (0 : Int) = 1) ∧ K (some (aI 0)) (am_mix cr_S g220 M) from ?_)
      refine ⟨by omega, hfl _ _ (by
        unfold rd_not
        repeat (first | rw [if_pos (by omega)] | rw [if_neg (by omega)] | rw [e222] | (simp only [rd_then]))
        ) hs223 ho⟩
    · have hl216 : (l ++ w219).length + 0 ≤ lx_P b z m218 := cr_len hl (mosub _ _ _ e217)
      have hT224 := lx_T_b b z m218
      show R (48, [some (aR 5 0), some (aR 6 t), some (aI o), none], [aI 1], am_mix cr_S g214 M)
      refine hR _ (am_brt (rg := am_in 1) (P := (1 : Int) ≠ 0) (A := R (53, [some (aR 5 0), some (aR 6 t), some (aI o), none], [], am_mix cr_S g214 M)) (B := R (51, [some (aR 5 0), some (aR 6 t), some (aI o), none], [], am_mix cr_S g214 M)) (by omega) (by omega) ?_)
      show R (53, [some (aR 5 0), some (aR 6 t), some (aI o), none], [], am_mix cr_S g214 M)
      refine hR _ (hR _ (?_))
      show R (57, [some (aR 5 0), some (aR 6 t), some (aI o), none], [aI (g214 303 0 0)], am_mix cr_S g214 M)
      rw [(show g214 303 0 0 = lx_T b z m218 from hs215.1.1)]
      show R (57, [some (aR 5 0), some (aR 6 t), some (aI o), none], [aI (lx_T b z m218)], am_mix cr_S g214 M)
      refine hR _ (hR _ (am_brc (rg := am_in (lx_T b z m218) ∧ am_in 60) (P := (lx_T b z m218) = 60) (A := R (73, [some (aR 5 0), some (aR 6 t), some (aI o), none], [], am_mix cr_S g214 M)) (B := R (62, [some (aR 5 0), some (aR 6 t), some (aI o), none], [], am_mix cr_S g214 M)) (by omega) (fun c59 => ?_) (fun c59 => ?_)))
      · refine hR _ (hR _ (?_))
        show R (77, [some (aR 5 0), some (aR 6 t), some (aI o), none], [aI (g214 303 0 0)], am_mix cr_S g214 M)
        rw [(show g214 303 0 0 = lx_T b z m218 from hs215.1.1)]
        show R (77, [some (aR 5 0), some (aR 6 t), some (aI o), none], [aI (lx_T b z m218)], am_mix cr_S g214 M)
        refine hR _ (hR _ (?_))
        show R (79, [some (aR 5 0), some (aR 6 t), some (aI o), some (aI (lx_T b z m218))], [aR 5 0], am_mix cr_S g214 M)
        refine hR _ (cr_tok (by omega) hz hz2 hb hby ht hs215 (fun g225 hs226 => ?_))
        have hl227 : ((l ++ w219)).length + 1 ≤ lx_P b z (m218 + 1) := cr_lt0 hl216 (by omega)
        have hT228 := lx_T_b b z (m218 + 1)
        show R (82, [some (aR 5 0), some (aR 6 t), some (aI o), some (aI (lx_T b z m218))], [], am_mix cr_S g225 M)
        refine hR _ (hR _ (hR _ (?_)))
        show R (85, [some (aR 5 0), some (aR 6 t), some (aI o), some (aI (lx_T b z m218))], [aI o, aR 6 t, aR 5 0], am_mix cr_S g225 M)
        refine hR _ (hsub (by omega) hs226 (by omega) (fun g235 m236 e237 hs238 ho => ?_) (fun g229 m233 w234 e232 hs230 => ?_))
        · show R (88, [some (aR 5 0), some (aR 6 t), some (aI o), some (aI (lx_T b z m218))], [aI 0], am_mix cr_S g235 M)
          refine hR _ (am_brf (rg := am_in 0) (P := (0 : Int) ≠ 0) (A := R (93, [some (aR 5 0), some (aR 6 t), some (aI o), some (aI (lx_T b z m218))], [], am_mix cr_S g235 M)) (B := R (91, [some (aR 5 0), some (aR 6 t), some (aI o), some (aI (lx_T b z m218))], [], am_mix cr_S g235 M)) (by omega) (by omega) ?_)
          show R (91, [some (aR 5 0), some (aR 6 t), some (aI o), some (aI (lx_T b z m218))], [], am_mix cr_S g235 M)
          refine hR _ (?_)
          show R (92, [some (aR 5 0), some (aR 6 t), some (aI o), some (aI (lx_T b z m218))], [aI 0], am_mix cr_S g235 M)
          refine hR _ (show ((0 : Int) = 0 ∨ (0 : Int) = 1) ∧ K (some (aI 0)) (am_mix cr_S g235 M) from ?_)
          refine ⟨by omega, hfl _ _ (by
            unfold rd_not
            repeat (first | rw [if_pos (by omega)] | rw [if_neg (by omega)] | rw [e217] | rw [e237] | (simp only [rd_then]))
            ) hs238 ho⟩
        · have hl231 : ((l ++ w219) ++ w234).length + 1 ≤ lx_P b z m233 := cr_len hl227 (mosub _ _ _ e232)
          have hT239 := lx_T_b b z m233
          show R (88, [some (aR 5 0), some (aR 6 t), some (aI o), some (aI (lx_T b z m218))], [aI 1], am_mix cr_S g229 M)
          refine hR _ (am_brt (rg := am_in 1) (P := (1 : Int) ≠ 0) (A := R (93, [some (aR 5 0), some (aR 6 t), some (aI o), some (aI (lx_T b z m218))], [], am_mix cr_S g229 M)) (B := R (91, [some (aR 5 0), some (aR 6 t), some (aI o), some (aI (lx_T b z m218))], [], am_mix cr_S g229 M)) (by omega) (by omega) ?_)
          show R (93, [some (aR 5 0), some (aR 6 t), some (aI o), some (aI (lx_T b z m218))], [], am_mix cr_S g229 M)
          refine hR _ (hR _ (hR _ (?_)))
          show R (96, [some (aR 5 0), some (aR 6 t), some (aI o), some (aI (lx_T b z m218))], [aI 0, aI (lx_T b z m218), aR 6 t], am_mix cr_S g229 M)
          refine hR _ (am_ct (am_vi (by omega : t < 6)) (cr_put (s := (lx_T b z m218)) (v := 0) (by omega) ht hs230 (by have := lx_P_b b z m233; have := lx_P_b b z (m233 + 1); have := lx_P_1 (b := b) (z := z) m233; omega) (by unfold jf_sv; omega) (fun g240 hs241 => ?_)))
          have hl242 : ((((l ++ w219) ++ w234) ++ [jf_cv (lx_T b z m218) 0])).length + 0 ≤ lx_P b z m233 := cr_len1 hl231
          show R (99, [some (aR 5 0), some (aR 6 t), some (aI o), some (aI (lx_T b z m218))], [], am_mix cr_S g240 M)
          refine hR _ (?_)
          show R (100, [some (aR 5 0), some (aR 6 t), some (aI o), some (aI (lx_T b z m218))], [aI 1], am_mix cr_S g240 M)
          refine hR _ (show ((1 : Int) = 0 ∨ (1 : Int) = 1) ∧ K (some (aI 1)) (am_mix cr_S g240 M) from ?_)
          refine ⟨by omega, hok _ m233 (w219 ++ (w234 ++ [jf_cv (lx_T b z m218) 0])) (by
            unfold rd_not
            repeat (first | rw [if_pos (by omega)] | rw [if_neg (by omega)] | rw [e217] | rw [e232] | (simp only [rd_then]))
            try rfl
            ) (by first | exact hs241 | (simp only [← List.append_assoc]; exact hs241))⟩
      · refine hR _ (hR _ (?_))
        show R (66, [some (aR 5 0), some (aR 6 t), some (aI o), none], [aI (g214 303 0 0)], am_mix cr_S g214 M)
        rw [(show g214 303 0 0 = lx_T b z m218 from hs215.1.1)]
        show R (66, [some (aR 5 0), some (aR 6 t), some (aI o), none], [aI (lx_T b z m218)], am_mix cr_S g214 M)
        refine hR _ (hR _ (am_brc (rg := am_in (lx_T b z m218) ∧ am_in 61) (P := (lx_T b z m218) = 61) (A := R (73, [some (aR 5 0), some (aR 6 t), some (aI o), none], [], am_mix cr_S g214 M)) (B := R (71, [some (aR 5 0), some (aR 6 t), some (aI o), none], [], am_mix cr_S g214 M)) (by omega) (fun c68 => ?_) (fun c68 => ?_)))
        · refine hR _ (hR _ (?_))
          show R (77, [some (aR 5 0), some (aR 6 t), some (aI o), none], [aI (g214 303 0 0)], am_mix cr_S g214 M)
          rw [(show g214 303 0 0 = lx_T b z m218 from hs215.1.1)]
          show R (77, [some (aR 5 0), some (aR 6 t), some (aI o), none], [aI (lx_T b z m218)], am_mix cr_S g214 M)
          refine hR _ (hR _ (?_))
          show R (79, [some (aR 5 0), some (aR 6 t), some (aI o), some (aI (lx_T b z m218))], [aR 5 0], am_mix cr_S g214 M)
          refine hR _ (cr_tok (by omega) hz hz2 hb hby ht hs215 (fun g243 hs244 => ?_))
          have hl245 : ((l ++ w219)).length + 1 ≤ lx_P b z (m218 + 1) := cr_lt0 hl216 (by omega)
          have hT246 := lx_T_b b z (m218 + 1)
          show R (82, [some (aR 5 0), some (aR 6 t), some (aI o), some (aI (lx_T b z m218))], [], am_mix cr_S g243 M)
          refine hR _ (hR _ (hR _ (?_)))
          show R (85, [some (aR 5 0), some (aR 6 t), some (aI o), some (aI (lx_T b z m218))], [aI o, aR 6 t, aR 5 0], am_mix cr_S g243 M)
          refine hR _ (hsub (by omega) hs244 (by omega) (fun g253 m254 e255 hs256 ho => ?_) (fun g247 m251 w252 e250 hs248 => ?_))
          · show R (88, [some (aR 5 0), some (aR 6 t), some (aI o), some (aI (lx_T b z m218))], [aI 0], am_mix cr_S g253 M)
            refine hR _ (am_brf (rg := am_in 0) (P := (0 : Int) ≠ 0) (A := R (93, [some (aR 5 0), some (aR 6 t), some (aI o), some (aI (lx_T b z m218))], [], am_mix cr_S g253 M)) (B := R (91, [some (aR 5 0), some (aR 6 t), some (aI o), some (aI (lx_T b z m218))], [], am_mix cr_S g253 M)) (by omega) (by omega) ?_)
            show R (91, [some (aR 5 0), some (aR 6 t), some (aI o), some (aI (lx_T b z m218))], [], am_mix cr_S g253 M)
            refine hR _ (?_)
            show R (92, [some (aR 5 0), some (aR 6 t), some (aI o), some (aI (lx_T b z m218))], [aI 0], am_mix cr_S g253 M)
            refine hR _ (show ((0 : Int) = 0 ∨ (0 : Int) = 1) ∧ K (some (aI 0)) (am_mix cr_S g253 M) from ?_)
            refine ⟨by omega, hfl _ _ (by
              unfold rd_not
              repeat (first | rw [if_pos (by omega)] | rw [if_neg (by omega)] | rw [e217] | rw [e255] | (simp only [rd_then]))
              ) hs256 ho⟩
          · have hl249 : ((l ++ w219) ++ w252).length + 1 ≤ lx_P b z m251 := cr_len hl245 (mosub _ _ _ e250)
            have hT257 := lx_T_b b z m251
            show R (88, [some (aR 5 0), some (aR 6 t), some (aI o), some (aI (lx_T b z m218))], [aI 1], am_mix cr_S g247 M)
            refine hR _ (am_brt (rg := am_in 1) (P := (1 : Int) ≠ 0) (A := R (93, [some (aR 5 0), some (aR 6 t), some (aI o), some (aI (lx_T b z m218))], [], am_mix cr_S g247 M)) (B := R (91, [some (aR 5 0), some (aR 6 t), some (aI o), some (aI (lx_T b z m218))], [], am_mix cr_S g247 M)) (by omega) (by omega) ?_)
            show R (93, [some (aR 5 0), some (aR 6 t), some (aI o), some (aI (lx_T b z m218))], [], am_mix cr_S g247 M)
            refine hR _ (hR _ (hR _ (?_)))
            show R (96, [some (aR 5 0), some (aR 6 t), some (aI o), some (aI (lx_T b z m218))], [aI 0, aI (lx_T b z m218), aR 6 t], am_mix cr_S g247 M)
            refine hR _ (am_ct (am_vi (by omega : t < 6)) (cr_put (s := (lx_T b z m218)) (v := 0) (by omega) ht hs248 (by have := lx_P_b b z m251; have := lx_P_b b z (m251 + 1); have := lx_P_1 (b := b) (z := z) m251; omega) (by unfold jf_sv; omega) (fun g258 hs259 => ?_)))
            have hl260 : ((((l ++ w219) ++ w252) ++ [jf_cv (lx_T b z m218) 0])).length + 0 ≤ lx_P b z m251 := cr_len1 hl249
            show R (99, [some (aR 5 0), some (aR 6 t), some (aI o), some (aI (lx_T b z m218))], [], am_mix cr_S g258 M)
            refine hR _ (?_)
            show R (100, [some (aR 5 0), some (aR 6 t), some (aI o), some (aI (lx_T b z m218))], [aI 1], am_mix cr_S g258 M)
            refine hR _ (show ((1 : Int) = 0 ∨ (1 : Int) = 1) ∧ K (some (aI 1)) (am_mix cr_S g258 M) from ?_)
            refine ⟨by omega, hok _ m251 (w219 ++ (w252 ++ [jf_cv (lx_T b z m218) 0])) (by
              unfold rd_not
              repeat (first | rw [if_pos (by omega)] | rw [if_neg (by omega)] | rw [e217] | rw [e250] | (simp only [rd_then]))
              try rfl
              ) (by first | exact hs259 | (simp only [← List.append_assoc]; exact hs259))⟩
        · refine hR _ (?_)
          show R (72, [some (aR 5 0), some (aR 6 t), some (aI o), none], [aI 1], am_mix cr_S g214 M)
          refine hR _ (show ((1 : Int) = 0 ∨ (1 : Int) = 1) ∧ K (some (aI 1)) (am_mix cr_S g214 M) from ?_)
          refine ⟨by omega, hok _ m218 w219 (by
            unfold rd_not
            repeat (first | rw [if_pos (by omega)] | rw [if_neg (by omega)] | rw [e217] | (simp only [rd_then]))
            try rfl
            ) (by first | exact hs215 | (simp only [← List.append_assoc]; exact hs215))⟩
  · refine hR _ (hR _ (hR _ (am_brf (rg := am_in o ∧ am_in 5) (P := o < 5) (A := R (16, [some (aR 5 0), some (aR 6 t), some (aI o), none], [], am_mix cr_S g M)) (B := R (14, [some (aR 5 0), some (aR 6 t), some (aI o), none], [], am_mix cr_S g M)) (by omega) (by omega) ?_)))
    show R (14, [some (aR 5 0), some (aR 6 t), some (aI o), none], [], am_mix cr_S g M)
    refine hR _ (?_)
    show R (15, [some (aR 5 0), some (aR 6 t), some (aI o), none], [aI 0], am_mix cr_S g M)
    refine hR _ (show ((0 : Int) = 0 ∨ (0 : Int) = 1) ∧ K (some (aI 0)) (am_mix cr_S g M) from ?_)
    refine ⟨by omega, hfl _ _ (by
      unfold rd_not
      repeat (first | rw [if_pos (by omega)] | rw [if_neg (by omega)] | (simp only [rd_then]))
      ) hs.1 hs.2.2⟩

set_option maxHeartbeats 1000000 in
theorem cr_not1 {b : Nat → Int} {z t : Nat} {M : am_M} {x : Nat → Nat → rd_R} {k : Nat} {o : Int} (hoo : 0 ≤ o ∧ o ≤ 5) (hz : M 301 0 0 = (z : Int)) (hz2 : z ≤ 160) (hb : M 20 0 = b) (hby : lx_by_ok b z) (ht : t < 6) (hk : 7 ≤ k) (hsub : cr_p wb 26 k b z t M (rd_sum (lx_T b z) (lx_V b z) (some x)) o) (mosub : rd_mo (lx_P b z) (rd_sum (lx_T b z) (lx_V b z) (some x))) (ho5 : o < 5) (h1 : cr_p wb 24 k b z t M (x 1) (o + 1)) (mo1 : rd_mo (lx_P b z) (x 1)) : cr_p wb 24 (k + 1) b z t M (rd_not (lx_T b z) (lx_V b z) (some x)) o := by
  intro d hd n l g K hs hl0 hfl hok
  have hl : l.length + 0 ≤ lx_P b z n := hl0
  have hTn := lx_T_b b z n
  obtain ⟨d, rfl⟩ : ∃ e, d = e + 1 := ⟨d - 1, by omega⟩
  refine ⟨rfl, fun R hR hC => ?_⟩
  replace hR : ∀ c, am_F wb tb_f24 2 (am_Call wb d) K R c → R c := hR
  show R (0, [some (aR 5 0), some (aR 6 t), some (aI o), none], [], am_mix cr_S g M)
  refine hR _ (hR _ (?_))
  show R (4, [some (aR 5 0), some (aR 6 t), some (aI o), none], [aI (g 303 0 0)], am_mix cr_S g M)
  rw [(show g 303 0 0 = lx_T b z n from hs.1.1)]
  show R (4, [some (aR 5 0), some (aR 6 t), some (aI o), none], [aI (lx_T b z n)], am_mix cr_S g M)
  refine hR _ (hR _ (am_brc (rg := am_in (lx_T b z n) ∧ am_in 6) (P := (lx_T b z n) ≠ 6) (A := R (42, [some (aR 5 0), some (aR 6 t), some (aI o), none], [], am_mix cr_S g M)) (B := R (9, [some (aR 5 0), some (aR 6 t), some (aI o), none], [], am_mix cr_S g M)) (by omega) (fun c6 => ?_) (fun c6 => ?_)))
  · refine hR _ (hR _ (hR _ (?_)))
    show R (45, [some (aR 5 0), some (aR 6 t), some (aI o), none], [aI o, aR 6 t, aR 5 0], am_mix cr_S g M)
    refine hR _ (hsub (by omega) hs (by omega) (fun g267 m268 e269 hs270 ho => ?_) (fun g261 m265 w266 e264 hs262 => ?_))
    · show R (48, [some (aR 5 0), some (aR 6 t), some (aI o), none], [aI 0], am_mix cr_S g267 M)
      refine hR _ (am_brf (rg := am_in 0) (P := (0 : Int) ≠ 0) (A := R (53, [some (aR 5 0), some (aR 6 t), some (aI o), none], [], am_mix cr_S g267 M)) (B := R (51, [some (aR 5 0), some (aR 6 t), some (aI o), none], [], am_mix cr_S g267 M)) (by omega) (by omega) ?_)
      show R (51, [some (aR 5 0), some (aR 6 t), some (aI o), none], [], am_mix cr_S g267 M)
      refine hR _ (?_)
      show R (52, [some (aR 5 0), some (aR 6 t), some (aI o), none], [aI 0], am_mix cr_S g267 M)
      refine hR _ (show ((0 : Int) = 0 ∨ (0 : Int) = 1) ∧ K (some (aI 0)) (am_mix cr_S g267 M) from ?_)
      refine ⟨by omega, hfl _ _ (by
        unfold rd_not
        repeat (first | rw [if_pos (by omega)] | rw [if_neg (by omega)] | rw [e269] | (simp only [rd_then]))
        ) hs270 ho⟩
    · have hl263 : (l ++ w266).length + 0 ≤ lx_P b z m265 := cr_len hl (mosub _ _ _ e264)
      have hT271 := lx_T_b b z m265
      show R (48, [some (aR 5 0), some (aR 6 t), some (aI o), none], [aI 1], am_mix cr_S g261 M)
      refine hR _ (am_brt (rg := am_in 1) (P := (1 : Int) ≠ 0) (A := R (53, [some (aR 5 0), some (aR 6 t), some (aI o), none], [], am_mix cr_S g261 M)) (B := R (51, [some (aR 5 0), some (aR 6 t), some (aI o), none], [], am_mix cr_S g261 M)) (by omega) (by omega) ?_)
      show R (53, [some (aR 5 0), some (aR 6 t), some (aI o), none], [], am_mix cr_S g261 M)
      refine hR _ (hR _ (?_))
      show R (57, [some (aR 5 0), some (aR 6 t), some (aI o), none], [aI (g261 303 0 0)], am_mix cr_S g261 M)
      rw [(show g261 303 0 0 = lx_T b z m265 from hs262.1.1)]
      show R (57, [some (aR 5 0), some (aR 6 t), some (aI o), none], [aI (lx_T b z m265)], am_mix cr_S g261 M)
      refine hR _ (hR _ (am_brc (rg := am_in (lx_T b z m265) ∧ am_in 60) (P := (lx_T b z m265) = 60) (A := R (73, [some (aR 5 0), some (aR 6 t), some (aI o), none], [], am_mix cr_S g261 M)) (B := R (62, [some (aR 5 0), some (aR 6 t), some (aI o), none], [], am_mix cr_S g261 M)) (by omega) (fun c59 => ?_) (fun c59 => ?_)))
      · refine hR _ (hR _ (?_))
        show R (77, [some (aR 5 0), some (aR 6 t), some (aI o), none], [aI (g261 303 0 0)], am_mix cr_S g261 M)
        rw [(show g261 303 0 0 = lx_T b z m265 from hs262.1.1)]
        show R (77, [some (aR 5 0), some (aR 6 t), some (aI o), none], [aI (lx_T b z m265)], am_mix cr_S g261 M)
        refine hR _ (hR _ (?_))
        show R (79, [some (aR 5 0), some (aR 6 t), some (aI o), some (aI (lx_T b z m265))], [aR 5 0], am_mix cr_S g261 M)
        refine hR _ (cr_tok (by omega) hz hz2 hb hby ht hs262 (fun g272 hs273 => ?_))
        have hl274 : ((l ++ w266)).length + 1 ≤ lx_P b z (m265 + 1) := cr_lt0 hl263 (by omega)
        have hT275 := lx_T_b b z (m265 + 1)
        show R (82, [some (aR 5 0), some (aR 6 t), some (aI o), some (aI (lx_T b z m265))], [], am_mix cr_S g272 M)
        refine hR _ (hR _ (hR _ (?_)))
        show R (85, [some (aR 5 0), some (aR 6 t), some (aI o), some (aI (lx_T b z m265))], [aI o, aR 6 t, aR 5 0], am_mix cr_S g272 M)
        refine hR _ (hsub (by omega) hs273 (by omega) (fun g282 m283 e284 hs285 ho => ?_) (fun g276 m280 w281 e279 hs277 => ?_))
        · show R (88, [some (aR 5 0), some (aR 6 t), some (aI o), some (aI (lx_T b z m265))], [aI 0], am_mix cr_S g282 M)
          refine hR _ (am_brf (rg := am_in 0) (P := (0 : Int) ≠ 0) (A := R (93, [some (aR 5 0), some (aR 6 t), some (aI o), some (aI (lx_T b z m265))], [], am_mix cr_S g282 M)) (B := R (91, [some (aR 5 0), some (aR 6 t), some (aI o), some (aI (lx_T b z m265))], [], am_mix cr_S g282 M)) (by omega) (by omega) ?_)
          show R (91, [some (aR 5 0), some (aR 6 t), some (aI o), some (aI (lx_T b z m265))], [], am_mix cr_S g282 M)
          refine hR _ (?_)
          show R (92, [some (aR 5 0), some (aR 6 t), some (aI o), some (aI (lx_T b z m265))], [aI 0], am_mix cr_S g282 M)
          refine hR _ (show ((0 : Int) = 0 ∨ (0 : Int) = 1) ∧ K (some (aI 0)) (am_mix cr_S g282 M) from ?_)
          refine ⟨by omega, hfl _ _ (by
            unfold rd_not
            repeat (first | rw [if_pos (by omega)] | rw [if_neg (by omega)] | rw [e264] | rw [e284] | (simp only [rd_then]))
            ) hs285 ho⟩
        · have hl278 : ((l ++ w266) ++ w281).length + 1 ≤ lx_P b z m280 := cr_len hl274 (mosub _ _ _ e279)
          have hT286 := lx_T_b b z m280
          show R (88, [some (aR 5 0), some (aR 6 t), some (aI o), some (aI (lx_T b z m265))], [aI 1], am_mix cr_S g276 M)
          refine hR _ (am_brt (rg := am_in 1) (P := (1 : Int) ≠ 0) (A := R (93, [some (aR 5 0), some (aR 6 t), some (aI o), some (aI (lx_T b z m265))], [], am_mix cr_S g276 M)) (B := R (91, [some (aR 5 0), some (aR 6 t), some (aI o), some (aI (lx_T b z m265))], [], am_mix cr_S g276 M)) (by omega) (by omega) ?_)
          show R (93, [some (aR 5 0), some (aR 6 t), some (aI o), some (aI (lx_T b z m265))], [], am_mix cr_S g276 M)
          refine hR _ (hR _ (hR _ (?_)))
          show R (96, [some (aR 5 0), some (aR 6 t), some (aI o), some (aI (lx_T b z m265))], [aI 0, aI (lx_T b z m265), aR 6 t], am_mix cr_S g276 M)
          refine hR _ (am_ct (am_vi (by omega : t < 6)) (cr_put (s := (lx_T b z m265)) (v := 0) (by omega) ht hs277 (by have := lx_P_b b z m280; have := lx_P_b b z (m280 + 1); have := lx_P_1 (b := b) (z := z) m280; omega) (by unfold jf_sv; omega) (fun g287 hs288 => ?_)))
          have hl289 : ((((l ++ w266) ++ w281) ++ [jf_cv (lx_T b z m265) 0])).length + 0 ≤ lx_P b z m280 := cr_len1 hl278
          show R (99, [some (aR 5 0), some (aR 6 t), some (aI o), some (aI (lx_T b z m265))], [], am_mix cr_S g287 M)
          refine hR _ (?_)
          show R (100, [some (aR 5 0), some (aR 6 t), some (aI o), some (aI (lx_T b z m265))], [aI 1], am_mix cr_S g287 M)
          refine hR _ (show ((1 : Int) = 0 ∨ (1 : Int) = 1) ∧ K (some (aI 1)) (am_mix cr_S g287 M) from ?_)
          refine ⟨by omega, hok _ m280 (w266 ++ (w281 ++ [jf_cv (lx_T b z m265) 0])) (by
            unfold rd_not
            repeat (first | rw [if_pos (by omega)] | rw [if_neg (by omega)] | rw [e264] | rw [e279] | (simp only [rd_then]))
            try rfl
            ) (by first | exact hs288 | (simp only [← List.append_assoc]; exact hs288))⟩
      · refine hR _ (hR _ (?_))
        show R (66, [some (aR 5 0), some (aR 6 t), some (aI o), none], [aI (g261 303 0 0)], am_mix cr_S g261 M)
        rw [(show g261 303 0 0 = lx_T b z m265 from hs262.1.1)]
        show R (66, [some (aR 5 0), some (aR 6 t), some (aI o), none], [aI (lx_T b z m265)], am_mix cr_S g261 M)
        refine hR _ (hR _ (am_brc (rg := am_in (lx_T b z m265) ∧ am_in 61) (P := (lx_T b z m265) = 61) (A := R (73, [some (aR 5 0), some (aR 6 t), some (aI o), none], [], am_mix cr_S g261 M)) (B := R (71, [some (aR 5 0), some (aR 6 t), some (aI o), none], [], am_mix cr_S g261 M)) (by omega) (fun c68 => ?_) (fun c68 => ?_)))
        · refine hR _ (hR _ (?_))
          show R (77, [some (aR 5 0), some (aR 6 t), some (aI o), none], [aI (g261 303 0 0)], am_mix cr_S g261 M)
          rw [(show g261 303 0 0 = lx_T b z m265 from hs262.1.1)]
          show R (77, [some (aR 5 0), some (aR 6 t), some (aI o), none], [aI (lx_T b z m265)], am_mix cr_S g261 M)
          refine hR _ (hR _ (?_))
          show R (79, [some (aR 5 0), some (aR 6 t), some (aI o), some (aI (lx_T b z m265))], [aR 5 0], am_mix cr_S g261 M)
          refine hR _ (cr_tok (by omega) hz hz2 hb hby ht hs262 (fun g290 hs291 => ?_))
          have hl292 : ((l ++ w266)).length + 1 ≤ lx_P b z (m265 + 1) := cr_lt0 hl263 (by omega)
          have hT293 := lx_T_b b z (m265 + 1)
          show R (82, [some (aR 5 0), some (aR 6 t), some (aI o), some (aI (lx_T b z m265))], [], am_mix cr_S g290 M)
          refine hR _ (hR _ (hR _ (?_)))
          show R (85, [some (aR 5 0), some (aR 6 t), some (aI o), some (aI (lx_T b z m265))], [aI o, aR 6 t, aR 5 0], am_mix cr_S g290 M)
          refine hR _ (hsub (by omega) hs291 (by omega) (fun g300 m301 e302 hs303 ho => ?_) (fun g294 m298 w299 e297 hs295 => ?_))
          · show R (88, [some (aR 5 0), some (aR 6 t), some (aI o), some (aI (lx_T b z m265))], [aI 0], am_mix cr_S g300 M)
            refine hR _ (am_brf (rg := am_in 0) (P := (0 : Int) ≠ 0) (A := R (93, [some (aR 5 0), some (aR 6 t), some (aI o), some (aI (lx_T b z m265))], [], am_mix cr_S g300 M)) (B := R (91, [some (aR 5 0), some (aR 6 t), some (aI o), some (aI (lx_T b z m265))], [], am_mix cr_S g300 M)) (by omega) (by omega) ?_)
            show R (91, [some (aR 5 0), some (aR 6 t), some (aI o), some (aI (lx_T b z m265))], [], am_mix cr_S g300 M)
            refine hR _ (?_)
            show R (92, [some (aR 5 0), some (aR 6 t), some (aI o), some (aI (lx_T b z m265))], [aI 0], am_mix cr_S g300 M)
            refine hR _ (show ((0 : Int) = 0 ∨ (0 : Int) = 1) ∧ K (some (aI 0)) (am_mix cr_S g300 M) from ?_)
            refine ⟨by omega, hfl _ _ (by
              unfold rd_not
              repeat (first | rw [if_pos (by omega)] | rw [if_neg (by omega)] | rw [e264] | rw [e302] | (simp only [rd_then]))
              ) hs303 ho⟩
          · have hl296 : ((l ++ w266) ++ w299).length + 1 ≤ lx_P b z m298 := cr_len hl292 (mosub _ _ _ e297)
            have hT304 := lx_T_b b z m298
            show R (88, [some (aR 5 0), some (aR 6 t), some (aI o), some (aI (lx_T b z m265))], [aI 1], am_mix cr_S g294 M)
            refine hR _ (am_brt (rg := am_in 1) (P := (1 : Int) ≠ 0) (A := R (93, [some (aR 5 0), some (aR 6 t), some (aI o), some (aI (lx_T b z m265))], [], am_mix cr_S g294 M)) (B := R (91, [some (aR 5 0), some (aR 6 t), some (aI o), some (aI (lx_T b z m265))], [], am_mix cr_S g294 M)) (by omega) (by omega) ?_)
            show R (93, [some (aR 5 0), some (aR 6 t), some (aI o), some (aI (lx_T b z m265))], [], am_mix cr_S g294 M)
            refine hR _ (hR _ (hR _ (?_)))
            show R (96, [some (aR 5 0), some (aR 6 t), some (aI o), some (aI (lx_T b z m265))], [aI 0, aI (lx_T b z m265), aR 6 t], am_mix cr_S g294 M)
            refine hR _ (am_ct (am_vi (by omega : t < 6)) (cr_put (s := (lx_T b z m265)) (v := 0) (by omega) ht hs295 (by have := lx_P_b b z m298; have := lx_P_b b z (m298 + 1); have := lx_P_1 (b := b) (z := z) m298; omega) (by unfold jf_sv; omega) (fun g305 hs306 => ?_)))
            have hl307 : ((((l ++ w266) ++ w299) ++ [jf_cv (lx_T b z m265) 0])).length + 0 ≤ lx_P b z m298 := cr_len1 hl296
            show R (99, [some (aR 5 0), some (aR 6 t), some (aI o), some (aI (lx_T b z m265))], [], am_mix cr_S g305 M)
            refine hR _ (?_)
            show R (100, [some (aR 5 0), some (aR 6 t), some (aI o), some (aI (lx_T b z m265))], [aI 1], am_mix cr_S g305 M)
            refine hR _ (show ((1 : Int) = 0 ∨ (1 : Int) = 1) ∧ K (some (aI 1)) (am_mix cr_S g305 M) from ?_)
            refine ⟨by omega, hok _ m298 (w266 ++ (w299 ++ [jf_cv (lx_T b z m265) 0])) (by
              unfold rd_not
              repeat (first | rw [if_pos (by omega)] | rw [if_neg (by omega)] | rw [e264] | rw [e297] | (simp only [rd_then]))
              try rfl
              ) (by first | exact hs306 | (simp only [← List.append_assoc]; exact hs306))⟩
        · refine hR _ (?_)
          show R (72, [some (aR 5 0), some (aR 6 t), some (aI o), none], [aI 1], am_mix cr_S g261 M)
          refine hR _ (show ((1 : Int) = 0 ∨ (1 : Int) = 1) ∧ K (some (aI 1)) (am_mix cr_S g261 M) from ?_)
          refine ⟨by omega, hok _ m265 w266 (by
            unfold rd_not
            repeat (first | rw [if_pos (by omega)] | rw [if_neg (by omega)] | rw [e264] | (simp only [rd_then]))
            try rfl
            ) (by first | exact hs262 | (simp only [← List.append_assoc]; exact hs262))⟩
  · refine hR _ (hR _ (hR _ (am_brt (rg := am_in o ∧ am_in 5) (P := o < 5) (A := R (16, [some (aR 5 0), some (aR 6 t), some (aI o), none], [], am_mix cr_S g M)) (B := R (14, [some (aR 5 0), some (aR 6 t), some (aI o), none], [], am_mix cr_S g M)) (by omega) (by omega) ?_)))
    show R (16, [some (aR 5 0), some (aR 6 t), some (aI o), none], [], am_mix cr_S g M)
    refine hR _ (?_)
    show R (17, [some (aR 5 0), some (aR 6 t), some (aI o), none], [aR 5 0], am_mix cr_S g M)
    refine hR _ (cr_tok (by omega) hz hz2 hb hby ht hs (fun g308 hs309 => ?_))
    have hl310 : (l).length + 1 ≤ lx_P b z (n + 1) := cr_lt0 hl (by omega)
    have hT311 := lx_T_b b z (n + 1)
    show R (20, [some (aR 5 0), some (aR 6 t), some (aI o), none], [], am_mix cr_S g308 M)
    refine hR _ (hR _ (hR _ (hR _ (hR _ (?_)))))
    show R (25, [some (aR 5 0), some (aR 6 t), some (aI o), none], [aI (o + 1), aR 6 t, aR 5 0], am_mix cr_S g308 M)
    refine hR _ (h1 (by omega) hs309 (by omega) (fun g318 m319 e320 hs321 ho => ?_) (fun g312 m316 w317 e315 hs313 => ?_))
    · show R (28, [some (aR 5 0), some (aR 6 t), some (aI o), none], [aI 0], am_mix cr_S g318 M)
      refine hR _ (am_brf (rg := am_in 0) (P := (0 : Int) ≠ 0) (A := R (33, [some (aR 5 0), some (aR 6 t), some (aI o), none], [], am_mix cr_S g318 M)) (B := R (31, [some (aR 5 0), some (aR 6 t), some (aI o), none], [], am_mix cr_S g318 M)) (by omega) (by omega) ?_)
      show R (31, [some (aR 5 0), some (aR 6 t), some (aI o), none], [], am_mix cr_S g318 M)
      refine hR _ (?_)
      show R (32, [some (aR 5 0), some (aR 6 t), some (aI o), none], [aI 0], am_mix cr_S g318 M)
      refine hR _ (show ((0 : Int) = 0 ∨ (0 : Int) = 1) ∧ K (some (aI 0)) (am_mix cr_S g318 M) from ?_)
      refine ⟨by omega, hfl _ _ (by
        unfold rd_not
        repeat (first | rw [if_pos (by omega)] | rw [if_neg (by omega)] | rw [e320] | (simp only [rd_then]))
        ) hs321 ho⟩
    · have hl314 : (l ++ w317).length + 1 ≤ lx_P b z m316 := cr_len hl310 (mo1 _ _ _ e315)
      have hT322 := lx_T_b b z m316
      show R (28, [some (aR 5 0), some (aR 6 t), some (aI o), none], [aI 1], am_mix cr_S g312 M)
      refine hR _ (am_brt (rg := am_in 1) (P := (1 : Int) ≠ 0) (A := R (33, [some (aR 5 0), some (aR 6 t), some (aI o), none], [], am_mix cr_S g312 M)) (B := R (31, [some (aR 5 0), some (aR 6 t), some (aI o), none], [], am_mix cr_S g312 M)) (by omega) (by omega) ?_)
      show R (33, [some (aR 5 0), some (aR 6 t), some (aI o), none], [], am_mix cr_S g312 M)
      refine hR _ (hR _ (hR _ (?_)))
      show R (37, [some (aR 5 0), some (aR 6 t), some (aI o), none], [aI 0, aI 6, aR 6 t], am_mix cr_S g312 M)
      refine hR _ (am_ct (am_vi (by omega : t < 6)) (cr_put (s := 6) (v := 0) (by omega) ht hs313 (by have := lx_P_b b z m316; have := lx_P_b b z (m316 + 1); have := lx_P_1 (b := b) (z := z) m316; omega) (by unfold jf_sv; omega) (fun g323 hs324 => ?_)))
      have hl325 : (((l ++ w317) ++ [jf_cv 6 0])).length + 0 ≤ lx_P b z m316 := cr_len1 hl314
      show R (40, [some (aR 5 0), some (aR 6 t), some (aI o), none], [], am_mix cr_S g323 M)
      refine hR _ (?_)
      show R (41, [some (aR 5 0), some (aR 6 t), some (aI o), none], [aI 1], am_mix cr_S g323 M)
      refine hR _ (show ((1 : Int) = 0 ∨ (1 : Int) = 1) ∧ K (some (aI 1)) (am_mix cr_S g323 M) from ?_)
      refine ⟨by omega, hok _ m316 (w317 ++ [jf_cv 6 0]) (by
        unfold rd_not
        repeat (first | rw [if_pos (by omega)] | rw [if_neg (by omega)] | rw [e315] | (simp only [rd_then]))
        try rfl
        ) (by first | exact hs324 | (simp only [← List.append_assoc]; exact hs324))⟩
