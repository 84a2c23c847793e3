/-! wb -/
/-! THE REFERENCE: tokens -/
def mo_wd (k : Nat) : List Int := am_text ([1, 2, 3, 7, 8, 9, 10, 11, 12, 6, 5, 4].getD k 0)
theorem mo_wd_w : ∀ k, k < 12 → ∀ c, c < 8 → mo_words.getD (8 * k + c) 0 = if c < (mo_wd k).length then (mo_wd k).getD c 0 else 32 := by decide +kernel
theorem mo_wd_l : ∀ k, k < 12 → (mo_wd k).length ≤ 5 ∧ ∀ c, c < (mo_wd k).length → (mo_wd k).getD c 0 ≠ 32 := by decide +kernel
theorem mo_wd_t : ∀ k, k < 12 → lx_wt (mo_wd k) = if k < 3 then 3 + (k : Int) else if k < 9 then 7 + (k : Int) else 17 - (k : Int) := by decide +kernel
theorem mo_wd_n {l : List Int} (h : ∀ k, k < 12 → l ≠ mo_wd k) : lx_wt l = 1 := by
  unfold lx_wt
  rw [if_neg (show ¬ l = am_text 1 from h 0 (by decide)), if_neg (show ¬ l = am_text 2 from h 1 (by decide)), if_neg (show ¬ l = am_text 3 from h 2 (by decide)), if_neg (show ¬ l = am_text 4 from h 11 (by decide)), if_neg (show ¬ l = am_text 5 from h 10 (by decide)), if_neg (show ¬ l = am_text 6 from h 9 (by decide)), if_neg (show ¬ l = am_text 7 from h 3 (by decide)), if_neg (show ¬ l = am_text 8 from h 4 (by decide)), if_neg (show ¬ l = am_text 9 from h 5 (by decide)), if_neg (show ¬ l = am_text 10 from h 6 (by decide)), if_neg (show ¬ l = am_text 11 from h 7 (by decide)), if_neg (show ¬ l = am_text 12 from h 8 (by decide))]
theorem mo_like {b : Nat → Int} {q e : Nat} (hqe : q ≤ e) (hb : ∀ i, q ≤ i → i < e → b i ≠ 32) {k : Nat} (hk : k < 12) : lx_sl b q e = mo_wd k ↔ e - q ≤ 8 ∧ ∀ c, c < 8 → mo_words.getD (8 * k + c) 0 = if q + c < e then b (q + c) else 32 := by
  have hl := mo_wd_l k hk
  have hw := mo_wd_w k hk
  constructor
  · intro h
    have hlen : e - q = (mo_wd k).length := by rw [← h, lx_sl_len]
    have h2 := (lx_sl_eq (b := b) (q := q) (e := e) hlen).mp h
    refine ⟨by omega, fun c hc => ?_⟩
    rw [hw c hc]
    by_cases hcl : c < (mo_wd k).length
    · rw [if_pos hcl, if_pos (by omega), h2 c hcl]
    · rw [if_neg hcl, if_neg (by omega)]
  · intro ⟨h1, h2⟩
    have h3 : ∀ c, c < 8 → (c < (mo_wd k).length ↔ q + c < e) := by
      intro c hc
      have h4 := h2 c hc
      rw [hw c hc] at h4
      by_cases hcl : c < (mo_wd k).length
      · rw [if_pos hcl] at h4
        refine ⟨fun _ => ?_, fun _ => hcl⟩
        by_cases hqc : q + c < e
        · exact hqc
        · rw [if_neg hqc] at h4
          exact absurd h4 (hl.2 c hcl)
      · rw [if_neg hcl] at h4
        refine ⟨fun h => absurd h hcl, fun hqc => ?_⟩
        rw [if_pos hqc] at h4
        exact absurd h4.symm (hb _ (by omega) hqc)
    have hlen : e - q = (mo_wd k).length := by
      by_cases hlt : e - q < (mo_wd k).length
      · have := (h3 (e - q) (by omega)).mp hlt
        omega
      · by_cases hgt : (mo_wd k).length < e - q
        · have := (h3 (mo_wd k).length (by omega)).mpr (by omega)
          omega
        · omega
    refine (lx_sl_eq hlen).mpr (fun c hc => ?_)
    have h4 := h2 c (by omega)
    rw [hw c (by omega), if_pos hc, if_pos (by omega)] at h4
    exact h4.symm
/-- a token as the reference tells it -/
def mo_mt (T : Int) : Int := if T = 0 then 0 else if T = 1 then -1 else if T = 2 then 1 else if T ≤ 5 then 3 else if T = 6 then 6 else if T = 7 then 5 else if T = 8 then 4 else if T ≤ 15 then 2 else T
def mo_at (b : Nat → Int) (z : Nat) (m : am_M) (p : Nat) : Prop := m 442 0 0 = mo_mt (lx_t b z p) ∧ m 441 0 0 = (lx_q b z p : Int) ∧ m 440 0 0 = (lx_e b z p : Int) ∧ (lx_t b z p = 2 → m 443 0 0 = lx_v b z p) ∧ (3 ≤ lx_t b z p ∧ lx_t b z p ≤ 5 → m 443 0 0 = lx_t b z p - 3) ∧ (10 ≤ lx_t b z p ∧ lx_t b z p ≤ 15 → m 443 0 0 = lx_t b z p - 10)

theorem mo_words_b (j : Nat) : -128 ≤ mo_words.getD j 0 ∧ mo_words.getD j 0 ≤ 127 := by
  by_cases h : j < 96
  · have key : ∀ j, j < 96 → -128 ≤ mo_words.getD j 0 ∧ mo_words.getD j 0 ≤ 127 := by decide +kernel
    exact key j h
  · rw [List.getD_eq_getElem?_getD, List.getElem?_eq_none (show mo_words.length ≤ j from by show 96 ≤ j; omega)]
    decide

set_option maxHeartbeats 1000000 in
theorem sm_wordFrom {d : Nat} (hd : 1 ≤ d) {b : Nat → Int} {z q e : Nat} {M : am_M} {K : am_K} (hz : M 427 0 0 = (z : Int)) (hz2 : z ≤ 160) (hb : ∀ j, j < z → M 27 0 j = b j) (hby : lx_by_ok b z) (hwd : jf_Cw M) (hqe : q ≤ e) (hez : e ≤ z) (hnb : ∀ i, q ≤ i → i < e → b i ≠ 32) (hK : ∀ k : Nat, k < 12 → lx_sl b q e = mo_wd k → K (some (aI (k : Int))) M) (hK12 : (∀ k, k < 12 → lx_sl b q e ≠ mo_wd k) → K (some (aI 12)) M) : am_Call true d 126 [aR 8 0, aI ((q : Nat) : Int), aI ((e : Nat) : Int)] M K := by
  obtain ⟨d, rfl⟩ : ∃ e, d = e + 1 := ⟨d - 1, by omega⟩
  refine ⟨rfl, fun R hR hC => ?_⟩
  replace hR : ∀ c, am_F true tb_f126 1 (am_Call true d) K R c → R c := hR
  show R (0, [some (aR 8 0), some (aI ((q : Nat) : Int)), some (aI ((e : Nat) : Int)), none, none, none], [], M)
  have key2 : ∀ (k : Nat), k < 12 → e - q ≤ 8 → (lx_sl b q e ≠ mo_wd k → ∀ o4 o5 : Option am_V, R (2, [some (aR 8 0), some (aI ((q : Nat) : Int)), some (aI ((e : Nat) : Int)), some (aI (((k : Nat) : Int) + 1)), o4, o5], [], M)) → (lx_sl b q e = mo_wd k → K (some (aI ((k : Nat) : Int))) M) → ∀ (f c : Nat) (x : Int), x = (c : Int) → c + f = 8 → (∀ c2, c2 < c → mo_words.getD (8 * k + c2) 0 = if q + c2 < e then b (q + c2) else 32) → R (26, [some (aR 8 0), some (aI ((q : Nat) : Int)), some (aI ((e : Nat) : Int)), some (aI ((k : Nat) : Int)), some (aI 1), some (aI x)], [], M) := by
    intro k hk h8 hno hyes f
    induction f with
    | zero =>
      intro c x hx hin hall
      subst hx
      refine hR _ (hR _ (hR _ (am_brt (rg := am_in ((c : Nat) : Int) ∧ am_in 8) (P := 8 ≤ ((c : Nat) : Int)) (A := R (88, [some (aR 8 0), some (aI ((q : Nat) : Int)), some (aI ((e : Nat) : Int)), some (aI ((k : Nat) : Int)), some (aI 1), some (aI ((c : Nat) : Int))], [], M)) (B := R (33, [some (aR 8 0), some (aI ((q : Nat) : Int)), some (aI ((e : Nat) : Int)), some (aI ((k : Nat) : Int)), some (aI 1), some (aI ((c : Nat) : Int))], [], M)) (by omega) (by omega) ?_)))
      show R (88, [some (aR 8 0), some (aI ((q : Nat) : Int)), some (aI ((e : Nat) : Int)), some (aI ((k : Nat) : Int)), some (aI 1), some (aI ((c : Nat) : Int))], [], M)
      refine hR _ (hR _ (am_brf (rg := am_in 1) (P := (1 : Int) = 0) (A := R (95, [some (aR 8 0), some (aI ((q : Nat) : Int)), some (aI ((e : Nat) : Int)), some (aI ((k : Nat) : Int)), some (aI 1), some (aI ((c : Nat) : Int))], [], M)) (B := R (93, [some (aR 8 0), some (aI ((q : Nat) : Int)), some (aI ((e : Nat) : Int)), some (aI ((k : Nat) : Int)), some (aI 1), some (aI ((c : Nat) : Int))], [], M)) (by omega) (by omega) ?_))
      show R (93, [some (aR 8 0), some (aI ((q : Nat) : Int)), some (aI ((e : Nat) : Int)), some (aI ((k : Nat) : Int)), some (aI 1), some (aI ((c : Nat) : Int))], [], M)
      refine hR _ (?_)
      show R (94, [some (aR 8 0), some (aI ((q : Nat) : Int)), some (aI ((e : Nat) : Int)), some (aI ((k : Nat) : Int)), some (aI 1), some (aI ((c : Nat) : Int))], [aI ((k : Nat) : Int)], M)
      refine hR _ (show K (some (aI ((k : Nat) : Int))) M from ?_)
      exact hyes ((mo_like hqe hnb hk).mpr ⟨h8, fun c2 hc2 => hall c2 (by omega)⟩)
    | succ f ih =>
      intro c x hx hin hall
      subst hx
      have hbr : q + c < e → 0 ≤ b (q + c) ∧ b (q + c) ≤ 255 := fun h => hby _ (by omega)
      have hwr : -128 ≤ mo_words.getD (8 * k + c) 0 ∧ mo_words.getD (8 * k + c) 0 ≤ 127 := mo_words_b _
      refine hR _ (hR _ (hR _ (am_brf (rg := am_in ((c : Nat) : Int) ∧ am_in 8) (P := 8 ≤ ((c : Nat) : Int)) (A := R (88, [some (aR 8 0), some (aI ((q : Nat) : Int)), some (aI ((e : Nat) : Int)), some (aI ((k : Nat) : Int)), some (aI 1), some (aI ((c : Nat) : Int))], [], M)) (B := R (33, [some (aR 8 0), some (aI ((q : Nat) : Int)), some (aI ((e : Nat) : Int)), some (aI ((k : Nat) : Int)), some (aI 1), some (aI ((c : Nat) : Int))], [], M)) (by omega) (by omega) ?_)))
      show R (33, [some (aR 8 0), some (aI ((q : Nat) : Int)), some (aI ((e : Nat) : Int)), some (aI ((k : Nat) : Int)), some (aI 1), some (aI ((c : Nat) : Int))], [], M)
      refine hR _ (hR _ (am_brf (rg := am_in 1) (P := (1 : Int) = 0) (A := R (88, [some (aR 8 0), some (aI ((q : Nat) : Int)), some (aI ((e : Nat) : Int)), some (aI ((k : Nat) : Int)), some (aI 1), some (aI ((c : Nat) : Int))], [], M)) (B := R (38, [some (aR 8 0), some (aI ((q : Nat) : Int)), some (aI ((e : Nat) : Int)), some (aI ((k : Nat) : Int)), some (aI 1), some (aI ((c : Nat) : Int))], [], M)) (by omega) (by omega) ?_))
      show R (38, [some (aR 8 0), some (aI ((q : Nat) : Int)), some (aI ((e : Nat) : Int)), some (aI ((k : Nat) : Int)), some (aI 1), some (aI ((c : Nat) : Int))], [], M)
      refine hR _ (hR _ (hR _ (hR _ (hR _ (hR _ (hR _ (?_)))))))
      show R (49, [some (aR 8 0), some (aI ((q : Nat) : Int)), some (aI ((e : Nat) : Int)), some (aI ((k : Nat) : Int)), some (aI 1), some (aI ((c : Nat) : Int))], [aI ((8 * ((k : Nat) : Int)) + ((c : Nat) : Int)), aR 35 0], M)
      refine hR _ ⟨(show 0 ≤ (((8 * ((k : Nat) : Int)) + ((c : Nat) : Int)) : Int) ∧ (((8 * ((k : Nat) : Int)) + ((c : Nat) : Int)) : Int) < 96 from (by omega)), ?_⟩
      show R (50, [some (aR 8 0), some (aI ((q : Nat) : Int)), some (aI ((e : Nat) : Int)), some (aI ((k : Nat) : Int)), some (aI 1), some (aI ((c : Nat) : Int))], [aI (M 35 0 ((((8 * ((k : Nat) : Int)) + ((c : Nat) : Int))).toNat))], M)
      rw [(show M 35 0 ((((8 * ((k : Nat) : Int)) + ((c : Nat) : Int))).toNat) = mo_words.getD (8 * k + c) 0 by rw [show (((8 * ((k : Nat) : Int)) + ((c : Nat) : Int))).toNat = 8 * k + c by omega]; exact hwd _ (by omega))]
      show R (50, [some (aR 8 0), some (aI ((q : Nat) : Int)), some (aI ((e : Nat) : Int)), some (aI ((k : Nat) : Int)), some (aI 1), some (aI ((c : Nat) : Int))], [aI (mo_words.getD (8 * k + c) 0)], M)
      refine hR _ (hR _ (hR _ (hR _ (hR _ (am_brc (rg := am_in (((q : Nat) : Int) + ((c : Nat) : Int)) ∧ am_in ((e : Nat) : Int)) (P := ((e : Nat) : Int) ≤ (((q : Nat) : Int) + ((c : Nat) : Int))) (A := R (70, [some (aR 8 0), some (aI ((q : Nat) : Int)), some (aI ((e : Nat) : Int)), some (aI ((k : Nat) : Int)), some (aI 1), some (aI ((c : Nat) : Int))], [aI (mo_words.getD (8 * k + c) 0)], M)) (B := R (58, [some (aR 8 0), some (aI ((q : Nat) : Int)), some (aI ((e : Nat) : Int)), some (aI ((k : Nat) : Int)), some (aI 1), some (aI ((c : Nat) : Int))], [aI (mo_words.getD (8 * k + c) 0)], M)) (by omega) (fun c55 => ?_) (fun c55 => ?_))))))
      · refine hR _ (hR _ (am_brc (rg := am_in (mo_words.getD (8 * k + c) 0) ∧ am_in 32) (P := (mo_words.getD (8 * k + c) 0) ≠ 32) (A := R (79, [some (aR 8 0), some (aI ((q : Nat) : Int)), some (aI ((e : Nat) : Int)), some (aI ((k : Nat) : Int)), some (aI 1), some (aI ((c : Nat) : Int))], [], M)) (B := R (75, [some (aR 8 0), some (aI ((q : Nat) : Int)), some (aI ((e : Nat) : Int)), some (aI ((k : Nat) : Int)), some (aI 1), some (aI ((c : Nat) : Int))], [], M)) (by omega) (fun c72 => ?_) (fun c72 => ?_)))
        · refine hR _ (hR _ (hR _ (hR _ (?_))))
          show R (26, [some (aR 8 0), some (aI ((q : Nat) : Int)), some (aI ((e : Nat) : Int)), some (aI ((k : Nat) : Int)), some (aI 0), some (aI (((c : Nat) : Int) + 1))], [], M)
          refine hR _ (hR _ (hR _ (am_brc (rg := am_in (((c : Nat) : Int) + 1) ∧ am_in 8) (P := 8 ≤ (((c : Nat) : Int) + 1)) (A := R (88, [some (aR 8 0), some (aI ((q : Nat) : Int)), some (aI ((e : Nat) : Int)), some (aI ((k : Nat) : Int)), some (aI 0), some (aI (((c : Nat) : Int) + 1))], [], M)) (B := R (33, [some (aR 8 0), some (aI ((q : Nat) : Int)), some (aI ((e : Nat) : Int)), some (aI ((k : Nat) : Int)), some (aI 0), some (aI (((c : Nat) : Int) + 1))], [], M)) (by omega) (fun c30 => ?_) (fun c30 => ?_))))
          · refine hR _ (hR _ (am_brt (rg := am_in 0) (P := (0 : Int) = 0) (A := R (95, [some (aR 8 0), some (aI ((q : Nat) : Int)), some (aI ((e : Nat) : Int)), some (aI ((k : Nat) : Int)), some (aI 0), some (aI (((c : Nat) : Int) + 1))], [], M)) (B := R (93, [some (aR 8 0), some (aI ((q : Nat) : Int)), some (aI ((e : Nat) : Int)), some (aI ((k : Nat) : Int)), some (aI 0), some (aI (((c : Nat) : Int) + 1))], [], M)) (by omega) (by omega) ?_))
            show R (95, [some (aR 8 0), some (aI ((q : Nat) : Int)), some (aI ((e : Nat) : Int)), some (aI ((k : Nat) : Int)), some (aI 0), some (aI (((c : Nat) : Int) + 1))], [], M)
            refine hR _ (hR _ (?_))
            show R (2, [some (aR 8 0), some (aI ((q : Nat) : Int)), some (aI ((e : Nat) : Int)), some (aI (((k : Nat) : Int) + 1)), some (aI 0), some (aI (((c : Nat) : Int) + 1))], [], M)
            refine hno (fun heq => ?_) _ _
            have h9 := ((mo_like hqe hnb hk).mp heq).2 c (by omega)
            first | (rw [if_pos (by omega)] at h9; omega) | (rw [if_neg (by omega)] at h9; omega)
          · refine hR _ (hR _ (am_brt (rg := am_in 0) (P := (0 : Int) = 0) (A := R (88, [some (aR 8 0), some (aI ((q : Nat) : Int)), some (aI ((e : Nat) : Int)), some (aI ((k : Nat) : Int)), some (aI 0), some (aI (((c : Nat) : Int) + 1))], [], M)) (B := R (38, [some (aR 8 0), some (aI ((q : Nat) : Int)), some (aI ((e : Nat) : Int)), some (aI ((k : Nat) : Int)), some (aI 0), some (aI (((c : Nat) : Int) + 1))], [], M)) (by omega) (by omega) ?_))
            show R (88, [some (aR 8 0), some (aI ((q : Nat) : Int)), some (aI ((e : Nat) : Int)), some (aI ((k : Nat) : Int)), some (aI 0), some (aI (((c : Nat) : Int) + 1))], [], M)
            refine hR _ (hR _ (am_brt (rg := am_in 0) (P := (0 : Int) = 0) (A := R (95, [some (aR 8 0), some (aI ((q : Nat) : Int)), some (aI ((e : Nat) : Int)), some (aI ((k : Nat) : Int)), some (aI 0), some (aI (((c : Nat) : Int) + 1))], [], M)) (B := R (93, [some (aR 8 0), some (aI ((q : Nat) : Int)), some (aI ((e : Nat) : Int)), some (aI ((k : Nat) : Int)), some (aI 0), some (aI (((c : Nat) : Int) + 1))], [], M)) (by omega) (by omega) ?_))
            show R (95, [some (aR 8 0), some (aI ((q : Nat) : Int)), some (aI ((e : Nat) : Int)), some (aI ((k : Nat) : Int)), some (aI 0), some (aI (((c : Nat) : Int) + 1))], [], M)
            refine hR _ (hR _ (?_))
            show R (2, [some (aR 8 0), some (aI ((q : Nat) : Int)), some (aI ((e : Nat) : Int)), some (aI (((k : Nat) : Int) + 1)), some (aI 0), some (aI (((c : Nat) : Int) + 1))], [], M)
            refine hno (fun heq => ?_) _ _
            have h9 := ((mo_like hqe hnb hk).mp heq).2 c (by omega)
            first | (rw [if_pos (by omega)] at h9; omega) | (rw [if_neg (by omega)] at h9; omega)
        · refine hR _ (hR _ (hR _ (hR _ (hR _ (?_)))))
          show R (26, [some (aR 8 0), some (aI ((q : Nat) : Int)), some (aI ((e : Nat) : Int)), some (aI ((k : Nat) : Int)), some (aI 1), some (aI (((c : Nat) : Int) + 1))], [], M)
          exact ih (c + 1) _ (by omega) (by omega) (fun c2 hc2 => by
            by_cases e2 : c2 = c
            · rw [e2]
              first | (rw [if_pos (by omega)]; omega) | (rw [if_neg (by omega)]; omega)
            · exact hall c2 (by omega))
      · refine hR _ (hR _ (hR _ (hR _ (hR _ (?_)))))
        show R (66, [some (aR 8 0), some (aI ((q : Nat) : Int)), some (aI ((e : Nat) : Int)), some (aI ((k : Nat) : Int)), some (aI 1), some (aI ((c : Nat) : Int))], [aI (((q : Nat) : Int) + ((c : Nat) : Int)), aR 27 0, aI (mo_words.getD (8 * k + c) 0)], M)
        refine hR _ ⟨(show 0 ≤ ((((q : Nat) : Int) + ((c : Nat) : Int)) : Int) ∧ ((((q : Nat) : Int) + ((c : Nat) : Int)) : Int) < 160 from (by omega)), ?_⟩
        show R (67, [some (aR 8 0), some (aI ((q : Nat) : Int)), some (aI ((e : Nat) : Int)), some (aI ((k : Nat) : Int)), some (aI 1), some (aI ((c : Nat) : Int))], [aI (M 27 0 (((((q : Nat) : Int) + ((c : Nat) : Int))).toNat)), aI (mo_words.getD (8 * k + c) 0)], M)
        rw [(show M 27 0 (((((q : Nat) : Int) + ((c : Nat) : Int))).toNat) = b (q + c) by rw [show ((((q : Nat) : Int) + ((c : Nat) : Int))).toNat = q + c by omega]; exact hb _ (by omega))]
        show R (67, [some (aR 8 0), some (aI ((q : Nat) : Int)), some (aI ((e : Nat) : Int)), some (aI ((k : Nat) : Int)), some (aI 1), some (aI ((c : Nat) : Int))], [aI (b (q + c)), aI (mo_words.getD (8 * k + c) 0)], M)
        refine hR _ (hR _ (am_brc (rg := am_in (mo_words.getD (8 * k + c) 0) ∧ am_in (b (q + c))) (P := (mo_words.getD (8 * k + c) 0) ≠ (b (q + c))) (A := R (79, [some (aR 8 0), some (aI ((q : Nat) : Int)), some (aI ((e : Nat) : Int)), some (aI ((k : Nat) : Int)), some (aI 1), some (aI ((c : Nat) : Int))], [], M)) (B := R (75, [some (aR 8 0), some (aI ((q : Nat) : Int)), some (aI ((e : Nat) : Int)), some (aI ((k : Nat) : Int)), some (aI 1), some (aI ((c : Nat) : Int))], [], M)) (by omega) (fun c72 => ?_) (fun c72 => ?_)))
        · refine hR _ (hR _ (hR _ (hR _ (?_))))
          show R (26, [some (aR 8 0), some (aI ((q : Nat) : Int)), some (aI ((e : Nat) : Int)), some (aI ((k : Nat) : Int)), some (aI 0), some (aI (((c : Nat) : Int) + 1))], [], M)
          refine hR _ (hR _ (hR _ (am_brc (rg := am_in (((c : Nat) : Int) + 1) ∧ am_in 8) (P := 8 ≤ (((c : Nat) : Int) + 1)) (A := R (88, [some (aR 8 0), some (aI ((q : Nat) : Int)), some (aI ((e : Nat) : Int)), some (aI ((k : Nat) : Int)), some (aI 0), some (aI (((c : Nat) : Int) + 1))], [], M)) (B := R (33, [some (aR 8 0), some (aI ((q : Nat) : Int)), some (aI ((e : Nat) : Int)), some (aI ((k : Nat) : Int)), some (aI 0), some (aI (((c : Nat) : Int) + 1))], [], M)) (by omega) (fun c30 => ?_) (fun c30 => ?_))))
          · refine hR _ (hR _ (am_brt (rg := am_in 0) (P := (0 : Int) = 0) (A := R (95, [some (aR 8 0), some (aI ((q : Nat) : Int)), some (aI ((e : Nat) : Int)), some (aI ((k : Nat) : Int)), some (aI 0), some (aI (((c : Nat) : Int) + 1))], [], M)) (B := R (93, [some (aR 8 0), some (aI ((q : Nat) : Int)), some (aI ((e : Nat) : Int)), some (aI ((k : Nat) : Int)), some (aI 0), some (aI (((c : Nat) : Int) + 1))], [], M)) (by omega) (by omega) ?_))
            show R (95, [some (aR 8 0), some (aI ((q : Nat) : Int)), some (aI ((e : Nat) : Int)), some (aI ((k : Nat) : Int)), some (aI 0), some (aI (((c : Nat) : Int) + 1))], [], M)
            refine hR _ (hR _ (?_))
            show R (2, [some (aR 8 0), some (aI ((q : Nat) : Int)), some (aI ((e : Nat) : Int)), some (aI (((k : Nat) : Int) + 1)), some (aI 0), some (aI (((c : Nat) : Int) + 1))], [], M)
            refine hno (fun heq => ?_) _ _
            have h9 := ((mo_like hqe hnb hk).mp heq).2 c (by omega)
            first | (rw [if_pos (by omega)] at h9; omega) | (rw [if_neg (by omega)] at h9; omega)
          · refine hR _ (hR _ (am_brt (rg := am_in 0) (P := (0 : Int) = 0) (A := R (88, [some (aR 8 0), some (aI ((q : Nat) : Int)), some (aI ((e : Nat) : Int)), some (aI ((k : Nat) : Int)), some (aI 0), some (aI (((c : Nat) : Int) + 1))], [], M)) (B := R (38, [some (aR 8 0), some (aI ((q : Nat) : Int)), some (aI ((e : Nat) : Int)), some (aI ((k : Nat) : Int)), some (aI 0), some (aI (((c : Nat) : Int) + 1))], [], M)) (by omega) (by omega) ?_))
            show R (88, [some (aR 8 0), some (aI ((q : Nat) : Int)), some (aI ((e : Nat) : Int)), some (aI ((k : Nat) : Int)), some (aI 0), some (aI (((c : Nat) : Int) + 1))], [], M)
            refine hR _ (hR _ (am_brt (rg := am_in 0) (P := (0 : Int) = 0) (A := R (95, [some (aR 8 0), some (aI ((q : Nat) : Int)), some (aI ((e : Nat) : Int)), some (aI ((k : Nat) : Int)), some (aI 0), some (aI (((c : Nat) : Int) + 1))], [], M)) (B := R (93, [some (aR 8 0), some (aI ((q : Nat) : Int)), some (aI ((e : Nat) : Int)), some (aI ((k : Nat) : Int)), some (aI 0), some (aI (((c : Nat) : Int) + 1))], [], M)) (by omega) (by omega) ?_))
            show R (95, [some (aR 8 0), some (aI ((q : Nat) : Int)), some (aI ((e : Nat) : Int)), some (aI ((k : Nat) : Int)), some (aI 0), some (aI (((c : Nat) : Int) + 1))], [], M)
            refine hR _ (hR _ (?_))
            show R (2, [some (aR 8 0), some (aI ((q : Nat) : Int)), some (aI ((e : Nat) : Int)), some (aI (((k : Nat) : Int) + 1)), some (aI 0), some (aI (((c : Nat) : Int) + 1))], [], M)
            refine hno (fun heq => ?_) _ _
            have h9 := ((mo_like hqe hnb hk).mp heq).2 c (by omega)
            first | (rw [if_pos (by omega)] at h9; omega) | (rw [if_neg (by omega)] at h9; omega)
        · refine hR _ (hR _ (hR _ (hR _ (hR _ (?_)))))
          show R (26, [some (aR 8 0), some (aI ((q : Nat) : Int)), some (aI ((e : Nat) : Int)), some (aI ((k : Nat) : Int)), some (aI 1), some (aI (((c : Nat) : Int) + 1))], [], M)
          exact ih (c + 1) _ (by omega) (by omega) (fun c2 hc2 => by
            by_cases e2 : c2 = c
            · rw [e2]
              first | (rw [if_pos (by omega)]; omega) | (rw [if_neg (by omega)]; omega)
            · exact hall c2 (by omega))
  have key1 : ∀ (f k : Nat) (x : Int) (o4 o5 : Option am_V), x = (k : Int) → k + f = 12 → (∀ k2, k2 < k → lx_sl b q e ≠ mo_wd k2) → R (2, [some (aR 8 0), some (aI ((q : Nat) : Int)), some (aI ((e : Nat) : Int)), some (aI x), o4, o5], [], M) := by
    intro f
    induction f with
    | zero =>
      intro k x o4 o5 hx hin hno
      subst hx
      refine hR _ (hR _ (hR _ (am_brt (rg := am_in ((k : Nat) : Int) ∧ am_in 12) (P := 12 ≤ ((k : Nat) : Int)) (A := R (101, [some (aR 8 0), some (aI ((q : Nat) : Int)), some (aI ((e : Nat) : Int)), some (aI ((k : Nat) : Int)), o4, o5], [], M)) (B := R (8, [some (aR 8 0), some (aI ((q : Nat) : Int)), some (aI ((e : Nat) : Int)), some (aI ((k : Nat) : Int)), o4, o5], [], M)) (by omega) (by omega) ?_)))
      show R (101, [some (aR 8 0), some (aI ((q : Nat) : Int)), some (aI ((e : Nat) : Int)), some (aI ((k : Nat) : Int)), o4, o5], [], M)
      refine hR _ (?_)
      show R (103, [some (aR 8 0), some (aI ((q : Nat) : Int)), some (aI ((e : Nat) : Int)), some (aI ((k : Nat) : Int)), o4, o5], [aI 12], M)
      refine hR _ (show K (some (aI 12)) M from ?_)
      exact hK12 (fun k2 hk2 => hno k2 (by omega))
    | succ f ih =>
      intro k x o4 o5 hx hin hno
      subst hx
      have hnext : lx_sl b q e ≠ mo_wd k → ∀ o4 o5 : Option am_V, R (2, [some (aR 8 0), some (aI ((q : Nat) : Int)), some (aI ((e : Nat) : Int)), some (aI (((k : Nat) : Int) + 1)), o4, o5], [], M) := fun h o4 o5 => ih (k + 1) _ o4 o5 (by omega) (by omega) (fun k2 hk2 => by
        by_cases e2 : k2 = k
        · rw [e2]; exact h
        · exact hno k2 (by omega))
      refine hR _ (hR _ (hR _ (am_brf (rg := am_in ((k : Nat) : Int) ∧ am_in 12) (P := 12 ≤ ((k : Nat) : Int)) (A := R (101, [some (aR 8 0), some (aI ((q : Nat) : Int)), some (aI ((e : Nat) : Int)), some (aI ((k : Nat) : Int)), o4, o5], [], M)) (B := R (8, [some (aR 8 0), some (aI ((q : Nat) : Int)), some (aI ((e : Nat) : Int)), some (aI ((k : Nat) : Int)), o4, o5], [], M)) (by omega) (by omega) ?_)))
      show R (8, [some (aR 8 0), some (aI ((q : Nat) : Int)), some (aI ((e : Nat) : Int)), some (aI ((k : Nat) : Int)), o4, o5], [], M)
      refine hR _ (hR _ (hR _ (hR _ (hR _ (am_brc (rg := am_in (((e : Nat) : Int) - ((q : Nat) : Int)) ∧ am_in 8) (P := 8 < (((e : Nat) : Int) - ((q : Nat) : Int))) (A := R (20, [some (aR 8 0), some (aI ((q : Nat) : Int)), some (aI ((e : Nat) : Int)), some (aI ((k : Nat) : Int)), o4, o5], [], M)) (B := R (16, [some (aR 8 0), some (aI ((q : Nat) : Int)), some (aI ((e : Nat) : Int)), some (aI ((k : Nat) : Int)), o4, o5], [], M)) (by omega) (fun c13 => ?_) (fun c13 => ?_))))))
      · refine hR _ (hR _ (hR _ (hR _ (?_))))
        show R (26, [some (aR 8 0), some (aI ((q : Nat) : Int)), some (aI ((e : Nat) : Int)), some (aI ((k : Nat) : Int)), some (aI 0), some (aI 0)], [], M)
        refine hR _ (hR _ (hR _ (am_brf (rg := am_in 0 ∧ am_in 8) (P := 8 ≤ 0) (A := R (88, [some (aR 8 0), some (aI ((q : Nat) : Int)), some (aI ((e : Nat) : Int)), some (aI ((k : Nat) : Int)), some (aI 0), some (aI 0)], [], M)) (B := R (33, [some (aR 8 0), some (aI ((q : Nat) : Int)), some (aI ((e : Nat) : Int)), some (aI ((k : Nat) : Int)), some (aI 0), some (aI 0)], [], M)) (by omega) (by omega) ?_)))
        show R (33, [some (aR 8 0), some (aI ((q : Nat) : Int)), some (aI ((e : Nat) : Int)), some (aI ((k : Nat) : Int)), some (aI 0), some (aI 0)], [], M)
        refine hR _ (hR _ (am_brt (rg := am_in 0) (P := (0 : Int) = 0) (A := R (88, [some (aR 8 0), some (aI ((q : Nat) : Int)), some (aI ((e : Nat) : Int)), some (aI ((k : Nat) : Int)), some (aI 0), some (aI 0)], [], M)) (B := R (38, [some (aR 8 0), some (aI ((q : Nat) : Int)), some (aI ((e : Nat) : Int)), some (aI ((k : Nat) : Int)), some (aI 0), some (aI 0)], [], M)) (by omega) (by omega) ?_))
        show R (88, [some (aR 8 0), some (aI ((q : Nat) : Int)), some (aI ((e : Nat) : Int)), some (aI ((k : Nat) : Int)), some (aI 0), some (aI 0)], [], M)
        refine hR _ (hR _ (am_brt (rg := am_in 0) (P := (0 : Int) = 0) (A := R (95, [some (aR 8 0), some (aI ((q : Nat) : Int)), some (aI ((e : Nat) : Int)), some (aI ((k : Nat) : Int)), some (aI 0), some (aI 0)], [], M)) (B := R (93, [some (aR 8 0), some (aI ((q : Nat) : Int)), some (aI ((e : Nat) : Int)), some (aI ((k : Nat) : Int)), some (aI 0), some (aI 0)], [], M)) (by omega) (by omega) ?_))
        show R (95, [some (aR 8 0), some (aI ((q : Nat) : Int)), some (aI ((e : Nat) : Int)), some (aI ((k : Nat) : Int)), some (aI 0), some (aI 0)], [], M)
        refine hR _ (hR _ (?_))
        show R (2, [some (aR 8 0), some (aI ((q : Nat) : Int)), some (aI ((e : Nat) : Int)), some (aI (((k : Nat) : Int) + 1)), some (aI 0), some (aI 0)], [], M)
        exact hnext (fun heq => absurd ((mo_like hqe hnb (by omega)).mp heq).1 (by omega)) _ _
      · refine hR _ (hR _ (hR _ (hR _ (hR _ (?_)))))
        show R (26, [some (aR 8 0), some (aI ((q : Nat) : Int)), some (aI ((e : Nat) : Int)), some (aI ((k : Nat) : Int)), some (aI 1), some (aI 0)], [], M)
        exact key2 k (by omega) (by omega) hnext (fun heq => hK k (by omega) heq) 8 0 _ rfl rfl (fun c2 hc2 => absurd hc2 (Nat.not_lt_zero c2))
  refine hR _ (hR _ (?_))
  show R (2, [some (aR 8 0), some (aI ((q : Nat) : Int)), some (aI ((e : Nat) : Int)), some (aI 0), none, none], [], M)
  exact key1 12 0 _ _ _ rfl rfl (fun k2 hk2 => absurd hk2 (Nat.not_lt_zero k2))
