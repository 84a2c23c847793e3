/-! wb -/
variable {wb : Bool}
/-! The tape's tokens -/
def lx_sl (b : Nat → Int) (q e : Nat) : List Int := (List.range' q (e - q)).map b
theorem lx_sl_eq {b : Nat → Int} {q e : Nat} {w : List Int} (hl : e - q = w.length) : lx_sl b q e = w ↔ ∀ c, c < w.length → b (q + c) = w.getD c 0 := by
  constructor
  · intro h c hc
    have h2 : (lx_sl b q e).getD c 0 = w.getD c 0 := by rw [h]
    unfold lx_sl at h2
    rw [List.getD_eq_getElem?_getD, List.getElem?_map, List.getElem?_range' (by omega)] at h2
    simpa using h2
  · intro h
    unfold lx_sl
    apply List.ext_getElem
    · rw [List.length_map, List.length_range', hl]
    · intro c h1 h2
      have h3 := h c h2
      rw [List.getD_eq_getElem?_getD, List.getElem?_eq_getElem h2] at h3
      rw [List.getElem_map, List.getElem_range']
      simpa using h3
theorem lx_sl_len (b : Nat → Int) (q e : Nat) : (lx_sl b q e).length = e - q := by
  unfold lx_sl
  rw [List.length_map, List.length_range']
theorem lx_c (v : Int) (h : 0 ≤ v ∧ v ≤ 127) : am_i2c (am_and v 255) = v := by
  have key : ∀ n : Fin 128, am_i2c (am_and ((n.val : Nat) : Int) 255) = ((n.val : Nat) : Int) := by decide +kernel
  have h2 := key ⟨v.toNat, by omega⟩
  rw [show (((⟨v.toNat, by omega⟩ : Fin 128).val : Nat) : Int) = v by show ((v.toNat : Nat) : Int) = v; omega] at h2
  exact h2
theorem lx_tb : ∀ j, j < 13 → ∀ i, i < (am_text j).length → 0 ≤ (am_text j).getD i 0 ∧ (am_text j).getD i 0 ≤ 127 := by decide +kernel
theorem lx_l : ∀ j, j < 13 → (am_text j).length ≤ 59 := by decide +kernel

theorem sp_str_coder {d : Nat} (hd : 1 ≤ d) {j : Nat} {M : am_M} {K : am_K} (hj : j < 13) (h : K (some (aI 0)) M) : am_Call wb d 3 [aR 52 j] M K := by
  obtain ⟨d, rfl⟩ : ∃ e, d = e + 1 := ⟨d - 1, by omega⟩
  refine ⟨rfl, fun R hR hC => ?_⟩
  replace hR : ∀ c, am_F wb tb_f3 3 (am_Call wb d) K R c → R c := hR
  show R (0, [some (aR 52 j)], [], M)
  refine hR _ (hR _ (am_brf (rg := am_in 1) (P := (1 : Int) = 0) (A := R (13, [some (aR 52 j)], [], M)) (B := R (6, [some (aR 52 j)], [], M)) (by omega) (by omega) ?_))
  show R (6, [some (aR 52 j)], [], M)
  refine hR _ (?_)
  show R (7, [some (aR 52 j)], [aR 52 j], M)
  refine hR _ (am_ct (am_vi (by omega : j < 13)) ?_)
  show R (10, [some (aR 52 j)], [aI 0], M)
  refine hR _ (?_)
  show R (14, [some (aR 52 j)], [aI 0], M)
  refine hR _ (show (-128 ≤ (0 : Int) ∧ (0 : Int) ≤ 127) ∧ K (some (aI 0)) M from ?_)
  exact ⟨by omega, h⟩

theorem sp_str_length {d : Nat} (hd : 2 ≤ d) {j : Nat} {M : am_M} {K : am_K} (hj : j < 13) (h : K (some (aI ((am_text j).length : Int))) M) : am_Call wb d 2 [aR 52 j] M K := by
  obtain ⟨d, rfl⟩ : ∃ e, d = e + 1 := ⟨d - 1, by omega⟩
  refine ⟨rfl, fun R hR hC => ?_⟩
  replace hR : ∀ c, am_F wb tb_f2 1 (am_Call wb d) K R c → R c := hR
  have hl := lx_l j hj
  show R (0, [some (aR 52 j)], [], M)
  refine hR _ (?_)
  show R (1, [some (aR 52 j)], [aR 52 j], M)
  refine hR _ (am_ct (am_vi (by omega : j < 13)) ?_)
  show R (4, [some (aR 52 j)], [aR 53 j], M)
  refine hR _ (am_ct (am_vi (by omega : j < 13)) ?_)
  show R (5, [some (aR 52 j)], [aI ((am_text j).length : Int)], M)
  refine hR _ (?_)
  show R (6, [some (aR 52 j)], [aR 52 j, aI ((am_text j).length : Int)], M)
  refine hR _ (am_ct (am_vi (by omega : j < 13)) (sp_str_coder (by omega) (by omega) ?_))
  show R (9, [some (aR 52 j)], [aI 0, aI ((am_text j).length : Int)], M)
  refine hR _ ⟨(by omega), ?_⟩
  show R (10, [some (aR 52 j)], [aI ((am_text j).length : Int)], M)
  refine hR _ (show K (some (aI ((am_text j).length : Int))) M from ?_)
  exact h

theorem sp_str_isLatin1 {d : Nat} (hd : 1 ≤ d) {j : Nat} {M : am_M} {K : am_K} (hj : j < 13) (h : K (some (aI 1)) M) : am_Call wb d 5 [aR 52 j] M K := by
  obtain ⟨d, rfl⟩ : ∃ e, d = e + 1 := ⟨d - 1, by omega⟩
  refine ⟨rfl, fun R hR hC => ?_⟩
  replace hR : ∀ c, am_F wb tb_f5 2 (am_Call wb d) K R c → R c := hR
  show R (0, [some (aR 52 j)], [], M)
  refine hR _ (hR _ (am_brf (rg := am_in 1) (P := (1 : Int) = 0) (A := R (17, [some (aR 52 j)], [], M)) (B := R (6, [some (aR 52 j)], [], M)) (by omega) (by omega) ?_))
  show R (6, [some (aR 52 j)], [], M)
  refine hR _ (?_)
  show R (7, [some (aR 52 j)], [aR 52 j], M)
  refine hR _ (am_ct (am_vi (by omega : j < 13)) ?_)
  show R (10, [some (aR 52 j)], [aI 0], M)
  refine hR _ (am_brf (rg := am_in 0) (P := (0 : Int) ≠ 0) (A := R (17, [some (aR 52 j)], [], M)) (B := R (13, [some (aR 52 j)], [], M)) (by omega) (by omega) ?_)
  show R (13, [some (aR 52 j)], [], M)
  refine hR _ (hR _ (?_))
  show R (18, [some (aR 52 j)], [aI 1], M)
  refine hR _ (show ((1 : Int) = 0 ∨ (1 : Int) = 1) ∧ K (some (aI 1)) M from ?_)
  exact ⟨by omega, h⟩

theorem sp_pre_checkIndex {d : Nat} (hd : 1 ≤ d) {x y : Int} {M : am_M} {K : am_K} (hx : 0 ≤ x ∧ x < y) (hy : am_in y) (h : K (some (aI x)) M) : am_Call wb d 8 [aI x, aI y, aR 54 0] M K := by
  obtain ⟨d, rfl⟩ : ∃ e, d = e + 1 := ⟨d - 1, by omega⟩
  refine ⟨rfl, fun R hR hC => ?_⟩
  replace hR : ∀ c, am_F wb tb_f8 1 (am_Call wb d) K R c → R c := hR
  show R (0, [some (aI x), some (aI y), some (aR 54 0)], [], M)
  refine hR _ (hR _ (am_brf (rg := am_in x) (P := x < 0) (A := R (9, [some (aI x), some (aI y), some (aR 54 0)], [], M)) (B := R (4, [some (aI x), some (aI y), some (aR 54 0)], [], M)) (by omega) (by omega) ?_))
  show R (4, [some (aI x), some (aI y), some (aR 54 0)], [], M)
  refine hR _ (hR _ (hR _ (am_brt (rg := am_in x ∧ am_in y) (P := x < y) (A := R (16, [some (aI x), some (aI y), some (aR 54 0)], [], M)) (B := R (9, [some (aI x), some (aI y), some (aR 54 0)], [], M)) (by omega) (by omega) ?_)))
  show R (16, [some (aI x), some (aI y), some (aR 54 0)], [], M)
  refine hR _ (?_)
  show R (17, [some (aI x), some (aI y), some (aR 54 0)], [aI x], M)
  refine hR _ (show K (some (aI x)) M from ?_)
  exact h

theorem sp_str_checkIndex {d : Nat} (hd : 2 ≤ d) {x y : Int} {M : am_M} {K : am_K} (hx : 0 ≤ x ∧ x < y) (hy : am_in y) (h : K none M) : am_Call wb d 7 [aI x, aI y] M K := by
  obtain ⟨d, rfl⟩ : ∃ e, d = e + 1 := ⟨d - 1, by omega⟩
  refine ⟨rfl, fun R hR hC => ?_⟩
  replace hR : ∀ c, am_F wb tb_f7 0 (am_Call wb d) K R c → R c := hR
  show R (0, [some (aI x), some (aI y)], [], M)
  refine hR _ (hR _ (hR _ (?_)))
  show R (5, [some (aI x), some (aI y)], [aR 54 0, aI y, aI x], M)
  refine hR _ (sp_pre_checkIndex (by omega) (by omega) (by omega) ?_)
  show R (8, [some (aI x), some (aI y)], [aI x], M)
  refine hR _ (?_)
  show R (9, [some (aI x), some (aI y)], [], M)
  refine hR _ (show K none M from ?_)
  exact h

theorem sp_l1_charAt {d : Nat} (hd : 3 ≤ d) {j : Nat} {x : Int} {M : am_M} {K : am_K} (hj : j < 13) (hx : 0 ≤ x ∧ x < ((am_text j).length : Int)) (h : K (some (aI ((am_text j).getD x.toNat 0))) M) : am_Call wb d 6 [aR 53 j, aI x] M K := by
  obtain ⟨d, rfl⟩ : ∃ e, d = e + 1 := ⟨d - 1, by omega⟩
  refine ⟨rfl, fun R hR hC => ?_⟩
  replace hR : ∀ c, am_F wb tb_f6 4 (am_Call wb d) K R c → R c := hR
  have hl := lx_l j hj
  have ht := lx_tb j hj x.toNat (by omega)
  show R (0, [some (aR 53 j), some (aI x)], [], M)
  refine hR _ (hR _ (?_))
  show R (2, [some (aR 53 j), some (aI x)], [aR 53 j, aI x], M)
  refine hR _ (am_ct (am_vi (by omega : j < 13)) ?_)
  show R (3, [some (aR 53 j), some (aI x)], [aI ((am_text j).length : Int), aI x], M)
  refine hR _ (sp_str_checkIndex (by omega) (by omega) (by omega) ?_)
  show R (6, [some (aR 53 j), some (aI x)], [], M)
  refine hR _ (hR _ (?_))
  show R (8, [some (aR 53 j), some (aI x)], [aI x, aR 53 j], M)
  refine hR _ (am_ct (am_vi (by omega : j < 13)) ⟨(by omega), ?_⟩)
  show R (9, [some (aR 53 j), some (aI x)], [aI ((am_text j).getD (x).toNat 0)], M)
  refine hR _ (hR _ (hR _ (?_)))
  show R (14, [some (aR 53 j), some (aI x)], [aI (am_i2c (am_and ((am_text j).getD (x).toNat 0) 255))], M)
  refine hR _ (show (0 ≤ ((am_i2c (am_and ((am_text j).getD (x).toNat 0) 255)) : Int) ∧ ((am_i2c (am_and ((am_text j).getD (x).toNat 0) 255)) : Int) ≤ 65535) ∧ K (some (aI (am_i2c (am_and ((am_text j).getD (x).toNat 0) 255)))) M from ?_)
  rw [lx_c _ ht]
  exact ⟨by omega, h⟩

theorem sp_str_charAt {d : Nat} (hd : 4 ≤ d) {j : Nat} {x : Int} {M : am_M} {K : am_K} (hj : j < 13) (hx : 0 ≤ x ∧ x < ((am_text j).length : Int)) (h : K (some (aI ((am_text j).getD x.toNat 0))) M) : am_Call wb d 4 [aR 52 j, aI x] M K := by
  obtain ⟨d, rfl⟩ : ∃ e, d = e + 1 := ⟨d - 1, by omega⟩
  refine ⟨rfl, fun R hR hC => ?_⟩
  replace hR : ∀ c, am_F wb tb_f4 4 (am_Call wb d) K R c → R c := hR
  have hl := lx_l j hj
  have ht := lx_tb j hj x.toNat (by omega)
  show R (0, [some (aR 52 j), some (aI x)], [], M)
  refine hR _ (?_)
  show R (1, [some (aR 52 j), some (aI x)], [aR 52 j], M)
  refine hR _ (am_ct (am_vi (by omega : j < 13)) (sp_str_isLatin1 (by omega) (by omega) ?_))
  show R (4, [some (aR 52 j), some (aI x)], [aI 1], M)
  refine hR _ (am_brf (rg := am_in 1) (P := (1 : Int) = 0) (A := R (16, [some (aR 52 j), some (aI x)], [], M)) (B := R (7, [some (aR 52 j), some (aI x)], [], M)) (by omega) (by omega) ?_)
  show R (7, [some (aR 52 j), some (aI x)], [], M)
  refine hR _ (?_)
  show R (8, [some (aR 52 j), some (aI x)], [aR 52 j], M)
  refine hR _ (am_ct (am_vi (by omega : j < 13)) ?_)
  show R (11, [some (aR 52 j), some (aI x)], [aR 53 j], M)
  refine hR _ (?_)
  show R (12, [some (aR 52 j), some (aI x)], [aI x, aR 53 j], M)
  refine hR _ (sp_l1_charAt (by omega) (by omega) (by omega) ?_)
  show R (15, [some (aR 52 j), some (aI x)], [aI ((am_text j).getD (x).toNat 0)], M)
  refine hR _ (show (0 ≤ (((am_text j).getD (x).toNat 0) : Int) ∧ (((am_text j).getD (x).toNat 0) : Int) ≤ 65535) ∧ K (some (aI ((am_text j).getD (x).toNat 0))) M from ?_)
  exact ⟨by omega, h⟩
