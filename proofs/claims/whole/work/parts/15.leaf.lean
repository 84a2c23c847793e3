/-! wb -/
variable {wb : Bool}
theorem sp_within {d : Nat} (hd : 1 ≤ d) {v a b : Int} {M : am_M} {K : am_K} (hr : am_in v ∧ am_in a ∧ am_in b) (ht : a ≤ v ∧ v ≤ b → K (some (aI 1)) M) (hf : ¬ (a ≤ v ∧ v ≤ b) → K (some (aI 0)) M) : am_Call wb d 10 [aI v, aI a, aI b] M K := by
  obtain ⟨d, rfl⟩ : ∃ e, d = e + 1 := ⟨d - 1, by omega⟩
  refine ⟨rfl, fun R hR hC => ?_⟩
  replace hR : ∀ c, am_F wb tb_f10 2 (am_Call wb d) K R c → R c := hR
  show R (0, [some (aI v), some (aI a), some (aI b)], [], M)
  refine hR _ (hR _ (hR _ (am_brc (rg := am_in v ∧ am_in a) (P := v < a) (A := R (14, [some (aI v), some (aI a), some (aI b)], [], M)) (B := R (5, [some (aI v), some (aI a), some (aI b)], [], M)) (by omega) (fun c2 => ?_) (fun c2 => ?_))))
  · refine hR _ (?_)
    show R (15, [some (aI v), some (aI a), some (aI b)], [aI 0], M)
    refine hR _ (show ((0 : Int) = 0 ∨ (0 : Int) = 1) ∧ K (some (aI 0)) M from ?_)
    exact ⟨by omega, hf (by omega)⟩
  · refine hR _ (hR _ (hR _ (am_brc (rg := am_in v ∧ am_in b) (P := b < v) (A := R (14, [some (aI v), some (aI a), some (aI b)], [], M)) (B := R (10, [some (aI v), some (aI a), some (aI b)], [], M)) (by omega) (fun c7 => ?_) (fun c7 => ?_))))
    · refine hR _ (?_)
      show R (15, [some (aI v), some (aI a), some (aI b)], [aI 0], M)
      refine hR _ (show ((0 : Int) = 0 ∨ (0 : Int) = 1) ∧ K (some (aI 0)) M from ?_)
      exact ⟨by omega, hf (by omega)⟩
    · refine hR _ (hR _ (?_))
      show R (15, [some (aI v), some (aI a), some (aI b)], [aI 1], M)
      refine hR _ (show ((1 : Int) = 0 ∨ (1 : Int) = 1) ∧ K (some (aI 1)) M from ?_)
      exact ⟨by omega, ht (by omega)⟩

theorem sp_in {d : Nat} (hd : 1 ≤ d) {v a b : Int} {M : am_M} {K : am_K} (hr : am_in v ∧ am_in a ∧ am_in b) (ht : a ≤ v ∧ v ≤ b → K (some (aI 1)) M) (hf : ¬ (a ≤ v ∧ v ≤ b) → K (some (aI 0)) M) : am_Call wb d 125 [aI v, aI a, aI b] M K := by
  obtain ⟨d, rfl⟩ : ∃ e, d = e + 1 := ⟨d - 1, by omega⟩
  refine ⟨rfl, fun R hR hC => ?_⟩
  replace hR : ∀ c, am_F wb tb_f125 2 (am_Call wb d) K R c → R c := hR
  show R (0, [some (aI v), some (aI a), some (aI b)], [], M)
  refine hR _ (hR _ (hR _ (am_brc (rg := am_in v ∧ am_in a) (P := v < a) (A := R (14, [some (aI v), some (aI a), some (aI b)], [], M)) (B := R (5, [some (aI v), some (aI a), some (aI b)], [], M)) (by omega) (fun c2 => ?_) (fun c2 => ?_))))
  · refine hR _ (?_)
    show R (15, [some (aI v), some (aI a), some (aI b)], [aI 0], M)
    refine hR _ (show ((0 : Int) = 0 ∨ (0 : Int) = 1) ∧ K (some (aI 0)) M from ?_)
    exact ⟨by omega, hf (by omega)⟩
  · refine hR _ (hR _ (hR _ (am_brc (rg := am_in v ∧ am_in b) (P := b < v) (A := R (14, [some (aI v), some (aI a), some (aI b)], [], M)) (B := R (10, [some (aI v), some (aI a), some (aI b)], [], M)) (by omega) (fun c7 => ?_) (fun c7 => ?_))))
    · refine hR _ (?_)
      show R (15, [some (aI v), some (aI a), some (aI b)], [aI 0], M)
      refine hR _ (show ((0 : Int) = 0 ∨ (0 : Int) = 1) ∧ K (some (aI 0)) M from ?_)
      exact ⟨by omega, hf (by omega)⟩
    · refine hR _ (hR _ (?_))
      show R (15, [some (aI v), some (aI a), some (aI b)], [aI 1], M)
      refine hR _ (show ((1 : Int) = 0 ∨ (1 : Int) = 1) ∧ K (some (aI 1)) M from ?_)
      exact ⟨by omega, ht (by omega)⟩

theorem sp_X_isByte {d : Nat} (hd : 2 ≤ d) {v : Int} {M : am_M} {K : am_K} (hr : am_in v) (ht : 0 ≤ v ∧ v ≤ 255 → K (some (aI 1)) M) (hf : ¬ (0 ≤ v ∧ v ≤ 255) → K (some (aI 0)) M) : am_Call wb d 34 [aI v] M K := by
  obtain ⟨d, rfl⟩ : ∃ e, d = e + 1 := ⟨d - 1, by omega⟩
  refine ⟨rfl, fun R hR hC => ?_⟩
  replace hR : ∀ c, am_F wb tb_f34 2 (am_Call wb d) K R c → R c := hR
  show R (0, [some (aI v)], [], M)
  refine hR _ (hR _ (hR _ (hR _ (sp_within (by omega) (by omega) (fun hb5 => ?_) (fun hb5 => ?_)))))
  · show R (8, [some (aI v)], [aI 1], M)
    refine hR _ (show ((1 : Int) = 0 ∨ (1 : Int) = 1) ∧ K (some (aI 1)) M from ?_)
    exact ⟨by omega, ht (by omega)⟩
  · show R (8, [some (aI v)], [aI 0], M)
    refine hR _ (show ((0 : Int) = 0 ∨ (0 : Int) = 1) ∧ K (some (aI 0)) M from ?_)
    exact ⟨by omega, hf (by omega)⟩

theorem sp_m_isByte {d : Nat} (hd : 2 ≤ d) {v : Int} {M : am_M} {K : am_K} (hr : am_in v) (ht : 0 ≤ v ∧ v ≤ 255 → K (some (aI 1)) M) (hf : ¬ (0 ≤ v ∧ v ≤ 255) → K (some (aI 0)) M) : am_Call wb d 138 [aI v] M K := by
  obtain ⟨d, rfl⟩ : ∃ e, d = e + 1 := ⟨d - 1, by omega⟩
  refine ⟨rfl, fun R hR hC => ?_⟩
  replace hR : ∀ c, am_F wb tb_f138 2 (am_Call wb d) K R c → R c := hR
  show R (0, [some (aI v)], [], M)
  refine hR _ (hR _ (hR _ (hR _ (sp_in (by omega) (by omega) (fun hb5 => ?_) (fun hb5 => ?_)))))
  · show R (8, [some (aI v)], [aI 1], M)
    refine hR _ (show ((1 : Int) = 0 ∨ (1 : Int) = 1) ∧ K (some (aI 1)) M from ?_)
    exact ⟨by omega, ht (by omega)⟩
  · show R (8, [some (aI v)], [aI 0], M)
    refine hR _ (show ((0 : Int) = 0 ∨ (0 : Int) = 1) ∧ K (some (aI 0)) M from ?_)
    exact ⟨by omega, hf (by omega)⟩

theorem sp_isLetter {d : Nat} (hd : 1 ≤ d) {v : Int} {M : am_M} {K : am_K} (hr : am_in v) (ht : 97 ≤ v ∧ v ≤ 122 → K (some (aI 1)) M) (hf : ¬ (97 ≤ v ∧ v ≤ 122) → K (some (aI 0)) M) : am_Call wb d 16 [aI v] M K := by
  obtain ⟨d, rfl⟩ : ∃ e, d = e + 1 := ⟨d - 1, by omega⟩
  refine ⟨rfl, fun R hR hC => ?_⟩
  replace hR : ∀ c, am_F wb tb_f16 2 (am_Call wb d) K R c → R c := hR
  show R (0, [some (aI v)], [], M)
  refine hR _ (hR _ (hR _ (am_brc (rg := am_in v ∧ am_in 97) (P := v < 97) (A := R (16, [some (aI v)], [], M)) (B := R (6, [some (aI v)], [], M)) (by omega) (fun c3 => ?_) (fun c3 => ?_))))
  · refine hR _ (?_)
    show R (17, [some (aI v)], [aI 0], M)
    refine hR _ (show ((0 : Int) = 0 ∨ (0 : Int) = 1) ∧ K (some (aI 0)) M from ?_)
    exact ⟨by omega, hf (by omega)⟩
  · refine hR _ (hR _ (hR _ (am_brc (rg := am_in v ∧ am_in 122) (P := 122 < v) (A := R (16, [some (aI v)], [], M)) (B := R (12, [some (aI v)], [], M)) (by omega) (fun c9 => ?_) (fun c9 => ?_))))
    · refine hR _ (?_)
      show R (17, [some (aI v)], [aI 0], M)
      refine hR _ (show ((0 : Int) = 0 ∨ (0 : Int) = 1) ∧ K (some (aI 0)) M from ?_)
      exact ⟨by omega, hf (by omega)⟩
    · refine hR _ (hR _ (?_))
      show R (17, [some (aI v)], [aI 1], M)
      refine hR _ (show ((1 : Int) = 0 ∨ (1 : Int) = 1) ∧ K (some (aI 1)) M from ?_)
      exact ⟨by omega, ht (by omega)⟩

theorem sp_isDigit {d : Nat} (hd : 1 ≤ d) {v : Int} {M : am_M} {K : am_K} (hr : am_in v) (ht : 48 ≤ v ∧ v ≤ 57 → K (some (aI 1)) M) (hf : ¬ (48 ≤ v ∧ v ≤ 57) → K (some (aI 0)) M) : am_Call wb d 19 [aI v] M K := by
  obtain ⟨d, rfl⟩ : ∃ e, d = e + 1 := ⟨d - 1, by omega⟩
  refine ⟨rfl, fun R hR hC => ?_⟩
  replace hR : ∀ c, am_F wb tb_f19 2 (am_Call wb d) K R c → R c := hR
  show R (0, [some (aI v)], [], M)
  refine hR _ (hR _ (hR _ (am_brc (rg := am_in v ∧ am_in 48) (P := v < 48) (A := R (16, [some (aI v)], [], M)) (B := R (6, [some (aI v)], [], M)) (by omega) (fun c3 => ?_) (fun c3 => ?_))))
  · refine hR _ (?_)
    show R (17, [some (aI v)], [aI 0], M)
    refine hR _ (show ((0 : Int) = 0 ∨ (0 : Int) = 1) ∧ K (some (aI 0)) M from ?_)
    exact ⟨by omega, hf (by omega)⟩
  · refine hR _ (hR _ (hR _ (am_brc (rg := am_in v ∧ am_in 57) (P := 57 < v) (A := R (16, [some (aI v)], [], M)) (B := R (12, [some (aI v)], [], M)) (by omega) (fun c9 => ?_) (fun c9 => ?_))))
    · refine hR _ (?_)
      show R (17, [some (aI v)], [aI 0], M)
      refine hR _ (show ((0 : Int) = 0 ∨ (0 : Int) = 1) ∧ K (some (aI 0)) M from ?_)
      exact ⟨by omega, hf (by omega)⟩
    · refine hR _ (hR _ (?_))
      show R (17, [some (aI v)], [aI 1], M)
      refine hR _ (show ((1 : Int) = 0 ∨ (1 : Int) = 1) ∧ K (some (aI 1)) M from ?_)
      exact ⟨by omega, ht (by omega)⟩

theorem sp_isSign {d : Nat} (hd : 1 ≤ d) {v : Int} {M : am_M} {K : am_K} (hr : am_in v) (ht : v = 40 ∨ v = 41 ∨ v = 59 ∨ v = 43 ∨ v = 45 ∨ v = 42 ∨ v = 60 ∨ v = 61 → K (some (aI 1)) M) (hf : ¬ (v = 40 ∨ v = 41 ∨ v = 59 ∨ v = 43 ∨ v = 45 ∨ v = 42 ∨ v = 60 ∨ v = 61) → K (some (aI 0)) M) : am_Call wb d 21 [aI v] M K := by
  obtain ⟨d, rfl⟩ : ∃ e, d = e + 1 := ⟨d - 1, by omega⟩
  refine ⟨rfl, fun R hR hC => ?_⟩
  replace hR : ∀ c, am_F wb tb_f21 2 (am_Call wb d) K R c → R c := hR
  show R (0, [some (aI v)], [], M)
  refine hR _ (hR _ (hR _ (am_brc (rg := am_in v ∧ am_in 40) (P := v = 40) (A := R (48, [some (aI v)], [], M)) (B := R (6, [some (aI v)], [], M)) (by omega) (fun c3 => ?_) (fun c3 => ?_))))
  · refine hR _ (hR _ (?_))
    show R (53, [some (aI v)], [aI 1], M)
    refine hR _ (show ((1 : Int) = 0 ∨ (1 : Int) = 1) ∧ K (some (aI 1)) M from ?_)
    exact ⟨by omega, ht (by omega)⟩
  · refine hR _ (hR _ (hR _ (am_brc (rg := am_in v ∧ am_in 41) (P := v = 41) (A := R (48, [some (aI v)], [], M)) (B := R (12, [some (aI v)], [], M)) (by omega) (fun c9 => ?_) (fun c9 => ?_))))
    · refine hR _ (hR _ (?_))
      show R (53, [some (aI v)], [aI 1], M)
      refine hR _ (show ((1 : Int) = 0 ∨ (1 : Int) = 1) ∧ K (some (aI 1)) M from ?_)
      exact ⟨by omega, ht (by omega)⟩
    · refine hR _ (hR _ (hR _ (am_brc (rg := am_in v ∧ am_in 59) (P := v = 59) (A := R (48, [some (aI v)], [], M)) (B := R (18, [some (aI v)], [], M)) (by omega) (fun c15 => ?_) (fun c15 => ?_))))
      · refine hR _ (hR _ (?_))
        show R (53, [some (aI v)], [aI 1], M)
        refine hR _ (show ((1 : Int) = 0 ∨ (1 : Int) = 1) ∧ K (some (aI 1)) M from ?_)
        exact ⟨by omega, ht (by omega)⟩
      · refine hR _ (hR _ (hR _ (am_brc (rg := am_in v ∧ am_in 43) (P := v = 43) (A := R (48, [some (aI v)], [], M)) (B := R (24, [some (aI v)], [], M)) (by omega) (fun c21 => ?_) (fun c21 => ?_))))
        · refine hR _ (hR _ (?_))
          show R (53, [some (aI v)], [aI 1], M)
          refine hR _ (show ((1 : Int) = 0 ∨ (1 : Int) = 1) ∧ K (some (aI 1)) M from ?_)
          exact ⟨by omega, ht (by omega)⟩
        · refine hR _ (hR _ (hR _ (am_brc (rg := am_in v ∧ am_in 45) (P := v = 45) (A := R (48, [some (aI v)], [], M)) (B := R (30, [some (aI v)], [], M)) (by omega) (fun c27 => ?_) (fun c27 => ?_))))
          · refine hR _ (hR _ (?_))
            show R (53, [some (aI v)], [aI 1], M)
            refine hR _ (show ((1 : Int) = 0 ∨ (1 : Int) = 1) ∧ K (some (aI 1)) M from ?_)
            exact ⟨by omega, ht (by omega)⟩
          · refine hR _ (hR _ (hR _ (am_brc (rg := am_in v ∧ am_in 42) (P := v = 42) (A := R (48, [some (aI v)], [], M)) (B := R (36, [some (aI v)], [], M)) (by omega) (fun c33 => ?_) (fun c33 => ?_))))
            · refine hR _ (hR _ (?_))
              show R (53, [some (aI v)], [aI 1], M)
              refine hR _ (show ((1 : Int) = 0 ∨ (1 : Int) = 1) ∧ K (some (aI 1)) M from ?_)
              exact ⟨by omega, ht (by omega)⟩
            · refine hR _ (hR _ (hR _ (am_brc (rg := am_in v ∧ am_in 60) (P := v = 60) (A := R (48, [some (aI v)], [], M)) (B := R (42, [some (aI v)], [], M)) (by omega) (fun c39 => ?_) (fun c39 => ?_))))
              · refine hR _ (hR _ (?_))
                show R (53, [some (aI v)], [aI 1], M)
                refine hR _ (show ((1 : Int) = 0 ∨ (1 : Int) = 1) ∧ K (some (aI 1)) M from ?_)
                exact ⟨by omega, ht (by omega)⟩
              · refine hR _ (hR _ (hR _ (am_brc (rg := am_in v ∧ am_in 61) (P := v ≠ 61) (A := R (52, [some (aI v)], [], M)) (B := R (48, [some (aI v)], [], M)) (by omega) (fun c45 => ?_) (fun c45 => ?_))))
                · refine hR _ (?_)
                  show R (53, [some (aI v)], [aI 0], M)
                  refine hR _ (show ((0 : Int) = 0 ∨ (0 : Int) = 1) ∧ K (some (aI 0)) M from ?_)
                  exact ⟨by omega, hf (by omega)⟩
                · refine hR _ (hR _ (?_))
                  show R (53, [some (aI v)], [aI 1], M)
                  refine hR _ (show ((1 : Int) = 0 ∨ (1 : Int) = 1) ∧ K (some (aI 1)) M from ?_)
                  exact ⟨by omega, ht (by omega)⟩

theorem sp_filled {d : Nat} (hd : 1 ≤ d) {v : Int} {i : Nat} {M : am_M} {K : am_K} (hi : i < 2) (hr : am_in v ∧ am_in (M 223 i 0)) (h : K (some (aI (min v (M 223 i 0)))) M) : am_Call wb d 53 [aI v, aR 3 i] M K := by
  obtain ⟨d, rfl⟩ : ∃ e, d = e + 1 := ⟨d - 1, by omega⟩
  refine ⟨rfl, fun R hR hC => ?_⟩
  replace hR : ∀ c, am_F wb tb_f53 1 (am_Call wb d) K R c → R c := hR
  show R (0, [some (aI v), some (aR 3 i)], [], M)
  refine hR _ (hR _ (?_))
  show R (2, [some (aI v), some (aR 3 i)], [aR 3 i, aI v], M)
  refine hR _ (am_ct (am_vi (by omega : i < 2)) ?_)
  show R (5, [some (aI v), some (aR 3 i)], [aI (M 223 i 0), aI v], M)
  refine hR _ ⟨(by omega), ?_⟩
  show R (8, [some (aI v), some (aR 3 i)], [aI (min v (M 223 i 0))], M)
  refine hR _ (show K (some (aI (min v (M 223 i 0)))) M from ?_)
  exact h
