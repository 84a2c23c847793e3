/-! wb -/
/-! THE PAIRS: a cell -/
theorem pr_so {M : am_M} (hJ : jf_J M) (hW : jf_C M) : ∀ q : Nat, q < 4 → (-1 ≤ M 31 0 q ∧ M 31 0 q ≤ 2) ∧ 0 ≤ M 32 0 q ∧ M 32 0 q ≤ 40 := fun q hq => by
  have h1 := hJ.2.2.2.1 q hq
  have h2 := hW.2.2.2.1 q hq
  have h3 := h1.1
  have h4 := h1.2.1
  have h5 := h2.1
  have h6 := h2.2.1
  omega
theorem pr_cell {d : Nat} (hd : 14 ≤ d) {sa i v : Int} {M : am_M} {K : am_K} (hJ : jf_J M) (hW : jf_C M) (ha0 : am_in sa) (ha1 : am_in i) (ha2 : am_in v) (hp : pr_K d M 200 [aR 8 0, aI sa, aI i, aI v] K) : am_Call true d 117 [aR 7 0, aI sa, aI i, aI v] M K := by
  have hso := pr_so hJ hW
  refine sq_cell (by omega) hJ ha0 ha1 ha2 (fun s h1 h3 h4 h5 => hp _ (am_wr M 21 s i.toNat (jf_put (M 180 s 0) v)) ⟨rfl, rfl⟩ (fun K2 h2 => ?_)) (fun h0 => hp _ M ⟨rfl, rfl⟩ (fun K2 h2 => ?_))
  · have hc := hW.2.2.2.1 s h3
    have hj := hJ.2.2.2.1 s h3
    have hj2 := hj.2.1
    have hc1 := hc.1
    have hc2 := hc.2.1
    refine sm_cell (M := am_wr M 21 s i.toNat (jf_put (M 180 s 0) v)) (by omega) hso ha0 ha1 ha2 (fun s2 e2 _ _ _ => ?_) (fun h6 => absurd ?_ h6)
    · have es : s2 = s := by omega
      subst es
      show K2 (some (aI 1)) (am_wr (am_wr M 21 s2 i.toNat (jf_put (M 180 s2 0) v)) 33 0 (40 * s2 + i.toNat) (jf_put (M 31 0 s2) v))
      rw [hc1]
      refine h2 _ ⟨⟨hJ.1, hJ.2.1, hJ.2.2.1, fun q hq => ?_, hJ.2.2.2.2⟩, ⟨hW.1, hW.2.1, hW.2.2.1, fun q hq => ?_, hW.2.2.2.2⟩, rfl, rfl⟩
      · obtain ⟨b1, b2, b3⟩ := hJ.2.2.2.1 q hq
        refine ⟨b1, b2, fun j hj => ?_⟩
        show am_in ((am_wr M 21 s2 i.toNat (jf_put (M 180 s2 0) v)) 21 q j) ∧ jf_put (M 180 q 0) ((am_wr M 21 s2 i.toNat (jf_put (M 180 s2 0) v)) 21 q j) = (am_wr M 21 s2 i.toNat (jf_put (M 180 s2 0) v)) 21 q j
        by_cases e : q = s2 ∧ j = i.toNat
        · obtain ⟨e3, e4⟩ := e
          subst e3 e4
          rw [am_wr_eq]
          exact ⟨jf_put_in ha2, jf_put_put _ _⟩
        · rw [am_wr_ne (Or.inr (by omega))]
          exact b3 j hj
      · obtain ⟨b1, b2, b3⟩ := hW.2.2.2.1 q hq
        refine ⟨b1, b2, fun j hj => ?_⟩
        have f1 := pr_wj (M := am_wr M 21 s2 i.toNat (jf_put (M 180 s2 0) v)) (v := 33) (i := 40 * s2 + i.toNat) (k := 40 * q + j) (x := jf_put (M 180 s2 0) v)
        rw [f1]
        show _ = (am_wr M 21 s2 i.toNat (jf_put (M 180 s2 0) v)) 21 q j
        by_cases e : q = s2 ∧ j = i.toNat
        · obtain ⟨e3, e4⟩ := e
          subst e3 e4
          rw [am_wr_eq, if_pos rfl]
        · rw [if_neg (by omega)]
          exact (b3 j hj).trans (am_wr_ne (Or.inr (by omega))).symm
    · subst h1
      exact ⟨by omega, by show M 31 0 s ≠ -1; omega, h5.1, by show i < M 32 0 s; omega⟩
  · have e : 0 ≤ sa ∧ sa < 4 → M 31 0 sa.toNat = M 180 sa.toNat 0 ∧ M 32 0 sa.toNat = M 181 sa.toNat 0 := fun h => ⟨(hW.2.2.2.1 sa.toNat (by omega)).1, (hW.2.2.2.1 sa.toNat (by omega)).2.1⟩
    refine sm_cell (by omega) hso ha0 ha1 ha2 (fun s h1 h3 h4 h5 => absurd ?_ h0) (fun _ => am_kr (h2 _ ⟨hJ, hW, rfl, rfl⟩) ?_)
    · have hc := hW.2.2.2.1 s h3
      have hc1 := hc.1
      have hc2 := hc.2.1
      subst h1
      exact ⟨by omega, by show M 180 s 0 ≠ -1; omega, h5.1, by show i < M 181 s 0; omega⟩
    · by_cases h : 0 ≤ sa ∧ sa < 4
      · rw [(e h).1]
      · rw [if_neg h, if_neg h]
