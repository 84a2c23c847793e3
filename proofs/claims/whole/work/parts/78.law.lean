/-! wb -/
/-! THE LAW: one call of both, behind another -/
def am_bl (x : Int) : Int := (i6 x).toInt
theorem i6_bl (x : Int) : i6 (am_bl x) = i6 x := Int64.ofInt_toInt _
theorem am_bl_in (x : Int) : am_in64 (am_bl x) := ⟨(i6 x).le_toInt, by have := (i6 x).toInt_lt; show (i6 x).toInt ≤ 9223372036854775807; omega⟩
/-- a long on top of the stack, told by another Int -/
def am_congL (R : am_C → Prop) : Prop := ∀ (pc : Nat) (ls : List (Option am_V)) (x y : Int) (st : List am_V) (M : am_M), i6 x = i6 y → R (pc, ls, aL y :: st, M) → R (pc, ls, aL x :: st, M)
theorem am_J_congL {wb : Bool} {p : Program} {l : Launch} {e : Env} {R : Room} {s : State} {m : MethodId} {args : Array Value} {below : List Frame} {meth : Method} {c0 : Code} {cells slots : Nat} {Q : State → Prop} {dC : Nat → ClassId} {dI : Nat → Nat → Nat} {ad : Nat → Nat → Nat} {ca : Nat → Nat → ClassId} {fm : Value} {L : Nat} {xs : Nat → Int} {A : Nat → Prop} {n : Nat} : am_congL (am_J wb p l e R s m args below meth c0 cells slots Q dC dI ad ca fm L xs A n) := by
  intro pc ls x y st M hxy h H locs ls' hP hS hL hM
  have h1 := h H locs ls' hP hS hL hM
  dsimp only at h1 ⊢
  rw [List.map_cons] at h1 ⊢
  rw [show am_tr ad fm (aL x) = am_tr ad fm (aL y) from congrArg Value.long hxy]
  exact h1
theorem lw_count {d : Nat} (hd : 60 ≤ d) {K : am_K} {R : am_C → Prop} (hR : ∀ c, am_F true tb_f0 2 (am_Call true d) K R c → R c) (hC : am_cong R) (hL : am_congL R) {M : am_M} (hJ : jf_J M) (hW : jf_C M) {i : Int} (hi : 0 ≤ i) (hi2 : i + 7 ≤ M 49 0 0) (hs : ∀ j, am_in (M 50 0 j)) (hn : ∀ M2, pr_ok M M2 → R (1720, [some (aR 50 0), some (aR 7 0), some (aR 8 0), some (aI i)], [], M2)) : R (212, [some (aR 50 0), some (aR 7 0), some (aR 8 0), some (aI i)], [], M) := by
  refine hR _ (?_)
  show R (213, [some (aR 50 0), some (aR 7 0), some (aR 8 0), some (aI i)], [aR 7 0], M)
  refine hR _ (hR _ (hR _ (hR _ (hR _ ⟨(show 0 ≤ i + 1 ∧ i + 1 < M 49 0 0 by omega), ?_⟩))))
  show R (218, [some (aR 50 0), some (aR 7 0), some (aR 8 0), some (aI i)], [aI (M 50 0 (i + 1).toNat), aR 7 0], M)
  refine hR _ (pr_count (M := M) (K := fun v M' => R (221, [some (aR 50 0), some (aR 7 0), some (aR 8 0), some (aI i)], am_ps v [], M')) (by omega) hJ hW (hs _) ?_)
  intro x M1 hM h2
  obtain ⟨e49, e50⟩ := hM
  have f49 : M1 49 0 0 = M 49 0 0 := by rw [e49]
  rw [← e50] at h2
  have b1 := am_bm_in x
  show R (221, [some (aR 50 0), some (aR 7 0), some (aR 8 0), some (aI i)], [aI x], M1)
  refine hC _ _ _ (am_bm x) _ _ (i3_bm x).symm ?_
  refine hR _ (?_)
  show R (222, [some (aR 50 0), some (aR 7 0), some (aR 8 0), some (aI i)], [aR 8 0, aI (am_bm x)], M1)
  refine hR _ (hR _ (hR _ (hR _ (hR _ ⟨(show 0 ≤ i + 1 ∧ i + 1 < M1 49 0 0 by omega), ?_⟩))))
  show R (227, [some (aR 50 0), some (aR 7 0), some (aR 8 0), some (aI i)], [aI (M1 50 0 (i + 1).toNat), aR 8 0, aI (am_bm x)], M1)
  refine hR _ (h2 _ (fun M2 hok => ?_))
  show R (230, [some (aR 50 0), some (aR 7 0), some (aR 8 0), some (aI i)], [aI x, aI (am_bm x)], M2)
  refine hC _ _ _ (am_bm x) _ _ (i3_bm x).symm ?_
  exact hR _ (am_brt (rg := am_in (am_bm x) ∧ am_in (am_bm x)) (P := am_bm x = am_bm x) (A := R (1720, [some (aR 50 0), some (aR 7 0), some (aR 8 0), some (aI i)], [], M2)) (B := R (233, [some (aR 50 0), some (aR 7 0), some (aR 8 0), some (aI i)], [], M2)) ⟨b1, b1⟩ rfl (hn M2 hok))
theorem lw_set {d : Nat} (hd : 60 ≤ d) {K : am_K} {R : am_C → Prop} (hR : ∀ c, am_F true tb_f0 2 (am_Call true d) K R c → R c) (hC : am_cong R) (hL : am_congL R) {M : am_M} (hJ : jf_J M) (hW : jf_C M) {i : Int} (hi : 0 ≤ i) (hi2 : i + 7 ≤ M 49 0 0) (hs : ∀ j, am_in (M 50 0 j)) (hn : ∀ M2, pr_ok M M2 → R (1720, [some (aR 50 0), some (aR 7 0), some (aR 8 0), some (aI i)], [], M2)) : R (235, [some (aR 50 0), some (aR 7 0), some (aR 8 0), some (aI i)], [], M) := by
  refine hR _ (?_)
  show R (236, [some (aR 50 0), some (aR 7 0), some (aR 8 0), some (aI i)], [aR 7 0], M)
  refine hR _ (hR _ (hR _ (hR _ (hR _ ⟨(show 0 ≤ i + 1 ∧ i + 1 < M 49 0 0 by omega), ?_⟩))))
  show R (241, [some (aR 50 0), some (aR 7 0), some (aR 8 0), some (aI i)], [aI (M 50 0 (i + 1).toNat), aR 7 0], M)
  refine hR _ (hR _ (hR _ (hR _ (hR _ ⟨(show 0 ≤ i + 2 ∧ i + 2 < M 49 0 0 by omega), ?_⟩))))
  show R (246, [some (aR 50 0), some (aR 7 0), some (aR 8 0), some (aI i)], [aI (M 50 0 (i + 2).toNat), aI (M 50 0 (i + 1).toNat), aR 7 0], M)
  refine hR _ (pr_set (M := M) (K := fun v M' => R (249, [some (aR 50 0), some (aR 7 0), some (aR 8 0), some (aI i)], am_ps v [], M')) (by omega) hJ hW (hs _) (hs _) ?_)
  intro x M1 hM h2
  obtain ⟨e49, e50⟩ := hM
  have f49 : M1 49 0 0 = M 49 0 0 := by rw [e49]
  rw [← e50] at h2
  have b1 := am_bm_in x
  show R (249, [some (aR 50 0), some (aR 7 0), some (aR 8 0), some (aI i)], [aI x], M1)
  refine hC _ _ _ (am_bm x) _ _ (i3_bm x).symm ?_
  refine hR _ (?_)
  show R (250, [some (aR 50 0), some (aR 7 0), some (aR 8 0), some (aI i)], [aR 8 0, aI (am_bm x)], M1)
  refine hR _ (hR _ (hR _ (hR _ (hR _ ⟨(show 0 ≤ i + 1 ∧ i + 1 < M1 49 0 0 by omega), ?_⟩))))
  show R (255, [some (aR 50 0), some (aR 7 0), some (aR 8 0), some (aI i)], [aI (M1 50 0 (i + 1).toNat), aR 8 0, aI (am_bm x)], M1)
  refine hR _ (hR _ (hR _ (hR _ (hR _ ⟨(show 0 ≤ i + 2 ∧ i + 2 < M1 49 0 0 by omega), ?_⟩))))
  show R (260, [some (aR 50 0), some (aR 7 0), some (aR 8 0), some (aI i)], [aI (M1 50 0 (i + 2).toNat), aI (M1 50 0 (i + 1).toNat), aR 8 0, aI (am_bm x)], M1)
  refine hR _ (h2 _ (fun M2 hok => ?_))
  show R (263, [some (aR 50 0), some (aR 7 0), some (aR 8 0), some (aI i)], [aI x, aI (am_bm x)], M2)
  refine hC _ _ _ (am_bm x) _ _ (i3_bm x).symm ?_
  exact hR _ (am_brt (rg := am_in (am_bm x) ∧ am_in (am_bm x)) (P := am_bm x = am_bm x) (A := R (1720, [some (aR 50 0), some (aR 7 0), some (aR 8 0), some (aI i)], [], M2)) (B := R (266, [some (aR 50 0), some (aR 7 0), some (aR 8 0), some (aI i)], [], M2)) ⟨b1, b1⟩ rfl (hn M2 hok))
theorem lw_feed {d : Nat} (hd : 60 ≤ d) {K : am_K} {R : am_C → Prop} (hR : ∀ c, am_F true tb_f0 2 (am_Call true d) K R c → R c) (hC : am_cong R) (hL : am_congL R) {M : am_M} (hJ : jf_J M) (hW : jf_C M) {i : Int} (hi : 0 ≤ i) (hi2 : i + 7 ≤ M 49 0 0) (hs : ∀ j, am_in (M 50 0 j)) (hn : ∀ M2, pr_ok M M2 → R (1720, [some (aR 50 0), some (aR 7 0), some (aR 8 0), some (aI i)], [], M2)) : R (268, [some (aR 50 0), some (aR 7 0), some (aR 8 0), some (aI i)], [], M) := by
  refine hR _ (?_)
  show R (269, [some (aR 50 0), some (aR 7 0), some (aR 8 0), some (aI i)], [aR 7 0], M)
  refine hR _ (hR _ (hR _ (hR _ (hR _ ⟨(show 0 ≤ i + 1 ∧ i + 1 < M 49 0 0 by omega), ?_⟩))))
  show R (274, [some (aR 50 0), some (aR 7 0), some (aR 8 0), some (aI i)], [aI (M 50 0 (i + 1).toNat), aR 7 0], M)
  refine hR _ (hR _ (hR _ (hR _ (hR _ ⟨(show 0 ≤ i + 2 ∧ i + 2 < M 49 0 0 by omega), ?_⟩))))
  show R (279, [some (aR 50 0), some (aR 7 0), some (aR 8 0), some (aI i)], [aI (M 50 0 (i + 2).toNat), aI (M 50 0 (i + 1).toNat), aR 7 0], M)
  refine hR _ (hR _ (hR _ (hR _ (hR _ ⟨(show 0 ≤ i + 3 ∧ i + 3 < M 49 0 0 by omega), ?_⟩))))
  show R (284, [some (aR 50 0), some (aR 7 0), some (aR 8 0), some (aI i)], [aI (M 50 0 (i + 3).toNat), aI (M 50 0 (i + 2).toNat), aI (M 50 0 (i + 1).toNat), aR 7 0], M)
  refine hR _ (hR _ (hR _ (hR _ (hR _ ⟨(show 0 ≤ i + 4 ∧ i + 4 < M 49 0 0 by omega), ?_⟩))))
  show R (289, [some (aR 50 0), some (aR 7 0), some (aR 8 0), some (aI i)], [aI (M 50 0 (i + 4).toNat), aI (M 50 0 (i + 3).toNat), aI (M 50 0 (i + 2).toNat), aI (M 50 0 (i + 1).toNat), aR 7 0], M)
  refine hR _ (hR _ (hR _ (hR _ (hR _ ⟨(show 0 ≤ i + 5 ∧ i + 5 < M 49 0 0 by omega), ?_⟩))))
  show R (294, [some (aR 50 0), some (aR 7 0), some (aR 8 0), some (aI i)], [aI (M 50 0 (i + 5).toNat), aI (M 50 0 (i + 4).toNat), aI (M 50 0 (i + 3).toNat), aI (M 50 0 (i + 2).toNat), aI (M 50 0 (i + 1).toNat), aR 7 0], M)
  refine hR _ (hR _ (hR _ (hR _ (hR _ ⟨(show 0 ≤ i + 6 ∧ i + 6 < M 49 0 0 by omega), ?_⟩))))
  show R (300, [some (aR 50 0), some (aR 7 0), some (aR 8 0), some (aI i)], [aI (M 50 0 (i + 6).toNat), aI (M 50 0 (i + 5).toNat), aI (M 50 0 (i + 4).toNat), aI (M 50 0 (i + 3).toNat), aI (M 50 0 (i + 2).toNat), aI (M 50 0 (i + 1).toNat), aR 7 0], M)
  refine hR _ (pr_feed (M := M) (K := fun v M' => R (303, [some (aR 50 0), some (aR 7 0), some (aR 8 0), some (aI i)], am_ps v [], M')) (by omega) hJ hW (hs _) (hs _) (hs _) (hs _) (hs _) (hs _) ?_)
  intro x M1 hM h2
  obtain ⟨e49, e50⟩ := hM
  have f49 : M1 49 0 0 = M 49 0 0 := by rw [e49]
  rw [← e50] at h2
  have b1 := am_bm_in x
  show R (303, [some (aR 50 0), some (aR 7 0), some (aR 8 0), some (aI i)], [aI x], M1)
  refine hC _ _ _ (am_bm x) _ _ (i3_bm x).symm ?_
  refine hR _ (?_)
  show R (304, [some (aR 50 0), some (aR 7 0), some (aR 8 0), some (aI i)], [aR 8 0, aI (am_bm x)], M1)
  refine hR _ (hR _ (hR _ (hR _ (hR _ ⟨(show 0 ≤ i + 1 ∧ i + 1 < M1 49 0 0 by omega), ?_⟩))))
  show R (309, [some (aR 50 0), some (aR 7 0), some (aR 8 0), some (aI i)], [aI (M1 50 0 (i + 1).toNat), aR 8 0, aI (am_bm x)], M1)
  refine hR _ (hR _ (hR _ (hR _ (hR _ ⟨(show 0 ≤ i + 2 ∧ i + 2 < M1 49 0 0 by omega), ?_⟩))))
  show R (314, [some (aR 50 0), some (aR 7 0), some (aR 8 0), some (aI i)], [aI (M1 50 0 (i + 2).toNat), aI (M1 50 0 (i + 1).toNat), aR 8 0, aI (am_bm x)], M1)
  refine hR _ (hR _ (hR _ (hR _ (hR _ ⟨(show 0 ≤ i + 3 ∧ i + 3 < M1 49 0 0 by omega), ?_⟩))))
  show R (319, [some (aR 50 0), some (aR 7 0), some (aR 8 0), some (aI i)], [aI (M1 50 0 (i + 3).toNat), aI (M1 50 0 (i + 2).toNat), aI (M1 50 0 (i + 1).toNat), aR 8 0, aI (am_bm x)], M1)
  refine hR _ (hR _ (hR _ (hR _ (hR _ ⟨(show 0 ≤ i + 4 ∧ i + 4 < M1 49 0 0 by omega), ?_⟩))))
  show R (324, [some (aR 50 0), some (aR 7 0), some (aR 8 0), some (aI i)], [aI (M1 50 0 (i + 4).toNat), aI (M1 50 0 (i + 3).toNat), aI (M1 50 0 (i + 2).toNat), aI (M1 50 0 (i + 1).toNat), aR 8 0, aI (am_bm x)], M1)
  refine hR _ (hR _ (hR _ (hR _ (hR _ ⟨(show 0 ≤ i + 5 ∧ i + 5 < M1 49 0 0 by omega), ?_⟩))))
  show R (329, [some (aR 50 0), some (aR 7 0), some (aR 8 0), some (aI i)], [aI (M1 50 0 (i + 5).toNat), aI (M1 50 0 (i + 4).toNat), aI (M1 50 0 (i + 3).toNat), aI (M1 50 0 (i + 2).toNat), aI (M1 50 0 (i + 1).toNat), aR 8 0, aI (am_bm x)], M1)
  refine hR _ (hR _ (hR _ (hR _ (hR _ ⟨(show 0 ≤ i + 6 ∧ i + 6 < M1 49 0 0 by omega), ?_⟩))))
  show R (335, [some (aR 50 0), some (aR 7 0), some (aR 8 0), some (aI i)], [aI (M1 50 0 (i + 6).toNat), aI (M1 50 0 (i + 5).toNat), aI (M1 50 0 (i + 4).toNat), aI (M1 50 0 (i + 3).toNat), aI (M1 50 0 (i + 2).toNat), aI (M1 50 0 (i + 1).toNat), aR 8 0, aI (am_bm x)], M1)
  refine hR _ (h2 _ (fun M2 hok => ?_))
  show R (338, [some (aR 50 0), some (aR 7 0), some (aR 8 0), some (aI i)], [aI x, aI (am_bm x)], M2)
  refine hC _ _ _ (am_bm x) _ _ (i3_bm x).symm ?_
  exact hR _ (am_brt (rg := am_in (am_bm x) ∧ am_in (am_bm x)) (P := am_bm x = am_bm x) (A := R (1720, [some (aR 50 0), some (aR 7 0), some (aR 8 0), some (aI i)], [], M2)) (B := R (341, [some (aR 50 0), some (aR 7 0), some (aR 8 0), some (aI i)], [], M2)) ⟨b1, b1⟩ rfl (hn M2 hok))
theorem lw_text {d : Nat} (hd : 60 ≤ d) {K : am_K} {R : am_C → Prop} (hR : ∀ c, am_F true tb_f0 2 (am_Call true d) K R c → R c) (hC : am_cong R) (hL : am_congL R) {M : am_M} (hJ : jf_J M) (hW : jf_C M) {i : Int} (hi : 0 ≤ i) (hi2 : i + 7 ≤ M 49 0 0) (hs : ∀ j, am_in (M 50 0 j)) (hn : ∀ M2, pr_ok M M2 → R (1720, [some (aR 50 0), some (aR 7 0), some (aR 8 0), some (aI i)], [], M2)) : R (343, [some (aR 50 0), some (aR 7 0), some (aR 8 0), some (aI i)], [], M) := by
  refine hR _ (?_)
  show R (344, [some (aR 50 0), some (aR 7 0), some (aR 8 0), some (aI i)], [aR 7 0], M)
  refine hR _ (pr_text (M := M) (K := fun v M' => R (347, [some (aR 50 0), some (aR 7 0), some (aR 8 0), some (aI i)], am_ps v [], M')) (by omega) hJ hW  ?_)
  intro x M1 hM h2
  obtain ⟨e49, e50⟩ := hM
  have f49 : M1 49 0 0 = M 49 0 0 := by rw [e49]
  have b1 := am_bm_in x
  show R (347, [some (aR 50 0), some (aR 7 0), some (aR 8 0), some (aI i)], [aI x], M1)
  refine hC _ _ _ (am_bm x) _ _ (i3_bm x).symm ?_
  refine hR _ (?_)
  show R (348, [some (aR 50 0), some (aR 7 0), some (aR 8 0), some (aI i)], [aR 8 0, aI (am_bm x)], M1)
  refine hR _ (h2 _ (fun M2 hok => ?_))
  show R (351, [some (aR 50 0), some (aR 7 0), some (aR 8 0), some (aI i)], [aI x, aI (am_bm x)], M2)
  refine hC _ _ _ (am_bm x) _ _ (i3_bm x).symm ?_
  exact hR _ (am_brt (rg := am_in (am_bm x) ∧ am_in (am_bm x)) (P := am_bm x = am_bm x) (A := R (1720, [some (aR 50 0), some (aR 7 0), some (aR 8 0), some (aI i)], [], M2)) (B := R (354, [some (aR 50 0), some (aR 7 0), some (aR 8 0), some (aI i)], [], M2)) ⟨b1, b1⟩ rfl (hn M2 hok))
theorem lw_force {d : Nat} (hd : 60 ≤ d) {K : am_K} {R : am_C → Prop} (hR : ∀ c, am_F true tb_f0 2 (am_Call true d) K R c → R c) (hC : am_cong R) (hL : am_congL R) {M : am_M} (hJ : jf_J M) (hW : jf_C M) {i : Int} (hi : 0 ≤ i) (hi2 : i + 7 ≤ M 49 0 0) (hs : ∀ j, am_in (M 50 0 j)) (hn : ∀ M2, pr_ok M M2 → R (1720, [some (aR 50 0), some (aR 7 0), some (aR 8 0), some (aI i)], [], M2)) : R (356, [some (aR 50 0), some (aR 7 0), some (aR 8 0), some (aI i)], [], M) := by
  refine hR _ (?_)
  show R (357, [some (aR 50 0), some (aR 7 0), some (aR 8 0), some (aI i)], [aR 7 0], M)
  refine hR _ (hR _ (hR _ (hR _ (hR _ ⟨(show 0 ≤ i + 1 ∧ i + 1 < M 49 0 0 by omega), ?_⟩))))
  show R (362, [some (aR 50 0), some (aR 7 0), some (aR 8 0), some (aI i)], [aI (M 50 0 (i + 1).toNat), aR 7 0], M)
  refine hR _ (pr_force (M := M) (K := fun v M' => R (365, [some (aR 50 0), some (aR 7 0), some (aR 8 0), some (aI i)], am_ps v [], M')) (by omega) hJ hW (hs _) ?_)
  intro x M1 hM h2
  obtain ⟨e49, e50⟩ := hM
  have f49 : M1 49 0 0 = M 49 0 0 := by rw [e49]
  rw [← e50] at h2
  have b1 := am_bm_in x
  show R (365, [some (aR 50 0), some (aR 7 0), some (aR 8 0), some (aI i)], [aI x], M1)
  refine hC _ _ _ (am_bm x) _ _ (i3_bm x).symm ?_
  refine hR _ (?_)
  show R (366, [some (aR 50 0), some (aR 7 0), some (aR 8 0), some (aI i)], [aR 8 0, aI (am_bm x)], M1)
  refine hR _ (hR _ (hR _ (hR _ (hR _ ⟨(show 0 ≤ i + 1 ∧ i + 1 < M1 49 0 0 by omega), ?_⟩))))
  show R (371, [some (aR 50 0), some (aR 7 0), some (aR 8 0), some (aI i)], [aI (M1 50 0 (i + 1).toNat), aR 8 0, aI (am_bm x)], M1)
  refine hR _ (h2 _ (fun M2 hok => ?_))
  show R (374, [some (aR 50 0), some (aR 7 0), some (aR 8 0), some (aI i)], [aI x, aI (am_bm x)], M2)
  refine hC _ _ _ (am_bm x) _ _ (i3_bm x).symm ?_
  exact hR _ (am_brt (rg := am_in (am_bm x) ∧ am_in (am_bm x)) (P := am_bm x = am_bm x) (A := R (1720, [some (aR 50 0), some (aR 7 0), some (aR 8 0), some (aI i)], [], M2)) (B := R (377, [some (aR 50 0), some (aR 7 0), some (aR 8 0), some (aI i)], [], M2)) ⟨b1, b1⟩ rfl (hn M2 hok))
theorem lw_asks {d : Nat} (hd : 60 ≤ d) {K : am_K} {R : am_C → Prop} (hR : ∀ c, am_F true tb_f0 2 (am_Call true d) K R c → R c) (hC : am_cong R) (hL : am_congL R) {M : am_M} (hJ : jf_J M) (hW : jf_C M) {i : Int} (hi : 0 ≤ i) (hi2 : i + 7 ≤ M 49 0 0) (hs : ∀ j, am_in (M 50 0 j)) (hn : ∀ M2, pr_ok M M2 → R (1720, [some (aR 50 0), some (aR 7 0), some (aR 8 0), some (aI i)], [], M2)) : R (379, [some (aR 50 0), some (aR 7 0), some (aR 8 0), some (aI i)], [], M) := by
  refine hR _ (?_)
  show R (380, [some (aR 50 0), some (aR 7 0), some (aR 8 0), some (aI i)], [aR 7 0], M)
  refine hR _ (hR _ (hR _ (hR _ (hR _ ⟨(show 0 ≤ i + 1 ∧ i + 1 < M 49 0 0 by omega), ?_⟩))))
  show R (385, [some (aR 50 0), some (aR 7 0), some (aR 8 0), some (aI i)], [aI (M 50 0 (i + 1).toNat), aR 7 0], M)
  refine hR _ (hR _ (hR _ (hR _ (hR _ ⟨(show 0 ≤ i + 2 ∧ i + 2 < M 49 0 0 by omega), ?_⟩))))
  show R (390, [some (aR 50 0), some (aR 7 0), some (aR 8 0), some (aI i)], [aI (M 50 0 (i + 2).toNat), aI (M 50 0 (i + 1).toNat), aR 7 0], M)
  refine hR _ (hR _ (hR _ (hR _ (hR _ ⟨(show 0 ≤ i + 3 ∧ i + 3 < M 49 0 0 by omega), ?_⟩))))
  show R (395, [some (aR 50 0), some (aR 7 0), some (aR 8 0), some (aI i)], [aI (M 50 0 (i + 3).toNat), aI (M 50 0 (i + 2).toNat), aI (M 50 0 (i + 1).toNat), aR 7 0], M)
  refine hR _ (hR _ (hR _ (hR _ (hR _ ⟨(show 0 ≤ i + 4 ∧ i + 4 < M 49 0 0 by omega), ?_⟩))))
  show R (400, [some (aR 50 0), some (aR 7 0), some (aR 8 0), some (aI i)], [aI (M 50 0 (i + 4).toNat), aI (M 50 0 (i + 3).toNat), aI (M 50 0 (i + 2).toNat), aI (M 50 0 (i + 1).toNat), aR 7 0], M)
  refine hR _ (pr_asks (M := M) (K := fun v M' => R (403, [some (aR 50 0), some (aR 7 0), some (aR 8 0), some (aI i)], am_ps v [], M')) (by omega) hJ hW (hs _) (hs _) (hs _) (hs _) ?_)
  intro x M1 hM h2
  obtain ⟨e49, e50⟩ := hM
  have f49 : M1 49 0 0 = M 49 0 0 := by rw [e49]
  rw [← e50] at h2
  have b1 := am_bm_in x
  show R (403, [some (aR 50 0), some (aR 7 0), some (aR 8 0), some (aI i)], [aI x], M1)
  refine hC _ _ _ (am_bm x) _ _ (i3_bm x).symm ?_
  refine hR _ (?_)
  show R (404, [some (aR 50 0), some (aR 7 0), some (aR 8 0), some (aI i)], [aR 8 0, aI (am_bm x)], M1)
  refine hR _ (hR _ (hR _ (hR _ (hR _ ⟨(show 0 ≤ i + 1 ∧ i + 1 < M1 49 0 0 by omega), ?_⟩))))
  show R (409, [some (aR 50 0), some (aR 7 0), some (aR 8 0), some (aI i)], [aI (M1 50 0 (i + 1).toNat), aR 8 0, aI (am_bm x)], M1)
  refine hR _ (hR _ (hR _ (hR _ (hR _ ⟨(show 0 ≤ i + 2 ∧ i + 2 < M1 49 0 0 by omega), ?_⟩))))
  show R (414, [some (aR 50 0), some (aR 7 0), some (aR 8 0), some (aI i)], [aI (M1 50 0 (i + 2).toNat), aI (M1 50 0 (i + 1).toNat), aR 8 0, aI (am_bm x)], M1)
  refine hR _ (hR _ (hR _ (hR _ (hR _ ⟨(show 0 ≤ i + 3 ∧ i + 3 < M1 49 0 0 by omega), ?_⟩))))
  show R (419, [some (aR 50 0), some (aR 7 0), some (aR 8 0), some (aI i)], [aI (M1 50 0 (i + 3).toNat), aI (M1 50 0 (i + 2).toNat), aI (M1 50 0 (i + 1).toNat), aR 8 0, aI (am_bm x)], M1)
  refine hR _ (hR _ (hR _ (hR _ (hR _ ⟨(show 0 ≤ i + 4 ∧ i + 4 < M1 49 0 0 by omega), ?_⟩))))
  show R (424, [some (aR 50 0), some (aR 7 0), some (aR 8 0), some (aI i)], [aI (M1 50 0 (i + 4).toNat), aI (M1 50 0 (i + 3).toNat), aI (M1 50 0 (i + 2).toNat), aI (M1 50 0 (i + 1).toNat), aR 8 0, aI (am_bm x)], M1)
  refine hR _ (h2 _ (fun M2 hok => ?_))
  show R (427, [some (aR 50 0), some (aR 7 0), some (aR 8 0), some (aI i)], [aI x, aI (am_bm x)], M2)
  refine hC _ _ _ (am_bm x) _ _ (i3_bm x).symm ?_
  exact hR _ (am_brt (rg := am_in (am_bm x) ∧ am_in (am_bm x)) (P := am_bm x = am_bm x) (A := R (1720, [some (aR 50 0), some (aR 7 0), some (aR 8 0), some (aI i)], [], M2)) (B := R (430, [some (aR 50 0), some (aR 7 0), some (aR 8 0), some (aI i)], [], M2)) ⟨b1, b1⟩ rfl (hn M2 hok))
theorem lw_hand {d : Nat} (hd : 60 ≤ d) {K : am_K} {R : am_C → Prop} (hR : ∀ c, am_F true tb_f0 2 (am_Call true d) K R c → R c) (hC : am_cong R) (hL : am_congL R) {M : am_M} (hJ : jf_J M) (hW : jf_C M) {i : Int} (hi : 0 ≤ i) (hi2 : i + 7 ≤ M 49 0 0) (hs : ∀ j, am_in (M 50 0 j)) (hn : ∀ M2, pr_ok M M2 → R (1720, [some (aR 50 0), some (aR 7 0), some (aR 8 0), some (aI i)], [], M2)) : R (432, [some (aR 50 0), some (aR 7 0), some (aR 8 0), some (aI i)], [], M) := by
  refine hR _ (?_)
  show R (433, [some (aR 50 0), some (aR 7 0), some (aR 8 0), some (aI i)], [aR 7 0], M)
  refine hR _ (hR _ (hR _ (hR _ (hR _ ⟨(show 0 ≤ i + 1 ∧ i + 1 < M 49 0 0 by omega), ?_⟩))))
  show R (438, [some (aR 50 0), some (aR 7 0), some (aR 8 0), some (aI i)], [aI (M 50 0 (i + 1).toNat), aR 7 0], M)
  refine hR _ (hR _ (hR _ (hR _ (hR _ ⟨(show 0 ≤ i + 2 ∧ i + 2 < M 49 0 0 by omega), ?_⟩))))
  show R (443, [some (aR 50 0), some (aR 7 0), some (aR 8 0), some (aI i)], [aI (M 50 0 (i + 2).toNat), aI (M 50 0 (i + 1).toNat), aR 7 0], M)
  refine hR _ (hR _ (hR _ (hR _ (hR _ ⟨(show 0 ≤ i + 3 ∧ i + 3 < M 49 0 0 by omega), ?_⟩))))
  show R (448, [some (aR 50 0), some (aR 7 0), some (aR 8 0), some (aI i)], [aI (M 50 0 (i + 3).toNat), aI (M 50 0 (i + 2).toNat), aI (M 50 0 (i + 1).toNat), aR 7 0], M)
  refine hR _ (pr_hand (M := M) (K := fun v M' => R (451, [some (aR 50 0), some (aR 7 0), some (aR 8 0), some (aI i)], am_ps v [], M')) (by omega) hJ hW (hs _) (hs _) (hs _) ?_)
  intro x M1 hM h2
  obtain ⟨e49, e50⟩ := hM
  have f49 : M1 49 0 0 = M 49 0 0 := by rw [e49]
  rw [← e50] at h2
  have b1 := am_bm_in x
  show R (451, [some (aR 50 0), some (aR 7 0), some (aR 8 0), some (aI i)], [aI x], M1)
  refine hC _ _ _ (am_bm x) _ _ (i3_bm x).symm ?_
  refine hR _ (?_)
  show R (452, [some (aR 50 0), some (aR 7 0), some (aR 8 0), some (aI i)], [aR 8 0, aI (am_bm x)], M1)
  refine hR _ (hR _ (hR _ (hR _ (hR _ ⟨(show 0 ≤ i + 1 ∧ i + 1 < M1 49 0 0 by omega), ?_⟩))))
  show R (457, [some (aR 50 0), some (aR 7 0), some (aR 8 0), some (aI i)], [aI (M1 50 0 (i + 1).toNat), aR 8 0, aI (am_bm x)], M1)
  refine hR _ (hR _ (hR _ (hR _ (hR _ ⟨(show 0 ≤ i + 2 ∧ i + 2 < M1 49 0 0 by omega), ?_⟩))))
  show R (462, [some (aR 50 0), some (aR 7 0), some (aR 8 0), some (aI i)], [aI (M1 50 0 (i + 2).toNat), aI (M1 50 0 (i + 1).toNat), aR 8 0, aI (am_bm x)], M1)
  refine hR _ (hR _ (hR _ (hR _ (hR _ ⟨(show 0 ≤ i + 3 ∧ i + 3 < M1 49 0 0 by omega), ?_⟩))))
  show R (467, [some (aR 50 0), some (aR 7 0), some (aR 8 0), some (aI i)], [aI (M1 50 0 (i + 3).toNat), aI (M1 50 0 (i + 2).toNat), aI (M1 50 0 (i + 1).toNat), aR 8 0, aI (am_bm x)], M1)
  refine hR _ (h2 _ (fun M2 hok => ?_))
  show R (470, [some (aR 50 0), some (aR 7 0), some (aR 8 0), some (aI i)], [aI x, aI (am_bm x)], M2)
  refine hC _ _ _ (am_bm x) _ _ (i3_bm x).symm ?_
  exact hR _ (am_brt (rg := am_in (am_bm x) ∧ am_in (am_bm x)) (P := am_bm x = am_bm x) (A := R (1720, [some (aR 50 0), some (aR 7 0), some (aR 8 0), some (aI i)], [], M2)) (B := R (473, [some (aR 50 0), some (aR 7 0), some (aR 8 0), some (aI i)], [], M2)) ⟨b1, b1⟩ rfl (hn M2 hok))
theorem lw_train {d : Nat} (hd : 60 ≤ d) {K : am_K} {R : am_C → Prop} (hR : ∀ c, am_F true tb_f0 2 (am_Call true d) K R c → R c) (hC : am_cong R) (hL : am_congL R) {M : am_M} (hJ : jf_J M) (hW : jf_C M) {i : Int} (hi : 0 ≤ i) (hi2 : i + 7 ≤ M 49 0 0) (hs : ∀ j, am_in (M 50 0 j)) (hn : ∀ M2, pr_ok M M2 → R (1720, [some (aR 50 0), some (aR 7 0), some (aR 8 0), some (aI i)], [], M2)) : R (475, [some (aR 50 0), some (aR 7 0), some (aR 8 0), some (aI i)], [], M) := by
  refine hR _ (?_)
  show R (476, [some (aR 50 0), some (aR 7 0), some (aR 8 0), some (aI i)], [aR 7 0], M)
  refine hR _ (hR _ (hR _ (hR _ (hR _ ⟨(show 0 ≤ i + 1 ∧ i + 1 < M 49 0 0 by omega), ?_⟩))))
  show R (481, [some (aR 50 0), some (aR 7 0), some (aR 8 0), some (aI i)], [aI (M 50 0 (i + 1).toNat), aR 7 0], M)
  refine hR _ (hR _ (hR _ (hR _ (hR _ ⟨(show 0 ≤ i + 2 ∧ i + 2 < M 49 0 0 by omega), ?_⟩))))
  show R (486, [some (aR 50 0), some (aR 7 0), some (aR 8 0), some (aI i)], [aI (M 50 0 (i + 2).toNat), aI (M 50 0 (i + 1).toNat), aR 7 0], M)
  refine hR _ (hR _ (hR _ (hR _ (hR _ ⟨(show 0 ≤ i + 3 ∧ i + 3 < M 49 0 0 by omega), ?_⟩))))
  show R (491, [some (aR 50 0), some (aR 7 0), some (aR 8 0), some (aI i)], [aI (M 50 0 (i + 3).toNat), aI (M 50 0 (i + 2).toNat), aI (M 50 0 (i + 1).toNat), aR 7 0], M)
  refine hR _ (pr_train (M := M) (K := fun v M' => R (494, [some (aR 50 0), some (aR 7 0), some (aR 8 0), some (aI i)], am_ps v [], M')) (by omega) hJ hW (hs _) (hs _) (hs _) ?_)
  intro x M1 hM h2
  obtain ⟨e49, e50⟩ := hM
  have f49 : M1 49 0 0 = M 49 0 0 := by rw [e49]
  rw [← e50] at h2
  have b1 := am_bm_in x
  show R (494, [some (aR 50 0), some (aR 7 0), some (aR 8 0), some (aI i)], [aI x], M1)
  refine hC _ _ _ (am_bm x) _ _ (i3_bm x).symm ?_
  refine hR _ (?_)
  show R (495, [some (aR 50 0), some (aR 7 0), some (aR 8 0), some (aI i)], [aR 8 0, aI (am_bm x)], M1)
  refine hR _ (hR _ (hR _ (hR _ (hR _ ⟨(show 0 ≤ i + 1 ∧ i + 1 < M1 49 0 0 by omega), ?_⟩))))
  show R (500, [some (aR 50 0), some (aR 7 0), some (aR 8 0), some (aI i)], [aI (M1 50 0 (i + 1).toNat), aR 8 0, aI (am_bm x)], M1)
  refine hR _ (hR _ (hR _ (hR _ (hR _ ⟨(show 0 ≤ i + 2 ∧ i + 2 < M1 49 0 0 by omega), ?_⟩))))
  show R (505, [some (aR 50 0), some (aR 7 0), some (aR 8 0), some (aI i)], [aI (M1 50 0 (i + 2).toNat), aI (M1 50 0 (i + 1).toNat), aR 8 0, aI (am_bm x)], M1)
  refine hR _ (hR _ (hR _ (hR _ (hR _ ⟨(show 0 ≤ i + 3 ∧ i + 3 < M1 49 0 0 by omega), ?_⟩))))
  show R (510, [some (aR 50 0), some (aR 7 0), some (aR 8 0), some (aI i)], [aI (M1 50 0 (i + 3).toNat), aI (M1 50 0 (i + 2).toNat), aI (M1 50 0 (i + 1).toNat), aR 8 0, aI (am_bm x)], M1)
  refine hR _ (h2 _ (fun M2 hok => ?_))
  show R (513, [some (aR 50 0), some (aR 7 0), some (aR 8 0), some (aI i)], [aI x, aI (am_bm x)], M2)
  refine hC _ _ _ (am_bm x) _ _ (i3_bm x).symm ?_
  exact hR _ (am_brt (rg := am_in (am_bm x) ∧ am_in (am_bm x)) (P := am_bm x = am_bm x) (A := R (1720, [some (aR 50 0), some (aR 7 0), some (aR 8 0), some (aI i)], [], M2)) (B := R (516, [some (aR 50 0), some (aR 7 0), some (aR 8 0), some (aI i)], [], M2)) ⟨b1, b1⟩ rfl (hn M2 hok))
theorem lw_told {d : Nat} (hd : 60 ≤ d) {K : am_K} {R : am_C → Prop} (hR : ∀ c, am_F true tb_f0 2 (am_Call true d) K R c → R c) (hC : am_cong R) (hL : am_congL R) {M : am_M} (hJ : jf_J M) (hW : jf_C M) {i : Int} (hi : 0 ≤ i) (hi2 : i + 7 ≤ M 49 0 0) (hs : ∀ j, am_in (M 50 0 j)) (hn : ∀ M2, pr_ok M M2 → R (1720, [some (aR 50 0), some (aR 7 0), some (aR 8 0), some (aI i)], [], M2)) : R (518, [some (aR 50 0), some (aR 7 0), some (aR 8 0), some (aI i)], [], M) := by
  refine hR _ (?_)
  show R (519, [some (aR 50 0), some (aR 7 0), some (aR 8 0), some (aI i)], [aR 7 0], M)
  refine hR _ (hR _ (hR _ (hR _ (hR _ ⟨(show 0 ≤ i + 1 ∧ i + 1 < M 49 0 0 by omega), ?_⟩))))
  show R (524, [some (aR 50 0), some (aR 7 0), some (aR 8 0), some (aI i)], [aI (M 50 0 (i + 1).toNat), aR 7 0], M)
  refine hR _ (hR _ (hR _ (hR _ (hR _ ⟨(show 0 ≤ i + 2 ∧ i + 2 < M 49 0 0 by omega), ?_⟩))))
  show R (529, [some (aR 50 0), some (aR 7 0), some (aR 8 0), some (aI i)], [aI (M 50 0 (i + 2).toNat), aI (M 50 0 (i + 1).toNat), aR 7 0], M)
  refine hR _ (pr_told (M := M) (K := fun v M' => R (532, [some (aR 50 0), some (aR 7 0), some (aR 8 0), some (aI i)], am_ps v [], M')) (by omega) hJ hW (hs _) (hs _) ?_)
  intro x M1 hM h2
  obtain ⟨e49, e50⟩ := hM
  have f49 : M1 49 0 0 = M 49 0 0 := by rw [e49]
  rw [← e50] at h2
  have b1 := am_bm_in x
  show R (532, [some (aR 50 0), some (aR 7 0), some (aR 8 0), some (aI i)], [aI x], M1)
  refine hC _ _ _ (am_bm x) _ _ (i3_bm x).symm ?_
  refine hR _ (?_)
  show R (533, [some (aR 50 0), some (aR 7 0), some (aR 8 0), some (aI i)], [aR 8 0, aI (am_bm x)], M1)
  refine hR _ (hR _ (hR _ (hR _ (hR _ ⟨(show 0 ≤ i + 1 ∧ i + 1 < M1 49 0 0 by omega), ?_⟩))))
  show R (538, [some (aR 50 0), some (aR 7 0), some (aR 8 0), some (aI i)], [aI (M1 50 0 (i + 1).toNat), aR 8 0, aI (am_bm x)], M1)
  refine hR _ (hR _ (hR _ (hR _ (hR _ ⟨(show 0 ≤ i + 2 ∧ i + 2 < M1 49 0 0 by omega), ?_⟩))))
  show R (543, [some (aR 50 0), some (aR 7 0), some (aR 8 0), some (aI i)], [aI (M1 50 0 (i + 2).toNat), aI (M1 50 0 (i + 1).toNat), aR 8 0, aI (am_bm x)], M1)
  refine hR _ (h2 _ (fun M2 hok => ?_))
  show R (546, [some (aR 50 0), some (aR 7 0), some (aR 8 0), some (aI i)], [aI x, aI (am_bm x)], M2)
  refine hC _ _ _ (am_bm x) _ _ (i3_bm x).symm ?_
  exact hR _ (am_brt (rg := am_in (am_bm x) ∧ am_in (am_bm x)) (P := am_bm x = am_bm x) (A := R (1720, [some (aR 50 0), some (aR 7 0), some (aR 8 0), some (aI i)], [], M2)) (B := R (549, [some (aR 50 0), some (aR 7 0), some (aR 8 0), some (aI i)], [], M2)) ⟨b1, b1⟩ rfl (hn M2 hok))
theorem lw_stops {d : Nat} (hd : 60 ≤ d) {K : am_K} {R : am_C → Prop} (hR : ∀ c, am_F true tb_f0 2 (am_Call true d) K R c → R c) (hC : am_cong R) (hL : am_congL R) {M : am_M} (hJ : jf_J M) (hW : jf_C M) {i : Int} (hi : 0 ≤ i) (hi2 : i + 7 ≤ M 49 0 0) (hs : ∀ j, am_in (M 50 0 j)) (hn : ∀ M2, pr_ok M M2 → R (1720, [some (aR 50 0), some (aR 7 0), some (aR 8 0), some (aI i)], [], M2)) : R (551, [some (aR 50 0), some (aR 7 0), some (aR 8 0), some (aI i)], [], M) := by
  refine hR _ (?_)
  show R (552, [some (aR 50 0), some (aR 7 0), some (aR 8 0), some (aI i)], [aR 7 0], M)
  refine hR _ (hR _ (hR _ (hR _ (hR _ ⟨(show 0 ≤ i + 1 ∧ i + 1 < M 49 0 0 by omega), ?_⟩))))
  show R (557, [some (aR 50 0), some (aR 7 0), some (aR 8 0), some (aI i)], [aI (M 50 0 (i + 1).toNat), aR 7 0], M)
  refine hR _ (hR _ (hR _ (hR _ (hR _ ⟨(show 0 ≤ i + 2 ∧ i + 2 < M 49 0 0 by omega), ?_⟩))))
  show R (562, [some (aR 50 0), some (aR 7 0), some (aR 8 0), some (aI i)], [aI (M 50 0 (i + 2).toNat), aI (M 50 0 (i + 1).toNat), aR 7 0], M)
  refine hR _ (hR _ (hR _ (hR _ (hR _ ⟨(show 0 ≤ i + 3 ∧ i + 3 < M 49 0 0 by omega), ?_⟩))))
  show R (567, [some (aR 50 0), some (aR 7 0), some (aR 8 0), some (aI i)], [aI (M 50 0 (i + 3).toNat), aI (M 50 0 (i + 2).toNat), aI (M 50 0 (i + 1).toNat), aR 7 0], M)
  refine hR _ (pr_stops (M := M) (K := fun v M' => R (570, [some (aR 50 0), some (aR 7 0), some (aR 8 0), some (aI i)], am_ps v [], M')) (by omega) hJ hW (hs _) (hs _) (hs _) ?_)
  intro x M1 hM h2
  obtain ⟨e49, e50⟩ := hM
  have f49 : M1 49 0 0 = M 49 0 0 := by rw [e49]
  rw [← e50] at h2
  have b1 := am_bm_in x
  show R (570, [some (aR 50 0), some (aR 7 0), some (aR 8 0), some (aI i)], [aI x], M1)
  refine hC _ _ _ (am_bm x) _ _ (i3_bm x).symm ?_
  refine hR _ (?_)
  show R (571, [some (aR 50 0), some (aR 7 0), some (aR 8 0), some (aI i)], [aR 8 0, aI (am_bm x)], M1)
  refine hR _ (hR _ (hR _ (hR _ (hR _ ⟨(show 0 ≤ i + 1 ∧ i + 1 < M1 49 0 0 by omega), ?_⟩))))
  show R (576, [some (aR 50 0), some (aR 7 0), some (aR 8 0), some (aI i)], [aI (M1 50 0 (i + 1).toNat), aR 8 0, aI (am_bm x)], M1)
  refine hR _ (hR _ (hR _ (hR _ (hR _ ⟨(show 0 ≤ i + 2 ∧ i + 2 < M1 49 0 0 by omega), ?_⟩))))
  show R (581, [some (aR 50 0), some (aR 7 0), some (aR 8 0), some (aI i)], [aI (M1 50 0 (i + 2).toNat), aI (M1 50 0 (i + 1).toNat), aR 8 0, aI (am_bm x)], M1)
  refine hR _ (hR _ (hR _ (hR _ (hR _ ⟨(show 0 ≤ i + 3 ∧ i + 3 < M1 49 0 0 by omega), ?_⟩))))
  show R (586, [some (aR 50 0), some (aR 7 0), some (aR 8 0), some (aI i)], [aI (M1 50 0 (i + 3).toNat), aI (M1 50 0 (i + 2).toNat), aI (M1 50 0 (i + 1).toNat), aR 8 0, aI (am_bm x)], M1)
  refine hR _ (h2 _ (fun M2 hok => ?_))
  show R (589, [some (aR 50 0), some (aR 7 0), some (aR 8 0), some (aI i)], [aI x, aI (am_bm x)], M2)
  refine hC _ _ _ (am_bm x) _ _ (i3_bm x).symm ?_
  exact hR _ (am_brt (rg := am_in (am_bm x) ∧ am_in (am_bm x)) (P := am_bm x = am_bm x) (A := R (1720, [some (aR 50 0), some (aR 7 0), some (aR 8 0), some (aI i)], [], M2)) (B := R (592, [some (aR 50 0), some (aR 7 0), some (aR 8 0), some (aI i)], [], M2)) ⟨b1, b1⟩ rfl (hn M2 hok))
theorem lw_chance {d : Nat} (hd : 60 ≤ d) {K : am_K} {R : am_C → Prop} (hR : ∀ c, am_F true tb_f0 2 (am_Call true d) K R c → R c) (hC : am_cong R) (hL : am_congL R) {M : am_M} (hJ : jf_J M) (hW : jf_C M) {i : Int} (hi : 0 ≤ i) (hi2 : i + 7 ≤ M 49 0 0) (hs : ∀ j, am_in (M 50 0 j)) (hn : ∀ M2, pr_ok M M2 → R (1720, [some (aR 50 0), some (aR 7 0), some (aR 8 0), some (aI i)], [], M2)) : R (594, [some (aR 50 0), some (aR 7 0), some (aR 8 0), some (aI i)], [], M) := by
  refine hR _ (?_)
  show R (595, [some (aR 50 0), some (aR 7 0), some (aR 8 0), some (aI i)], [aR 7 0], M)
  refine hR _ (hR _ (hR _ (hR _ (hR _ ⟨(show 0 ≤ i + 1 ∧ i + 1 < M 49 0 0 by omega), ?_⟩))))
  show R (600, [some (aR 50 0), some (aR 7 0), some (aR 8 0), some (aI i)], [aI (M 50 0 (i + 1).toNat), aR 7 0], M)
  refine hR _ (hR _ (hR _ (hR _ (hR _ ⟨(show 0 ≤ i + 2 ∧ i + 2 < M 49 0 0 by omega), ?_⟩))))
  show R (605, [some (aR 50 0), some (aR 7 0), some (aR 8 0), some (aI i)], [aI (M 50 0 (i + 2).toNat), aI (M 50 0 (i + 1).toNat), aR 7 0], M)
  refine hR _ (hR _ (hR _ (hR _ (hR _ ⟨(show 0 ≤ i + 3 ∧ i + 3 < M 49 0 0 by omega), ?_⟩))))
  show R (610, [some (aR 50 0), some (aR 7 0), some (aR 8 0), some (aI i)], [aI (M 50 0 (i + 3).toNat), aI (M 50 0 (i + 2).toNat), aI (M 50 0 (i + 1).toNat), aR 7 0], M)
  refine hR _ (pr_chance (M := M) (K := fun v M' => R (613, [some (aR 50 0), some (aR 7 0), some (aR 8 0), some (aI i)], am_ps v [], M')) (by omega) hJ hW (hs _) (hs _) (hs _) ?_)
  intro x M1 hM h2
  obtain ⟨e49, e50⟩ := hM
  have f49 : M1 49 0 0 = M 49 0 0 := by rw [e49]
  rw [← e50] at h2
  have b1 := am_bl_in x
  show R (613, [some (aR 50 0), some (aR 7 0), some (aR 8 0), some (aI i)], [aL x], M1)
  refine hL _ _ _ (am_bl x) _ _ (i6_bl x).symm ?_
  refine hR _ (?_)
  show R (614, [some (aR 50 0), some (aR 7 0), some (aR 8 0), some (aI i)], [aR 8 0, aL (am_bl x)], M1)
  refine hR _ (hR _ (hR _ (hR _ (hR _ ⟨(show 0 ≤ i + 1 ∧ i + 1 < M1 49 0 0 by omega), ?_⟩))))
  show R (619, [some (aR 50 0), some (aR 7 0), some (aR 8 0), some (aI i)], [aI (M1 50 0 (i + 1).toNat), aR 8 0, aL (am_bl x)], M1)
  refine hR _ (hR _ (hR _ (hR _ (hR _ ⟨(show 0 ≤ i + 2 ∧ i + 2 < M1 49 0 0 by omega), ?_⟩))))
  show R (624, [some (aR 50 0), some (aR 7 0), some (aR 8 0), some (aI i)], [aI (M1 50 0 (i + 2).toNat), aI (M1 50 0 (i + 1).toNat), aR 8 0, aL (am_bl x)], M1)
  refine hR _ (hR _ (hR _ (hR _ (hR _ ⟨(show 0 ≤ i + 3 ∧ i + 3 < M1 49 0 0 by omega), ?_⟩))))
  show R (629, [some (aR 50 0), some (aR 7 0), some (aR 8 0), some (aI i)], [aI (M1 50 0 (i + 3).toNat), aI (M1 50 0 (i + 2).toNat), aI (M1 50 0 (i + 1).toNat), aR 8 0, aL (am_bl x)], M1)
  refine hR _ (h2 _ (fun M2 hok => ?_))
  show R (632, [some (aR 50 0), some (aR 7 0), some (aR 8 0), some (aI i)], [aL x, aL (am_bl x)], M2)
  refine hL _ _ _ (am_bl x) _ _ (i6_bl x).symm ?_
  refine hR _ ⟨⟨b1, b1⟩, fun h => absurd h (by omega), fun _ => ?_, fun h => absurd h (by omega)⟩
  exact hR _ (am_brt (rg := am_in 0) (P := (0 : Int) = 0) (A := R (1720, [some (aR 50 0), some (aR 7 0), some (aR 8 0), some (aI i)], [], M2)) (B := R (636, [some (aR 50 0), some (aR 7 0), some (aR 8 0), some (aI i)], [], M2)) (by omega) rfl (hn M2 hok))
theorem lw_mean {d : Nat} (hd : 60 ≤ d) {K : am_K} {R : am_C → Prop} (hR : ∀ c, am_F true tb_f0 2 (am_Call true d) K R c → R c) (hC : am_cong R) (hL : am_congL R) {M : am_M} (hJ : jf_J M) (hW : jf_C M) {i : Int} (hi : 0 ≤ i) (hi2 : i + 7 ≤ M 49 0 0) (hs : ∀ j, am_in (M 50 0 j)) (hn : ∀ M2, pr_ok M M2 → R (1720, [some (aR 50 0), some (aR 7 0), some (aR 8 0), some (aI i)], [], M2)) : R (638, [some (aR 50 0), some (aR 7 0), some (aR 8 0), some (aI i)], [], M) := by
  refine hR _ (?_)
  show R (639, [some (aR 50 0), some (aR 7 0), some (aR 8 0), some (aI i)], [aR 7 0], M)
  refine hR _ (hR _ (hR _ (hR _ (hR _ ⟨(show 0 ≤ i + 1 ∧ i + 1 < M 49 0 0 by omega), ?_⟩))))
  show R (644, [some (aR 50 0), some (aR 7 0), some (aR 8 0), some (aI i)], [aI (M 50 0 (i + 1).toNat), aR 7 0], M)
  refine hR _ (hR _ (hR _ (hR _ (hR _ ⟨(show 0 ≤ i + 2 ∧ i + 2 < M 49 0 0 by omega), ?_⟩))))
  show R (649, [some (aR 50 0), some (aR 7 0), some (aR 8 0), some (aI i)], [aI (M 50 0 (i + 2).toNat), aI (M 50 0 (i + 1).toNat), aR 7 0], M)
  refine hR _ (pr_mean (M := M) (K := fun v M' => R (652, [some (aR 50 0), some (aR 7 0), some (aR 8 0), some (aI i)], am_ps v [], M')) (by omega) hJ hW (hs _) (hs _) ?_)
  intro x M1 hM h2
  obtain ⟨e49, e50⟩ := hM
  have f49 : M1 49 0 0 = M 49 0 0 := by rw [e49]
  rw [← e50] at h2
  have b1 := am_bl_in x
  show R (652, [some (aR 50 0), some (aR 7 0), some (aR 8 0), some (aI i)], [aL x], M1)
  refine hL _ _ _ (am_bl x) _ _ (i6_bl x).symm ?_
  refine hR _ (?_)
  show R (653, [some (aR 50 0), some (aR 7 0), some (aR 8 0), some (aI i)], [aR 8 0, aL (am_bl x)], M1)
  refine hR _ (hR _ (hR _ (hR _ (hR _ ⟨(show 0 ≤ i + 1 ∧ i + 1 < M1 49 0 0 by omega), ?_⟩))))
  show R (658, [some (aR 50 0), some (aR 7 0), some (aR 8 0), some (aI i)], [aI (M1 50 0 (i + 1).toNat), aR 8 0, aL (am_bl x)], M1)
  refine hR _ (hR _ (hR _ (hR _ (hR _ ⟨(show 0 ≤ i + 2 ∧ i + 2 < M1 49 0 0 by omega), ?_⟩))))
  show R (663, [some (aR 50 0), some (aR 7 0), some (aR 8 0), some (aI i)], [aI (M1 50 0 (i + 2).toNat), aI (M1 50 0 (i + 1).toNat), aR 8 0, aL (am_bl x)], M1)
  refine hR _ (h2 _ (fun M2 hok => ?_))
  show R (666, [some (aR 50 0), some (aR 7 0), some (aR 8 0), some (aI i)], [aL x, aL (am_bl x)], M2)
  refine hL _ _ _ (am_bl x) _ _ (i6_bl x).symm ?_
  refine hR _ ⟨⟨b1, b1⟩, fun h => absurd h (by omega), fun _ => ?_, fun h => absurd h (by omega)⟩
  exact hR _ (am_brt (rg := am_in 0) (P := (0 : Int) = 0) (A := R (1720, [some (aR 50 0), some (aR 7 0), some (aR 8 0), some (aI i)], [], M2)) (B := R (670, [some (aR 50 0), some (aR 7 0), some (aR 8 0), some (aI i)], [], M2)) (by omega) rfl (hn M2 hok))
theorem lw_time {d : Nat} (hd : 60 ≤ d) {K : am_K} {R : am_C → Prop} (hR : ∀ c, am_F true tb_f0 2 (am_Call true d) K R c → R c) (hC : am_cong R) (hL : am_congL R) {M : am_M} (hJ : jf_J M) (hW : jf_C M) {i : Int} (hi : 0 ≤ i) (hi2 : i + 7 ≤ M 49 0 0) (hs : ∀ j, am_in (M 50 0 j)) (hn : ∀ M2, pr_ok M M2 → R (1720, [some (aR 50 0), some (aR 7 0), some (aR 8 0), some (aI i)], [], M2)) : R (672, [some (aR 50 0), some (aR 7 0), some (aR 8 0), some (aI i)], [], M) := by
  refine hR _ (?_)
  show R (673, [some (aR 50 0), some (aR 7 0), some (aR 8 0), some (aI i)], [aR 7 0], M)
  refine hR _ (hR _ (hR _ (hR _ (hR _ ⟨(show 0 ≤ i + 1 ∧ i + 1 < M 49 0 0 by omega), ?_⟩))))
  show R (678, [some (aR 50 0), some (aR 7 0), some (aR 8 0), some (aI i)], [aI (M 50 0 (i + 1).toNat), aR 7 0], M)
  refine hR _ (hR _ (hR _ (hR _ (hR _ ⟨(show 0 ≤ i + 2 ∧ i + 2 < M 49 0 0 by omega), ?_⟩))))
  show R (683, [some (aR 50 0), some (aR 7 0), some (aR 8 0), some (aI i)], [aI (M 50 0 (i + 2).toNat), aI (M 50 0 (i + 1).toNat), aR 7 0], M)
  refine hR _ (pr_time (M := M) (K := fun v M' => R (686, [some (aR 50 0), some (aR 7 0), some (aR 8 0), some (aI i)], am_ps v [], M')) (by omega) hJ hW (hs _) (hs _) ?_)
  intro x M1 hM h2
  obtain ⟨e49, e50⟩ := hM
  have f49 : M1 49 0 0 = M 49 0 0 := by rw [e49]
  rw [← e50] at h2
  have b1 := am_bl_in x
  show R (686, [some (aR 50 0), some (aR 7 0), some (aR 8 0), some (aI i)], [aL x], M1)
  refine hL _ _ _ (am_bl x) _ _ (i6_bl x).symm ?_
  refine hR _ (?_)
  show R (687, [some (aR 50 0), some (aR 7 0), some (aR 8 0), some (aI i)], [aR 8 0, aL (am_bl x)], M1)
  refine hR _ (hR _ (hR _ (hR _ (hR _ ⟨(show 0 ≤ i + 1 ∧ i + 1 < M1 49 0 0 by omega), ?_⟩))))
  show R (692, [some (aR 50 0), some (aR 7 0), some (aR 8 0), some (aI i)], [aI (M1 50 0 (i + 1).toNat), aR 8 0, aL (am_bl x)], M1)
  refine hR _ (hR _ (hR _ (hR _ (hR _ ⟨(show 0 ≤ i + 2 ∧ i + 2 < M1 49 0 0 by omega), ?_⟩))))
  show R (697, [some (aR 50 0), some (aR 7 0), some (aR 8 0), some (aI i)], [aI (M1 50 0 (i + 2).toNat), aI (M1 50 0 (i + 1).toNat), aR 8 0, aL (am_bl x)], M1)
  refine hR _ (h2 _ (fun M2 hok => ?_))
  show R (700, [some (aR 50 0), some (aR 7 0), some (aR 8 0), some (aI i)], [aL x, aL (am_bl x)], M2)
  refine hL _ _ _ (am_bl x) _ _ (i6_bl x).symm ?_
  refine hR _ ⟨⟨b1, b1⟩, fun h => absurd h (by omega), fun _ => ?_, fun h => absurd h (by omega)⟩
  exact hR _ (am_brt (rg := am_in 0) (P := (0 : Int) = 0) (A := R (1720, [some (aR 50 0), some (aR 7 0), some (aR 8 0), some (aI i)], [], M2)) (B := R (704, [some (aR 50 0), some (aR 7 0), some (aR 8 0), some (aI i)], [], M2)) (by omega) rfl (hn M2 hok))
theorem lw_at {d : Nat} (hd : 60 ≤ d) {K : am_K} {R : am_C → Prop} (hR : ∀ c, am_F true tb_f0 2 (am_Call true d) K R c → R c) (hC : am_cong R) (hL : am_congL R) {M : am_M} (hJ : jf_J M) (hW : jf_C M) {i : Int} (hi : 0 ≤ i) (hi2 : i + 7 ≤ M 49 0 0) (hs : ∀ j, am_in (M 50 0 j)) (hn : ∀ M2, pr_ok M M2 → R (1720, [some (aR 50 0), some (aR 7 0), some (aR 8 0), some (aI i)], [], M2)) : R (706, [some (aR 50 0), some (aR 7 0), some (aR 8 0), some (aI i)], [], M) := by
  refine hR _ (?_)
  show R (707, [some (aR 50 0), some (aR 7 0), some (aR 8 0), some (aI i)], [aR 7 0], M)
  refine hR _ (hR _ (hR _ (hR _ (hR _ ⟨(show 0 ≤ i + 1 ∧ i + 1 < M 49 0 0 by omega), ?_⟩))))
  show R (712, [some (aR 50 0), some (aR 7 0), some (aR 8 0), some (aI i)], [aI (M 50 0 (i + 1).toNat), aR 7 0], M)
  refine hR _ (hR _ (hR _ (hR _ (hR _ ⟨(show 0 ≤ i + 2 ∧ i + 2 < M 49 0 0 by omega), ?_⟩))))
  show R (717, [some (aR 50 0), some (aR 7 0), some (aR 8 0), some (aI i)], [aI (M 50 0 (i + 2).toNat), aI (M 50 0 (i + 1).toNat), aR 7 0], M)
  refine hR _ (hR _ (hR _ (hR _ (hR _ ⟨(show 0 ≤ i + 3 ∧ i + 3 < M 49 0 0 by omega), ?_⟩))))
  show R (722, [some (aR 50 0), some (aR 7 0), some (aR 8 0), some (aI i)], [aI (M 50 0 (i + 3).toNat), aI (M 50 0 (i + 2).toNat), aI (M 50 0 (i + 1).toNat), aR 7 0], M)
  refine hR _ (pr_at (M := M) (K := fun v M' => R (725, [some (aR 50 0), some (aR 7 0), some (aR 8 0), some (aI i)], am_ps v [], M')) (by omega) hJ hW (hs _) (hs _) (hs _) ?_)
  intro x M1 hM h2
  obtain ⟨e49, e50⟩ := hM
  have f49 : M1 49 0 0 = M 49 0 0 := by rw [e49]
  rw [← e50] at h2
  have b1 := am_bl_in x
  show R (725, [some (aR 50 0), some (aR 7 0), some (aR 8 0), some (aI i)], [aL x], M1)
  refine hL _ _ _ (am_bl x) _ _ (i6_bl x).symm ?_
  refine hR _ (?_)
  show R (726, [some (aR 50 0), some (aR 7 0), some (aR 8 0), some (aI i)], [aR 8 0, aL (am_bl x)], M1)
  refine hR _ (hR _ (hR _ (hR _ (hR _ ⟨(show 0 ≤ i + 1 ∧ i + 1 < M1 49 0 0 by omega), ?_⟩))))
  show R (731, [some (aR 50 0), some (aR 7 0), some (aR 8 0), some (aI i)], [aI (M1 50 0 (i + 1).toNat), aR 8 0, aL (am_bl x)], M1)
  refine hR _ (hR _ (hR _ (hR _ (hR _ ⟨(show 0 ≤ i + 2 ∧ i + 2 < M1 49 0 0 by omega), ?_⟩))))
  show R (736, [some (aR 50 0), some (aR 7 0), some (aR 8 0), some (aI i)], [aI (M1 50 0 (i + 2).toNat), aI (M1 50 0 (i + 1).toNat), aR 8 0, aL (am_bl x)], M1)
  refine hR _ (hR _ (hR _ (hR _ (hR _ ⟨(show 0 ≤ i + 3 ∧ i + 3 < M1 49 0 0 by omega), ?_⟩))))
  show R (741, [some (aR 50 0), some (aR 7 0), some (aR 8 0), some (aI i)], [aI (M1 50 0 (i + 3).toNat), aI (M1 50 0 (i + 2).toNat), aI (M1 50 0 (i + 1).toNat), aR 8 0, aL (am_bl x)], M1)
  refine hR _ (h2 _ (fun M2 hok => ?_))
  show R (744, [some (aR 50 0), some (aR 7 0), some (aR 8 0), some (aI i)], [aL x, aL (am_bl x)], M2)
  refine hL _ _ _ (am_bl x) _ _ (i6_bl x).symm ?_
  refine hR _ ⟨⟨b1, b1⟩, fun h => absurd h (by omega), fun _ => ?_, fun h => absurd h (by omega)⟩
  exact hR _ (am_brt (rg := am_in 0) (P := (0 : Int) = 0) (A := R (1720, [some (aR 50 0), some (aR 7 0), some (aR 8 0), some (aI i)], [], M2)) (B := R (748, [some (aR 50 0), some (aR 7 0), some (aR 8 0), some (aI i)], [], M2)) (by omega) rfl (hn M2 hok))
theorem lw_ahead {d : Nat} (hd : 60 ≤ d) {K : am_K} {R : am_C → Prop} (hR : ∀ c, am_F true tb_f0 2 (am_Call true d) K R c → R c) (hC : am_cong R) (hL : am_congL R) {M : am_M} (hJ : jf_J M) (hW : jf_C M) {i : Int} (hi : 0 ≤ i) (hi2 : i + 7 ≤ M 49 0 0) (hs : ∀ j, am_in (M 50 0 j)) (hn : ∀ M2, pr_ok M M2 → R (1720, [some (aR 50 0), some (aR 7 0), some (aR 8 0), some (aI i)], [], M2)) : R (750, [some (aR 50 0), some (aR 7 0), some (aR 8 0), some (aI i)], [], M) := by
  refine hR _ (?_)
  show R (751, [some (aR 50 0), some (aR 7 0), some (aR 8 0), some (aI i)], [aR 7 0], M)
  refine hR _ (hR _ (hR _ (hR _ (hR _ ⟨(show 0 ≤ i + 1 ∧ i + 1 < M 49 0 0 by omega), ?_⟩))))
  show R (756, [some (aR 50 0), some (aR 7 0), some (aR 8 0), some (aI i)], [aI (M 50 0 (i + 1).toNat), aR 7 0], M)
  refine hR _ (hR _ (hR _ (hR _ (hR _ ⟨(show 0 ≤ i + 2 ∧ i + 2 < M 49 0 0 by omega), ?_⟩))))
  show R (761, [some (aR 50 0), some (aR 7 0), some (aR 8 0), some (aI i)], [aI (M 50 0 (i + 2).toNat), aI (M 50 0 (i + 1).toNat), aR 7 0], M)
  refine hR _ (pr_ahead (M := M) (K := fun v M' => R (764, [some (aR 50 0), some (aR 7 0), some (aR 8 0), some (aI i)], am_ps v [], M')) (by omega) hJ hW (hs _) (hs _) ?_)
  intro x M1 hM h2
  obtain ⟨e49, e50⟩ := hM
  have f49 : M1 49 0 0 = M 49 0 0 := by rw [e49]
  rw [← e50] at h2
  have b1 := am_bm_in x
  show R (764, [some (aR 50 0), some (aR 7 0), some (aR 8 0), some (aI i)], [aI x], M1)
  refine hC _ _ _ (am_bm x) _ _ (i3_bm x).symm ?_
  refine hR _ (?_)
  show R (765, [some (aR 50 0), some (aR 7 0), some (aR 8 0), some (aI i)], [aR 8 0, aI (am_bm x)], M1)
  refine hR _ (hR _ (hR _ (hR _ (hR _ ⟨(show 0 ≤ i + 1 ∧ i + 1 < M1 49 0 0 by omega), ?_⟩))))
  show R (770, [some (aR 50 0), some (aR 7 0), some (aR 8 0), some (aI i)], [aI (M1 50 0 (i + 1).toNat), aR 8 0, aI (am_bm x)], M1)
  refine hR _ (hR _ (hR _ (hR _ (hR _ ⟨(show 0 ≤ i + 2 ∧ i + 2 < M1 49 0 0 by omega), ?_⟩))))
  show R (775, [some (aR 50 0), some (aR 7 0), some (aR 8 0), some (aI i)], [aI (M1 50 0 (i + 2).toNat), aI (M1 50 0 (i + 1).toNat), aR 8 0, aI (am_bm x)], M1)
  refine hR _ (h2 _ (fun M2 hok => ?_))
  show R (778, [some (aR 50 0), some (aR 7 0), some (aR 8 0), some (aI i)], [aI x, aI (am_bm x)], M2)
  refine hC _ _ _ (am_bm x) _ _ (i3_bm x).symm ?_
  exact hR _ (am_brt (rg := am_in (am_bm x) ∧ am_in (am_bm x)) (P := am_bm x = am_bm x) (A := R (1720, [some (aR 50 0), some (aR 7 0), some (aR 8 0), some (aI i)], [], M2)) (B := R (781, [some (aR 50 0), some (aR 7 0), some (aR 8 0), some (aI i)], [], M2)) ⟨b1, b1⟩ rfl (hn M2 hok))
theorem lw_change {d : Nat} (hd : 60 ≤ d) {K : am_K} {R : am_C → Prop} (hR : ∀ c, am_F true tb_f0 2 (am_Call true d) K R c → R c) (hC : am_cong R) (hL : am_congL R) {M : am_M} (hJ : jf_J M) (hW : jf_C M) {i : Int} (hi : 0 ≤ i) (hi2 : i + 7 ≤ M 49 0 0) (hs : ∀ j, am_in (M 50 0 j)) (hn : ∀ M2, pr_ok M M2 → R (1720, [some (aR 50 0), some (aR 7 0), some (aR 8 0), some (aI i)], [], M2)) : R (783, [some (aR 50 0), some (aR 7 0), some (aR 8 0), some (aI i)], [], M) := by
  refine hR _ (?_)
  show R (784, [some (aR 50 0), some (aR 7 0), some (aR 8 0), some (aI i)], [aR 7 0], M)
  refine hR _ (hR _ (hR _ (hR _ (hR _ ⟨(show 0 ≤ i + 1 ∧ i + 1 < M 49 0 0 by omega), ?_⟩))))
  show R (789, [some (aR 50 0), some (aR 7 0), some (aR 8 0), some (aI i)], [aI (M 50 0 (i + 1).toNat), aR 7 0], M)
  refine hR _ (hR _ (hR _ (hR _ (hR _ ⟨(show 0 ≤ i + 2 ∧ i + 2 < M 49 0 0 by omega), ?_⟩))))
  show R (794, [some (aR 50 0), some (aR 7 0), some (aR 8 0), some (aI i)], [aI (M 50 0 (i + 2).toNat), aI (M 50 0 (i + 1).toNat), aR 7 0], M)
  refine hR _ (pr_change (M := M) (K := fun v M' => R (797, [some (aR 50 0), some (aR 7 0), some (aR 8 0), some (aI i)], am_ps v [], M')) (by omega) hJ hW (hs _) (hs _) ?_)
  intro x M1 hM h2
  obtain ⟨e49, e50⟩ := hM
  have f49 : M1 49 0 0 = M 49 0 0 := by rw [e49]
  rw [← e50] at h2
  have b1 := am_bm_in x
  show R (797, [some (aR 50 0), some (aR 7 0), some (aR 8 0), some (aI i)], [aI x], M1)
  refine hC _ _ _ (am_bm x) _ _ (i3_bm x).symm ?_
  refine hR _ (?_)
  show R (798, [some (aR 50 0), some (aR 7 0), some (aR 8 0), some (aI i)], [aR 8 0, aI (am_bm x)], M1)
  refine hR _ (hR _ (hR _ (hR _ (hR _ ⟨(show 0 ≤ i + 1 ∧ i + 1 < M1 49 0 0 by omega), ?_⟩))))
  show R (803, [some (aR 50 0), some (aR 7 0), some (aR 8 0), some (aI i)], [aI (M1 50 0 (i + 1).toNat), aR 8 0, aI (am_bm x)], M1)
  refine hR _ (hR _ (hR _ (hR _ (hR _ ⟨(show 0 ≤ i + 2 ∧ i + 2 < M1 49 0 0 by omega), ?_⟩))))
  show R (808, [some (aR 50 0), some (aR 7 0), some (aR 8 0), some (aI i)], [aI (M1 50 0 (i + 2).toNat), aI (M1 50 0 (i + 1).toNat), aR 8 0, aI (am_bm x)], M1)
  refine hR _ (h2 _ (fun M2 hok => ?_))
  show R (811, [some (aR 50 0), some (aR 7 0), some (aR 8 0), some (aI i)], [aI x, aI (am_bm x)], M2)
  refine hC _ _ _ (am_bm x) _ _ (i3_bm x).symm ?_
  exact hR _ (am_brt (rg := am_in (am_bm x) ∧ am_in (am_bm x)) (P := am_bm x = am_bm x) (A := R (1720, [some (aR 50 0), some (aR 7 0), some (aR 8 0), some (aI i)], [], M2)) (B := R (814, [some (aR 50 0), some (aR 7 0), some (aR 8 0), some (aI i)], [], M2)) ⟨b1, b1⟩ rfl (hn M2 hok))
theorem lw_who {d : Nat} (hd : 60 ≤ d) {K : am_K} {R : am_C → Prop} (hR : ∀ c, am_F true tb_f0 2 (am_Call true d) K R c → R c) (hC : am_cong R) (hL : am_congL R) {M : am_M} (hJ : jf_J M) (hW : jf_C M) {i : Int} (hi : 0 ≤ i) (hi2 : i + 7 ≤ M 49 0 0) (hs : ∀ j, am_in (M 50 0 j)) (hn : ∀ M2, pr_ok M M2 → R (1720, [some (aR 50 0), some (aR 7 0), some (aR 8 0), some (aI i)], [], M2)) : R (816, [some (aR 50 0), some (aR 7 0), some (aR 8 0), some (aI i)], [], M) := by
  refine hR _ (?_)
  show R (817, [some (aR 50 0), some (aR 7 0), some (aR 8 0), some (aI i)], [aR 7 0], M)
  refine hR _ (hR _ (hR _ (hR _ (hR _ ⟨(show 0 ≤ i + 1 ∧ i + 1 < M 49 0 0 by omega), ?_⟩))))
  show R (822, [some (aR 50 0), some (aR 7 0), some (aR 8 0), some (aI i)], [aI (M 50 0 (i + 1).toNat), aR 7 0], M)
  refine hR _ (pr_who (M := M) (K := fun v M' => R (825, [some (aR 50 0), some (aR 7 0), some (aR 8 0), some (aI i)], am_ps v [], M')) (by omega) hJ hW (hs _) ?_)
  intro x M1 hM h2
  obtain ⟨e49, e50⟩ := hM
  have f49 : M1 49 0 0 = M 49 0 0 := by rw [e49]
  rw [← e50] at h2
  have b1 := am_bm_in x
  show R (825, [some (aR 50 0), some (aR 7 0), some (aR 8 0), some (aI i)], [aI x], M1)
  refine hC _ _ _ (am_bm x) _ _ (i3_bm x).symm ?_
  refine hR _ (?_)
  show R (826, [some (aR 50 0), some (aR 7 0), some (aR 8 0), some (aI i)], [aR 8 0, aI (am_bm x)], M1)
  refine hR _ (hR _ (hR _ (hR _ (hR _ ⟨(show 0 ≤ i + 1 ∧ i + 1 < M1 49 0 0 by omega), ?_⟩))))
  show R (831, [some (aR 50 0), some (aR 7 0), some (aR 8 0), some (aI i)], [aI (M1 50 0 (i + 1).toNat), aR 8 0, aI (am_bm x)], M1)
  refine hR _ (h2 _ (fun M2 hok => ?_))
  show R (834, [some (aR 50 0), some (aR 7 0), some (aR 8 0), some (aI i)], [aI x, aI (am_bm x)], M2)
  refine hC _ _ _ (am_bm x) _ _ (i3_bm x).symm ?_
  exact hR _ (am_brt (rg := am_in (am_bm x) ∧ am_in (am_bm x)) (P := am_bm x = am_bm x) (A := R (1720, [some (aR 50 0), some (aR 7 0), some (aR 8 0), some (aI i)], [], M2)) (B := R (837, [some (aR 50 0), some (aR 7 0), some (aR 8 0), some (aI i)], [], M2)) ⟨b1, b1⟩ rfl (hn M2 hok))
theorem lw_next {d : Nat} (hd : 60 ≤ d) {K : am_K} {R : am_C → Prop} (hR : ∀ c, am_F true tb_f0 2 (am_Call true d) K R c → R c) (hC : am_cong R) (hL : am_congL R) {M : am_M} (hJ : jf_J M) (hW : jf_C M) {i : Int} (hi : 0 ≤ i) (hi2 : i + 7 ≤ M 49 0 0) (hs : ∀ j, am_in (M 50 0 j)) (hn : ∀ M2, pr_ok M M2 → R (1720, [some (aR 50 0), some (aR 7 0), some (aR 8 0), some (aI i)], [], M2)) : R (839, [some (aR 50 0), some (aR 7 0), some (aR 8 0), some (aI i)], [], M) := by
  refine hR _ (?_)
  show R (840, [some (aR 50 0), some (aR 7 0), some (aR 8 0), some (aI i)], [aR 7 0], M)
  refine hR _ (hR _ (hR _ (hR _ (hR _ ⟨(show 0 ≤ i + 1 ∧ i + 1 < M 49 0 0 by omega), ?_⟩))))
  show R (845, [some (aR 50 0), some (aR 7 0), some (aR 8 0), some (aI i)], [aI (M 50 0 (i + 1).toNat), aR 7 0], M)
  refine hR _ (pr_next (M := M) (K := fun v M' => R (848, [some (aR 50 0), some (aR 7 0), some (aR 8 0), some (aI i)], am_ps v [], M')) (by omega) hJ hW (hs _) ?_)
  intro x M1 hM h2
  obtain ⟨e49, e50⟩ := hM
  have f49 : M1 49 0 0 = M 49 0 0 := by rw [e49]
  rw [← e50] at h2
  have b1 := am_bm_in x
  show R (848, [some (aR 50 0), some (aR 7 0), some (aR 8 0), some (aI i)], [aI x], M1)
  refine hC _ _ _ (am_bm x) _ _ (i3_bm x).symm ?_
  refine hR _ (?_)
  show R (849, [some (aR 50 0), some (aR 7 0), some (aR 8 0), some (aI i)], [aR 8 0, aI (am_bm x)], M1)
  refine hR _ (hR _ (hR _ (hR _ (hR _ ⟨(show 0 ≤ i + 1 ∧ i + 1 < M1 49 0 0 by omega), ?_⟩))))
  show R (854, [some (aR 50 0), some (aR 7 0), some (aR 8 0), some (aI i)], [aI (M1 50 0 (i + 1).toNat), aR 8 0, aI (am_bm x)], M1)
  refine hR _ (h2 _ (fun M2 hok => ?_))
  show R (857, [some (aR 50 0), some (aR 7 0), some (aR 8 0), some (aI i)], [aI x, aI (am_bm x)], M2)
  refine hC _ _ _ (am_bm x) _ _ (i3_bm x).symm ?_
  exact hR _ (am_brt (rg := am_in (am_bm x) ∧ am_in (am_bm x)) (P := am_bm x = am_bm x) (A := R (1720, [some (aR 50 0), some (aR 7 0), some (aR 8 0), some (aI i)], [], M2)) (B := R (860, [some (aR 50 0), some (aR 7 0), some (aR 8 0), some (aI i)], [], M2)) ⟨b1, b1⟩ rfl (hn M2 hok))
theorem lw_on {d : Nat} (hd : 60 ≤ d) {K : am_K} {R : am_C → Prop} (hR : ∀ c, am_F true tb_f0 2 (am_Call true d) K R c → R c) (hC : am_cong R) (hL : am_congL R) {M : am_M} (hJ : jf_J M) (hW : jf_C M) {i : Int} (hi : 0 ≤ i) (hi2 : i + 7 ≤ M 49 0 0) (hs : ∀ j, am_in (M 50 0 j)) (hn : ∀ M2, pr_ok M M2 → R (1720, [some (aR 50 0), some (aR 7 0), some (aR 8 0), some (aI i)], [], M2)) : R (862, [some (aR 50 0), some (aR 7 0), some (aR 8 0), some (aI i)], [], M) := by
  refine hR _ (?_)
  show R (863, [some (aR 50 0), some (aR 7 0), some (aR 8 0), some (aI i)], [aR 7 0], M)
  refine hR _ (hR _ (hR _ (hR _ (hR _ ⟨(show 0 ≤ i + 1 ∧ i + 1 < M 49 0 0 by omega), ?_⟩))))
  show R (868, [some (aR 50 0), some (aR 7 0), some (aR 8 0), some (aI i)], [aI (M 50 0 (i + 1).toNat), aR 7 0], M)
  refine hR _ (hR _ (hR _ (hR _ (hR _ ⟨(show 0 ≤ i + 2 ∧ i + 2 < M 49 0 0 by omega), ?_⟩))))
  show R (873, [some (aR 50 0), some (aR 7 0), some (aR 8 0), some (aI i)], [aI (M 50 0 (i + 2).toNat), aI (M 50 0 (i + 1).toNat), aR 7 0], M)
  refine hR _ (hR _ (hR _ (hR _ (hR _ ⟨(show 0 ≤ i + 3 ∧ i + 3 < M 49 0 0 by omega), ?_⟩))))
  show R (878, [some (aR 50 0), some (aR 7 0), some (aR 8 0), some (aI i)], [aI (M 50 0 (i + 3).toNat), aI (M 50 0 (i + 2).toNat), aI (M 50 0 (i + 1).toNat), aR 7 0], M)
  refine hR _ (pr_on (M := M) (K := fun v M' => R (881, [some (aR 50 0), some (aR 7 0), some (aR 8 0), some (aI i)], am_ps v [], M')) (by omega) hJ hW (hs _) (hs _) (hs _) ?_)
  intro x M1 hM h2
  obtain ⟨e49, e50⟩ := hM
  have f49 : M1 49 0 0 = M 49 0 0 := by rw [e49]
  rw [← e50] at h2
  have b1 := am_bl_in x
  show R (881, [some (aR 50 0), some (aR 7 0), some (aR 8 0), some (aI i)], [aL x], M1)
  refine hL _ _ _ (am_bl x) _ _ (i6_bl x).symm ?_
  refine hR _ (?_)
  show R (882, [some (aR 50 0), some (aR 7 0), some (aR 8 0), some (aI i)], [aR 8 0, aL (am_bl x)], M1)
  refine hR _ (hR _ (hR _ (hR _ (hR _ ⟨(show 0 ≤ i + 1 ∧ i + 1 < M1 49 0 0 by omega), ?_⟩))))
  show R (887, [some (aR 50 0), some (aR 7 0), some (aR 8 0), some (aI i)], [aI (M1 50 0 (i + 1).toNat), aR 8 0, aL (am_bl x)], M1)
  refine hR _ (hR _ (hR _ (hR _ (hR _ ⟨(show 0 ≤ i + 2 ∧ i + 2 < M1 49 0 0 by omega), ?_⟩))))
  show R (892, [some (aR 50 0), some (aR 7 0), some (aR 8 0), some (aI i)], [aI (M1 50 0 (i + 2).toNat), aI (M1 50 0 (i + 1).toNat), aR 8 0, aL (am_bl x)], M1)
  refine hR _ (hR _ (hR _ (hR _ (hR _ ⟨(show 0 ≤ i + 3 ∧ i + 3 < M1 49 0 0 by omega), ?_⟩))))
  show R (897, [some (aR 50 0), some (aR 7 0), some (aR 8 0), some (aI i)], [aI (M1 50 0 (i + 3).toNat), aI (M1 50 0 (i + 2).toNat), aI (M1 50 0 (i + 1).toNat), aR 8 0, aL (am_bl x)], M1)
  refine hR _ (h2 _ (fun M2 hok => ?_))
  show R (900, [some (aR 50 0), some (aR 7 0), some (aR 8 0), some (aI i)], [aL x, aL (am_bl x)], M2)
  refine hL _ _ _ (am_bl x) _ _ (i6_bl x).symm ?_
  refine hR _ ⟨⟨b1, b1⟩, fun h => absurd h (by omega), fun _ => ?_, fun h => absurd h (by omega)⟩
  exact hR _ (am_brt (rg := am_in 0) (P := (0 : Int) = 0) (A := R (1720, [some (aR 50 0), some (aR 7 0), some (aR 8 0), some (aI i)], [], M2)) (B := R (904, [some (aR 50 0), some (aR 7 0), some (aR 8 0), some (aI i)], [], M2)) (by omega) rfl (hn M2 hok))
theorem lw_both {d : Nat} (hd : 60 ≤ d) {K : am_K} {R : am_C → Prop} (hR : ∀ c, am_F true tb_f0 2 (am_Call true d) K R c → R c) (hC : am_cong R) (hL : am_congL R) {M : am_M} (hJ : jf_J M) (hW : jf_C M) {i : Int} (hi : 0 ≤ i) (hi2 : i + 7 ≤ M 49 0 0) (hs : ∀ j, am_in (M 50 0 j)) (hn : ∀ M2, pr_ok M M2 → R (1720, [some (aR 50 0), some (aR 7 0), some (aR 8 0), some (aI i)], [], M2)) : R (906, [some (aR 50 0), some (aR 7 0), some (aR 8 0), some (aI i)], [], M) := by
  refine hR _ (?_)
  show R (907, [some (aR 50 0), some (aR 7 0), some (aR 8 0), some (aI i)], [aR 7 0], M)
  refine hR _ (hR _ (hR _ (hR _ (hR _ ⟨(show 0 ≤ i + 1 ∧ i + 1 < M 49 0 0 by omega), ?_⟩))))
  show R (912, [some (aR 50 0), some (aR 7 0), some (aR 8 0), some (aI i)], [aI (M 50 0 (i + 1).toNat), aR 7 0], M)
  refine hR _ (hR _ (hR _ (hR _ (hR _ ⟨(show 0 ≤ i + 2 ∧ i + 2 < M 49 0 0 by omega), ?_⟩))))
  show R (917, [some (aR 50 0), some (aR 7 0), some (aR 8 0), some (aI i)], [aI (M 50 0 (i + 2).toNat), aI (M 50 0 (i + 1).toNat), aR 7 0], M)
  refine hR _ (pr_both (M := M) (K := fun v M' => R (920, [some (aR 50 0), some (aR 7 0), some (aR 8 0), some (aI i)], am_ps v [], M')) (by omega) hJ hW (hs _) (hs _) ?_)
  intro x M1 hM h2
  obtain ⟨e49, e50⟩ := hM
  have f49 : M1 49 0 0 = M 49 0 0 := by rw [e49]
  rw [← e50] at h2
  have b1 := am_bm_in x
  show R (920, [some (aR 50 0), some (aR 7 0), some (aR 8 0), some (aI i)], [aI x], M1)
  refine hC _ _ _ (am_bm x) _ _ (i3_bm x).symm ?_
  refine hR _ (?_)
  show R (921, [some (aR 50 0), some (aR 7 0), some (aR 8 0), some (aI i)], [aR 8 0, aI (am_bm x)], M1)
  refine hR _ (hR _ (hR _ (hR _ (hR _ ⟨(show 0 ≤ i + 1 ∧ i + 1 < M1 49 0 0 by omega), ?_⟩))))
  show R (926, [some (aR 50 0), some (aR 7 0), some (aR 8 0), some (aI i)], [aI (M1 50 0 (i + 1).toNat), aR 8 0, aI (am_bm x)], M1)
  refine hR _ (hR _ (hR _ (hR _ (hR _ ⟨(show 0 ≤ i + 2 ∧ i + 2 < M1 49 0 0 by omega), ?_⟩))))
  show R (931, [some (aR 50 0), some (aR 7 0), some (aR 8 0), some (aI i)], [aI (M1 50 0 (i + 2).toNat), aI (M1 50 0 (i + 1).toNat), aR 8 0, aI (am_bm x)], M1)
  refine hR _ (h2 _ (fun M2 hok => ?_))
  show R (934, [some (aR 50 0), some (aR 7 0), some (aR 8 0), some (aI i)], [aI x, aI (am_bm x)], M2)
  refine hC _ _ _ (am_bm x) _ _ (i3_bm x).symm ?_
  exact hR _ (am_brt (rg := am_in (am_bm x) ∧ am_in (am_bm x)) (P := am_bm x = am_bm x) (A := R (1720, [some (aR 50 0), some (aR 7 0), some (aR 8 0), some (aI i)], [], M2)) (B := R (937, [some (aR 50 0), some (aR 7 0), some (aR 8 0), some (aI i)], [], M2)) ⟨b1, b1⟩ rfl (hn M2 hok))
theorem lw_full {d : Nat} (hd : 60 ≤ d) {K : am_K} {R : am_C → Prop} (hR : ∀ c, am_F true tb_f0 2 (am_Call true d) K R c → R c) (hC : am_cong R) (hL : am_congL R) {M : am_M} (hJ : jf_J M) (hW : jf_C M) {i : Int} (hi : 0 ≤ i) (hi2 : i + 7 ≤ M 49 0 0) (hs : ∀ j, am_in (M 50 0 j)) (hn : ∀ M2, pr_ok M M2 → R (1720, [some (aR 50 0), some (aR 7 0), some (aR 8 0), some (aI i)], [], M2)) : R (939, [some (aR 50 0), some (aR 7 0), some (aR 8 0), some (aI i)], [], M) := by
  refine hR _ (?_)
  show R (940, [some (aR 50 0), some (aR 7 0), some (aR 8 0), some (aI i)], [aR 7 0], M)
  refine hR _ (hR _ (hR _ (hR _ (hR _ ⟨(show 0 ≤ i + 1 ∧ i + 1 < M 49 0 0 by omega), ?_⟩))))
  show R (945, [some (aR 50 0), some (aR 7 0), some (aR 8 0), some (aI i)], [aI (M 50 0 (i + 1).toNat), aR 7 0], M)
  refine hR _ (hR _ (hR _ (hR _ (hR _ ⟨(show 0 ≤ i + 2 ∧ i + 2 < M 49 0 0 by omega), ?_⟩))))
  show R (950, [some (aR 50 0), some (aR 7 0), some (aR 8 0), some (aI i)], [aI (M 50 0 (i + 2).toNat), aI (M 50 0 (i + 1).toNat), aR 7 0], M)
  refine hR _ (hR _ (hR _ (hR _ (hR _ ⟨(show 0 ≤ i + 3 ∧ i + 3 < M 49 0 0 by omega), ?_⟩))))
  show R (955, [some (aR 50 0), some (aR 7 0), some (aR 8 0), some (aI i)], [aI (M 50 0 (i + 3).toNat), aI (M 50 0 (i + 2).toNat), aI (M 50 0 (i + 1).toNat), aR 7 0], M)
  refine hR _ (pr_full (M := M) (K := fun v M' => R (958, [some (aR 50 0), some (aR 7 0), some (aR 8 0), some (aI i)], am_ps v [], M')) (by omega) hJ hW (hs _) (hs _) (hs _) ?_)
  intro x M1 hM h2
  obtain ⟨e49, e50⟩ := hM
  have f49 : M1 49 0 0 = M 49 0 0 := by rw [e49]
  rw [← e50] at h2
  have b1 := am_bl_in x
  show R (958, [some (aR 50 0), some (aR 7 0), some (aR 8 0), some (aI i)], [aL x], M1)
  refine hL _ _ _ (am_bl x) _ _ (i6_bl x).symm ?_
  refine hR _ (?_)
  show R (959, [some (aR 50 0), some (aR 7 0), some (aR 8 0), some (aI i)], [aR 8 0, aL (am_bl x)], M1)
  refine hR _ (hR _ (hR _ (hR _ (hR _ ⟨(show 0 ≤ i + 1 ∧ i + 1 < M1 49 0 0 by omega), ?_⟩))))
  show R (964, [some (aR 50 0), some (aR 7 0), some (aR 8 0), some (aI i)], [aI (M1 50 0 (i + 1).toNat), aR 8 0, aL (am_bl x)], M1)
  refine hR _ (hR _ (hR _ (hR _ (hR _ ⟨(show 0 ≤ i + 2 ∧ i + 2 < M1 49 0 0 by omega), ?_⟩))))
  show R (969, [some (aR 50 0), some (aR 7 0), some (aR 8 0), some (aI i)], [aI (M1 50 0 (i + 2).toNat), aI (M1 50 0 (i + 1).toNat), aR 8 0, aL (am_bl x)], M1)
  refine hR _ (hR _ (hR _ (hR _ (hR _ ⟨(show 0 ≤ i + 3 ∧ i + 3 < M1 49 0 0 by omega), ?_⟩))))
  show R (974, [some (aR 50 0), some (aR 7 0), some (aR 8 0), some (aI i)], [aI (M1 50 0 (i + 3).toNat), aI (M1 50 0 (i + 2).toNat), aI (M1 50 0 (i + 1).toNat), aR 8 0, aL (am_bl x)], M1)
  refine hR _ (h2 _ (fun M2 hok => ?_))
  show R (977, [some (aR 50 0), some (aR 7 0), some (aR 8 0), some (aI i)], [aL x, aL (am_bl x)], M2)
  refine hL _ _ _ (am_bl x) _ _ (i6_bl x).symm ?_
  refine hR _ ⟨⟨b1, b1⟩, fun h => absurd h (by omega), fun _ => ?_, fun h => absurd h (by omega)⟩
  exact hR _ (am_brt (rg := am_in 0) (P := (0 : Int) = 0) (A := R (1720, [some (aR 50 0), some (aR 7 0), some (aR 8 0), some (aI i)], [], M2)) (B := R (981, [some (aR 50 0), some (aR 7 0), some (aR 8 0), some (aI i)], [], M2)) (by omega) rfl (hn M2 hok))
theorem lw_spread {d : Nat} (hd : 60 ≤ d) {K : am_K} {R : am_C → Prop} (hR : ∀ c, am_F true tb_f0 2 (am_Call true d) K R c → R c) (hC : am_cong R) (hL : am_congL R) {M : am_M} (hJ : jf_J M) (hW : jf_C M) {i : Int} (hi : 0 ≤ i) (hi2 : i + 7 ≤ M 49 0 0) (hs : ∀ j, am_in (M 50 0 j)) (hn : ∀ M2, pr_ok M M2 → R (1720, [some (aR 50 0), some (aR 7 0), some (aR 8 0), some (aI i)], [], M2)) : R (983, [some (aR 50 0), some (aR 7 0), some (aR 8 0), some (aI i)], [], M) := by
  refine hR _ (?_)
  show R (984, [some (aR 50 0), some (aR 7 0), some (aR 8 0), some (aI i)], [aR 7 0], M)
  refine hR _ (hR _ (hR _ (hR _ (hR _ ⟨(show 0 ≤ i + 1 ∧ i + 1 < M 49 0 0 by omega), ?_⟩))))
  show R (989, [some (aR 50 0), some (aR 7 0), some (aR 8 0), some (aI i)], [aI (M 50 0 (i + 1).toNat), aR 7 0], M)
  refine hR _ (pr_spread (M := M) (K := fun v M' => R (992, [some (aR 50 0), some (aR 7 0), some (aR 8 0), some (aI i)], am_ps v [], M')) (by omega) hJ hW (hs _) ?_)
  intro x M1 hM h2
  obtain ⟨e49, e50⟩ := hM
  have f49 : M1 49 0 0 = M 49 0 0 := by rw [e49]
  rw [← e50] at h2
  have b1 := am_bm_in x
  show R (992, [some (aR 50 0), some (aR 7 0), some (aR 8 0), some (aI i)], [aI x], M1)
  refine hC _ _ _ (am_bm x) _ _ (i3_bm x).symm ?_
  refine hR _ (?_)
  show R (993, [some (aR 50 0), some (aR 7 0), some (aR 8 0), some (aI i)], [aR 8 0, aI (am_bm x)], M1)
  refine hR _ (hR _ (hR _ (hR _ (hR _ ⟨(show 0 ≤ i + 1 ∧ i + 1 < M1 49 0 0 by omega), ?_⟩))))
  show R (998, [some (aR 50 0), some (aR 7 0), some (aR 8 0), some (aI i)], [aI (M1 50 0 (i + 1).toNat), aR 8 0, aI (am_bm x)], M1)
  refine hR _ (h2 _ (fun M2 hok => ?_))
  show R (1001, [some (aR 50 0), some (aR 7 0), some (aR 8 0), some (aI i)], [aI x, aI (am_bm x)], M2)
  refine hC _ _ _ (am_bm x) _ _ (i3_bm x).symm ?_
  exact hR _ (am_brt (rg := am_in (am_bm x) ∧ am_in (am_bm x)) (P := am_bm x = am_bm x) (A := R (1720, [some (aR 50 0), some (aR 7 0), some (aR 8 0), some (aI i)], [], M2)) (B := R (1004, [some (aR 50 0), some (aR 7 0), some (aR 8 0), some (aI i)], [], M2)) ⟨b1, b1⟩ rfl (hn M2 hok))
theorem lw_alike {d : Nat} (hd : 60 ≤ d) {K : am_K} {R : am_C → Prop} (hR : ∀ c, am_F true tb_f0 2 (am_Call true d) K R c → R c) (hC : am_cong R) (hL : am_congL R) {M : am_M} (hJ : jf_J M) (hW : jf_C M) {i : Int} (hi : 0 ≤ i) (hi2 : i + 7 ≤ M 49 0 0) (hs : ∀ j, am_in (M 50 0 j)) (hn : ∀ M2, pr_ok M M2 → R (1720, [some (aR 50 0), some (aR 7 0), some (aR 8 0), some (aI i)], [], M2)) : R (1006, [some (aR 50 0), some (aR 7 0), some (aR 8 0), some (aI i)], [], M) := by
  refine hR _ (?_)
  show R (1007, [some (aR 50 0), some (aR 7 0), some (aR 8 0), some (aI i)], [aR 7 0], M)
  refine hR _ (hR _ (hR _ (hR _ (hR _ ⟨(show 0 ≤ i + 1 ∧ i + 1 < M 49 0 0 by omega), ?_⟩))))
  show R (1012, [some (aR 50 0), some (aR 7 0), some (aR 8 0), some (aI i)], [aI (M 50 0 (i + 1).toNat), aR 7 0], M)
  refine hR _ (hR _ (hR _ (hR _ (hR _ ⟨(show 0 ≤ i + 2 ∧ i + 2 < M 49 0 0 by omega), ?_⟩))))
  show R (1017, [some (aR 50 0), some (aR 7 0), some (aR 8 0), some (aI i)], [aI (M 50 0 (i + 2).toNat), aI (M 50 0 (i + 1).toNat), aR 7 0], M)
  refine hR _ (hR _ (hR _ (hR _ (hR _ ⟨(show 0 ≤ i + 3 ∧ i + 3 < M 49 0 0 by omega), ?_⟩))))
  show R (1022, [some (aR 50 0), some (aR 7 0), some (aR 8 0), some (aI i)], [aI (M 50 0 (i + 3).toNat), aI (M 50 0 (i + 2).toNat), aI (M 50 0 (i + 1).toNat), aR 7 0], M)
  refine hR _ (pr_alike (M := M) (K := fun v M' => R (1025, [some (aR 50 0), some (aR 7 0), some (aR 8 0), some (aI i)], am_ps v [], M')) (by omega) hJ hW (hs _) (hs _) (hs _) ?_)
  intro x M1 hM h2
  obtain ⟨e49, e50⟩ := hM
  have f49 : M1 49 0 0 = M 49 0 0 := by rw [e49]
  rw [← e50] at h2
  have b1 := am_bl_in x
  show R (1025, [some (aR 50 0), some (aR 7 0), some (aR 8 0), some (aI i)], [aL x], M1)
  refine hL _ _ _ (am_bl x) _ _ (i6_bl x).symm ?_
  refine hR _ (?_)
  show R (1026, [some (aR 50 0), some (aR 7 0), some (aR 8 0), some (aI i)], [aR 8 0, aL (am_bl x)], M1)
  refine hR _ (hR _ (hR _ (hR _ (hR _ ⟨(show 0 ≤ i + 1 ∧ i + 1 < M1 49 0 0 by omega), ?_⟩))))
  show R (1031, [some (aR 50 0), some (aR 7 0), some (aR 8 0), some (aI i)], [aI (M1 50 0 (i + 1).toNat), aR 8 0, aL (am_bl x)], M1)
  refine hR _ (hR _ (hR _ (hR _ (hR _ ⟨(show 0 ≤ i + 2 ∧ i + 2 < M1 49 0 0 by omega), ?_⟩))))
  show R (1036, [some (aR 50 0), some (aR 7 0), some (aR 8 0), some (aI i)], [aI (M1 50 0 (i + 2).toNat), aI (M1 50 0 (i + 1).toNat), aR 8 0, aL (am_bl x)], M1)
  refine hR _ (hR _ (hR _ (hR _ (hR _ ⟨(show 0 ≤ i + 3 ∧ i + 3 < M1 49 0 0 by omega), ?_⟩))))
  show R (1041, [some (aR 50 0), some (aR 7 0), some (aR 8 0), some (aI i)], [aI (M1 50 0 (i + 3).toNat), aI (M1 50 0 (i + 2).toNat), aI (M1 50 0 (i + 1).toNat), aR 8 0, aL (am_bl x)], M1)
  refine hR _ (h2 _ (fun M2 hok => ?_))
  show R (1044, [some (aR 50 0), some (aR 7 0), some (aR 8 0), some (aI i)], [aL x, aL (am_bl x)], M2)
  refine hL _ _ _ (am_bl x) _ _ (i6_bl x).symm ?_
  refine hR _ ⟨⟨b1, b1⟩, fun h => absurd h (by omega), fun _ => ?_, fun h => absurd h (by omega)⟩
  exact hR _ (am_brt (rg := am_in 0) (P := (0 : Int) = 0) (A := R (1720, [some (aR 50 0), some (aR 7 0), some (aR 8 0), some (aI i)], [], M2)) (B := R (1048, [some (aR 50 0), some (aR 7 0), some (aR 8 0), some (aI i)], [], M2)) (by omega) rfl (hn M2 hok))
theorem lw_judge {d : Nat} (hd : 60 ≤ d) {K : am_K} {R : am_C → Prop} (hR : ∀ c, am_F true tb_f0 2 (am_Call true d) K R c → R c) (hC : am_cong R) (hL : am_congL R) {M : am_M} (hJ : jf_J M) (hW : jf_C M) {i : Int} (hi : 0 ≤ i) (hi2 : i + 7 ≤ M 49 0 0) (hs : ∀ j, am_in (M 50 0 j)) (hn : ∀ M2, pr_ok M M2 → R (1720, [some (aR 50 0), some (aR 7 0), some (aR 8 0), some (aI i)], [], M2)) : R (1050, [some (aR 50 0), some (aR 7 0), some (aR 8 0), some (aI i)], [], M) := by
  refine hR _ (?_)
  show R (1051, [some (aR 50 0), some (aR 7 0), some (aR 8 0), some (aI i)], [aR 7 0], M)
  refine hR _ (hR _ (hR _ (hR _ (hR _ ⟨(show 0 ≤ i + 1 ∧ i + 1 < M 49 0 0 by omega), ?_⟩))))
  show R (1056, [some (aR 50 0), some (aR 7 0), some (aR 8 0), some (aI i)], [aI (M 50 0 (i + 1).toNat), aR 7 0], M)
  refine hR _ (hR _ (hR _ (hR _ (hR _ ⟨(show 0 ≤ i + 2 ∧ i + 2 < M 49 0 0 by omega), ?_⟩))))
  show R (1061, [some (aR 50 0), some (aR 7 0), some (aR 8 0), some (aI i)], [aI (M 50 0 (i + 2).toNat), aI (M 50 0 (i + 1).toNat), aR 7 0], M)
  refine hR _ (pr_judge (M := M) (K := fun v M' => R (1064, [some (aR 50 0), some (aR 7 0), some (aR 8 0), some (aI i)], am_ps v [], M')) (by omega) hJ hW (hs _) (hs _) ?_)
  intro x M1 hM h2
  obtain ⟨e49, e50⟩ := hM
  have f49 : M1 49 0 0 = M 49 0 0 := by rw [e49]
  rw [← e50] at h2
  have b1 := am_bm_in x
  show R (1064, [some (aR 50 0), some (aR 7 0), some (aR 8 0), some (aI i)], [aI x], M1)
  refine hC _ _ _ (am_bm x) _ _ (i3_bm x).symm ?_
  refine hR _ (?_)
  show R (1065, [some (aR 50 0), some (aR 7 0), some (aR 8 0), some (aI i)], [aR 8 0, aI (am_bm x)], M1)
  refine hR _ (hR _ (hR _ (hR _ (hR _ ⟨(show 0 ≤ i + 1 ∧ i + 1 < M1 49 0 0 by omega), ?_⟩))))
  show R (1070, [some (aR 50 0), some (aR 7 0), some (aR 8 0), some (aI i)], [aI (M1 50 0 (i + 1).toNat), aR 8 0, aI (am_bm x)], M1)
  refine hR _ (hR _ (hR _ (hR _ (hR _ ⟨(show 0 ≤ i + 2 ∧ i + 2 < M1 49 0 0 by omega), ?_⟩))))
  show R (1075, [some (aR 50 0), some (aR 7 0), some (aR 8 0), some (aI i)], [aI (M1 50 0 (i + 2).toNat), aI (M1 50 0 (i + 1).toNat), aR 8 0, aI (am_bm x)], M1)
  refine hR _ (h2 _ (fun M2 hok => ?_))
  show R (1078, [some (aR 50 0), some (aR 7 0), some (aR 8 0), some (aI i)], [aI x, aI (am_bm x)], M2)
  refine hC _ _ _ (am_bm x) _ _ (i3_bm x).symm ?_
  exact hR _ (am_brt (rg := am_in (am_bm x) ∧ am_in (am_bm x)) (P := am_bm x = am_bm x) (A := R (1720, [some (aR 50 0), some (aR 7 0), some (aR 8 0), some (aI i)], [], M2)) (B := R (1081, [some (aR 50 0), some (aR 7 0), some (aR 8 0), some (aI i)], [], M2)) ⟨b1, b1⟩ rfl (hn M2 hok))
theorem lw_parts {d : Nat} (hd : 60 ≤ d) {K : am_K} {R : am_C → Prop} (hR : ∀ c, am_F true tb_f0 2 (am_Call true d) K R c → R c) (hC : am_cong R) (hL : am_congL R) {M : am_M} (hJ : jf_J M) (hW : jf_C M) {i : Int} (hi : 0 ≤ i) (hi2 : i + 7 ≤ M 49 0 0) (hs : ∀ j, am_in (M 50 0 j)) (hn : ∀ M2, pr_ok M M2 → R (1720, [some (aR 50 0), some (aR 7 0), some (aR 8 0), some (aI i)], [], M2)) : R (1083, [some (aR 50 0), some (aR 7 0), some (aR 8 0), some (aI i)], [], M) := by
  refine hR _ (?_)
  show R (1084, [some (aR 50 0), some (aR 7 0), some (aR 8 0), some (aI i)], [aR 7 0], M)
  refine hR _ (hR _ (hR _ (hR _ (hR _ ⟨(show 0 ≤ i + 1 ∧ i + 1 < M 49 0 0 by omega), ?_⟩))))
  show R (1089, [some (aR 50 0), some (aR 7 0), some (aR 8 0), some (aI i)], [aI (M 50 0 (i + 1).toNat), aR 7 0], M)
  refine hR _ (hR _ (hR _ (hR _ (hR _ ⟨(show 0 ≤ i + 2 ∧ i + 2 < M 49 0 0 by omega), ?_⟩))))
  show R (1094, [some (aR 50 0), some (aR 7 0), some (aR 8 0), some (aI i)], [aI (M 50 0 (i + 2).toNat), aI (M 50 0 (i + 1).toNat), aR 7 0], M)
  refine hR _ (pr_parts (M := M) (K := fun v M' => R (1097, [some (aR 50 0), some (aR 7 0), some (aR 8 0), some (aI i)], am_ps v [], M')) (by omega) hJ hW (hs _) (hs _) ?_)
  intro x M1 hM h2
  obtain ⟨e49, e50⟩ := hM
  have f49 : M1 49 0 0 = M 49 0 0 := by rw [e49]
  rw [← e50] at h2
  have b1 := am_bl_in x
  show R (1097, [some (aR 50 0), some (aR 7 0), some (aR 8 0), some (aI i)], [aL x], M1)
  refine hL _ _ _ (am_bl x) _ _ (i6_bl x).symm ?_
  refine hR _ (?_)
  show R (1098, [some (aR 50 0), some (aR 7 0), some (aR 8 0), some (aI i)], [aR 8 0, aL (am_bl x)], M1)
  refine hR _ (hR _ (hR _ (hR _ (hR _ ⟨(show 0 ≤ i + 1 ∧ i + 1 < M1 49 0 0 by omega), ?_⟩))))
  show R (1103, [some (aR 50 0), some (aR 7 0), some (aR 8 0), some (aI i)], [aI (M1 50 0 (i + 1).toNat), aR 8 0, aL (am_bl x)], M1)
  refine hR _ (hR _ (hR _ (hR _ (hR _ ⟨(show 0 ≤ i + 2 ∧ i + 2 < M1 49 0 0 by omega), ?_⟩))))
  show R (1108, [some (aR 50 0), some (aR 7 0), some (aR 8 0), some (aI i)], [aI (M1 50 0 (i + 2).toNat), aI (M1 50 0 (i + 1).toNat), aR 8 0, aL (am_bl x)], M1)
  refine hR _ (h2 _ (fun M2 hok => ?_))
  show R (1111, [some (aR 50 0), some (aR 7 0), some (aR 8 0), some (aI i)], [aL x, aL (am_bl x)], M2)
  refine hL _ _ _ (am_bl x) _ _ (i6_bl x).symm ?_
  refine hR _ ⟨⟨b1, b1⟩, fun h => absurd h (by omega), fun _ => ?_, fun h => absurd h (by omega)⟩
  exact hR _ (am_brt (rg := am_in 0) (P := (0 : Int) = 0) (A := R (1720, [some (aR 50 0), some (aR 7 0), some (aR 8 0), some (aI i)], [], M2)) (B := R (1115, [some (aR 50 0), some (aR 7 0), some (aR 8 0), some (aI i)], [], M2)) (by omega) rfl (hn M2 hok))
theorem lw_fits {d : Nat} (hd : 60 ≤ d) {K : am_K} {R : am_C → Prop} (hR : ∀ c, am_F true tb_f0 2 (am_Call true d) K R c → R c) (hC : am_cong R) (hL : am_congL R) {M : am_M} (hJ : jf_J M) (hW : jf_C M) {i : Int} (hi : 0 ≤ i) (hi2 : i + 7 ≤ M 49 0 0) (hs : ∀ j, am_in (M 50 0 j)) (hn : ∀ M2, pr_ok M M2 → R (1720, [some (aR 50 0), some (aR 7 0), some (aR 8 0), some (aI i)], [], M2)) : R (1117, [some (aR 50 0), some (aR 7 0), some (aR 8 0), some (aI i)], [], M) := by
  refine hR _ (?_)
  show R (1118, [some (aR 50 0), some (aR 7 0), some (aR 8 0), some (aI i)], [aR 7 0], M)
  refine hR _ (hR _ (hR _ (hR _ (hR _ ⟨(show 0 ≤ i + 1 ∧ i + 1 < M 49 0 0 by omega), ?_⟩))))
  show R (1123, [some (aR 50 0), some (aR 7 0), some (aR 8 0), some (aI i)], [aI (M 50 0 (i + 1).toNat), aR 7 0], M)
  refine hR _ (hR _ (hR _ (hR _ (hR _ ⟨(show 0 ≤ i + 2 ∧ i + 2 < M 49 0 0 by omega), ?_⟩))))
  show R (1128, [some (aR 50 0), some (aR 7 0), some (aR 8 0), some (aI i)], [aI (M 50 0 (i + 2).toNat), aI (M 50 0 (i + 1).toNat), aR 7 0], M)
  refine hR _ (hR _ (hR _ (hR _ (hR _ ⟨(show 0 ≤ i + 3 ∧ i + 3 < M 49 0 0 by omega), ?_⟩))))
  show R (1133, [some (aR 50 0), some (aR 7 0), some (aR 8 0), some (aI i)], [aI (M 50 0 (i + 3).toNat), aI (M 50 0 (i + 2).toNat), aI (M 50 0 (i + 1).toNat), aR 7 0], M)
  refine hR _ (pr_fits (M := M) (K := fun v M' => R (1136, [some (aR 50 0), some (aR 7 0), some (aR 8 0), some (aI i)], am_ps v [], M')) (by omega) hJ hW (hs _) (hs _) (hs _) ?_)
  intro x M1 hM h2
  obtain ⟨e49, e50⟩ := hM
  have f49 : M1 49 0 0 = M 49 0 0 := by rw [e49]
  rw [← e50] at h2
  have b1 := am_bl_in x
  show R (1136, [some (aR 50 0), some (aR 7 0), some (aR 8 0), some (aI i)], [aL x], M1)
  refine hL _ _ _ (am_bl x) _ _ (i6_bl x).symm ?_
  refine hR _ (?_)
  show R (1137, [some (aR 50 0), some (aR 7 0), some (aR 8 0), some (aI i)], [aR 8 0, aL (am_bl x)], M1)
  refine hR _ (hR _ (hR _ (hR _ (hR _ ⟨(show 0 ≤ i + 1 ∧ i + 1 < M1 49 0 0 by omega), ?_⟩))))
  show R (1142, [some (aR 50 0), some (aR 7 0), some (aR 8 0), some (aI i)], [aI (M1 50 0 (i + 1).toNat), aR 8 0, aL (am_bl x)], M1)
  refine hR _ (hR _ (hR _ (hR _ (hR _ ⟨(show 0 ≤ i + 2 ∧ i + 2 < M1 49 0 0 by omega), ?_⟩))))
  show R (1147, [some (aR 50 0), some (aR 7 0), some (aR 8 0), some (aI i)], [aI (M1 50 0 (i + 2).toNat), aI (M1 50 0 (i + 1).toNat), aR 8 0, aL (am_bl x)], M1)
  refine hR _ (hR _ (hR _ (hR _ (hR _ ⟨(show 0 ≤ i + 3 ∧ i + 3 < M1 49 0 0 by omega), ?_⟩))))
  show R (1152, [some (aR 50 0), some (aR 7 0), some (aR 8 0), some (aI i)], [aI (M1 50 0 (i + 3).toNat), aI (M1 50 0 (i + 2).toNat), aI (M1 50 0 (i + 1).toNat), aR 8 0, aL (am_bl x)], M1)
  refine hR _ (h2 _ (fun M2 hok => ?_))
  show R (1155, [some (aR 50 0), some (aR 7 0), some (aR 8 0), some (aI i)], [aL x, aL (am_bl x)], M2)
  refine hL _ _ _ (am_bl x) _ _ (i6_bl x).symm ?_
  refine hR _ ⟨⟨b1, b1⟩, fun h => absurd h (by omega), fun _ => ?_, fun h => absurd h (by omega)⟩
  exact hR _ (am_brt (rg := am_in 0) (P := (0 : Int) = 0) (A := R (1720, [some (aR 50 0), some (aR 7 0), some (aR 8 0), some (aI i)], [], M2)) (B := R (1159, [some (aR 50 0), some (aR 7 0), some (aR 8 0), some (aI i)], [], M2)) (by omega) rfl (hn M2 hok))
theorem lw_whose {d : Nat} (hd : 60 ≤ d) {K : am_K} {R : am_C → Prop} (hR : ∀ c, am_F true tb_f0 2 (am_Call true d) K R c → R c) (hC : am_cong R) (hL : am_congL R) {M : am_M} (hJ : jf_J M) (hW : jf_C M) {i : Int} (hi : 0 ≤ i) (hi2 : i + 7 ≤ M 49 0 0) (hs : ∀ j, am_in (M 50 0 j)) (hn : ∀ M2, pr_ok M M2 → R (1720, [some (aR 50 0), some (aR 7 0), some (aR 8 0), some (aI i)], [], M2)) : R (1161, [some (aR 50 0), some (aR 7 0), some (aR 8 0), some (aI i)], [], M) := by
  refine hR _ (?_)
  show R (1162, [some (aR 50 0), some (aR 7 0), some (aR 8 0), some (aI i)], [aR 7 0], M)
  refine hR _ (hR _ (hR _ (hR _ (hR _ ⟨(show 0 ≤ i + 1 ∧ i + 1 < M 49 0 0 by omega), ?_⟩))))
  show R (1167, [some (aR 50 0), some (aR 7 0), some (aR 8 0), some (aI i)], [aI (M 50 0 (i + 1).toNat), aR 7 0], M)
  refine hR _ (hR _ (hR _ (hR _ (hR _ ⟨(show 0 ≤ i + 2 ∧ i + 2 < M 49 0 0 by omega), ?_⟩))))
  show R (1172, [some (aR 50 0), some (aR 7 0), some (aR 8 0), some (aI i)], [aI (M 50 0 (i + 2).toNat), aI (M 50 0 (i + 1).toNat), aR 7 0], M)
  refine hR _ (pr_whose (M := M) (K := fun v M' => R (1175, [some (aR 50 0), some (aR 7 0), some (aR 8 0), some (aI i)], am_ps v [], M')) (by omega) hJ hW (hs _) (hs _) ?_)
  intro x M1 hM h2
  obtain ⟨e49, e50⟩ := hM
  have f49 : M1 49 0 0 = M 49 0 0 := by rw [e49]
  rw [← e50] at h2
  have b1 := am_bl_in x
  show R (1175, [some (aR 50 0), some (aR 7 0), some (aR 8 0), some (aI i)], [aL x], M1)
  refine hL _ _ _ (am_bl x) _ _ (i6_bl x).symm ?_
  refine hR _ (?_)
  show R (1176, [some (aR 50 0), some (aR 7 0), some (aR 8 0), some (aI i)], [aR 8 0, aL (am_bl x)], M1)
  refine hR _ (hR _ (hR _ (hR _ (hR _ ⟨(show 0 ≤ i + 1 ∧ i + 1 < M1 49 0 0 by omega), ?_⟩))))
  show R (1181, [some (aR 50 0), some (aR 7 0), some (aR 8 0), some (aI i)], [aI (M1 50 0 (i + 1).toNat), aR 8 0, aL (am_bl x)], M1)
  refine hR _ (hR _ (hR _ (hR _ (hR _ ⟨(show 0 ≤ i + 2 ∧ i + 2 < M1 49 0 0 by omega), ?_⟩))))
  show R (1186, [some (aR 50 0), some (aR 7 0), some (aR 8 0), some (aI i)], [aI (M1 50 0 (i + 2).toNat), aI (M1 50 0 (i + 1).toNat), aR 8 0, aL (am_bl x)], M1)
  refine hR _ (h2 _ (fun M2 hok => ?_))
  show R (1189, [some (aR 50 0), some (aR 7 0), some (aR 8 0), some (aI i)], [aL x, aL (am_bl x)], M2)
  refine hL _ _ _ (am_bl x) _ _ (i6_bl x).symm ?_
  refine hR _ ⟨⟨b1, b1⟩, fun h => absurd h (by omega), fun _ => ?_, fun h => absurd h (by omega)⟩
  exact hR _ (am_brt (rg := am_in 0) (P := (0 : Int) = 0) (A := R (1720, [some (aR 50 0), some (aR 7 0), some (aR 8 0), some (aI i)], [], M2)) (B := R (1193, [some (aR 50 0), some (aR 7 0), some (aR 8 0), some (aI i)], [], M2)) (by omega) rfl (hn M2 hok))
theorem lw_rule {d : Nat} (hd : 60 ≤ d) {K : am_K} {R : am_C → Prop} (hR : ∀ c, am_F true tb_f0 2 (am_Call true d) K R c → R c) (hC : am_cong R) (hL : am_congL R) {M : am_M} (hJ : jf_J M) (hW : jf_C M) {i : Int} (hi : 0 ≤ i) (hi2 : i + 7 ≤ M 49 0 0) (hs : ∀ j, am_in (M 50 0 j)) (hn : ∀ M2, pr_ok M M2 → R (1720, [some (aR 50 0), some (aR 7 0), some (aR 8 0), some (aI i)], [], M2)) : R (1195, [some (aR 50 0), some (aR 7 0), some (aR 8 0), some (aI i)], [], M) := by
  refine hR _ (?_)
  show R (1196, [some (aR 50 0), some (aR 7 0), some (aR 8 0), some (aI i)], [aR 7 0], M)
  refine hR _ (hR _ (hR _ (hR _ (hR _ ⟨(show 0 ≤ i + 1 ∧ i + 1 < M 49 0 0 by omega), ?_⟩))))
  show R (1201, [some (aR 50 0), some (aR 7 0), some (aR 8 0), some (aI i)], [aI (M 50 0 (i + 1).toNat), aR 7 0], M)
  refine hR _ (hR _ (hR _ (hR _ (hR _ ⟨(show 0 ≤ i + 2 ∧ i + 2 < M 49 0 0 by omega), ?_⟩))))
  show R (1206, [some (aR 50 0), some (aR 7 0), some (aR 8 0), some (aI i)], [aI (M 50 0 (i + 2).toNat), aI (M 50 0 (i + 1).toNat), aR 7 0], M)
  refine hR _ (hR _ (hR _ (hR _ (hR _ ⟨(show 0 ≤ i + 3 ∧ i + 3 < M 49 0 0 by omega), ?_⟩))))
  show R (1211, [some (aR 50 0), some (aR 7 0), some (aR 8 0), some (aI i)], [aI (M 50 0 (i + 3).toNat), aI (M 50 0 (i + 2).toNat), aI (M 50 0 (i + 1).toNat), aR 7 0], M)
  refine hR _ (pr_rule (M := M) (K := fun v M' => R (1214, [some (aR 50 0), some (aR 7 0), some (aR 8 0), some (aI i)], am_ps v [], M')) (by omega) hJ hW (hs _) (hs _) (hs _) ?_)
  intro x M1 hM h2
  obtain ⟨e49, e50⟩ := hM
  have f49 : M1 49 0 0 = M 49 0 0 := by rw [e49]
  rw [← e50] at h2
  have b1 := am_bl_in x
  show R (1214, [some (aR 50 0), some (aR 7 0), some (aR 8 0), some (aI i)], [aL x], M1)
  refine hL _ _ _ (am_bl x) _ _ (i6_bl x).symm ?_
  refine hR _ (?_)
  show R (1215, [some (aR 50 0), some (aR 7 0), some (aR 8 0), some (aI i)], [aR 8 0, aL (am_bl x)], M1)
  refine hR _ (hR _ (hR _ (hR _ (hR _ ⟨(show 0 ≤ i + 1 ∧ i + 1 < M1 49 0 0 by omega), ?_⟩))))
  show R (1220, [some (aR 50 0), some (aR 7 0), some (aR 8 0), some (aI i)], [aI (M1 50 0 (i + 1).toNat), aR 8 0, aL (am_bl x)], M1)
  refine hR _ (hR _ (hR _ (hR _ (hR _ ⟨(show 0 ≤ i + 2 ∧ i + 2 < M1 49 0 0 by omega), ?_⟩))))
  show R (1225, [some (aR 50 0), some (aR 7 0), some (aR 8 0), some (aI i)], [aI (M1 50 0 (i + 2).toNat), aI (M1 50 0 (i + 1).toNat), aR 8 0, aL (am_bl x)], M1)
  refine hR _ (hR _ (hR _ (hR _ (hR _ ⟨(show 0 ≤ i + 3 ∧ i + 3 < M1 49 0 0 by omega), ?_⟩))))
  show R (1230, [some (aR 50 0), some (aR 7 0), some (aR 8 0), some (aI i)], [aI (M1 50 0 (i + 3).toNat), aI (M1 50 0 (i + 2).toNat), aI (M1 50 0 (i + 1).toNat), aR 8 0, aL (am_bl x)], M1)
  refine hR _ (h2 _ (fun M2 hok => ?_))
  show R (1233, [some (aR 50 0), some (aR 7 0), some (aR 8 0), some (aI i)], [aL x, aL (am_bl x)], M2)
  refine hL _ _ _ (am_bl x) _ _ (i6_bl x).symm ?_
  refine hR _ ⟨⟨b1, b1⟩, fun h => absurd h (by omega), fun _ => ?_, fun h => absurd h (by omega)⟩
  exact hR _ (am_brt (rg := am_in 0) (P := (0 : Int) = 0) (A := R (1720, [some (aR 50 0), some (aR 7 0), some (aR 8 0), some (aI i)], [], M2)) (B := R (1237, [some (aR 50 0), some (aR 7 0), some (aR 8 0), some (aI i)], [], M2)) (by omega) rfl (hn M2 hok))
theorem lw_laws {d : Nat} (hd : 60 ≤ d) {K : am_K} {R : am_C → Prop} (hR : ∀ c, am_F true tb_f0 2 (am_Call true d) K R c → R c) (hC : am_cong R) (hL : am_congL R) {M : am_M} (hJ : jf_J M) (hW : jf_C M) {i : Int} (hi : 0 ≤ i) (hi2 : i + 7 ≤ M 49 0 0) (hs : ∀ j, am_in (M 50 0 j)) (hn : ∀ M2, pr_ok M M2 → R (1720, [some (aR 50 0), some (aR 7 0), some (aR 8 0), some (aI i)], [], M2)) : R (1239, [some (aR 50 0), some (aR 7 0), some (aR 8 0), some (aI i)], [], M) := by
  refine hR _ (?_)
  show R (1240, [some (aR 50 0), some (aR 7 0), some (aR 8 0), some (aI i)], [aR 7 0], M)
  refine hR _ (hR _ (hR _ (hR _ (hR _ ⟨(show 0 ≤ i + 1 ∧ i + 1 < M 49 0 0 by omega), ?_⟩))))
  show R (1245, [some (aR 50 0), some (aR 7 0), some (aR 8 0), some (aI i)], [aI (M 50 0 (i + 1).toNat), aR 7 0], M)
  refine hR _ (hR _ (hR _ (hR _ (hR _ ⟨(show 0 ≤ i + 2 ∧ i + 2 < M 49 0 0 by omega), ?_⟩))))
  show R (1250, [some (aR 50 0), some (aR 7 0), some (aR 8 0), some (aI i)], [aI (M 50 0 (i + 2).toNat), aI (M 50 0 (i + 1).toNat), aR 7 0], M)
  refine hR _ (pr_laws (M := M) (K := fun v M' => R (1253, [some (aR 50 0), some (aR 7 0), some (aR 8 0), some (aI i)], am_ps v [], M')) (by omega) hJ hW (hs _) (hs _) ?_)
  intro x M1 hM h2
  obtain ⟨e49, e50⟩ := hM
  have f49 : M1 49 0 0 = M 49 0 0 := by rw [e49]
  rw [← e50] at h2
  have b1 := am_bm_in x
  show R (1253, [some (aR 50 0), some (aR 7 0), some (aR 8 0), some (aI i)], [aI x], M1)
  refine hC _ _ _ (am_bm x) _ _ (i3_bm x).symm ?_
  refine hR _ (?_)
  show R (1254, [some (aR 50 0), some (aR 7 0), some (aR 8 0), some (aI i)], [aR 8 0, aI (am_bm x)], M1)
  refine hR _ (hR _ (hR _ (hR _ (hR _ ⟨(show 0 ≤ i + 1 ∧ i + 1 < M1 49 0 0 by omega), ?_⟩))))
  show R (1259, [some (aR 50 0), some (aR 7 0), some (aR 8 0), some (aI i)], [aI (M1 50 0 (i + 1).toNat), aR 8 0, aI (am_bm x)], M1)
  refine hR _ (hR _ (hR _ (hR _ (hR _ ⟨(show 0 ≤ i + 2 ∧ i + 2 < M1 49 0 0 by omega), ?_⟩))))
  show R (1264, [some (aR 50 0), some (aR 7 0), some (aR 8 0), some (aI i)], [aI (M1 50 0 (i + 2).toNat), aI (M1 50 0 (i + 1).toNat), aR 8 0, aI (am_bm x)], M1)
  refine hR _ (h2 _ (fun M2 hok => ?_))
  show R (1267, [some (aR 50 0), some (aR 7 0), some (aR 8 0), some (aI i)], [aI x, aI (am_bm x)], M2)
  refine hC _ _ _ (am_bm x) _ _ (i3_bm x).symm ?_
  exact hR _ (am_brt (rg := am_in (am_bm x) ∧ am_in (am_bm x)) (P := am_bm x = am_bm x) (A := R (1720, [some (aR 50 0), some (aR 7 0), some (aR 8 0), some (aI i)], [], M2)) (B := R (1270, [some (aR 50 0), some (aR 7 0), some (aR 8 0), some (aI i)], [], M2)) ⟨b1, b1⟩ rfl (hn M2 hok))
theorem lw_film {d : Nat} (hd : 60 ≤ d) {K : am_K} {R : am_C → Prop} (hR : ∀ c, am_F true tb_f0 2 (am_Call true d) K R c → R c) (hC : am_cong R) (hL : am_congL R) {M : am_M} (hJ : jf_J M) (hW : jf_C M) {i : Int} (hi : 0 ≤ i) (hi2 : i + 7 ≤ M 49 0 0) (hs : ∀ j, am_in (M 50 0 j)) (hn : ∀ M2, pr_ok M M2 → R (1720, [some (aR 50 0), some (aR 7 0), some (aR 8 0), some (aI i)], [], M2)) : R (1272, [some (aR 50 0), some (aR 7 0), some (aR 8 0), some (aI i)], [], M) := by
  refine hR _ (?_)
  show R (1273, [some (aR 50 0), some (aR 7 0), some (aR 8 0), some (aI i)], [aR 7 0], M)
  refine hR _ (hR _ (hR _ (hR _ (hR _ ⟨(show 0 ≤ i + 1 ∧ i + 1 < M 49 0 0 by omega), ?_⟩))))
  show R (1278, [some (aR 50 0), some (aR 7 0), some (aR 8 0), some (aI i)], [aI (M 50 0 (i + 1).toNat), aR 7 0], M)
  refine hR _ (hR _ (hR _ (hR _ (hR _ ⟨(show 0 ≤ i + 2 ∧ i + 2 < M 49 0 0 by omega), ?_⟩))))
  show R (1283, [some (aR 50 0), some (aR 7 0), some (aR 8 0), some (aI i)], [aI (M 50 0 (i + 2).toNat), aI (M 50 0 (i + 1).toNat), aR 7 0], M)
  refine hR _ (pr_film (M := M) (K := fun v M' => R (1286, [some (aR 50 0), some (aR 7 0), some (aR 8 0), some (aI i)], am_ps v [], M')) (by omega) hJ hW (hs _) (hs _) ?_)
  intro x M1 hM h2
  obtain ⟨e49, e50⟩ := hM
  have f49 : M1 49 0 0 = M 49 0 0 := by rw [e49]
  rw [← e50] at h2
  have b1 := am_bm_in x
  show R (1286, [some (aR 50 0), some (aR 7 0), some (aR 8 0), some (aI i)], [aI x], M1)
  refine hC _ _ _ (am_bm x) _ _ (i3_bm x).symm ?_
  refine hR _ (?_)
  show R (1287, [some (aR 50 0), some (aR 7 0), some (aR 8 0), some (aI i)], [aR 8 0, aI (am_bm x)], M1)
  refine hR _ (hR _ (hR _ (hR _ (hR _ ⟨(show 0 ≤ i + 1 ∧ i + 1 < M1 49 0 0 by omega), ?_⟩))))
  show R (1292, [some (aR 50 0), some (aR 7 0), some (aR 8 0), some (aI i)], [aI (M1 50 0 (i + 1).toNat), aR 8 0, aI (am_bm x)], M1)
  refine hR _ (hR _ (hR _ (hR _ (hR _ ⟨(show 0 ≤ i + 2 ∧ i + 2 < M1 49 0 0 by omega), ?_⟩))))
  show R (1297, [some (aR 50 0), some (aR 7 0), some (aR 8 0), some (aI i)], [aI (M1 50 0 (i + 2).toNat), aI (M1 50 0 (i + 1).toNat), aR 8 0, aI (am_bm x)], M1)
  refine hR _ (h2 _ (fun M2 hok => ?_))
  show R (1300, [some (aR 50 0), some (aR 7 0), some (aR 8 0), some (aI i)], [aI x, aI (am_bm x)], M2)
  refine hC _ _ _ (am_bm x) _ _ (i3_bm x).symm ?_
  exact hR _ (am_brt (rg := am_in (am_bm x) ∧ am_in (am_bm x)) (P := am_bm x = am_bm x) (A := R (1720, [some (aR 50 0), some (aR 7 0), some (aR 8 0), some (aI i)], [], M2)) (B := R (1303, [some (aR 50 0), some (aR 7 0), some (aR 8 0), some (aI i)], [], M2)) ⟨b1, b1⟩ rfl (hn M2 hok))
theorem lw_drawn {d : Nat} (hd : 60 ≤ d) {K : am_K} {R : am_C → Prop} (hR : ∀ c, am_F true tb_f0 2 (am_Call true d) K R c → R c) (hC : am_cong R) (hL : am_congL R) {M : am_M} (hJ : jf_J M) (hW : jf_C M) {i : Int} (hi : 0 ≤ i) (hi2 : i + 7 ≤ M 49 0 0) (hs : ∀ j, am_in (M 50 0 j)) (hn : ∀ M2, pr_ok M M2 → R (1720, [some (aR 50 0), some (aR 7 0), some (aR 8 0), some (aI i)], [], M2)) : R (1305, [some (aR 50 0), some (aR 7 0), some (aR 8 0), some (aI i)], [], M) := by
  refine hR _ (?_)
  show R (1306, [some (aR 50 0), some (aR 7 0), some (aR 8 0), some (aI i)], [aR 7 0], M)
  refine hR _ (hR _ (hR _ (hR _ (hR _ ⟨(show 0 ≤ i + 1 ∧ i + 1 < M 49 0 0 by omega), ?_⟩))))
  show R (1311, [some (aR 50 0), some (aR 7 0), some (aR 8 0), some (aI i)], [aI (M 50 0 (i + 1).toNat), aR 7 0], M)
  refine hR _ (hR _ (hR _ (hR _ (hR _ ⟨(show 0 ≤ i + 2 ∧ i + 2 < M 49 0 0 by omega), ?_⟩))))
  show R (1316, [some (aR 50 0), some (aR 7 0), some (aR 8 0), some (aI i)], [aI (M 50 0 (i + 2).toNat), aI (M 50 0 (i + 1).toNat), aR 7 0], M)
  refine hR _ (hR _ (hR _ (hR _ (hR _ ⟨(show 0 ≤ i + 3 ∧ i + 3 < M 49 0 0 by omega), ?_⟩))))
  show R (1321, [some (aR 50 0), some (aR 7 0), some (aR 8 0), some (aI i)], [aI (M 50 0 (i + 3).toNat), aI (M 50 0 (i + 2).toNat), aI (M 50 0 (i + 1).toNat), aR 7 0], M)
  refine hR _ (pr_drawn (M := M) (K := fun v M' => R (1324, [some (aR 50 0), some (aR 7 0), some (aR 8 0), some (aI i)], am_ps v [], M')) (by omega) hJ hW (hs _) (hs _) (hs _) ?_)
  intro x M1 hM h2
  obtain ⟨e49, e50⟩ := hM
  have f49 : M1 49 0 0 = M 49 0 0 := by rw [e49]
  rw [← e50] at h2
  have b1 := am_bm_in x
  show R (1324, [some (aR 50 0), some (aR 7 0), some (aR 8 0), some (aI i)], [aI x], M1)
  refine hC _ _ _ (am_bm x) _ _ (i3_bm x).symm ?_
  refine hR _ (?_)
  show R (1325, [some (aR 50 0), some (aR 7 0), some (aR 8 0), some (aI i)], [aR 8 0, aI (am_bm x)], M1)
  refine hR _ (hR _ (hR _ (hR _ (hR _ ⟨(show 0 ≤ i + 1 ∧ i + 1 < M1 49 0 0 by omega), ?_⟩))))
  show R (1330, [some (aR 50 0), some (aR 7 0), some (aR 8 0), some (aI i)], [aI (M1 50 0 (i + 1).toNat), aR 8 0, aI (am_bm x)], M1)
  refine hR _ (hR _ (hR _ (hR _ (hR _ ⟨(show 0 ≤ i + 2 ∧ i + 2 < M1 49 0 0 by omega), ?_⟩))))
  show R (1335, [some (aR 50 0), some (aR 7 0), some (aR 8 0), some (aI i)], [aI (M1 50 0 (i + 2).toNat), aI (M1 50 0 (i + 1).toNat), aR 8 0, aI (am_bm x)], M1)
  refine hR _ (hR _ (hR _ (hR _ (hR _ ⟨(show 0 ≤ i + 3 ∧ i + 3 < M1 49 0 0 by omega), ?_⟩))))
  show R (1340, [some (aR 50 0), some (aR 7 0), some (aR 8 0), some (aI i)], [aI (M1 50 0 (i + 3).toNat), aI (M1 50 0 (i + 2).toNat), aI (M1 50 0 (i + 1).toNat), aR 8 0, aI (am_bm x)], M1)
  refine hR _ (h2 _ (fun M2 hok => ?_))
  show R (1343, [some (aR 50 0), some (aR 7 0), some (aR 8 0), some (aI i)], [aI x, aI (am_bm x)], M2)
  refine hC _ _ _ (am_bm x) _ _ (i3_bm x).symm ?_
  exact hR _ (am_brt (rg := am_in (am_bm x) ∧ am_in (am_bm x)) (P := am_bm x = am_bm x) (A := R (1720, [some (aR 50 0), some (aR 7 0), some (aR 8 0), some (aI i)], [], M2)) (B := R (1346, [some (aR 50 0), some (aR 7 0), some (aR 8 0), some (aI i)], [], M2)) ⟨b1, b1⟩ rfl (hn M2 hok))
theorem lw_odds {d : Nat} (hd : 60 ≤ d) {K : am_K} {R : am_C → Prop} (hR : ∀ c, am_F true tb_f0 2 (am_Call true d) K R c → R c) (hC : am_cong R) (hL : am_congL R) {M : am_M} (hJ : jf_J M) (hW : jf_C M) {i : Int} (hi : 0 ≤ i) (hi2 : i + 7 ≤ M 49 0 0) (hs : ∀ j, am_in (M 50 0 j)) (hn : ∀ M2, pr_ok M M2 → R (1720, [some (aR 50 0), some (aR 7 0), some (aR 8 0), some (aI i)], [], M2)) : R (1348, [some (aR 50 0), some (aR 7 0), some (aR 8 0), some (aI i)], [], M) := by
  refine hR _ (?_)
  show R (1349, [some (aR 50 0), some (aR 7 0), some (aR 8 0), some (aI i)], [aR 7 0], M)
  refine hR _ (hR _ (hR _ (hR _ (hR _ ⟨(show 0 ≤ i + 1 ∧ i + 1 < M 49 0 0 by omega), ?_⟩))))
  show R (1354, [some (aR 50 0), some (aR 7 0), some (aR 8 0), some (aI i)], [aI (M 50 0 (i + 1).toNat), aR 7 0], M)
  refine hR _ (hR _ (hR _ (hR _ (hR _ ⟨(show 0 ≤ i + 2 ∧ i + 2 < M 49 0 0 by omega), ?_⟩))))
  show R (1359, [some (aR 50 0), some (aR 7 0), some (aR 8 0), some (aI i)], [aI (M 50 0 (i + 2).toNat), aI (M 50 0 (i + 1).toNat), aR 7 0], M)
  refine hR _ (hR _ (hR _ (hR _ (hR _ ⟨(show 0 ≤ i + 3 ∧ i + 3 < M 49 0 0 by omega), ?_⟩))))
  show R (1364, [some (aR 50 0), some (aR 7 0), some (aR 8 0), some (aI i)], [aI (M 50 0 (i + 3).toNat), aI (M 50 0 (i + 2).toNat), aI (M 50 0 (i + 1).toNat), aR 7 0], M)
  refine hR _ (hR _ (hR _ (hR _ (hR _ ⟨(show 0 ≤ i + 4 ∧ i + 4 < M 49 0 0 by omega), ?_⟩))))
  show R (1369, [some (aR 50 0), some (aR 7 0), some (aR 8 0), some (aI i)], [aI (M 50 0 (i + 4).toNat), aI (M 50 0 (i + 3).toNat), aI (M 50 0 (i + 2).toNat), aI (M 50 0 (i + 1).toNat), aR 7 0], M)
  refine hR _ (pr_odds (M := M) (K := fun v M' => R (1372, [some (aR 50 0), some (aR 7 0), some (aR 8 0), some (aI i)], am_ps v [], M')) (by omega) hJ hW (hs _) (hs _) (hs _) (hs _) ?_)
  intro x M1 hM h2
  obtain ⟨e49, e50⟩ := hM
  have f49 : M1 49 0 0 = M 49 0 0 := by rw [e49]
  rw [← e50] at h2
  have b1 := am_bl_in x
  show R (1372, [some (aR 50 0), some (aR 7 0), some (aR 8 0), some (aI i)], [aL x], M1)
  refine hL _ _ _ (am_bl x) _ _ (i6_bl x).symm ?_
  refine hR _ (?_)
  show R (1373, [some (aR 50 0), some (aR 7 0), some (aR 8 0), some (aI i)], [aR 8 0, aL (am_bl x)], M1)
  refine hR _ (hR _ (hR _ (hR _ (hR _ ⟨(show 0 ≤ i + 1 ∧ i + 1 < M1 49 0 0 by omega), ?_⟩))))
  show R (1378, [some (aR 50 0), some (aR 7 0), some (aR 8 0), some (aI i)], [aI (M1 50 0 (i + 1).toNat), aR 8 0, aL (am_bl x)], M1)
  refine hR _ (hR _ (hR _ (hR _ (hR _ ⟨(show 0 ≤ i + 2 ∧ i + 2 < M1 49 0 0 by omega), ?_⟩))))
  show R (1383, [some (aR 50 0), some (aR 7 0), some (aR 8 0), some (aI i)], [aI (M1 50 0 (i + 2).toNat), aI (M1 50 0 (i + 1).toNat), aR 8 0, aL (am_bl x)], M1)
  refine hR _ (hR _ (hR _ (hR _ (hR _ ⟨(show 0 ≤ i + 3 ∧ i + 3 < M1 49 0 0 by omega), ?_⟩))))
  show R (1388, [some (aR 50 0), some (aR 7 0), some (aR 8 0), some (aI i)], [aI (M1 50 0 (i + 3).toNat), aI (M1 50 0 (i + 2).toNat), aI (M1 50 0 (i + 1).toNat), aR 8 0, aL (am_bl x)], M1)
  refine hR _ (hR _ (hR _ (hR _ (hR _ ⟨(show 0 ≤ i + 4 ∧ i + 4 < M1 49 0 0 by omega), ?_⟩))))
  show R (1393, [some (aR 50 0), some (aR 7 0), some (aR 8 0), some (aI i)], [aI (M1 50 0 (i + 4).toNat), aI (M1 50 0 (i + 3).toNat), aI (M1 50 0 (i + 2).toNat), aI (M1 50 0 (i + 1).toNat), aR 8 0, aL (am_bl x)], M1)
  refine hR _ (h2 _ (fun M2 hok => ?_))
  show R (1396, [some (aR 50 0), some (aR 7 0), some (aR 8 0), some (aI i)], [aL x, aL (am_bl x)], M2)
  refine hL _ _ _ (am_bl x) _ _ (i6_bl x).symm ?_
  refine hR _ ⟨⟨b1, b1⟩, fun h => absurd h (by omega), fun _ => ?_, fun h => absurd h (by omega)⟩
  exact hR _ (am_brt (rg := am_in 0) (P := (0 : Int) = 0) (A := R (1720, [some (aR 50 0), some (aR 7 0), some (aR 8 0), some (aI i)], [], M2)) (B := R (1400, [some (aR 50 0), some (aR 7 0), some (aR 8 0), some (aI i)], [], M2)) (by omega) rfl (hn M2 hok))
theorem lw_serve {d : Nat} (hd : 60 ≤ d) {K : am_K} {R : am_C → Prop} (hR : ∀ c, am_F true tb_f0 2 (am_Call true d) K R c → R c) (hC : am_cong R) (hL : am_congL R) {M : am_M} (hJ : jf_J M) (hW : jf_C M) {i : Int} (hi : 0 ≤ i) (hi2 : i + 7 ≤ M 49 0 0) (hs : ∀ j, am_in (M 50 0 j)) (hn : ∀ M2, pr_ok M M2 → R (1720, [some (aR 50 0), some (aR 7 0), some (aR 8 0), some (aI i)], [], M2)) : R (1402, [some (aR 50 0), some (aR 7 0), some (aR 8 0), some (aI i)], [], M) := by
  refine hR _ (?_)
  show R (1403, [some (aR 50 0), some (aR 7 0), some (aR 8 0), some (aI i)], [aR 7 0], M)
  refine hR _ (hR _ (hR _ (hR _ (hR _ ⟨(show 0 ≤ i + 1 ∧ i + 1 < M 49 0 0 by omega), ?_⟩))))
  show R (1408, [some (aR 50 0), some (aR 7 0), some (aR 8 0), some (aI i)], [aI (M 50 0 (i + 1).toNat), aR 7 0], M)
  refine hR _ (hR _ (hR _ (hR _ (hR _ ⟨(show 0 ≤ i + 2 ∧ i + 2 < M 49 0 0 by omega), ?_⟩))))
  show R (1413, [some (aR 50 0), some (aR 7 0), some (aR 8 0), some (aI i)], [aI (M 50 0 (i + 2).toNat), aI (M 50 0 (i + 1).toNat), aR 7 0], M)
  refine hR _ (pr_serve (M := M) (K := fun v M' => R (1416, [some (aR 50 0), some (aR 7 0), some (aR 8 0), some (aI i)], am_ps v [], M')) (by omega) hJ hW (hs _) (hs _) ?_)
  intro x M1 hM h2
  obtain ⟨e49, e50⟩ := hM
  have f49 : M1 49 0 0 = M 49 0 0 := by rw [e49]
  rw [← e50] at h2
  have b1 := am_bm_in x
  show R (1416, [some (aR 50 0), some (aR 7 0), some (aR 8 0), some (aI i)], [aI x], M1)
  refine hC _ _ _ (am_bm x) _ _ (i3_bm x).symm ?_
  refine hR _ (?_)
  show R (1417, [some (aR 50 0), some (aR 7 0), some (aR 8 0), some (aI i)], [aR 8 0, aI (am_bm x)], M1)
  refine hR _ (hR _ (hR _ (hR _ (hR _ ⟨(show 0 ≤ i + 1 ∧ i + 1 < M1 49 0 0 by omega), ?_⟩))))
  show R (1422, [some (aR 50 0), some (aR 7 0), some (aR 8 0), some (aI i)], [aI (M1 50 0 (i + 1).toNat), aR 8 0, aI (am_bm x)], M1)
  refine hR _ (hR _ (hR _ (hR _ (hR _ ⟨(show 0 ≤ i + 2 ∧ i + 2 < M1 49 0 0 by omega), ?_⟩))))
  show R (1427, [some (aR 50 0), some (aR 7 0), some (aR 8 0), some (aI i)], [aI (M1 50 0 (i + 2).toNat), aI (M1 50 0 (i + 1).toNat), aR 8 0, aI (am_bm x)], M1)
  refine hR _ (h2 _ (fun M2 hok => ?_))
  show R (1430, [some (aR 50 0), some (aR 7 0), some (aR 8 0), some (aI i)], [aI x, aI (am_bm x)], M2)
  refine hC _ _ _ (am_bm x) _ _ (i3_bm x).symm ?_
  exact hR _ (am_brt (rg := am_in (am_bm x) ∧ am_in (am_bm x)) (P := am_bm x = am_bm x) (A := R (1720, [some (aR 50 0), some (aR 7 0), some (aR 8 0), some (aI i)], [], M2)) (B := R (1433, [some (aR 50 0), some (aR 7 0), some (aR 8 0), some (aI i)], [], M2)) ⟨b1, b1⟩ rfl (hn M2 hok))
theorem lw_book {d : Nat} (hd : 60 ≤ d) {K : am_K} {R : am_C → Prop} (hR : ∀ c, am_F true tb_f0 2 (am_Call true d) K R c → R c) (hC : am_cong R) (hL : am_congL R) {M : am_M} (hJ : jf_J M) (hW : jf_C M) {i : Int} (hi : 0 ≤ i) (hi2 : i + 7 ≤ M 49 0 0) (hs : ∀ j, am_in (M 50 0 j)) (hn : ∀ M2, pr_ok M M2 → R (1720, [some (aR 50 0), some (aR 7 0), some (aR 8 0), some (aI i)], [], M2)) : R (1435, [some (aR 50 0), some (aR 7 0), some (aR 8 0), some (aI i)], [], M) := by
  refine hR _ (?_)
  show R (1436, [some (aR 50 0), some (aR 7 0), some (aR 8 0), some (aI i)], [aR 7 0], M)
  refine hR _ (hR _ (hR _ (hR _ (hR _ ⟨(show 0 ≤ i + 1 ∧ i + 1 < M 49 0 0 by omega), ?_⟩))))
  show R (1441, [some (aR 50 0), some (aR 7 0), some (aR 8 0), some (aI i)], [aI (M 50 0 (i + 1).toNat), aR 7 0], M)
  refine hR _ (pr_book (M := M) (K := fun v M' => R (1444, [some (aR 50 0), some (aR 7 0), some (aR 8 0), some (aI i)], am_ps v [], M')) (by omega) hJ hW (hs _) ?_)
  intro x M1 hM h2
  obtain ⟨e49, e50⟩ := hM
  have f49 : M1 49 0 0 = M 49 0 0 := by rw [e49]
  rw [← e50] at h2
  have b1 := am_bm_in x
  show R (1444, [some (aR 50 0), some (aR 7 0), some (aR 8 0), some (aI i)], [aI x], M1)
  refine hC _ _ _ (am_bm x) _ _ (i3_bm x).symm ?_
  refine hR _ (?_)
  show R (1445, [some (aR 50 0), some (aR 7 0), some (aR 8 0), some (aI i)], [aR 8 0, aI (am_bm x)], M1)
  refine hR _ (hR _ (hR _ (hR _ (hR _ ⟨(show 0 ≤ i + 1 ∧ i + 1 < M1 49 0 0 by omega), ?_⟩))))
  show R (1450, [some (aR 50 0), some (aR 7 0), some (aR 8 0), some (aI i)], [aI (M1 50 0 (i + 1).toNat), aR 8 0, aI (am_bm x)], M1)
  refine hR _ (h2 _ (fun M2 hok => ?_))
  show R (1453, [some (aR 50 0), some (aR 7 0), some (aR 8 0), some (aI i)], [aI x, aI (am_bm x)], M2)
  refine hC _ _ _ (am_bm x) _ _ (i3_bm x).symm ?_
  exact hR _ (am_brt (rg := am_in (am_bm x) ∧ am_in (am_bm x)) (P := am_bm x = am_bm x) (A := R (1720, [some (aR 50 0), some (aR 7 0), some (aR 8 0), some (aI i)], [], M2)) (B := R (1456, [some (aR 50 0), some (aR 7 0), some (aR 8 0), some (aI i)], [], M2)) ⟨b1, b1⟩ rfl (hn M2 hok))
theorem lw_image {d : Nat} (hd : 60 ≤ d) {K : am_K} {R : am_C → Prop} (hR : ∀ c, am_F true tb_f0 2 (am_Call true d) K R c → R c) (hC : am_cong R) (hL : am_congL R) {M : am_M} (hJ : jf_J M) (hW : jf_C M) {i : Int} (hi : 0 ≤ i) (hi2 : i + 7 ≤ M 49 0 0) (hs : ∀ j, am_in (M 50 0 j)) (hn : ∀ M2, pr_ok M M2 → R (1720, [some (aR 50 0), some (aR 7 0), some (aR 8 0), some (aI i)], [], M2)) : R (1458, [some (aR 50 0), some (aR 7 0), some (aR 8 0), some (aI i)], [], M) := by
  refine hR _ (?_)
  show R (1459, [some (aR 50 0), some (aR 7 0), some (aR 8 0), some (aI i)], [aR 7 0], M)
  refine hR _ (pr_image (M := M) (K := fun v M' => R (1462, [some (aR 50 0), some (aR 7 0), some (aR 8 0), some (aI i)], am_ps v [], M')) (by omega) hJ hW  ?_)
  intro x M1 hM h2
  obtain ⟨e49, e50⟩ := hM
  have f49 : M1 49 0 0 = M 49 0 0 := by rw [e49]
  have b1 := am_bm_in x
  show R (1462, [some (aR 50 0), some (aR 7 0), some (aR 8 0), some (aI i)], [aI x], M1)
  refine hC _ _ _ (am_bm x) _ _ (i3_bm x).symm ?_
  refine hR _ (?_)
  show R (1463, [some (aR 50 0), some (aR 7 0), some (aR 8 0), some (aI i)], [aR 8 0, aI (am_bm x)], M1)
  refine hR _ (h2 _ (fun M2 hok => ?_))
  show R (1466, [some (aR 50 0), some (aR 7 0), some (aR 8 0), some (aI i)], [aI x, aI (am_bm x)], M2)
  refine hC _ _ _ (am_bm x) _ _ (i3_bm x).symm ?_
  exact hR _ (am_brt (rg := am_in (am_bm x) ∧ am_in (am_bm x)) (P := am_bm x = am_bm x) (A := R (1720, [some (aR 50 0), some (aR 7 0), some (aR 8 0), some (aI i)], [], M2)) (B := R (1469, [some (aR 50 0), some (aR 7 0), some (aR 8 0), some (aI i)], [], M2)) ⟨b1, b1⟩ rfl (hn M2 hok))
theorem lw_back {d : Nat} (hd : 60 ≤ d) {K : am_K} {R : am_C → Prop} (hR : ∀ c, am_F true tb_f0 2 (am_Call true d) K R c → R c) (hC : am_cong R) (hL : am_congL R) {M : am_M} (hJ : jf_J M) (hW : jf_C M) {i : Int} (hi : 0 ≤ i) (hi2 : i + 7 ≤ M 49 0 0) (hs : ∀ j, am_in (M 50 0 j)) (hn : ∀ M2, pr_ok M M2 → R (1720, [some (aR 50 0), some (aR 7 0), some (aR 8 0), some (aI i)], [], M2)) : R (1471, [some (aR 50 0), some (aR 7 0), some (aR 8 0), some (aI i)], [], M) := by
  refine hR _ (?_)
  show R (1472, [some (aR 50 0), some (aR 7 0), some (aR 8 0), some (aI i)], [aR 7 0], M)
  refine hR _ (pr_back (M := M) (K := fun v M' => R (1475, [some (aR 50 0), some (aR 7 0), some (aR 8 0), some (aI i)], am_ps v [], M')) (by omega) hJ hW  ?_)
  intro x M1 hM h2
  obtain ⟨e49, e50⟩ := hM
  have f49 : M1 49 0 0 = M 49 0 0 := by rw [e49]
  have b1 := am_bm_in x
  show R (1475, [some (aR 50 0), some (aR 7 0), some (aR 8 0), some (aI i)], [aI x], M1)
  refine hC _ _ _ (am_bm x) _ _ (i3_bm x).symm ?_
  refine hR _ (?_)
  show R (1476, [some (aR 50 0), some (aR 7 0), some (aR 8 0), some (aI i)], [aR 8 0, aI (am_bm x)], M1)
  refine hR _ (h2 _ (fun M2 hok => ?_))
  show R (1479, [some (aR 50 0), some (aR 7 0), some (aR 8 0), some (aI i)], [aI x, aI (am_bm x)], M2)
  refine hC _ _ _ (am_bm x) _ _ (i3_bm x).symm ?_
  exact hR _ (am_brt (rg := am_in (am_bm x) ∧ am_in (am_bm x)) (P := am_bm x = am_bm x) (A := R (1720, [some (aR 50 0), some (aR 7 0), some (aR 8 0), some (aI i)], [], M2)) (B := R (1482, [some (aR 50 0), some (aR 7 0), some (aR 8 0), some (aI i)], [], M2)) ⟨b1, b1⟩ rfl (hn M2 hok))
theorem lw_sheet {d : Nat} (hd : 60 ≤ d) {K : am_K} {R : am_C → Prop} (hR : ∀ c, am_F true tb_f0 2 (am_Call true d) K R c → R c) (hC : am_cong R) (hL : am_congL R) {M : am_M} (hJ : jf_J M) (hW : jf_C M) {i : Int} (hi : 0 ≤ i) (hi2 : i + 7 ≤ M 49 0 0) (hs : ∀ j, am_in (M 50 0 j)) (hn : ∀ M2, pr_ok M M2 → R (1720, [some (aR 50 0), some (aR 7 0), some (aR 8 0), some (aI i)], [], M2)) : R (1484, [some (aR 50 0), some (aR 7 0), some (aR 8 0), some (aI i)], [], M) := by
  refine hR _ (?_)
  show R (1485, [some (aR 50 0), some (aR 7 0), some (aR 8 0), some (aI i)], [aR 7 0], M)
  refine hR _ (hR _ (hR _ (hR _ (hR _ ⟨(show 0 ≤ i + 1 ∧ i + 1 < M 49 0 0 by omega), ?_⟩))))
  show R (1490, [some (aR 50 0), some (aR 7 0), some (aR 8 0), some (aI i)], [aI (M 50 0 (i + 1).toNat), aR 7 0], M)
  refine hR _ (hR _ (hR _ (hR _ (hR _ ⟨(show 0 ≤ i + 2 ∧ i + 2 < M 49 0 0 by omega), ?_⟩))))
  show R (1495, [some (aR 50 0), some (aR 7 0), some (aR 8 0), some (aI i)], [aI (M 50 0 (i + 2).toNat), aI (M 50 0 (i + 1).toNat), aR 7 0], M)
  refine hR _ (hR _ (hR _ (hR _ (hR _ ⟨(show 0 ≤ i + 3 ∧ i + 3 < M 49 0 0 by omega), ?_⟩))))
  show R (1500, [some (aR 50 0), some (aR 7 0), some (aR 8 0), some (aI i)], [aI (M 50 0 (i + 3).toNat), aI (M 50 0 (i + 2).toNat), aI (M 50 0 (i + 1).toNat), aR 7 0], M)
  refine hR _ (pr_sheet (M := M) (K := fun v M' => R (1503, [some (aR 50 0), some (aR 7 0), some (aR 8 0), some (aI i)], am_ps v [], M')) (by omega) hJ hW (hs _) (hs _) (hs _) ?_)
  intro x M1 hM h2
  obtain ⟨e49, e50⟩ := hM
  have f49 : M1 49 0 0 = M 49 0 0 := by rw [e49]
  rw [← e50] at h2
  have b1 := am_bm_in x
  show R (1503, [some (aR 50 0), some (aR 7 0), some (aR 8 0), some (aI i)], [aI x], M1)
  refine hC _ _ _ (am_bm x) _ _ (i3_bm x).symm ?_
  refine hR _ (?_)
  show R (1504, [some (aR 50 0), some (aR 7 0), some (aR 8 0), some (aI i)], [aR 8 0, aI (am_bm x)], M1)
  refine hR _ (hR _ (hR _ (hR _ (hR _ ⟨(show 0 ≤ i + 1 ∧ i + 1 < M1 49 0 0 by omega), ?_⟩))))
  show R (1509, [some (aR 50 0), some (aR 7 0), some (aR 8 0), some (aI i)], [aI (M1 50 0 (i + 1).toNat), aR 8 0, aI (am_bm x)], M1)
  refine hR _ (hR _ (hR _ (hR _ (hR _ ⟨(show 0 ≤ i + 2 ∧ i + 2 < M1 49 0 0 by omega), ?_⟩))))
  show R (1514, [some (aR 50 0), some (aR 7 0), some (aR 8 0), some (aI i)], [aI (M1 50 0 (i + 2).toNat), aI (M1 50 0 (i + 1).toNat), aR 8 0, aI (am_bm x)], M1)
  refine hR _ (hR _ (hR _ (hR _ (hR _ ⟨(show 0 ≤ i + 3 ∧ i + 3 < M1 49 0 0 by omega), ?_⟩))))
  show R (1519, [some (aR 50 0), some (aR 7 0), some (aR 8 0), some (aI i)], [aI (M1 50 0 (i + 3).toNat), aI (M1 50 0 (i + 2).toNat), aI (M1 50 0 (i + 1).toNat), aR 8 0, aI (am_bm x)], M1)
  refine hR _ (h2 _ (fun M2 hok => ?_))
  show R (1522, [some (aR 50 0), some (aR 7 0), some (aR 8 0), some (aI i)], [aI x, aI (am_bm x)], M2)
  refine hC _ _ _ (am_bm x) _ _ (i3_bm x).symm ?_
  exact hR _ (am_brt (rg := am_in (am_bm x) ∧ am_in (am_bm x)) (P := am_bm x = am_bm x) (A := R (1720, [some (aR 50 0), some (aR 7 0), some (aR 8 0), some (aI i)], [], M2)) (B := R (1525, [some (aR 50 0), some (aR 7 0), some (aR 8 0), some (aI i)], [], M2)) ⟨b1, b1⟩ rfl (hn M2 hok))
theorem lw_cell {d : Nat} (hd : 60 ≤ d) {K : am_K} {R : am_C → Prop} (hR : ∀ c, am_F true tb_f0 2 (am_Call true d) K R c → R c) (hC : am_cong R) (hL : am_congL R) {M : am_M} (hJ : jf_J M) (hW : jf_C M) {i : Int} (hi : 0 ≤ i) (hi2 : i + 7 ≤ M 49 0 0) (hs : ∀ j, am_in (M 50 0 j)) (hn : ∀ M2, pr_ok M M2 → R (1720, [some (aR 50 0), some (aR 7 0), some (aR 8 0), some (aI i)], [], M2)) : R (1527, [some (aR 50 0), some (aR 7 0), some (aR 8 0), some (aI i)], [], M) := by
  refine hR _ (?_)
  show R (1528, [some (aR 50 0), some (aR 7 0), some (aR 8 0), some (aI i)], [aR 7 0], M)
  refine hR _ (hR _ (hR _ (hR _ (hR _ ⟨(show 0 ≤ i + 1 ∧ i + 1 < M 49 0 0 by omega), ?_⟩))))
  show R (1533, [some (aR 50 0), some (aR 7 0), some (aR 8 0), some (aI i)], [aI (M 50 0 (i + 1).toNat), aR 7 0], M)
  refine hR _ (hR _ (hR _ (hR _ (hR _ ⟨(show 0 ≤ i + 2 ∧ i + 2 < M 49 0 0 by omega), ?_⟩))))
  show R (1538, [some (aR 50 0), some (aR 7 0), some (aR 8 0), some (aI i)], [aI (M 50 0 (i + 2).toNat), aI (M 50 0 (i + 1).toNat), aR 7 0], M)
  refine hR _ (hR _ (hR _ (hR _ (hR _ ⟨(show 0 ≤ i + 3 ∧ i + 3 < M 49 0 0 by omega), ?_⟩))))
  show R (1543, [some (aR 50 0), some (aR 7 0), some (aR 8 0), some (aI i)], [aI (M 50 0 (i + 3).toNat), aI (M 50 0 (i + 2).toNat), aI (M 50 0 (i + 1).toNat), aR 7 0], M)
  refine hR _ (pr_cell (M := M) (K := fun v M' => R (1546, [some (aR 50 0), some (aR 7 0), some (aR 8 0), some (aI i)], am_ps v [], M')) (by omega) hJ hW (hs _) (hs _) (hs _) ?_)
  intro x M1 hM h2
  obtain ⟨e49, e50⟩ := hM
  have f49 : M1 49 0 0 = M 49 0 0 := by rw [e49]
  rw [← e50] at h2
  have b1 := am_bm_in x
  show R (1546, [some (aR 50 0), some (aR 7 0), some (aR 8 0), some (aI i)], [aI x], M1)
  refine hC _ _ _ (am_bm x) _ _ (i3_bm x).symm ?_
  refine hR _ (?_)
  show R (1547, [some (aR 50 0), some (aR 7 0), some (aR 8 0), some (aI i)], [aR 8 0, aI (am_bm x)], M1)
  refine hR _ (hR _ (hR _ (hR _ (hR _ ⟨(show 0 ≤ i + 1 ∧ i + 1 < M1 49 0 0 by omega), ?_⟩))))
  show R (1552, [some (aR 50 0), some (aR 7 0), some (aR 8 0), some (aI i)], [aI (M1 50 0 (i + 1).toNat), aR 8 0, aI (am_bm x)], M1)
  refine hR _ (hR _ (hR _ (hR _ (hR _ ⟨(show 0 ≤ i + 2 ∧ i + 2 < M1 49 0 0 by omega), ?_⟩))))
  show R (1557, [some (aR 50 0), some (aR 7 0), some (aR 8 0), some (aI i)], [aI (M1 50 0 (i + 2).toNat), aI (M1 50 0 (i + 1).toNat), aR 8 0, aI (am_bm x)], M1)
  refine hR _ (hR _ (hR _ (hR _ (hR _ ⟨(show 0 ≤ i + 3 ∧ i + 3 < M1 49 0 0 by omega), ?_⟩))))
  show R (1562, [some (aR 50 0), some (aR 7 0), some (aR 8 0), some (aI i)], [aI (M1 50 0 (i + 3).toNat), aI (M1 50 0 (i + 2).toNat), aI (M1 50 0 (i + 1).toNat), aR 8 0, aI (am_bm x)], M1)
  refine hR _ (h2 _ (fun M2 hok => ?_))
  show R (1565, [some (aR 50 0), some (aR 7 0), some (aR 8 0), some (aI i)], [aI x, aI (am_bm x)], M2)
  refine hC _ _ _ (am_bm x) _ _ (i3_bm x).symm ?_
  exact hR _ (am_brt (rg := am_in (am_bm x) ∧ am_in (am_bm x)) (P := am_bm x = am_bm x) (A := R (1720, [some (aR 50 0), some (aR 7 0), some (aR 8 0), some (aI i)], [], M2)) (B := R (1568, [some (aR 50 0), some (aR 7 0), some (aR 8 0), some (aI i)], [], M2)) ⟨b1, b1⟩ rfl (hn M2 hok))
theorem lw_copy {d : Nat} (hd : 60 ≤ d) {K : am_K} {R : am_C → Prop} (hR : ∀ c, am_F true tb_f0 2 (am_Call true d) K R c → R c) (hC : am_cong R) (hL : am_congL R) {M : am_M} (hJ : jf_J M) (hW : jf_C M) {i : Int} (hi : 0 ≤ i) (hi2 : i + 7 ≤ M 49 0 0) (hs : ∀ j, am_in (M 50 0 j)) (hn : ∀ M2, pr_ok M M2 → R (1720, [some (aR 50 0), some (aR 7 0), some (aR 8 0), some (aI i)], [], M2)) : R (1570, [some (aR 50 0), some (aR 7 0), some (aR 8 0), some (aI i)], [], M) := by
  refine hR _ (?_)
  show R (1571, [some (aR 50 0), some (aR 7 0), some (aR 8 0), some (aI i)], [aR 7 0], M)
  refine hR _ (hR _ (hR _ (hR _ (hR _ ⟨(show 0 ≤ i + 1 ∧ i + 1 < M 49 0 0 by omega), ?_⟩))))
  show R (1576, [some (aR 50 0), some (aR 7 0), some (aR 8 0), some (aI i)], [aI (M 50 0 (i + 1).toNat), aR 7 0], M)
  refine hR _ (hR _ (hR _ (hR _ (hR _ ⟨(show 0 ≤ i + 2 ∧ i + 2 < M 49 0 0 by omega), ?_⟩))))
  show R (1581, [some (aR 50 0), some (aR 7 0), some (aR 8 0), some (aI i)], [aI (M 50 0 (i + 2).toNat), aI (M 50 0 (i + 1).toNat), aR 7 0], M)
  refine hR _ (hR _ (hR _ (hR _ (hR _ ⟨(show 0 ≤ i + 3 ∧ i + 3 < M 49 0 0 by omega), ?_⟩))))
  show R (1586, [some (aR 50 0), some (aR 7 0), some (aR 8 0), some (aI i)], [aI (M 50 0 (i + 3).toNat), aI (M 50 0 (i + 2).toNat), aI (M 50 0 (i + 1).toNat), aR 7 0], M)
  refine hR _ (hR _ (hR _ (hR _ (hR _ ⟨(show 0 ≤ i + 4 ∧ i + 4 < M 49 0 0 by omega), ?_⟩))))
  show R (1591, [some (aR 50 0), some (aR 7 0), some (aR 8 0), some (aI i)], [aI (M 50 0 (i + 4).toNat), aI (M 50 0 (i + 3).toNat), aI (M 50 0 (i + 2).toNat), aI (M 50 0 (i + 1).toNat), aR 7 0], M)
  refine hR _ (hR _ (hR _ (hR _ (hR _ ⟨(show 0 ≤ i + 5 ∧ i + 5 < M 49 0 0 by omega), ?_⟩))))
  show R (1596, [some (aR 50 0), some (aR 7 0), some (aR 8 0), some (aI i)], [aI (M 50 0 (i + 5).toNat), aI (M 50 0 (i + 4).toNat), aI (M 50 0 (i + 3).toNat), aI (M 50 0 (i + 2).toNat), aI (M 50 0 (i + 1).toNat), aR 7 0], M)
  refine hR _ (pr_copy (M := M) (K := fun v M' => R (1599, [some (aR 50 0), some (aR 7 0), some (aR 8 0), some (aI i)], am_ps v [], M')) (by omega) hJ hW (hs _) (hs _) (hs _) (hs _) (hs _) ?_)
  intro x M1 hM h2
  obtain ⟨e49, e50⟩ := hM
  have f49 : M1 49 0 0 = M 49 0 0 := by rw [e49]
  rw [← e50] at h2
  have b1 := am_bm_in x
  show R (1599, [some (aR 50 0), some (aR 7 0), some (aR 8 0), some (aI i)], [aI x], M1)
  refine hC _ _ _ (am_bm x) _ _ (i3_bm x).symm ?_
  refine hR _ (?_)
  show R (1600, [some (aR 50 0), some (aR 7 0), some (aR 8 0), some (aI i)], [aR 8 0, aI (am_bm x)], M1)
  refine hR _ (hR _ (hR _ (hR _ (hR _ ⟨(show 0 ≤ i + 1 ∧ i + 1 < M1 49 0 0 by omega), ?_⟩))))
  show R (1605, [some (aR 50 0), some (aR 7 0), some (aR 8 0), some (aI i)], [aI (M1 50 0 (i + 1).toNat), aR 8 0, aI (am_bm x)], M1)
  refine hR _ (hR _ (hR _ (hR _ (hR _ ⟨(show 0 ≤ i + 2 ∧ i + 2 < M1 49 0 0 by omega), ?_⟩))))
  show R (1610, [some (aR 50 0), some (aR 7 0), some (aR 8 0), some (aI i)], [aI (M1 50 0 (i + 2).toNat), aI (M1 50 0 (i + 1).toNat), aR 8 0, aI (am_bm x)], M1)
  refine hR _ (hR _ (hR _ (hR _ (hR _ ⟨(show 0 ≤ i + 3 ∧ i + 3 < M1 49 0 0 by omega), ?_⟩))))
  show R (1615, [some (aR 50 0), some (aR 7 0), some (aR 8 0), some (aI i)], [aI (M1 50 0 (i + 3).toNat), aI (M1 50 0 (i + 2).toNat), aI (M1 50 0 (i + 1).toNat), aR 8 0, aI (am_bm x)], M1)
  refine hR _ (hR _ (hR _ (hR _ (hR _ ⟨(show 0 ≤ i + 4 ∧ i + 4 < M1 49 0 0 by omega), ?_⟩))))
  show R (1620, [some (aR 50 0), some (aR 7 0), some (aR 8 0), some (aI i)], [aI (M1 50 0 (i + 4).toNat), aI (M1 50 0 (i + 3).toNat), aI (M1 50 0 (i + 2).toNat), aI (M1 50 0 (i + 1).toNat), aR 8 0, aI (am_bm x)], M1)
  refine hR _ (hR _ (hR _ (hR _ (hR _ ⟨(show 0 ≤ i + 5 ∧ i + 5 < M1 49 0 0 by omega), ?_⟩))))
  show R (1625, [some (aR 50 0), some (aR 7 0), some (aR 8 0), some (aI i)], [aI (M1 50 0 (i + 5).toNat), aI (M1 50 0 (i + 4).toNat), aI (M1 50 0 (i + 3).toNat), aI (M1 50 0 (i + 2).toNat), aI (M1 50 0 (i + 1).toNat), aR 8 0, aI (am_bm x)], M1)
  refine hR _ (h2 _ (fun M2 hok => ?_))
  show R (1628, [some (aR 50 0), some (aR 7 0), some (aR 8 0), some (aI i)], [aI x, aI (am_bm x)], M2)
  refine hC _ _ _ (am_bm x) _ _ (i3_bm x).symm ?_
  exact hR _ (am_brt (rg := am_in (am_bm x) ∧ am_in (am_bm x)) (P := am_bm x = am_bm x) (A := R (1720, [some (aR 50 0), some (aR 7 0), some (aR 8 0), some (aI i)], [], M2)) (B := R (1631, [some (aR 50 0), some (aR 7 0), some (aR 8 0), some (aI i)], [], M2)) ⟨b1, b1⟩ rfl (hn M2 hok))
theorem lw_handsBy {d : Nat} (hd : 60 ≤ d) {K : am_K} {R : am_C → Prop} (hR : ∀ c, am_F true tb_f0 2 (am_Call true d) K R c → R c) (hC : am_cong R) (hL : am_congL R) {M : am_M} (hJ : jf_J M) (hW : jf_C M) {i : Int} (hi : 0 ≤ i) (hi2 : i + 7 ≤ M 49 0 0) (hs : ∀ j, am_in (M 50 0 j)) (hn : ∀ M2, pr_ok M M2 → R (1720, [some (aR 50 0), some (aR 7 0), some (aR 8 0), some (aI i)], [], M2)) : R (1633, [some (aR 50 0), some (aR 7 0), some (aR 8 0), some (aI i)], [], M) := by
  refine hR _ (?_)
  show R (1634, [some (aR 50 0), some (aR 7 0), some (aR 8 0), some (aI i)], [aR 7 0], M)
  refine hR _ (hR _ (hR _ (hR _ (hR _ ⟨(show 0 ≤ i + 1 ∧ i + 1 < M 49 0 0 by omega), ?_⟩))))
  show R (1639, [some (aR 50 0), some (aR 7 0), some (aR 8 0), some (aI i)], [aI (M 50 0 (i + 1).toNat), aR 7 0], M)
  refine hR _ (hR _ (hR _ (hR _ (hR _ ⟨(show 0 ≤ i + 2 ∧ i + 2 < M 49 0 0 by omega), ?_⟩))))
  show R (1644, [some (aR 50 0), some (aR 7 0), some (aR 8 0), some (aI i)], [aI (M 50 0 (i + 2).toNat), aI (M 50 0 (i + 1).toNat), aR 7 0], M)
  refine hR _ (hR _ (hR _ (hR _ (hR _ ⟨(show 0 ≤ i + 3 ∧ i + 3 < M 49 0 0 by omega), ?_⟩))))
  show R (1649, [some (aR 50 0), some (aR 7 0), some (aR 8 0), some (aI i)], [aI (M 50 0 (i + 3).toNat), aI (M 50 0 (i + 2).toNat), aI (M 50 0 (i + 1).toNat), aR 7 0], M)
  refine hR _ (hR _ (hR _ (hR _ (hR _ ⟨(show 0 ≤ i + 4 ∧ i + 4 < M 49 0 0 by omega), ?_⟩))))
  show R (1654, [some (aR 50 0), some (aR 7 0), some (aR 8 0), some (aI i)], [aI (M 50 0 (i + 4).toNat), aI (M 50 0 (i + 3).toNat), aI (M 50 0 (i + 2).toNat), aI (M 50 0 (i + 1).toNat), aR 7 0], M)
  refine hR _ (pr_handsBy (M := M) (K := fun v M' => R (1657, [some (aR 50 0), some (aR 7 0), some (aR 8 0), some (aI i)], am_ps v [], M')) (by omega) hJ hW (hs _) (hs _) (hs _) (hs _) ?_)
  intro x M1 hM h2
  obtain ⟨e49, e50⟩ := hM
  have f49 : M1 49 0 0 = M 49 0 0 := by rw [e49]
  rw [← e50] at h2
  have b1 := am_bm_in x
  show R (1657, [some (aR 50 0), some (aR 7 0), some (aR 8 0), some (aI i)], [aI x], M1)
  refine hC _ _ _ (am_bm x) _ _ (i3_bm x).symm ?_
  refine hR _ (?_)
  show R (1658, [some (aR 50 0), some (aR 7 0), some (aR 8 0), some (aI i)], [aR 8 0, aI (am_bm x)], M1)
  refine hR _ (hR _ (hR _ (hR _ (hR _ ⟨(show 0 ≤ i + 1 ∧ i + 1 < M1 49 0 0 by omega), ?_⟩))))
  show R (1663, [some (aR 50 0), some (aR 7 0), some (aR 8 0), some (aI i)], [aI (M1 50 0 (i + 1).toNat), aR 8 0, aI (am_bm x)], M1)
  refine hR _ (hR _ (hR _ (hR _ (hR _ ⟨(show 0 ≤ i + 2 ∧ i + 2 < M1 49 0 0 by omega), ?_⟩))))
  show R (1668, [some (aR 50 0), some (aR 7 0), some (aR 8 0), some (aI i)], [aI (M1 50 0 (i + 2).toNat), aI (M1 50 0 (i + 1).toNat), aR 8 0, aI (am_bm x)], M1)
  refine hR _ (hR _ (hR _ (hR _ (hR _ ⟨(show 0 ≤ i + 3 ∧ i + 3 < M1 49 0 0 by omega), ?_⟩))))
  show R (1673, [some (aR 50 0), some (aR 7 0), some (aR 8 0), some (aI i)], [aI (M1 50 0 (i + 3).toNat), aI (M1 50 0 (i + 2).toNat), aI (M1 50 0 (i + 1).toNat), aR 8 0, aI (am_bm x)], M1)
  refine hR _ (hR _ (hR _ (hR _ (hR _ ⟨(show 0 ≤ i + 4 ∧ i + 4 < M1 49 0 0 by omega), ?_⟩))))
  show R (1678, [some (aR 50 0), some (aR 7 0), some (aR 8 0), some (aI i)], [aI (M1 50 0 (i + 4).toNat), aI (M1 50 0 (i + 3).toNat), aI (M1 50 0 (i + 2).toNat), aI (M1 50 0 (i + 1).toNat), aR 8 0, aI (am_bm x)], M1)
  refine hR _ (h2 _ (fun M2 hok => ?_))
  show R (1681, [some (aR 50 0), some (aR 7 0), some (aR 8 0), some (aI i)], [aI x, aI (am_bm x)], M2)
  refine hC _ _ _ (am_bm x) _ _ (i3_bm x).symm ?_
  exact hR _ (am_brt (rg := am_in (am_bm x) ∧ am_in (am_bm x)) (P := am_bm x = am_bm x) (A := R (1720, [some (aR 50 0), some (aR 7 0), some (aR 8 0), some (aI i)], [], M2)) (B := R (1684, [some (aR 50 0), some (aR 7 0), some (aR 8 0), some (aI i)], [], M2)) ⟨b1, b1⟩ rfl (hn M2 hok))
theorem lw_taken {d : Nat} (hd : 60 ≤ d) {K : am_K} {R : am_C → Prop} (hR : ∀ c, am_F true tb_f0 2 (am_Call true d) K R c → R c) (hC : am_cong R) (hL : am_congL R) {M : am_M} (hJ : jf_J M) (hW : jf_C M) {i : Int} (hi : 0 ≤ i) (hi2 : i + 7 ≤ M 49 0 0) (hs : ∀ j, am_in (M 50 0 j)) (hn : ∀ M2, pr_ok M M2 → R (1720, [some (aR 50 0), some (aR 7 0), some (aR 8 0), some (aI i)], [], M2)) : R (1686, [some (aR 50 0), some (aR 7 0), some (aR 8 0), some (aI i)], [], M) := by
  refine hR _ (?_)
  show R (1687, [some (aR 50 0), some (aR 7 0), some (aR 8 0), some (aI i)], [aR 7 0], M)
  refine hR _ (hR _ (hR _ (hR _ (hR _ ⟨(show 0 ≤ i + 1 ∧ i + 1 < M 49 0 0 by omega), ?_⟩))))
  show R (1692, [some (aR 50 0), some (aR 7 0), some (aR 8 0), some (aI i)], [aI (M 50 0 (i + 1).toNat), aR 7 0], M)
  refine hR _ (hR _ (hR _ (hR _ (hR _ ⟨(show 0 ≤ i + 2 ∧ i + 2 < M 49 0 0 by omega), ?_⟩))))
  show R (1697, [some (aR 50 0), some (aR 7 0), some (aR 8 0), some (aI i)], [aI (M 50 0 (i + 2).toNat), aI (M 50 0 (i + 1).toNat), aR 7 0], M)
  refine hR _ (pr_taken (M := M) (K := fun v M' => R (1700, [some (aR 50 0), some (aR 7 0), some (aR 8 0), some (aI i)], am_ps v [], M')) (by omega) hJ hW (hs _) (hs _) ?_)
  intro x M1 hM h2
  obtain ⟨e49, e50⟩ := hM
  have f49 : M1 49 0 0 = M 49 0 0 := by rw [e49]
  rw [← e50] at h2
  have b1 := am_bl_in x
  show R (1700, [some (aR 50 0), some (aR 7 0), some (aR 8 0), some (aI i)], [aL x], M1)
  refine hL _ _ _ (am_bl x) _ _ (i6_bl x).symm ?_
  refine hR _ (?_)
  show R (1701, [some (aR 50 0), some (aR 7 0), some (aR 8 0), some (aI i)], [aR 8 0, aL (am_bl x)], M1)
  refine hR _ (hR _ (hR _ (hR _ (hR _ ⟨(show 0 ≤ i + 1 ∧ i + 1 < M1 49 0 0 by omega), ?_⟩))))
  show R (1706, [some (aR 50 0), some (aR 7 0), some (aR 8 0), some (aI i)], [aI (M1 50 0 (i + 1).toNat), aR 8 0, aL (am_bl x)], M1)
  refine hR _ (hR _ (hR _ (hR _ (hR _ ⟨(show 0 ≤ i + 2 ∧ i + 2 < M1 49 0 0 by omega), ?_⟩))))
  show R (1711, [some (aR 50 0), some (aR 7 0), some (aR 8 0), some (aI i)], [aI (M1 50 0 (i + 2).toNat), aI (M1 50 0 (i + 1).toNat), aR 8 0, aL (am_bl x)], M1)
  refine hR _ (h2 _ (fun M2 hok => ?_))
  show R (1714, [some (aR 50 0), some (aR 7 0), some (aR 8 0), some (aI i)], [aL x, aL (am_bl x)], M2)
  refine hL _ _ _ (am_bl x) _ _ (i6_bl x).symm ?_
  refine hR _ ⟨⟨b1, b1⟩, fun h => absurd h (by omega), fun _ => ?_, fun h => absurd h (by omega)⟩
  exact hR _ (am_brt (rg := am_in 0) (P := (0 : Int) = 0) (A := R (1720, [some (aR 50 0), some (aR 7 0), some (aR 8 0), some (aI i)], [], M2)) (B := R (1718, [some (aR 50 0), some (aR 7 0), some (aR 8 0), some (aI i)], [], M2)) (by omega) rfl (hn M2 hok))
