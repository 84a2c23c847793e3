/-! wb -/
/-! THE REFERENCE: film, copy, handsBy -/
abbrev mo_S61 : List Nat := [31, 32, 33, 37, 38, 39, 40, 41, 454, 455]
def mo_h1 (M : am_M) (km ah ch : Int) : am_M := if ((0 ≤ km ∧ km ≤ 59) ∧ (0 ≤ ah ∧ ah ≤ 99) ∧ 0 ≤ ch ∧ ch ≤ 500) ∧ (M 421 0 0).toNat < 5 then am_wr (am_wr (am_wr (am_wr (am_wr M 23 0 (M 421 0 0).toNat (Int.tdiv km 10)) 24 0 (M 421 0 0).toNat (Int.tmod km 10)) 25 0 (2 * (M 421 0 0).toNat) ah) 25 0 (2 * (M 421 0 0).toNat + 1) ch) 421 0 0 (M 421 0 0 + 1) else M
def mo_hs (M : am_M) (b : Nat) : Nat → am_M
  | 0 => M
  | i + 1 => mo_h1 (mo_hs M b i) (M 33 0 (b + 3 * i)) (M 33 0 (b + 3 * i + 1)) (M 33 0 (b + 3 * i + 2))
def mo_hc (M : am_M) (b : Nat) : Nat → Int
  | 0 => 0
  | i + 1 => if ((0 ≤ M 33 0 (b + 3 * i) ∧ M 33 0 (b + 3 * i) ≤ 59) ∧ (0 ≤ M 33 0 (b + 3 * i + 1) ∧ M 33 0 (b + 3 * i + 1) ≤ 99) ∧ 0 ≤ M 33 0 (b + 3 * i + 2) ∧ M 33 0 (b + 3 * i + 2) ≤ 500) ∧ (mo_hs M b i 421 0 0).toNat < 5 then mo_hc M b i + 1 else mo_hc M b i
theorem mo_h1_v {M : am_M} {km ah ch : Int} {v : Nat} (h : am_el [23, 24, 25, 421] v = false) : mo_h1 M km ah ch v = M v := by
  unfold mo_h1
  split
  · exact (((((am_ag.rf (S := [23, 24, 25, 421])).wr rfl).wr rfl).wr rfl).wr rfl).wr rfl v h
  · rfl
theorem mo_hs_v {M : am_M} {b v : Nat} (h : am_el [23, 24, 25, 421] v = false) : ∀ i, mo_hs M b i v = M v
  | 0 => rfl
  | i + 1 => (mo_h1_v h).trans (mo_hs_v h i)
theorem mo_hs_n {M : am_M} {b : Nat} (h : 0 ≤ M 421 0 0 ∧ M 421 0 0 ≤ 5) : ∀ i, 0 ≤ mo_hs M b i 421 0 0 ∧ mo_hs M b i 421 0 0 ≤ 5
  | 0 => h
  | i + 1 => by
    have ih := mo_hs_n (b := b) h i
    show 0 ≤ mo_h1 (mo_hs M b i) _ _ _ 421 0 0 ∧ mo_h1 (mo_hs M b i) _ _ _ 421 0 0 ≤ 5
    unfold mo_h1
    split
    · show 0 ≤ mo_hs M b i 421 0 0 + 1 ∧ mo_hs M b i 421 0 0 + 1 ≤ 5
      omega
    · exact ih
theorem mo_hc_b (M : am_M) (b : Nat) : ∀ i : Nat, 0 ≤ mo_hc M b i ∧ mo_hc M b i ≤ i
  | 0 => by
    unfold mo_hc
    omega
  | i + 1 => by
    have ih := mo_hc_b M b i
    unfold mo_hc
    split <;> omega

set_option maxHeartbeats 2000000 in
theorem sm_film {d : Nat} (hd : 9 ≤ d) {sa h : Int} {g0 : am_M} {M : am_M} {K : am_K} (hJ : jf_J M) (hW : jf_C M) (ha_s : am_in sa) (ha_h : am_in h) (hK1 : ∀ s k : Nat, sa = s → h = k → s < 4 → k < M 227 0 0 → ∀ g : am_M, g 31 0 s = 2 → g 32 0 s = ((jf_fl (jf_px M k) 5).length : Int) → (∀ j, j < 40 → g 33 0 (40 * s + j) = (jf_fl (jf_px M k) 5).getD j 0) → (∀ q, q ≠ s → g 31 0 q = M 31 0 q ∧ g 32 0 q = M 32 0 q) → (∀ j, j < 40 * s ∨ 40 * s + 40 ≤ j → g 33 0 j = M 33 0 j) → K (some (aI ((jf_fl (jf_px M k) 5).length : Int))) (am_mix mo_S61 g (am_mix [12, 13, 14, 263, 264, 265, 266, 346, 17, 19, 180, 181, 21] g0 M))) (hK0 : ¬ ((0 ≤ sa ∧ sa < 4) ∧ 0 ≤ h ∧ h < M 227 0 0) → K (some (aI (if 0 ≤ sa ∧ sa < 4 then -5 else -2))) (am_mix [12, 13, 14, 263, 264, 265, 266, 346, 17, 19, 180, 181, 21] g0 M)) : am_Call true d 191 [aR 8 0, aI sa, aI h] (am_mix [12, 13, 14, 263, 264, 265, 266, 346, 17, 19, 180, 181, 21] g0 M) K := by
  obtain ⟨d, rfl⟩ : ∃ e, d = e + 1 := ⟨d - 1, by omega⟩
  refine ⟨rfl, fun R hR hC => ?_⟩
  replace hR : ∀ c, am_F true tb_f191 1 (am_Call true d) K R c → R c := hR
  have hn := hJ.1.1.2.2.2.2.2.2.2.1
  have hl0 := hJ.1.1.2.2.2.2.2.2.2.2
  have htc := hJ.2.2.1.1
  have hlt : 0 ≤ M 228 0 0 ∧ M 228 0 0 < 6 := by omega
  have hmk := hJ.1.1.1
  have hdr := hJ.1.1.2.1
  have hpr := hJ.1.1.2.2.1
  have hfu := hJ.1.1.2.2.2.1
  have hn' : 0 ≤ M 421 0 0 ∧ M 421 0 0 ≤ 5 := by rw [hW.1.2.1.1]; exact hn
  have h421 : M 421 0 0 = M 227 0 0 := hW.1.2.1.1
  show R (0, [some (aR 8 0), some (aI sa), some (aI h), none, none], [], (am_mix [12, 13, 14, 263, 264, 265, 266, 346, 17, 19, 180, 181, 21] g0 M))
  rcases jf_hd (M := M) (h := h) hn with ⟨k, rfl, hk5, hk⟩ | hno
  · obtain ⟨r, hrr⟩ : ∃ r, r = (M 228 0 0).toNat := ⟨_, rfl⟩
    have hr : M 431 0 0 = (r : Int) := by rw [hW.1.2.1.2.2.1]; omega
    have hr6 : r < 6 := by omega
    have hwt : mo_wt M r := (hW.2.1.2.2 r (by omega)).1
    obtain ⟨p, hpp⟩ : ∃ p, p = jf_px M k := ⟨_, rfl⟩
    have hp : mo_p M k r p := by rw [hpp, hrr]; exact jf_C.p hJ hW hk (by omega)
    have hok : jf_ok p := by rw [hpp]; exact hJ.px hk
    have hpm : p.mk = M 22 0 0 := by rw [hpp]; exact hW.1.1.1.symm
    have hps : p.st = 0 := by rw [hpp]
    have hpb := jf_P_b hok
    have hA := jf_A_b hok
    show R (0, [some (aR 8 0), some (aI sa), some (aI ((k : Nat) : Int)), none, none], [], am_mix [12, 13, 14, 263, 264, 265, 266, 346, 17, 19, 180, 181, 21] g0 M)
    refine hR _ (?_)
    show R (1, [some (aR 8 0), some (aI sa), some (aI ((k : Nat) : Int)), none, none], [aI sa], am_mix [12, 13, 14, 263, 264, 265, 266, 346, 17, 19, 180, 181, 21] g0 M)
    refine hR _ (sm_isSheet0 (by omega) (by omega) (fun h1 => ?_) (fun h1 => ?_))
    · show R (4, [some (aR 8 0), some (aI sa), some (aI ((k : Nat) : Int)), none, none], [aI 1], am_mix [12, 13, 14, 263, 264, 265, 266, 346, 17, 19, 180, 181, 21] g0 M)
      refine hR _ (am_brt (rg := am_in 1) (P := (1 : Int) ≠ 0) (A := R (10, [some (aR 8 0), some (aI sa), some (aI ((k : Nat) : Int)), none, none], [], am_mix [12, 13, 14, 263, 264, 265, 266, 346, 17, 19, 180, 181, 21] g0 M)) (B := R (7, [some (aR 8 0), some (aI sa), some (aI ((k : Nat) : Int)), none, none], [], am_mix [12, 13, 14, 263, 264, 265, 266, 346, 17, 19, 180, 181, 21] g0 M)) (by omega) (by omega) ?_)
      show R (10, [some (aR 8 0), some (aI sa), some (aI ((k : Nat) : Int)), none, none], [], am_mix [12, 13, 14, 263, 264, 265, 266, 346, 17, 19, 180, 181, 21] g0 M)
      refine hR _ (hR _ (?_))
      show R (12, [some (aR 8 0), some (aI sa), some (aI ((k : Nat) : Int)), none, none], [aI ((k : Nat) : Int), aR 8 0], am_mix [12, 13, 14, 263, 264, 265, 266, 346, 17, 19, 180, 181, 21] g0 M)
      refine hR _ (sm_isHand (by omega) (show 0 ≤ M 421 0 0 ∧ M 421 0 0 ≤ 5 from hn') (by omega) (fun _ => ?_) (fun hz => absurd (show 0 ≤ ((k : Nat) : Int) ∧ ((k : Nat) : Int) < M 421 0 0 by omega) hz))
      show R (15, [some (aR 8 0), some (aI sa), some (aI ((k : Nat) : Int)), none, none], [aI 1], am_mix [12, 13, 14, 263, 264, 265, 266, 346, 17, 19, 180, 181, 21] g0 M)
      refine hR _ (am_brt (rg := am_in 1) (P := (1 : Int) ≠ 0) (A := R (21, [some (aR 8 0), some (aI sa), some (aI ((k : Nat) : Int)), none, none], [], am_mix [12, 13, 14, 263, 264, 265, 266, 346, 17, 19, 180, 181, 21] g0 M)) (B := R (18, [some (aR 8 0), some (aI sa), some (aI ((k : Nat) : Int)), none, none], [], am_mix [12, 13, 14, 263, 264, 265, 266, 346, 17, 19, 180, 181, 21] g0 M)) (by omega) (by omega) ?_)
      show R (21, [some (aR 8 0), some (aI sa), some (aI ((k : Nat) : Int)), none, none], [], am_mix [12, 13, 14, 263, 264, 265, 266, 346, 17, 19, 180, 181, 21] g0 M)
      obtain ⟨s, rfl, hs4⟩ : ∃ s : Nat, sa = (s : Int) ∧ s < 4 := ⟨sa.toNat, by omega, by omega⟩
      have key2 : ∀ (f a : Nat) (x : Int) (g : am_M), x = (a : Int) → a + f = 5 → mo_th (am_mix mo_S61 g (am_mix [12, 13, 14, 263, 264, 265, 266, 346, 17, 19, 180, 181, 21] g0 M)) p → (∀ j, j < 40 → g 33 0 (40 * s + j) = (jf_fl p a).getD j 0) → (∀ q, q ≠ s → g 31 0 q = M 31 0 q ∧ g 32 0 q = M 32 0 q) → (∀ j, j < 40 * s ∨ 40 * s + 40 ≤ j → g 33 0 j = M 33 0 j) → R (60, [some (aR 8 0), some (aI ((s : Nat) : Int)), some (aI ((k : Nat) : Int)), some (aI ((jf_fl p a).length : Int)), some (aI x)], [], am_mix mo_S61 g (am_mix [12, 13, 14, 263, 264, 265, 266, 346, 17, 19, 180, 181, 21] g0 M)) := by
        intro f
        induction f with
        | zero =>
          intro a x g hx hin hth hcell ho1 ho2
          subst hx
          have hfb := jf_fl_b p a
          refine hR _ (hR _ (hR _ (am_brt (rg := am_in ((a : Nat) : Int) ∧ am_in 5) (P := 5 ≤ ((a : Nat) : Int)) (A := R (103, [some (aR 8 0), some (aI ((s : Nat) : Int)), some (aI ((k : Nat) : Int)), some (aI ((jf_fl p a).length : Int)), some (aI ((a : Nat) : Int))], [], am_mix mo_S61 g (am_mix [12, 13, 14, 263, 264, 265, 266, 346, 17, 19, 180, 181, 21] g0 M))) (B := R (66, [some (aR 8 0), some (aI ((s : Nat) : Int)), some (aI ((k : Nat) : Int)), some (aI ((jf_fl p a).length : Int)), some (aI ((a : Nat) : Int))], [], am_mix mo_S61 g (am_mix [12, 13, 14, 263, 264, 265, 266, 346, 17, 19, 180, 181, 21] g0 M))) (by omega) (by omega) ?_)))
          show R (103, [some (aR 8 0), some (aI ((s : Nat) : Int)), some (aI ((k : Nat) : Int)), some (aI ((jf_fl p a).length : Int)), some (aI ((a : Nat) : Int))], [], am_mix mo_S61 g (am_mix [12, 13, 14, 263, 264, 265, 266, 346, 17, 19, 180, 181, 21] g0 M))
          refine hR _ (hR _ (hR _ (hR _ (?_))))
          show R (109, [some (aR 8 0), some (aI ((s : Nat) : Int)), some (aI ((k : Nat) : Int)), some (aI ((jf_fl p a).length : Int)), some (aI ((a : Nat) : Int))], [aI 2, aI ((s : Nat) : Int), aR 31 0], am_mix mo_S61 g (am_mix [12, 13, 14, 263, 264, 265, 266, 346, 17, 19, 180, 181, 21] g0 M))
          refine hR _ ⟨(show 0 ≤ (((s : Nat) : Int) : Int) ∧ (((s : Nat) : Int) : Int) < 4 from (by omega)), ?_⟩
          show R (110, [some (aR 8 0), some (aI ((s : Nat) : Int)), some (aI ((k : Nat) : Int)), some (aI ((jf_fl p a).length : Int)), some (aI ((a : Nat) : Int))], [], am_wr (am_mix mo_S61 g (am_mix [12, 13, 14, 263, 264, 265, 266, 346, 17, 19, 180, 181, 21] g0 M)) 31 0 s 2)
          refine hR _ (hR _ (hR _ (hR _ (?_))))
          show R (116, [some (aR 8 0), some (aI ((s : Nat) : Int)), some (aI ((k : Nat) : Int)), some (aI ((jf_fl p a).length : Int)), some (aI ((a : Nat) : Int))], [aI ((jf_fl p a).length : Int), aI ((s : Nat) : Int), aR 32 0], am_wr (am_mix mo_S61 g (am_mix [12, 13, 14, 263, 264, 265, 266, 346, 17, 19, 180, 181, 21] g0 M)) 31 0 s 2)
          refine hR _ ⟨(show 0 ≤ (((s : Nat) : Int) : Int) ∧ (((s : Nat) : Int) : Int) < 4 from (by omega)), ?_⟩
          show R (117, [some (aR 8 0), some (aI ((s : Nat) : Int)), some (aI ((k : Nat) : Int)), some (aI ((jf_fl p a).length : Int)), some (aI ((a : Nat) : Int))], [], am_wr (am_wr (am_mix mo_S61 g (am_mix [12, 13, 14, 263, 264, 265, 266, 346, 17, 19, 180, 181, 21] g0 M)) 31 0 s 2) 32 0 s ((jf_fl p a).length : Int))
          refine hR _ (?_)
          show R (118, [some (aR 8 0), some (aI ((s : Nat) : Int)), some (aI ((k : Nat) : Int)), some (aI ((jf_fl p a).length : Int)), some (aI ((a : Nat) : Int))], [aI ((jf_fl p a).length : Int)], am_wr (am_wr (am_mix mo_S61 g (am_mix [12, 13, 14, 263, 264, 265, 266, 346, 17, 19, 180, 181, 21] g0 M)) 31 0 s 2) 32 0 s ((jf_fl p a).length : Int))
          refine hR _ (show K (some (aI ((jf_fl p a).length : Int))) (am_wr (am_wr (am_mix mo_S61 g (am_mix [12, 13, 14, 263, 264, 265, 266, 346, 17, 19, 180, 181, 21] g0 M)) 31 0 s 2) 32 0 s ((jf_fl p a).length : Int)) from ?_)
          have ha5 : a = 5 := by omega
          subst ha5
          refine am_fin (S := mo_S61) (M := (am_mix [12, 13, 14, 263, 264, 265, 266, 346, 17, 19, 180, 181, 21] g0 M)) (F := fun g => g 31 0 s = 2 ∧ g 32 0 s = ((jf_fl p 5).length : Int) ∧ (∀ j, j < 40 → g 33 0 (40 * s + j) = (jf_fl p 5).getD j 0) ∧ (∀ q, q ≠ s → g 31 0 q = M 31 0 q ∧ g 32 0 q = M 32 0 q) ∧ (∀ j, j < 40 * s ∨ 40 * s + 40 ≤ j → g 33 0 j = M 33 0 j)) (((am_ag.rf.mix rfl).wr rfl).wr rfl) ⟨(am_wr_ne (Or.inl (by decide))).trans am_wr_eq, am_wr_eq, hcell, fun q hq => ⟨((am_wr_ne (Or.inl (by decide))).trans (am_wr_ne (Or.inr (Or.inr hq)))).trans (ho1 q hq).1, ((am_wr_ne (Or.inr (Or.inr hq))).trans (am_wr_ne (Or.inl (by decide)))).trans (ho1 q hq).2⟩, ho2⟩ (fun g hg => ?_)
          rw [hpp] at hg ⊢
          exact hK1 s k rfl rfl hs4 hk5 g hg.1 hg.2.1 hg.2.2.1 hg.2.2.2.1 hg.2.2.2.2
        | succ f ih =>
          intro a x g hx hin hth hcell ho1 ho2
          subst hx
          have hfb := jf_fl_b p a
          have hthr := hth.1
          have h1 := jf_O_b hok (a := a) (by omega)
          have h2 := jf_E_b hok (a := a) (by omega)
          refine hR _ (hR _ (hR _ (am_brf (rg := am_in ((a : Nat) : Int) ∧ am_in 5) (P := 5 ≤ ((a : Nat) : Int)) (A := R (103, [some (aR 8 0), some (aI ((s : Nat) : Int)), some (aI ((k : Nat) : Int)), some (aI ((jf_fl p a).length : Int)), some (aI ((a : Nat) : Int))], [], am_mix mo_S61 g (am_mix [12, 13, 14, 263, 264, 265, 266, 346, 17, 19, 180, 181, 21] g0 M))) (B := R (66, [some (aR 8 0), some (aI ((s : Nat) : Int)), some (aI ((k : Nat) : Int)), some (aI ((jf_fl p a).length : Int)), some (aI ((a : Nat) : Int))], [], am_mix mo_S61 g (am_mix [12, 13, 14, 263, 264, 265, 266, 346, 17, 19, 180, 181, 21] g0 M))) (by omega) (by omega) ?_)))
          show R (66, [some (aR 8 0), some (aI ((s : Nat) : Int)), some (aI ((k : Nat) : Int)), some (aI ((jf_fl p a).length : Int)), some (aI ((a : Nat) : Int))], [], am_mix mo_S61 g (am_mix [12, 13, 14, 263, 264, 265, 266, 346, 17, 19, 180, 181, 21] g0 M))
          refine hR _ (hR _ (hR _ (?_)))
          show R (72, [some (aR 8 0), some (aI ((s : Nat) : Int)), some (aI ((k : Nat) : Int)), some (aI ((jf_fl p a).length : Int)), some (aI ((a : Nat) : Int))], [aI ((a : Nat) : Int), aR 41 0], am_mix mo_S61 g (am_mix [12, 13, 14, 263, 264, 265, 266, 346, 17, 19, 180, 181, 21] g0 M))
          refine hR _ ⟨(show 0 ≤ (((a : Nat) : Int) : Int) ∧ (((a : Nat) : Int) : Int) < 5 from (by omega)), ?_⟩
          show R (73, [some (aR 8 0), some (aI ((s : Nat) : Int)), some (aI ((k : Nat) : Int)), some (aI ((jf_fl p a).length : Int)), some (aI ((a : Nat) : Int))], [aI (g 41 0 a)], am_mix mo_S61 g (am_mix [12, 13, 14, 263, 264, 265, 266, 346, 17, 19, 180, 181, 21] g0 M))
          rw [(show g 41 0 a = jf_O p a from (hthr a (by omega)).2.2)]
          show R (73, [some (aR 8 0), some (aI ((s : Nat) : Int)), some (aI ((k : Nat) : Int)), some (aI ((jf_fl p a).length : Int)), some (aI ((a : Nat) : Int))], [aI (jf_O p a)], am_mix mo_S61 g (am_mix [12, 13, 14, 263, 264, 265, 266, 346, 17, 19, 180, 181, 21] g0 M))
          refine hR _ (am_brc (rg := am_in (jf_O p a)) (P := (jf_O p a) ≤ 0) (A := R (97, [some (aR 8 0), some (aI ((s : Nat) : Int)), some (aI ((k : Nat) : Int)), some (aI ((jf_fl p a).length : Int)), some (aI ((a : Nat) : Int))], [], am_mix mo_S61 g (am_mix [12, 13, 14, 263, 264, 265, 266, 346, 17, 19, 180, 181, 21] g0 M))) (B := R (76, [some (aR 8 0), some (aI ((s : Nat) : Int)), some (aI ((k : Nat) : Int)), some (aI ((jf_fl p a).length : Int)), some (aI ((a : Nat) : Int))], [], am_mix mo_S61 g (am_mix [12, 13, 14, 263, 264, 265, 266, 346, 17, 19, 180, 181, 21] g0 M))) (by omega) (fun c73 => ?_) (fun c73 => ?_))
          · refine hR _ (hR _ (?_))
            show R (60, [some (aR 8 0), some (aI ((s : Nat) : Int)), some (aI ((k : Nat) : Int)), some (aI ((jf_fl p a).length : Int)), some (aI (((a : Nat) : Int) + 1))], [], am_mix mo_S61 g (am_mix [12, 13, 14, 263, 264, 265, 266, 346, 17, 19, 180, 181, 21] g0 M))
            rw [← jf_fl_0 (p := p) (a := a) (by omega)] at hcell ⊢
            exact ih (a + 1) _ _ (by omega) (by omega) hth hcell ho1 ho2
          · refine hR _ (hR _ (hR _ (hR _ (hR _ (hR _ (hR _ (hR _ (hR _ (hR _ (?_))))))))))
            show R (92, [some (aR 8 0), some (aI ((s : Nat) : Int)), some (aI ((k : Nat) : Int)), some (aI ((jf_fl p a).length : Int)), some (aI ((a : Nat) : Int))], [aI ((a : Nat) : Int), aR 39 0, aI ((40 * ((s : Nat) : Int)) + ((jf_fl p a).length : Int)), aR 33 0], am_mix mo_S61 g (am_mix [12, 13, 14, 263, 264, 265, 266, 346, 17, 19, 180, 181, 21] g0 M))
            refine hR _ ⟨(show 0 ≤ (((a : Nat) : Int) : Int) ∧ (((a : Nat) : Int) : Int) < 5 from (by omega)), ?_⟩
            show R (93, [some (aR 8 0), some (aI ((s : Nat) : Int)), some (aI ((k : Nat) : Int)), some (aI ((jf_fl p a).length : Int)), some (aI ((a : Nat) : Int))], [aI (g 39 0 a), aI ((40 * ((s : Nat) : Int)) + ((jf_fl p a).length : Int)), aR 33 0], am_mix mo_S61 g (am_mix [12, 13, 14, 263, 264, 265, 266, 346, 17, 19, 180, 181, 21] g0 M))
            rw [(show g 39 0 a = jf_E p a from (hthr a (by omega)).1)]
            show R (93, [some (aR 8 0), some (aI ((s : Nat) : Int)), some (aI ((k : Nat) : Int)), some (aI ((jf_fl p a).length : Int)), some (aI ((a : Nat) : Int))], [aI (jf_E p a), aI ((40 * ((s : Nat) : Int)) + ((jf_fl p a).length : Int)), aR 33 0], am_mix mo_S61 g (am_mix [12, 13, 14, 263, 264, 265, 266, 346, 17, 19, 180, 181, 21] g0 M))
            refine hR _ ⟨(show 0 ≤ (((40 * ((s : Nat) : Int)) + ((jf_fl p a).length : Int)) : Int) ∧ (((40 * ((s : Nat) : Int)) + ((jf_fl p a).length : Int)) : Int) < 160 from (by omega)), ?_⟩
            show R (94, [some (aR 8 0), some (aI ((s : Nat) : Int)), some (aI ((k : Nat) : Int)), some (aI ((jf_fl p a).length : Int)), some (aI ((a : Nat) : Int))], [], am_wr (am_mix mo_S61 g (am_mix [12, 13, 14, 263, 264, 265, 266, 346, 17, 19, 180, 181, 21] g0 M)) 33 0 ((((40 * ((s : Nat) : Int)) + ((jf_fl p a).length : Int))).toNat) (jf_E p a))
            refine hR _ (hR _ (hR _ (?_)))
            show R (60, [some (aR 8 0), some (aI ((s : Nat) : Int)), some (aI ((k : Nat) : Int)), some (aI (((jf_fl p a).length : Int) + 1)), some (aI (((a : Nat) : Int) + 1))], [], am_wr (am_mix mo_S61 g (am_mix [12, 13, 14, 263, 264, 265, 266, 346, 17, 19, 180, 181, 21] g0 M)) 33 0 ((((40 * ((s : Nat) : Int)) + ((jf_fl p a).length : Int))).toNat) (jf_E p a))
            rw [show ((((40 * ((s : Nat) : Int)) + ((jf_fl p a).length : Int))).toNat) = 40 * s + (jf_fl p a).length by omega]
            have e9 : am_ag mo_S61 (am_mix [12, 13, 14, 263, 264, 265, 266, 346, 17, 19, 180, 181, 21] g0 M) (am_wr (am_mix mo_S61 g (am_mix [12, 13, 14, 263, 264, 265, 266, 346, 17, 19, 180, 181, 21] g0 M)) 33 0 (40 * s + (jf_fl p a).length) (jf_E p a)) := (am_ag.rf.mix rfl).wr rfl
            have n0 : mo_th (am_wr (am_mix mo_S61 g (am_mix [12, 13, 14, 263, 264, 265, 266, 346, 17, 19, 180, 181, 21] g0 M)) 33 0 (40 * s + (jf_fl p a).length) (jf_E p a)) p := hth
            have n1 : ∀ j, j < 40 → (am_wr (am_mix mo_S61 g (am_mix [12, 13, 14, 263, 264, 265, 266, 346, 17, 19, 180, 181, 21] g0 M)) 33 0 (40 * s + (jf_fl p a).length) (jf_E p a)) 33 0 (40 * s + j) = (jf_fl p (a + 1)).getD j 0 := by
              intro j hj
              rw [jf_fl_1 (by omega), jf_app]
              by_cases e : j = (jf_fl p a).length
              · rw [if_pos e, e]
                exact am_wr_eq
              · rw [if_neg e, ← hcell j hj]
                exact am_wr_ne (Or.inr (Or.inr (by omega)))
            have n2 : ∀ j, j < 40 * s ∨ 40 * s + 40 ≤ j → (am_wr (am_mix mo_S61 g (am_mix [12, 13, 14, 263, 264, 265, 266, 346, 17, 19, 180, 181, 21] g0 M)) 33 0 (40 * s + (jf_fl p a).length) (jf_E p a)) 33 0 j = M 33 0 j := fun j hj => (am_wr_ne (Or.inr (Or.inr (by omega)))).trans (ho2 j hj)
            have n3 : ∀ q, q ≠ s → (am_wr (am_mix mo_S61 g (am_mix [12, 13, 14, 263, 264, 265, 266, 346, 17, 19, 180, 181, 21] g0 M)) 33 0 (40 * s + (jf_fl p a).length) (jf_E p a)) 31 0 q = M 31 0 q ∧ (am_wr (am_mix mo_S61 g (am_mix [12, 13, 14, 263, 264, 265, 266, 346, 17, 19, 180, 181, 21] g0 M)) 33 0 (40 * s + (jf_fl p a).length) (jf_E p a)) 32 0 q = M 32 0 q := ho1
            have hl1 : (((jf_fl p a).length : Nat) : Int) + 1 = ((jf_fl p (a + 1)).length : Int) := by
              rw [jf_fl_1 (by omega), List.length_append, List.length_singleton]
              omega
            rw [hl1]
            rw [e9.eq] at n0 n1 n2 n3 ⊢
            exact ih (a + 1) _ _ (by omega) (by omega) n0 n1 n3 n2
      have key1 : ∀ (f i : Nat) (x : Int) (g : am_M), x = (i : Int) → i + f = 40 → mo_th (am_mix mo_S61 g (am_mix [12, 13, 14, 263, 264, 265, 266, 346, 17, 19, 180, 181, 21] g0 M)) p → (∀ j, j < i → g 33 0 (40 * s + j) = 0) → (∀ q, q ≠ s → g 31 0 q = M 31 0 q ∧ g 32 0 q = M 32 0 q) → (∀ j, j < 40 * s ∨ 40 * s + 40 ≤ j → g 33 0 j = M 33 0 j) → R (31, [some (aR 8 0), some (aI ((s : Nat) : Int)), some (aI ((k : Nat) : Int)), some (aI 0), some (aI x)], [], am_mix mo_S61 g (am_mix [12, 13, 14, 263, 264, 265, 266, 346, 17, 19, 180, 181, 21] g0 M)) := by
        intro f
        induction f with
        | zero =>
          intro i x g hx hin hth hz ho1 ho2
          subst hx
          refine hR _ (hR _ (hR _ (am_brt (rg := am_in ((i : Nat) : Int) ∧ am_in 40) (P := 40 ≤ ((i : Nat) : Int)) (A := R (57, [some (aR 8 0), some (aI ((s : Nat) : Int)), some (aI ((k : Nat) : Int)), some (aI 0), some (aI ((i : Nat) : Int))], [], am_mix mo_S61 g (am_mix [12, 13, 14, 263, 264, 265, 266, 346, 17, 19, 180, 181, 21] g0 M))) (B := R (38, [some (aR 8 0), some (aI ((s : Nat) : Int)), some (aI ((k : Nat) : Int)), some (aI 0), some (aI ((i : Nat) : Int))], [], am_mix mo_S61 g (am_mix [12, 13, 14, 263, 264, 265, 266, 346, 17, 19, 180, 181, 21] g0 M))) (by omega) (by omega) ?_)))
          show R (57, [some (aR 8 0), some (aI ((s : Nat) : Int)), some (aI ((k : Nat) : Int)), some (aI 0), some (aI ((i : Nat) : Int))], [], am_mix mo_S61 g (am_mix [12, 13, 14, 263, 264, 265, 266, 346, 17, 19, 180, 181, 21] g0 M))
          refine hR _ (hR _ (?_))
          show R (60, [some (aR 8 0), some (aI ((s : Nat) : Int)), some (aI ((k : Nat) : Int)), some (aI 0), some (aI 0)], [], am_mix mo_S61 g (am_mix [12, 13, 14, 263, 264, 265, 266, 346, 17, 19, 180, 181, 21] g0 M))
          exact key2 5 0 _ _ rfl rfl hth (fun j hj => hz j (by omega)) ho1 ho2
        | succ f ih =>
          intro i x g hx hin hth hz ho1 ho2
          subst hx
          refine hR _ (hR _ (hR _ (am_brf (rg := am_in ((i : Nat) : Int) ∧ am_in 40) (P := 40 ≤ ((i : Nat) : Int)) (A := R (57, [some (aR 8 0), some (aI ((s : Nat) : Int)), some (aI ((k : Nat) : Int)), some (aI 0), some (aI ((i : Nat) : Int))], [], am_mix mo_S61 g (am_mix [12, 13, 14, 263, 264, 265, 266, 346, 17, 19, 180, 181, 21] g0 M))) (B := R (38, [some (aR 8 0), some (aI ((s : Nat) : Int)), some (aI ((k : Nat) : Int)), some (aI 0), some (aI ((i : Nat) : Int))], [], am_mix mo_S61 g (am_mix [12, 13, 14, 263, 264, 265, 266, 346, 17, 19, 180, 181, 21] g0 M))) (by omega) (by omega) ?_)))
          show R (38, [some (aR 8 0), some (aI ((s : Nat) : Int)), some (aI ((k : Nat) : Int)), some (aI 0), some (aI ((i : Nat) : Int))], [], am_mix mo_S61 g (am_mix [12, 13, 14, 263, 264, 265, 266, 346, 17, 19, 180, 181, 21] g0 M))
          refine hR _ (hR _ (hR _ (hR _ (hR _ (hR _ (hR _ (hR _ (?_))))))))
          show R (50, [some (aR 8 0), some (aI ((s : Nat) : Int)), some (aI ((k : Nat) : Int)), some (aI 0), some (aI ((i : Nat) : Int))], [aI 0, aI ((40 * ((s : Nat) : Int)) + ((i : Nat) : Int)), aR 33 0], am_mix mo_S61 g (am_mix [12, 13, 14, 263, 264, 265, 266, 346, 17, 19, 180, 181, 21] g0 M))
          refine hR _ ⟨(show 0 ≤ (((40 * ((s : Nat) : Int)) + ((i : Nat) : Int)) : Int) ∧ (((40 * ((s : Nat) : Int)) + ((i : Nat) : Int)) : Int) < 160 from (by omega)), ?_⟩
          show R (51, [some (aR 8 0), some (aI ((s : Nat) : Int)), some (aI ((k : Nat) : Int)), some (aI 0), some (aI ((i : Nat) : Int))], [], am_wr (am_mix mo_S61 g (am_mix [12, 13, 14, 263, 264, 265, 266, 346, 17, 19, 180, 181, 21] g0 M)) 33 0 ((((40 * ((s : Nat) : Int)) + ((i : Nat) : Int))).toNat) 0)
          refine hR _ (hR _ (?_))
          show R (31, [some (aR 8 0), some (aI ((s : Nat) : Int)), some (aI ((k : Nat) : Int)), some (aI 0), some (aI (((i : Nat) : Int) + 1))], [], am_wr (am_mix mo_S61 g (am_mix [12, 13, 14, 263, 264, 265, 266, 346, 17, 19, 180, 181, 21] g0 M)) 33 0 ((((40 * ((s : Nat) : Int)) + ((i : Nat) : Int))).toNat) 0)
          rw [show ((((40 * ((s : Nat) : Int)) + ((i : Nat) : Int))).toNat) = 40 * s + i by omega]
          have e9 : am_ag mo_S61 (am_mix [12, 13, 14, 263, 264, 265, 266, 346, 17, 19, 180, 181, 21] g0 M) (am_wr (am_mix mo_S61 g (am_mix [12, 13, 14, 263, 264, 265, 266, 346, 17, 19, 180, 181, 21] g0 M)) 33 0 (40 * s + i) 0) := (am_ag.rf.mix rfl).wr rfl
          have n0 : mo_th (am_wr (am_mix mo_S61 g (am_mix [12, 13, 14, 263, 264, 265, 266, 346, 17, 19, 180, 181, 21] g0 M)) 33 0 (40 * s + i) 0) p := hth
          have n1 : ∀ j, j < i + 1 → (am_wr (am_mix mo_S61 g (am_mix [12, 13, 14, 263, 264, 265, 266, 346, 17, 19, 180, 181, 21] g0 M)) 33 0 (40 * s + i) 0) 33 0 (40 * s + j) = 0 := by
            intro j hj
            by_cases e : j = i
            · rw [e]
              exact am_wr_eq
            · exact (am_wr_ne (Or.inr (Or.inr (by omega)))).trans (hz j (by omega))
          have n2 : ∀ j, j < 40 * s ∨ 40 * s + 40 ≤ j → (am_wr (am_mix mo_S61 g (am_mix [12, 13, 14, 263, 264, 265, 266, 346, 17, 19, 180, 181, 21] g0 M)) 33 0 (40 * s + i) 0) 33 0 j = M 33 0 j := fun j hj => (am_wr_ne (Or.inr (Or.inr (by omega)))).trans (ho2 j hj)
          have n3 : ∀ q, q ≠ s → (am_wr (am_mix mo_S61 g (am_mix [12, 13, 14, 263, 264, 265, 266, 346, 17, 19, 180, 181, 21] g0 M)) 33 0 (40 * s + i) 0) 31 0 q = M 31 0 q ∧ (am_wr (am_mix mo_S61 g (am_mix [12, 13, 14, 263, 264, 265, 266, 346, 17, 19, 180, 181, 21] g0 M)) 33 0 (40 * s + i) 0) 32 0 q = M 32 0 q := ho1
          rw [e9.eq] at n0 n1 n2 n3 ⊢
          exact ih (i + 1) _ _ (by omega) (by omega) n0 n1 n3 n2
      show R (21, [some (aR 8 0), some (aI ((s : Nat) : Int)), some (aI ((k : Nat) : Int)), none, none], [], am_mix [12, 13, 14, 263, 264, 265, 266, 346, 17, 19, 180, 181, 21] g0 M)
      refine hR _ (hR _ (?_))
      show R (23, [some (aR 8 0), some (aI ((s : Nat) : Int)), some (aI ((k : Nat) : Int)), none, none], [aI ((k : Nat) : Int), aR 8 0], am_mix [12, 13, 14, 263, 264, 265, 266, 346, 17, 19, 180, 181, 21] g0 M)
      refine hR _ (sm_goes (p := p) (r := r) (by omega) hk hr hr6 hwt hp hok hpm hps (fun g192 hth => ?_))
      have hthr := hth.1
      have hthA := hth.2.1
      have hthN := hth.2.2
      have hbO := fun a (ha : a < 5) => jf_O_b hok ha
      have hbE := fun a (ha : a < 5) => jf_E_b hok ha
      show R (26, [some (aR 8 0), some (aI ((s : Nat) : Int)), some (aI ((k : Nat) : Int)), none, none], [], am_mix mo_SM g192 (am_mix [12, 13, 14, 263, 264, 265, 266, 346, 17, 19, 180, 181, 21] g0 M))
      refine hR _ (hR _ (hR _ (hR _ (?_))))
      show R (31, [some (aR 8 0), some (aI ((s : Nat) : Int)), some (aI ((k : Nat) : Int)), some (aI 0), some (aI 0)], [], am_mix mo_SM g192 (am_mix [12, 13, 14, 263, 264, 265, 266, 346, 17, 19, 180, 181, 21] g0 M))
      have e9 : am_ag mo_S61 (am_mix [12, 13, 14, 263, 264, 265, 266, 346, 17, 19, 180, 181, 21] g0 M) (am_mix mo_SM g192 (am_mix [12, 13, 14, 263, 264, 265, 266, 346, 17, 19, 180, 181, 21] g0 M)) := am_ag.rf.mix rfl
      have n3 : ∀ q, q ≠ s → (am_mix mo_SM g192 (am_mix [12, 13, 14, 263, 264, 265, 266, 346, 17, 19, 180, 181, 21] g0 M)) 31 0 q = M 31 0 q ∧ (am_mix mo_SM g192 (am_mix [12, 13, 14, 263, 264, 265, 266, 346, 17, 19, 180, 181, 21] g0 M)) 32 0 q = M 32 0 q := fun q _ => ⟨rfl, rfl⟩
      have n2 : ∀ j, j < 40 * s ∨ 40 * s + 40 ≤ j → (am_mix mo_SM g192 (am_mix [12, 13, 14, 263, 264, 265, 266, 346, 17, 19, 180, 181, 21] g0 M)) 33 0 j = M 33 0 j := fun j _ => rfl
      rw [e9.eq] at hth n2 n3 ⊢
      exact key1 40 0 _ _ rfl rfl hth (fun j hj => absurd hj (Nat.not_lt_zero j)) n3 n2
    · show R (4, [some (aR 8 0), some (aI sa), some (aI ((k : Nat) : Int)), none, none], [aI 0], am_mix [12, 13, 14, 263, 264, 265, 266, 346, 17, 19, 180, 181, 21] g0 M)
      refine hR _ (am_brf (rg := am_in 0) (P := (0 : Int) ≠ 0) (A := R (10, [some (aR 8 0), some (aI sa), some (aI ((k : Nat) : Int)), none, none], [], am_mix [12, 13, 14, 263, 264, 265, 266, 346, 17, 19, 180, 181, 21] g0 M)) (B := R (7, [some (aR 8 0), some (aI sa), some (aI ((k : Nat) : Int)), none, none], [], am_mix [12, 13, 14, 263, 264, 265, 266, 346, 17, 19, 180, 181, 21] g0 M)) (by omega) (by omega) ?_)
      show R (7, [some (aR 8 0), some (aI sa), some (aI ((k : Nat) : Int)), none, none], [], am_mix [12, 13, 14, 263, 264, 265, 266, 346, 17, 19, 180, 181, 21] g0 M)
      refine hR _ (?_)
      show R (9, [some (aR 8 0), some (aI sa), some (aI ((k : Nat) : Int)), none, none], [aI (-2)], am_mix [12, 13, 14, 263, 264, 265, 266, 346, 17, 19, 180, 181, 21] g0 M)
      refine hR _ (show K (some (aI (-2))) (am_mix [12, 13, 14, 263, 264, 265, 266, 346, 17, 19, 180, 181, 21] g0 M) from ?_)
      refine am_kr (hK0 (by omega)) ?_
      split
      all_goals omega
  · show R (0, [some (aR 8 0), some (aI sa), some (aI h), none, none], [], am_mix [12, 13, 14, 263, 264, 265, 266, 346, 17, 19, 180, 181, 21] g0 M)
    refine hR _ (?_)
    show R (1, [some (aR 8 0), some (aI sa), some (aI h), none, none], [aI sa], am_mix [12, 13, 14, 263, 264, 265, 266, 346, 17, 19, 180, 181, 21] g0 M)
    refine hR _ (sm_isSheet0 (by omega) (by omega) (fun h1 => ?_) (fun h1 => ?_))
    · show R (4, [some (aR 8 0), some (aI sa), some (aI h), none, none], [aI 1], am_mix [12, 13, 14, 263, 264, 265, 266, 346, 17, 19, 180, 181, 21] g0 M)
      refine hR _ (am_brt (rg := am_in 1) (P := (1 : Int) ≠ 0) (A := R (10, [some (aR 8 0), some (aI sa), some (aI h), none, none], [], am_mix [12, 13, 14, 263, 264, 265, 266, 346, 17, 19, 180, 181, 21] g0 M)) (B := R (7, [some (aR 8 0), some (aI sa), some (aI h), none, none], [], am_mix [12, 13, 14, 263, 264, 265, 266, 346, 17, 19, 180, 181, 21] g0 M)) (by omega) (by omega) ?_)
      show R (10, [some (aR 8 0), some (aI sa), some (aI h), none, none], [], am_mix [12, 13, 14, 263, 264, 265, 266, 346, 17, 19, 180, 181, 21] g0 M)
      refine hR _ (hR _ (?_))
      show R (12, [some (aR 8 0), some (aI sa), some (aI h), none, none], [aI h, aR 8 0], am_mix [12, 13, 14, 263, 264, 265, 266, 346, 17, 19, 180, 181, 21] g0 M)
      refine hR _ (sm_isHand (by omega) (show 0 ≤ M 421 0 0 ∧ M 421 0 0 ≤ 5 from hn') (by omega) (fun hz => absurd (show 0 ≤ h ∧ h < M 227 0 0 from ⟨hz.1, by rw [← h421]; exact hz.2⟩) hno) (fun _ => ?_))
      show R (15, [some (aR 8 0), some (aI sa), some (aI h), none, none], [aI 0], am_mix [12, 13, 14, 263, 264, 265, 266, 346, 17, 19, 180, 181, 21] g0 M)
      refine hR _ (am_brf (rg := am_in 0) (P := (0 : Int) ≠ 0) (A := R (21, [some (aR 8 0), some (aI sa), some (aI h), none, none], [], am_mix [12, 13, 14, 263, 264, 265, 266, 346, 17, 19, 180, 181, 21] g0 M)) (B := R (18, [some (aR 8 0), some (aI sa), some (aI h), none, none], [], am_mix [12, 13, 14, 263, 264, 265, 266, 346, 17, 19, 180, 181, 21] g0 M)) (by omega) (by omega) ?_)
      show R (18, [some (aR 8 0), some (aI sa), some (aI h), none, none], [], am_mix [12, 13, 14, 263, 264, 265, 266, 346, 17, 19, 180, 181, 21] g0 M)
      refine hR _ (?_)
      show R (20, [some (aR 8 0), some (aI sa), some (aI h), none, none], [aI (-5)], am_mix [12, 13, 14, 263, 264, 265, 266, 346, 17, 19, 180, 181, 21] g0 M)
      refine hR _ (show K (some (aI (-5))) (am_mix [12, 13, 14, 263, 264, 265, 266, 346, 17, 19, 180, 181, 21] g0 M) from ?_)
      refine am_kr (hK0 (by omega)) ?_
      split
      all_goals omega
    · show R (4, [some (aR 8 0), some (aI sa), some (aI h), none, none], [aI 0], am_mix [12, 13, 14, 263, 264, 265, 266, 346, 17, 19, 180, 181, 21] g0 M)
      refine hR _ (am_brf (rg := am_in 0) (P := (0 : Int) ≠ 0) (A := R (10, [some (aR 8 0), some (aI sa), some (aI h), none, none], [], am_mix [12, 13, 14, 263, 264, 265, 266, 346, 17, 19, 180, 181, 21] g0 M)) (B := R (7, [some (aR 8 0), some (aI sa), some (aI h), none, none], [], am_mix [12, 13, 14, 263, 264, 265, 266, 346, 17, 19, 180, 181, 21] g0 M)) (by omega) (by omega) ?_)
      show R (7, [some (aR 8 0), some (aI sa), some (aI h), none, none], [], am_mix [12, 13, 14, 263, 264, 265, 266, 346, 17, 19, 180, 181, 21] g0 M)
      refine hR _ (?_)
      show R (9, [some (aR 8 0), some (aI sa), some (aI h), none, none], [aI (-2)], am_mix [12, 13, 14, 263, 264, 265, 266, 346, 17, 19, 180, 181, 21] g0 M)
      refine hR _ (show K (some (aI (-2))) (am_mix [12, 13, 14, 263, 264, 265, 266, 346, 17, 19, 180, 181, 21] g0 M) from ?_)
      refine am_kr (hK0 (by omega)) ?_
      split
      all_goals omega
