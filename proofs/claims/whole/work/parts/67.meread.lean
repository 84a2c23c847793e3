/-! wb -/
/-! THE REFERENCE: an E -/
def mo_oc (M m : am_M) (t : Nat) : Prop := ∀ j, (j < 200 * t ∨ 200 * t + 200 ≤ j) → m 28 0 j = M 28 0 j
def mo_ho (M m : am_M) (t : Nat) (out : List Int) : Prop := m 448 0 0 = (out.length : Int) ∧ (∀ j, j < out.length → m 28 0 (200 * t + j) = out.getD j 0) ∧ mo_oc M m t
theorem mo_ho.clear {M m : am_M} {t : Nat} {out : List Int} (h : mo_ho M m t out) : mo_hd M (am_wr (am_wr m 446 0 0 0) 447 0 0 0) t [] 0 out := ⟨⟨(am_wr_ne (Or.inl (by decide))).trans am_wr_eq, fun j hj => absurd hj (Nat.not_lt_zero j), am_wr_eq, fun s hs => absurd hs (by simp)⟩, h⟩

set_option maxHeartbeats 4000000 in
theorem sm_eRead {d : Nat} (hd : 6 ≤ d) {b : Nat → Int} {z t n0 : Nat} {out0 : List Int} {g0 : am_M} {M : am_M} {K : am_K} (hz : M 427 0 0 = (z : Int)) (hz2 : z ≤ 160) (hb : ∀ j, j < z → M 27 0 j = b j) (hby : lx_by_ok b z) (hwd : jf_Cw M) (ht : M 430 0 0 = (t : Int)) (ht5 : t ≤ 5) (hs0 : mo_ho M (am_mix mo_SR g0 M) t out0) (hl0 : out0.length ≤ lx_P b z n0) (h440 : g0 440 0 0 = ((lx_P b z n0 : Nat) : Int)) (hKf : ∀ m, (rd_or (lx_T b z) (lx_V b z) (rd_nx (lx_T b z) (lx_V b z) 5) n0 = (m, none) ∨ ∃ w, rd_or (lx_T b z) (lx_V b z) (rd_nx (lx_T b z) (lx_V b z) 5) n0 = (m, some w) ∧ lx_T b z m ≠ 59) → ∀ g : am_M, mo_oc M (am_mix mo_SR g M) t → mo_at b z (am_mix mo_SR g M) (lx_P b z m) → K (some (aI 0)) (am_mix mo_SR g M)) (hKd : ∀ m w, rd_or (lx_T b z) (lx_V b z) (rd_nx (lx_T b z) (lx_V b z) 5) n0 = (m, some w) → lx_T b z m = 59 → ∀ g : am_M, mo_ho M (am_mix mo_SR g M) t (out0 ++ w) → mo_at b z (am_mix mo_SR g M) (lx_P b z m) → K (some (aI 1)) (am_mix mo_SR g M)) : am_Call true d 127 [aR 8 0] (am_mix mo_SR g0 M) K := by
  obtain ⟨d, rfl⟩ : ∃ e, d = e + 1 := ⟨d - 1, by omega⟩
  refine ⟨rfl, fun R hR hC => ?_⟩
  replace hR : ∀ c, am_F true tb_f127 2 (am_Call true d) K R c → R c := hR
  show R (0, [some (aR 8 0), none, none, none], [], (am_mix mo_SR g0 M))
  have hopb := fun H => sy_op_b H
  obtain ⟨GW, hGW⟩ : ∃ GW : Nat → Bool → List Int → List Int → Prop, GW = (fun n mn H out => H.length + out.length ≤ lx_P b z n → ∀ (g : am_M) (o3 : Option am_V), mo_hd M (am_mix mo_SR g M) t H (sy_op H : Int) out → g 440 0 0 = ((lx_P b z n : Nat) : Int) → R (14, [some (aR 8 0), some (aI 1), some (aI (bif mn then 1 else 0)), o3], [], am_mix mo_SR g M)) := ⟨_, rfl⟩
  obtain ⟨GN, hGN⟩ : ∃ GN : Nat → List Int → List Int → Prop, GN = (fun n H out => H.length + out.length ≤ lx_P b z n → ∀ (g : am_M) (y : Int) (o3 : Option am_V), mo_hd M (am_mix mo_SR g M) t H (sy_op H : Int) out → g 440 0 0 = ((lx_P b z n : Nat) : Int) → R (14, [some (aR 8 0), some (aI 0), some (aI y), o3], [], am_mix mo_SR g M)) := ⟨_, rfl⟩
  obtain ⟨Fl, hFl⟩ : ∃ Fl : Nat → Prop, Fl = (fun n => ∀ g : am_M, mo_oc M (am_mix mo_SR g M) t → mo_at b z (am_mix mo_SR g M) (lx_P b z n) → K (some (aI 0)) (am_mix mo_SR g M)) := ⟨_, rfl⟩
  obtain ⟨Dn, hDn⟩ : ∃ Dn : Nat → List Int → Prop, Dn = (fun n out => ∀ g : am_M, mo_ho M (am_mix mo_SR g M) t out → mo_at b z (am_mix mo_SR g M) (lx_P b z n) → K (some (aI 1)) (am_mix mo_SR g M)) := ⟨_, rfl⟩
  have stepW : ∀ (n : Nat) (mn : Bool) (H out : List Int), ((lx_T b z n) = 2 → GN (n + 1) (sy_un 7 H) (out ++ [100000 + lx_V b z n] ++ sy_tk 7 H)) → (10 ≤ (lx_T b z n) ∧ (lx_T b z n) ≤ 15 → GN (n + 1) (sy_un 7 H) (out ++ [(lx_T b z n) - 10] ++ sy_tk 7 H)) → ((lx_T b z n) = 6 → mn = true → sy_op H ≠ 5 → GW (n + 1) true (13 :: H) out) → ((lx_T b z n) = 45 → sy_op H ≠ 5 → GW (n + 1) false (19 :: H) out) → ((lx_T b z n) = 40 → sy_op H ≠ 5 → GW (n + 1) true (0 :: H) out) → ((((lx_T b z n) = 6 ∨ (lx_T b z n) = 45 ∨ (lx_T b z n) = 40) ∧ sy_op H = 5) ∨ ((lx_T b z n) = 6 ∧ mn = false) ∨ ¬ ((lx_T b z n) = 2 ∨ (lx_T b z n) = 6 ∨ (lx_T b z n) = 45 ∨ (lx_T b z n) = 40 ∨ (10 ≤ (lx_T b z n) ∧ (lx_T b z n) ≤ 15)) → Fl n) → GW n mn H out := by
    intro n mn H out hA hB hCc hDd hEe hF
    rw [hGW]
    intro hlen g o3 hs h440
    have hob := sy_op_b H
    cases mn with
    | false =>
      refine hR _ (?_)
      show R (15, [some (aR 8 0), some (aI 1), some (aI 0), o3], [aR 8 0], am_mix mo_SR g M)
      refine hR _ (sm_goesNext (b := b) (z := z) (p := lx_P b z n) (by omega) hz hz2 hb hby hwd h440 (lx_P_b _ _ _) (fun g2 hat => ?_))
      have hs1 : mo_hd M (am_mix [440, 441, 442, 443] g2 (am_mix mo_SR g M)) t H (sy_op H : Int) out := hs
      have e9 : am_ag mo_SR M (am_mix [440, 441, 442, 443] g2 (am_mix mo_SR g M)) := (am_ag.rf.mix rfl).mix rfl
      rw [e9.eq] at hat hs1 ⊢
      generalize am_mix [440, 441, 442, 443] g2 (am_mix mo_SR g M) = g1 at hat hs1 ⊢
      have hTr := lx_T_b b z n
      have hm := mo_mt_f (lx_T_b b z n) (lx_T_9 b z n)
      have h442 : g1 442 0 0 = mo_mt (lx_T b z n) := hat.1
      have h440b : g1 440 0 0 = ((lx_P b z (n + 1) : Nat) : Int) := hat.2.2.1
      have hPn := lx_P_b b z n
      have hPn1 := lx_P_b b z (n + 1)
      have hP1 := lx_P_1 (b := b) (z := z) n
      show R (18, [some (aR 8 0), some (aI 1), some (aI 0), o3], [], am_mix mo_SR g1 M)
      refine hR _ (hR _ (am_brf (rg := am_in 1) (P := (1 : Int) = 0) (A := R (150, [some (aR 8 0), some (aI 1), some (aI 0), o3], [], am_mix mo_SR g1 M)) (B := R (22, [some (aR 8 0), some (aI 1), some (aI 0), o3], [], am_mix mo_SR g1 M)) (by omega) (by omega) ?_))
      show R (22, [some (aR 8 0), some (aI 1), some (aI 0), o3], [], am_mix mo_SR g1 M)
      refine hR _ (hR _ (?_))
      show R (26, [some (aR 8 0), some (aI 1), some (aI 0), o3], [aI (g1 442 0 0)], am_mix mo_SR g1 M)
      rw [(show g1 442 0 0 = mo_mt (lx_T b z n) from h442)]
      show R (26, [some (aR 8 0), some (aI 1), some (aI 0), o3], [aI (mo_mt (lx_T b z n))], am_mix mo_SR g1 M)
      refine hR _ (hR _ (am_brc (rg := am_in (mo_mt (lx_T b z n)) ∧ am_in 1) (P := (mo_mt (lx_T b z n)) = 1) (A := R (38, [some (aR 8 0), some (aI 1), some (aI 0), o3], [], am_mix mo_SR g1 M)) (B := R (30, [some (aR 8 0), some (aI 1), some (aI 0), o3], [], am_mix mo_SR g1 M)) (by omega) (fun c27 => ?_) (fun c27 => ?_)))
      · refine hR _ (hR _ (hR _ (?_)))
        show R (43, [some (aR 8 0), some (aI 1), some (aI 0), o3], [aI (g1 442 0 0), aR 8 0], am_mix mo_SR g1 M)
        rw [(show g1 442 0 0 = mo_mt (lx_T b z n) from h442)]
        show R (43, [some (aR 8 0), some (aI 1), some (aI 0), o3], [aI (mo_mt (lx_T b z n)), aR 8 0], am_mix mo_SR g1 M)
        refine hR _ (hR _ (am_brc (rg := am_in (mo_mt (lx_T b z n)) ∧ am_in 1) (P := (mo_mt (lx_T b z n)) ≠ 1) (A := R (57, [some (aR 8 0), some (aI 1), some (aI 0), o3], [aR 8 0], am_mix mo_SR g1 M)) (B := R (47, [some (aR 8 0), some (aI 1), some (aI 0), o3], [aR 8 0], am_mix mo_SR g1 M)) (by omega) (fun c44 => ?_) (fun c44 => ?_)))
        · refine hR _ (hR _ (?_))
          show R (61, [some (aR 8 0), some (aI 1), some (aI 0), o3], [aI (g1 443 0 0), aR 8 0], am_mix mo_SR g1 M)
          rw [show g1 443 0 0 = lx_T b z n - 10 from hat.2.2.2.2.2 (show 10 ≤ lx_T b z n ∧ lx_T b z n ≤ 15 by omega)]
          show R (61, [some (aR 8 0), some (aI 1), some (aI 0), o3], [aI (lx_T b z n - 10), aR 8 0], am_mix mo_SR g1 M)
          refine hR _ (sm_puts (t := t) (H := H) (o := (sy_op H : Int)) (out := out) (c := (lx_T b z n - 10)) (by omega) ht ht5 hs1 (by omega) (fun g3 n1 n2 => ?_))
          show R (64, [some (aR 8 0), some (aI 1), some (aI 0), o3], [], am_mix mo_SR g3 M)
          refine hR _ (hR _ (?_))
          show R (67, [some (aR 8 0), some (aI 1), some (aI 0), o3], [aI 7, aR 8 0], am_mix mo_SR g3 M)
          refine hR _ (sm_unwinds (t := t) (H := H) (o := (sy_op H : Int)) (out := out ++ [(lx_T b z n - 10)]) (k := 7) (by omega) ht ht5 n1 (by omega) (by rw [List.length_append, List.length_singleton]; omega) rfl (fun g4 m1 m2 => ?_))
          show R (70, [some (aR 8 0), some (aI 1), some (aI 0), o3], [], am_mix mo_SR g4 M)
          refine hR _ (hR _ (hR _ (?_)))
          show R (14, [some (aR 8 0), some (aI 0), some (aI 0), o3], [], am_mix mo_SR g4 M)
          have hP2 : lx_P b z n + 1 ≤ lx_P b z (n + 1) := hP1 (by omega)
          have hg := hB (by omega)
          rw [hGN] at hg
          have hlu := sy_len 7 H
          refine hg (by rw [List.length_append, List.length_append, List.length_singleton]; omega) g4 _ _ m1 ?_
          exact (congrFun (congrFun (m2.1.trans n2.1) 0) 0).trans h440b
        · refine hR _ (hR _ (hR _ (?_)))
          show R (53, [some (aR 8 0), some (aI 1), some (aI 0), o3], [aI (g1 443 0 0), aI 100000, aR 8 0], am_mix mo_SR g1 M)
          rw [show g1 443 0 0 = lx_V b z n from hat.2.2.2.1 (show lx_T b z n = 2 by omega)]
          show R (53, [some (aR 8 0), some (aI 1), some (aI 0), o3], [aI (lx_V b z n), aI 100000, aR 8 0], am_mix mo_SR g1 M)
          refine hR _ (hR _ (?_))
          show R (61, [some (aR 8 0), some (aI 1), some (aI 0), o3], [aI (100000 + (lx_V b z n)), aR 8 0], am_mix mo_SR g1 M)
          refine hR _ (sm_puts (t := t) (H := H) (o := (sy_op H : Int)) (out := out) (c := (100000 + (lx_V b z n))) (by omega) ht ht5 hs1 (by omega) (fun g3 n1 n2 => ?_))
          show R (64, [some (aR 8 0), some (aI 1), some (aI 0), o3], [], am_mix mo_SR g3 M)
          refine hR _ (hR _ (?_))
          show R (67, [some (aR 8 0), some (aI 1), some (aI 0), o3], [aI 7, aR 8 0], am_mix mo_SR g3 M)
          refine hR _ (sm_unwinds (t := t) (H := H) (o := (sy_op H : Int)) (out := out ++ [(100000 + (lx_V b z n))]) (k := 7) (by omega) ht ht5 n1 (by omega) (by rw [List.length_append, List.length_singleton]; omega) rfl (fun g4 m1 m2 => ?_))
          show R (70, [some (aR 8 0), some (aI 1), some (aI 0), o3], [], am_mix mo_SR g4 M)
          refine hR _ (hR _ (hR _ (?_)))
          show R (14, [some (aR 8 0), some (aI 0), some (aI 0), o3], [], am_mix mo_SR g4 M)
          have hP2 : lx_P b z n + 1 ≤ lx_P b z (n + 1) := hP1 (by omega)
          have hg := hA (by omega)
          rw [hGN] at hg
          have hlu := sy_len 7 H
          refine hg (by rw [List.length_append, List.length_append, List.length_singleton]; omega) g4 _ _ m1 ?_
          exact (congrFun (congrFun (m2.1.trans n2.1) 0) 0).trans h440b
      · refine hR _ (hR _ (?_))
        show R (34, [some (aR 8 0), some (aI 1), some (aI 0), o3], [aI (g1 442 0 0)], am_mix mo_SR g1 M)
        rw [(show g1 442 0 0 = mo_mt (lx_T b z n) from h442)]
        show R (34, [some (aR 8 0), some (aI 1), some (aI 0), o3], [aI (mo_mt (lx_T b z n))], am_mix mo_SR g1 M)
        refine hR _ (hR _ (am_brc (rg := am_in (mo_mt (lx_T b z n)) ∧ am_in 2) (P := (mo_mt (lx_T b z n)) ≠ 2) (A := R (75, [some (aR 8 0), some (aI 1), some (aI 0), o3], [], am_mix mo_SR g1 M)) (B := R (38, [some (aR 8 0), some (aI 1), some (aI 0), o3], [], am_mix mo_SR g1 M)) (by omega) (fun c35 => ?_) (fun c35 => ?_)))
        · refine hR _ (hR _ (?_))
          show R (79, [some (aR 8 0), some (aI 1), some (aI 0), o3], [aI (g1 442 0 0)], am_mix mo_SR g1 M)
          rw [(show g1 442 0 0 = mo_mt (lx_T b z n) from h442)]
          show R (79, [some (aR 8 0), some (aI 1), some (aI 0), o3], [aI (mo_mt (lx_T b z n))], am_mix mo_SR g1 M)
          refine hR _ (hR _ (am_brc (rg := am_in (mo_mt (lx_T b z n)) ∧ am_in 6) (P := (mo_mt (lx_T b z n)) ≠ 6) (A := R (99, [some (aR 8 0), some (aI 1), some (aI 0), o3], [], am_mix mo_SR g1 M)) (B := R (84, [some (aR 8 0), some (aI 1), some (aI 0), o3], [], am_mix mo_SR g1 M)) (by omega) (fun c81 => ?_) (fun c81 => ?_)))
          · refine hR _ (hR _ (?_))
            show R (103, [some (aR 8 0), some (aI 1), some (aI 0), o3], [aI (g1 442 0 0)], am_mix mo_SR g1 M)
            rw [(show g1 442 0 0 = mo_mt (lx_T b z n) from h442)]
            show R (103, [some (aR 8 0), some (aI 1), some (aI 0), o3], [aI (mo_mt (lx_T b z n))], am_mix mo_SR g1 M)
            refine hR _ (hR _ (am_brc (rg := am_in (mo_mt (lx_T b z n)) ∧ am_in 45) (P := (mo_mt (lx_T b z n)) ≠ 45) (A := R (124, [some (aR 8 0), some (aI 1), some (aI 0), o3], [], am_mix mo_SR g1 M)) (B := R (108, [some (aR 8 0), some (aI 1), some (aI 0), o3], [], am_mix mo_SR g1 M)) (by omega) (fun c105 => ?_) (fun c105 => ?_)))
            · refine hR _ (hR _ (?_))
              show R (128, [some (aR 8 0), some (aI 1), some (aI 0), o3], [aI (g1 442 0 0)], am_mix mo_SR g1 M)
              rw [(show g1 442 0 0 = mo_mt (lx_T b z n) from h442)]
              show R (128, [some (aR 8 0), some (aI 1), some (aI 0), o3], [aI (mo_mt (lx_T b z n))], am_mix mo_SR g1 M)
              refine hR _ (hR _ (am_brc (rg := am_in (mo_mt (lx_T b z n)) ∧ am_in 40) (P := (mo_mt (lx_T b z n)) ≠ 40) (A := R (148, [some (aR 8 0), some (aI 1), some (aI 0), o3], [], am_mix mo_SR g1 M)) (B := R (133, [some (aR 8 0), some (aI 1), some (aI 0), o3], [], am_mix mo_SR g1 M)) (by omega) (fun c130 => ?_) (fun c130 => ?_)))
              · refine hR _ (?_)
                show R (149, [some (aR 8 0), some (aI 1), some (aI 0), o3], [aI 0], am_mix mo_SR g1 M)
                refine hR _ (show ((0 : Int) = 0 ∨ (0 : Int) = 1) ∧ K (some (aI 0)) (am_mix mo_SR g1 M) from ?_)
                have hg := hF (by first | exact Or.inl ⟨by omega, by omega⟩ | exact Or.inr (Or.inl ⟨by omega, rfl⟩) | exact Or.inr (Or.inr (by omega)))
                rw [hFl] at hg
                exact ⟨by omega, hg g1 hs1.2.2.2 hat⟩
              · refine hR _ (hR _ (?_))
                show R (135, [some (aR 8 0), some (aI 1), some (aI 0), o3], [aI 0, aR 8 0], am_mix mo_SR g1 M)
                refine hR _ (sm_opensOne (t := t) (H := H) (o := (sy_op H : Int)) (out := out) (s := 0) (by omega) ht ht5 hs1 (by omega) (by omega) (by omega) (fun h5 => ?_) (fun h5 g3 n1 n2 => ?_))
                · show R (138, [some (aR 8 0), some (aI 1), some (aI 0), o3], [aI 0], am_mix mo_SR g1 M)
                  refine hR _ (am_brf (rg := am_in 0) (P := (0 : Int) ≠ 0) (A := R (143, [some (aR 8 0), some (aI 1), some (aI 0), o3], [], am_mix mo_SR g1 M)) (B := R (141, [some (aR 8 0), some (aI 1), some (aI 0), o3], [], am_mix mo_SR g1 M)) (by omega) (by omega) ?_)
                  show R (141, [some (aR 8 0), some (aI 1), some (aI 0), o3], [], am_mix mo_SR g1 M)
                  refine hR _ (?_)
                  show R (142, [some (aR 8 0), some (aI 1), some (aI 0), o3], [aI 0], am_mix mo_SR g1 M)
                  refine hR _ (show ((0 : Int) = 0 ∨ (0 : Int) = 1) ∧ K (some (aI 0)) (am_mix mo_SR g1 M) from ?_)
                  have hg := hF (by first | exact Or.inl ⟨by omega, by omega⟩ | exact Or.inr (Or.inl ⟨by omega, rfl⟩) | exact Or.inr (Or.inr (by omega)))
                  rw [hFl] at hg
                  exact ⟨by omega, hg g1 hs1.2.2.2 hat⟩
                · have hopn : (sy_op H : Int) + 1 = (sy_op (0 :: H) : Int) := by
                    show (sy_op H : Int) + 1 = (((1 + sy_op H : Nat)) : Int)
                    omega
                  rw [hopn] at n1
                  show R (138, [some (aR 8 0), some (aI 1), some (aI 0), o3], [aI 1], am_mix mo_SR g3 M)
                  refine hR _ (am_brt (rg := am_in 1) (P := (1 : Int) ≠ 0) (A := R (143, [some (aR 8 0), some (aI 1), some (aI 0), o3], [], am_mix mo_SR g3 M)) (B := R (141, [some (aR 8 0), some (aI 1), some (aI 0), o3], [], am_mix mo_SR g3 M)) (by omega) (by omega) ?_)
                  show R (143, [some (aR 8 0), some (aI 1), some (aI 0), o3], [], am_mix mo_SR g3 M)
                  refine hR _ (hR _ (hR _ (?_)))
                  show R (14, [some (aR 8 0), some (aI 1), some (aI 1), o3], [], am_mix mo_SR g3 M)
                  have hP2 : lx_P b z n + 1 ≤ lx_P b z (n + 1) := hP1 (by omega)
                  have hg := hEe (by omega) (by omega)
                  rw [hGW] at hg
                  refine hg (by rw [List.length_cons]; omega) g3 _ n1 ?_
                  exact (congrFun (congrFun n2.1 0) 0).trans h440b
            · refine hR _ (hR _ (?_))
              show R (111, [some (aR 8 0), some (aI 1), some (aI 0), o3], [aI 19, aR 8 0], am_mix mo_SR g1 M)
              refine hR _ (sm_opensOne (t := t) (H := H) (o := (sy_op H : Int)) (out := out) (s := 19) (by omega) ht ht5 hs1 (by omega) (by omega) (by omega) (fun h5 => ?_) (fun h5 g3 n1 n2 => ?_))
              · show R (114, [some (aR 8 0), some (aI 1), some (aI 0), o3], [aI 0], am_mix mo_SR g1 M)
                refine hR _ (am_brf (rg := am_in 0) (P := (0 : Int) ≠ 0) (A := R (119, [some (aR 8 0), some (aI 1), some (aI 0), o3], [], am_mix mo_SR g1 M)) (B := R (117, [some (aR 8 0), some (aI 1), some (aI 0), o3], [], am_mix mo_SR g1 M)) (by omega) (by omega) ?_)
                show R (117, [some (aR 8 0), some (aI 1), some (aI 0), o3], [], am_mix mo_SR g1 M)
                refine hR _ (?_)
                show R (118, [some (aR 8 0), some (aI 1), some (aI 0), o3], [aI 0], am_mix mo_SR g1 M)
                refine hR _ (show ((0 : Int) = 0 ∨ (0 : Int) = 1) ∧ K (some (aI 0)) (am_mix mo_SR g1 M) from ?_)
                have hg := hF (by first | exact Or.inl ⟨by omega, by omega⟩ | exact Or.inr (Or.inl ⟨by omega, rfl⟩) | exact Or.inr (Or.inr (by omega)))
                rw [hFl] at hg
                exact ⟨by omega, hg g1 hs1.2.2.2 hat⟩
              · have hopn : (sy_op H : Int) + 1 = (sy_op (19 :: H) : Int) := by
                  show (sy_op H : Int) + 1 = (((1 + sy_op H : Nat)) : Int)
                  omega
                rw [hopn] at n1
                show R (114, [some (aR 8 0), some (aI 1), some (aI 0), o3], [aI 1], am_mix mo_SR g3 M)
                refine hR _ (am_brt (rg := am_in 1) (P := (1 : Int) ≠ 0) (A := R (119, [some (aR 8 0), some (aI 1), some (aI 0), o3], [], am_mix mo_SR g3 M)) (B := R (117, [some (aR 8 0), some (aI 1), some (aI 0), o3], [], am_mix mo_SR g3 M)) (by omega) (by omega) ?_)
                show R (119, [some (aR 8 0), some (aI 1), some (aI 0), o3], [], am_mix mo_SR g3 M)
                refine hR _ (hR _ (hR _ (?_)))
                show R (14, [some (aR 8 0), some (aI 1), some (aI 0), o3], [], am_mix mo_SR g3 M)
                have hP2 : lx_P b z n + 1 ≤ lx_P b z (n + 1) := hP1 (by omega)
                have hg := hDd (by omega) (by omega)
                rw [hGW] at hg
                refine hg (by rw [List.length_cons]; omega) g3 _ n1 ?_
                exact (congrFun (congrFun n2.1 0) 0).trans h440b
          · refine hR _ (hR _ (am_brt (rg := am_in 0) (P := (0 : Int) = 0) (A := R (99, [some (aR 8 0), some (aI 1), some (aI 0), o3], [], am_mix mo_SR g1 M)) (B := R (88, [some (aR 8 0), some (aI 1), some (aI 0), o3], [], am_mix mo_SR g1 M)) (by omega) (by omega) ?_))
            show R (99, [some (aR 8 0), some (aI 1), some (aI 0), o3], [], am_mix mo_SR g1 M)
            refine hR _ (hR _ (?_))
            show R (103, [some (aR 8 0), some (aI 1), some (aI 0), o3], [aI (g1 442 0 0)], am_mix mo_SR g1 M)
            rw [(show g1 442 0 0 = mo_mt (lx_T b z n) from h442)]
            show R (103, [some (aR 8 0), some (aI 1), some (aI 0), o3], [aI (mo_mt (lx_T b z n))], am_mix mo_SR g1 M)
            refine hR _ (hR _ (am_brc (rg := am_in (mo_mt (lx_T b z n)) ∧ am_in 45) (P := (mo_mt (lx_T b z n)) ≠ 45) (A := R (124, [some (aR 8 0), some (aI 1), some (aI 0), o3], [], am_mix mo_SR g1 M)) (B := R (108, [some (aR 8 0), some (aI 1), some (aI 0), o3], [], am_mix mo_SR g1 M)) (by omega) (fun c105 => ?_) (fun c105 => ?_)))
            · refine hR _ (hR _ (?_))
              show R (128, [some (aR 8 0), some (aI 1), some (aI 0), o3], [aI (g1 442 0 0)], am_mix mo_SR g1 M)
              rw [(show g1 442 0 0 = mo_mt (lx_T b z n) from h442)]
              show R (128, [some (aR 8 0), some (aI 1), some (aI 0), o3], [aI (mo_mt (lx_T b z n))], am_mix mo_SR g1 M)
              refine hR _ (hR _ (am_brc (rg := am_in (mo_mt (lx_T b z n)) ∧ am_in 40) (P := (mo_mt (lx_T b z n)) ≠ 40) (A := R (148, [some (aR 8 0), some (aI 1), some (aI 0), o3], [], am_mix mo_SR g1 M)) (B := R (133, [some (aR 8 0), some (aI 1), some (aI 0), o3], [], am_mix mo_SR g1 M)) (by omega) (fun c130 => ?_) (fun c130 => ?_)))
              · refine hR _ (?_)
                show R (149, [some (aR 8 0), some (aI 1), some (aI 0), o3], [aI 0], am_mix mo_SR g1 M)
                refine hR _ (show ((0 : Int) = 0 ∨ (0 : Int) = 1) ∧ K (some (aI 0)) (am_mix mo_SR g1 M) from ?_)
                have hg := hF (by first | exact Or.inl ⟨by omega, by omega⟩ | exact Or.inr (Or.inl ⟨by omega, rfl⟩) | exact Or.inr (Or.inr (by omega)))
                rw [hFl] at hg
                exact ⟨by omega, hg g1 hs1.2.2.2 hat⟩
              · refine hR _ (hR _ (?_))
                show R (135, [some (aR 8 0), some (aI 1), some (aI 0), o3], [aI 0, aR 8 0], am_mix mo_SR g1 M)
                refine hR _ (sm_opensOne (t := t) (H := H) (o := (sy_op H : Int)) (out := out) (s := 0) (by omega) ht ht5 hs1 (by omega) (by omega) (by omega) (fun h5 => ?_) (fun h5 g3 n1 n2 => ?_))
                · show R (138, [some (aR 8 0), some (aI 1), some (aI 0), o3], [aI 0], am_mix mo_SR g1 M)
                  refine hR _ (am_brf (rg := am_in 0) (P := (0 : Int) ≠ 0) (A := R (143, [some (aR 8 0), some (aI 1), some (aI 0), o3], [], am_mix mo_SR g1 M)) (B := R (141, [some (aR 8 0), some (aI 1), some (aI 0), o3], [], am_mix mo_SR g1 M)) (by omega) (by omega) ?_)
                  show R (141, [some (aR 8 0), some (aI 1), some (aI 0), o3], [], am_mix mo_SR g1 M)
                  refine hR _ (?_)
                  show R (142, [some (aR 8 0), some (aI 1), some (aI 0), o3], [aI 0], am_mix mo_SR g1 M)
                  refine hR _ (show ((0 : Int) = 0 ∨ (0 : Int) = 1) ∧ K (some (aI 0)) (am_mix mo_SR g1 M) from ?_)
                  have hg := hF (by first | exact Or.inl ⟨by omega, by omega⟩ | exact Or.inr (Or.inl ⟨by omega, rfl⟩) | exact Or.inr (Or.inr (by omega)))
                  rw [hFl] at hg
                  exact ⟨by omega, hg g1 hs1.2.2.2 hat⟩
                · have hopn : (sy_op H : Int) + 1 = (sy_op (0 :: H) : Int) := by
                    show (sy_op H : Int) + 1 = (((1 + sy_op H : Nat)) : Int)
                    omega
                  rw [hopn] at n1
                  show R (138, [some (aR 8 0), some (aI 1), some (aI 0), o3], [aI 1], am_mix mo_SR g3 M)
                  refine hR _ (am_brt (rg := am_in 1) (P := (1 : Int) ≠ 0) (A := R (143, [some (aR 8 0), some (aI 1), some (aI 0), o3], [], am_mix mo_SR g3 M)) (B := R (141, [some (aR 8 0), some (aI 1), some (aI 0), o3], [], am_mix mo_SR g3 M)) (by omega) (by omega) ?_)
                  show R (143, [some (aR 8 0), some (aI 1), some (aI 0), o3], [], am_mix mo_SR g3 M)
                  refine hR _ (hR _ (hR _ (?_)))
                  show R (14, [some (aR 8 0), some (aI 1), some (aI 1), o3], [], am_mix mo_SR g3 M)
                  have hP2 : lx_P b z n + 1 ≤ lx_P b z (n + 1) := hP1 (by omega)
                  have hg := hEe (by omega) (by omega)
                  rw [hGW] at hg
                  refine hg (by rw [List.length_cons]; omega) g3 _ n1 ?_
                  exact (congrFun (congrFun n2.1 0) 0).trans h440b
            · refine hR _ (hR _ (?_))
              show R (111, [some (aR 8 0), some (aI 1), some (aI 0), o3], [aI 19, aR 8 0], am_mix mo_SR g1 M)
              refine hR _ (sm_opensOne (t := t) (H := H) (o := (sy_op H : Int)) (out := out) (s := 19) (by omega) ht ht5 hs1 (by omega) (by omega) (by omega) (fun h5 => ?_) (fun h5 g3 n1 n2 => ?_))
              · show R (114, [some (aR 8 0), some (aI 1), some (aI 0), o3], [aI 0], am_mix mo_SR g1 M)
                refine hR _ (am_brf (rg := am_in 0) (P := (0 : Int) ≠ 0) (A := R (119, [some (aR 8 0), some (aI 1), some (aI 0), o3], [], am_mix mo_SR g1 M)) (B := R (117, [some (aR 8 0), some (aI 1), some (aI 0), o3], [], am_mix mo_SR g1 M)) (by omega) (by omega) ?_)
                show R (117, [some (aR 8 0), some (aI 1), some (aI 0), o3], [], am_mix mo_SR g1 M)
                refine hR _ (?_)
                show R (118, [some (aR 8 0), some (aI 1), some (aI 0), o3], [aI 0], am_mix mo_SR g1 M)
                refine hR _ (show ((0 : Int) = 0 ∨ (0 : Int) = 1) ∧ K (some (aI 0)) (am_mix mo_SR g1 M) from ?_)
                have hg := hF (by first | exact Or.inl ⟨by omega, by omega⟩ | exact Or.inr (Or.inl ⟨by omega, rfl⟩) | exact Or.inr (Or.inr (by omega)))
                rw [hFl] at hg
                exact ⟨by omega, hg g1 hs1.2.2.2 hat⟩
              · have hopn : (sy_op H : Int) + 1 = (sy_op (19 :: H) : Int) := by
                  show (sy_op H : Int) + 1 = (((1 + sy_op H : Nat)) : Int)
                  omega
                rw [hopn] at n1
                show R (114, [some (aR 8 0), some (aI 1), some (aI 0), o3], [aI 1], am_mix mo_SR g3 M)
                refine hR _ (am_brt (rg := am_in 1) (P := (1 : Int) ≠ 0) (A := R (119, [some (aR 8 0), some (aI 1), some (aI 0), o3], [], am_mix mo_SR g3 M)) (B := R (117, [some (aR 8 0), some (aI 1), some (aI 0), o3], [], am_mix mo_SR g3 M)) (by omega) (by omega) ?_)
                show R (119, [some (aR 8 0), some (aI 1), some (aI 0), o3], [], am_mix mo_SR g3 M)
                refine hR _ (hR _ (hR _ (?_)))
                show R (14, [some (aR 8 0), some (aI 1), some (aI 0), o3], [], am_mix mo_SR g3 M)
                have hP2 : lx_P b z n + 1 ≤ lx_P b z (n + 1) := hP1 (by omega)
                have hg := hDd (by omega) (by omega)
                rw [hGW] at hg
                refine hg (by rw [List.length_cons]; omega) g3 _ n1 ?_
                exact (congrFun (congrFun n2.1 0) 0).trans h440b
        · refine hR _ (hR _ (hR _ (?_)))
          show R (43, [some (aR 8 0), some (aI 1), some (aI 0), o3], [aI (g1 442 0 0), aR 8 0], am_mix mo_SR g1 M)
          rw [(show g1 442 0 0 = mo_mt (lx_T b z n) from h442)]
          show R (43, [some (aR 8 0), some (aI 1), some (aI 0), o3], [aI (mo_mt (lx_T b z n)), aR 8 0], am_mix mo_SR g1 M)
          refine hR _ (hR _ (am_brc (rg := am_in (mo_mt (lx_T b z n)) ∧ am_in 1) (P := (mo_mt (lx_T b z n)) ≠ 1) (A := R (57, [some (aR 8 0), some (aI 1), some (aI 0), o3], [aR 8 0], am_mix mo_SR g1 M)) (B := R (47, [some (aR 8 0), some (aI 1), some (aI 0), o3], [aR 8 0], am_mix mo_SR g1 M)) (by omega) (fun c44 => ?_) (fun c44 => ?_)))
          · refine hR _ (hR _ (?_))
            show R (61, [some (aR 8 0), some (aI 1), some (aI 0), o3], [aI (g1 443 0 0), aR 8 0], am_mix mo_SR g1 M)
            rw [show g1 443 0 0 = lx_T b z n - 10 from hat.2.2.2.2.2 (show 10 ≤ lx_T b z n ∧ lx_T b z n ≤ 15 by omega)]
            show R (61, [some (aR 8 0), some (aI 1), some (aI 0), o3], [aI (lx_T b z n - 10), aR 8 0], am_mix mo_SR g1 M)
            refine hR _ (sm_puts (t := t) (H := H) (o := (sy_op H : Int)) (out := out) (c := (lx_T b z n - 10)) (by omega) ht ht5 hs1 (by omega) (fun g3 n1 n2 => ?_))
            show R (64, [some (aR 8 0), some (aI 1), some (aI 0), o3], [], am_mix mo_SR g3 M)
            refine hR _ (hR _ (?_))
            show R (67, [some (aR 8 0), some (aI 1), some (aI 0), o3], [aI 7, aR 8 0], am_mix mo_SR g3 M)
            refine hR _ (sm_unwinds (t := t) (H := H) (o := (sy_op H : Int)) (out := out ++ [(lx_T b z n - 10)]) (k := 7) (by omega) ht ht5 n1 (by omega) (by rw [List.length_append, List.length_singleton]; omega) rfl (fun g4 m1 m2 => ?_))
            show R (70, [some (aR 8 0), some (aI 1), some (aI 0), o3], [], am_mix mo_SR g4 M)
            refine hR _ (hR _ (hR _ (?_)))
            show R (14, [some (aR 8 0), some (aI 0), some (aI 0), o3], [], am_mix mo_SR g4 M)
            have hP2 : lx_P b z n + 1 ≤ lx_P b z (n + 1) := hP1 (by omega)
            have hg := hB (by omega)
            rw [hGN] at hg
            have hlu := sy_len 7 H
            refine hg (by rw [List.length_append, List.length_append, List.length_singleton]; omega) g4 _ _ m1 ?_
            exact (congrFun (congrFun (m2.1.trans n2.1) 0) 0).trans h440b
          · refine hR _ (hR _ (hR _ (?_)))
            show R (53, [some (aR 8 0), some (aI 1), some (aI 0), o3], [aI (g1 443 0 0), aI 100000, aR 8 0], am_mix mo_SR g1 M)
            rw [show g1 443 0 0 = lx_V b z n from hat.2.2.2.1 (show lx_T b z n = 2 by omega)]
            show R (53, [some (aR 8 0), some (aI 1), some (aI 0), o3], [aI (lx_V b z n), aI 100000, aR 8 0], am_mix mo_SR g1 M)
            refine hR _ (hR _ (?_))
            show R (61, [some (aR 8 0), some (aI 1), some (aI 0), o3], [aI (100000 + (lx_V b z n)), aR 8 0], am_mix mo_SR g1 M)
            refine hR _ (sm_puts (t := t) (H := H) (o := (sy_op H : Int)) (out := out) (c := (100000 + (lx_V b z n))) (by omega) ht ht5 hs1 (by omega) (fun g3 n1 n2 => ?_))
            show R (64, [some (aR 8 0), some (aI 1), some (aI 0), o3], [], am_mix mo_SR g3 M)
            refine hR _ (hR _ (?_))
            show R (67, [some (aR 8 0), some (aI 1), some (aI 0), o3], [aI 7, aR 8 0], am_mix mo_SR g3 M)
            refine hR _ (sm_unwinds (t := t) (H := H) (o := (sy_op H : Int)) (out := out ++ [(100000 + (lx_V b z n))]) (k := 7) (by omega) ht ht5 n1 (by omega) (by rw [List.length_append, List.length_singleton]; omega) rfl (fun g4 m1 m2 => ?_))
            show R (70, [some (aR 8 0), some (aI 1), some (aI 0), o3], [], am_mix mo_SR g4 M)
            refine hR _ (hR _ (hR _ (?_)))
            show R (14, [some (aR 8 0), some (aI 0), some (aI 0), o3], [], am_mix mo_SR g4 M)
            have hP2 : lx_P b z n + 1 ≤ lx_P b z (n + 1) := hP1 (by omega)
            have hg := hA (by omega)
            rw [hGN] at hg
            have hlu := sy_len 7 H
            refine hg (by rw [List.length_append, List.length_append, List.length_singleton]; omega) g4 _ _ m1 ?_
            exact (congrFun (congrFun (m2.1.trans n2.1) 0) 0).trans h440b
    | true =>
      refine hR _ (?_)
      show R (15, [some (aR 8 0), some (aI 1), some (aI 1), o3], [aR 8 0], am_mix mo_SR g M)
      refine hR _ (sm_goesNext (b := b) (z := z) (p := lx_P b z n) (by omega) hz hz2 hb hby hwd h440 (lx_P_b _ _ _) (fun g2 hat => ?_))
      have hs1 : mo_hd M (am_mix [440, 441, 442, 443] g2 (am_mix mo_SR g M)) t H (sy_op H : Int) out := hs
      have e9 : am_ag mo_SR M (am_mix [440, 441, 442, 443] g2 (am_mix mo_SR g M)) := (am_ag.rf.mix rfl).mix rfl
      rw [e9.eq] at hat hs1 ⊢
      generalize am_mix [440, 441, 442, 443] g2 (am_mix mo_SR g M) = g1 at hat hs1 ⊢
      have hTr := lx_T_b b z n
      have hm := mo_mt_f (lx_T_b b z n) (lx_T_9 b z n)
      have h442 : g1 442 0 0 = mo_mt (lx_T b z n) := hat.1
      have h440b : g1 440 0 0 = ((lx_P b z (n + 1) : Nat) : Int) := hat.2.2.1
      have hPn := lx_P_b b z n
      have hPn1 := lx_P_b b z (n + 1)
      have hP1 := lx_P_1 (b := b) (z := z) n
      show R (18, [some (aR 8 0), some (aI 1), some (aI 1), o3], [], am_mix mo_SR g1 M)
      refine hR _ (hR _ (am_brf (rg := am_in 1) (P := (1 : Int) = 0) (A := R (150, [some (aR 8 0), some (aI 1), some (aI 1), o3], [], am_mix mo_SR g1 M)) (B := R (22, [some (aR 8 0), some (aI 1), some (aI 1), o3], [], am_mix mo_SR g1 M)) (by omega) (by omega) ?_))
      show R (22, [some (aR 8 0), some (aI 1), some (aI 1), o3], [], am_mix mo_SR g1 M)
      refine hR _ (hR _ (?_))
      show R (26, [some (aR 8 0), some (aI 1), some (aI 1), o3], [aI (g1 442 0 0)], am_mix mo_SR g1 M)
      rw [(show g1 442 0 0 = mo_mt (lx_T b z n) from h442)]
      show R (26, [some (aR 8 0), some (aI 1), some (aI 1), o3], [aI (mo_mt (lx_T b z n))], am_mix mo_SR g1 M)
      refine hR _ (hR _ (am_brc (rg := am_in (mo_mt (lx_T b z n)) ∧ am_in 1) (P := (mo_mt (lx_T b z n)) = 1) (A := R (38, [some (aR 8 0), some (aI 1), some (aI 1), o3], [], am_mix mo_SR g1 M)) (B := R (30, [some (aR 8 0), some (aI 1), some (aI 1), o3], [], am_mix mo_SR g1 M)) (by omega) (fun c27 => ?_) (fun c27 => ?_)))
      · refine hR _ (hR _ (hR _ (?_)))
        show R (43, [some (aR 8 0), some (aI 1), some (aI 1), o3], [aI (g1 442 0 0), aR 8 0], am_mix mo_SR g1 M)
        rw [(show g1 442 0 0 = mo_mt (lx_T b z n) from h442)]
        show R (43, [some (aR 8 0), some (aI 1), some (aI 1), o3], [aI (mo_mt (lx_T b z n)), aR 8 0], am_mix mo_SR g1 M)
        refine hR _ (hR _ (am_brc (rg := am_in (mo_mt (lx_T b z n)) ∧ am_in 1) (P := (mo_mt (lx_T b z n)) ≠ 1) (A := R (57, [some (aR 8 0), some (aI 1), some (aI 1), o3], [aR 8 0], am_mix mo_SR g1 M)) (B := R (47, [some (aR 8 0), some (aI 1), some (aI 1), o3], [aR 8 0], am_mix mo_SR g1 M)) (by omega) (fun c44 => ?_) (fun c44 => ?_)))
        · refine hR _ (hR _ (?_))
          show R (61, [some (aR 8 0), some (aI 1), some (aI 1), o3], [aI (g1 443 0 0), aR 8 0], am_mix mo_SR g1 M)
          rw [show g1 443 0 0 = lx_T b z n - 10 from hat.2.2.2.2.2 (show 10 ≤ lx_T b z n ∧ lx_T b z n ≤ 15 by omega)]
          show R (61, [some (aR 8 0), some (aI 1), some (aI 1), o3], [aI (lx_T b z n - 10), aR 8 0], am_mix mo_SR g1 M)
          refine hR _ (sm_puts (t := t) (H := H) (o := (sy_op H : Int)) (out := out) (c := (lx_T b z n - 10)) (by omega) ht ht5 hs1 (by omega) (fun g3 n1 n2 => ?_))
          show R (64, [some (aR 8 0), some (aI 1), some (aI 1), o3], [], am_mix mo_SR g3 M)
          refine hR _ (hR _ (?_))
          show R (67, [some (aR 8 0), some (aI 1), some (aI 1), o3], [aI 7, aR 8 0], am_mix mo_SR g3 M)
          refine hR _ (sm_unwinds (t := t) (H := H) (o := (sy_op H : Int)) (out := out ++ [(lx_T b z n - 10)]) (k := 7) (by omega) ht ht5 n1 (by omega) (by rw [List.length_append, List.length_singleton]; omega) rfl (fun g4 m1 m2 => ?_))
          show R (70, [some (aR 8 0), some (aI 1), some (aI 1), o3], [], am_mix mo_SR g4 M)
          refine hR _ (hR _ (hR _ (?_)))
          show R (14, [some (aR 8 0), some (aI 0), some (aI 1), o3], [], am_mix mo_SR g4 M)
          have hP2 : lx_P b z n + 1 ≤ lx_P b z (n + 1) := hP1 (by omega)
          have hg := hB (by omega)
          rw [hGN] at hg
          have hlu := sy_len 7 H
          refine hg (by rw [List.length_append, List.length_append, List.length_singleton]; omega) g4 _ _ m1 ?_
          exact (congrFun (congrFun (m2.1.trans n2.1) 0) 0).trans h440b
        · refine hR _ (hR _ (hR _ (?_)))
          show R (53, [some (aR 8 0), some (aI 1), some (aI 1), o3], [aI (g1 443 0 0), aI 100000, aR 8 0], am_mix mo_SR g1 M)
          rw [show g1 443 0 0 = lx_V b z n from hat.2.2.2.1 (show lx_T b z n = 2 by omega)]
          show R (53, [some (aR 8 0), some (aI 1), some (aI 1), o3], [aI (lx_V b z n), aI 100000, aR 8 0], am_mix mo_SR g1 M)
          refine hR _ (hR _ (?_))
          show R (61, [some (aR 8 0), some (aI 1), some (aI 1), o3], [aI (100000 + (lx_V b z n)), aR 8 0], am_mix mo_SR g1 M)
          refine hR _ (sm_puts (t := t) (H := H) (o := (sy_op H : Int)) (out := out) (c := (100000 + (lx_V b z n))) (by omega) ht ht5 hs1 (by omega) (fun g3 n1 n2 => ?_))
          show R (64, [some (aR 8 0), some (aI 1), some (aI 1), o3], [], am_mix mo_SR g3 M)
          refine hR _ (hR _ (?_))
          show R (67, [some (aR 8 0), some (aI 1), some (aI 1), o3], [aI 7, aR 8 0], am_mix mo_SR g3 M)
          refine hR _ (sm_unwinds (t := t) (H := H) (o := (sy_op H : Int)) (out := out ++ [(100000 + (lx_V b z n))]) (k := 7) (by omega) ht ht5 n1 (by omega) (by rw [List.length_append, List.length_singleton]; omega) rfl (fun g4 m1 m2 => ?_))
          show R (70, [some (aR 8 0), some (aI 1), some (aI 1), o3], [], am_mix mo_SR g4 M)
          refine hR _ (hR _ (hR _ (?_)))
          show R (14, [some (aR 8 0), some (aI 0), some (aI 1), o3], [], am_mix mo_SR g4 M)
          have hP2 : lx_P b z n + 1 ≤ lx_P b z (n + 1) := hP1 (by omega)
          have hg := hA (by omega)
          rw [hGN] at hg
          have hlu := sy_len 7 H
          refine hg (by rw [List.length_append, List.length_append, List.length_singleton]; omega) g4 _ _ m1 ?_
          exact (congrFun (congrFun (m2.1.trans n2.1) 0) 0).trans h440b
      · refine hR _ (hR _ (?_))
        show R (34, [some (aR 8 0), some (aI 1), some (aI 1), o3], [aI (g1 442 0 0)], am_mix mo_SR g1 M)
        rw [(show g1 442 0 0 = mo_mt (lx_T b z n) from h442)]
        show R (34, [some (aR 8 0), some (aI 1), some (aI 1), o3], [aI (mo_mt (lx_T b z n))], am_mix mo_SR g1 M)
        refine hR _ (hR _ (am_brc (rg := am_in (mo_mt (lx_T b z n)) ∧ am_in 2) (P := (mo_mt (lx_T b z n)) ≠ 2) (A := R (75, [some (aR 8 0), some (aI 1), some (aI 1), o3], [], am_mix mo_SR g1 M)) (B := R (38, [some (aR 8 0), some (aI 1), some (aI 1), o3], [], am_mix mo_SR g1 M)) (by omega) (fun c35 => ?_) (fun c35 => ?_)))
        · refine hR _ (hR _ (?_))
          show R (79, [some (aR 8 0), some (aI 1), some (aI 1), o3], [aI (g1 442 0 0)], am_mix mo_SR g1 M)
          rw [(show g1 442 0 0 = mo_mt (lx_T b z n) from h442)]
          show R (79, [some (aR 8 0), some (aI 1), some (aI 1), o3], [aI (mo_mt (lx_T b z n))], am_mix mo_SR g1 M)
          refine hR _ (hR _ (am_brc (rg := am_in (mo_mt (lx_T b z n)) ∧ am_in 6) (P := (mo_mt (lx_T b z n)) ≠ 6) (A := R (99, [some (aR 8 0), some (aI 1), some (aI 1), o3], [], am_mix mo_SR g1 M)) (B := R (84, [some (aR 8 0), some (aI 1), some (aI 1), o3], [], am_mix mo_SR g1 M)) (by omega) (fun c81 => ?_) (fun c81 => ?_)))
          · refine hR _ (hR _ (?_))
            show R (103, [some (aR 8 0), some (aI 1), some (aI 1), o3], [aI (g1 442 0 0)], am_mix mo_SR g1 M)
            rw [(show g1 442 0 0 = mo_mt (lx_T b z n) from h442)]
            show R (103, [some (aR 8 0), some (aI 1), some (aI 1), o3], [aI (mo_mt (lx_T b z n))], am_mix mo_SR g1 M)
            refine hR _ (hR _ (am_brc (rg := am_in (mo_mt (lx_T b z n)) ∧ am_in 45) (P := (mo_mt (lx_T b z n)) ≠ 45) (A := R (124, [some (aR 8 0), some (aI 1), some (aI 1), o3], [], am_mix mo_SR g1 M)) (B := R (108, [some (aR 8 0), some (aI 1), some (aI 1), o3], [], am_mix mo_SR g1 M)) (by omega) (fun c105 => ?_) (fun c105 => ?_)))
            · refine hR _ (hR _ (?_))
              show R (128, [some (aR 8 0), some (aI 1), some (aI 1), o3], [aI (g1 442 0 0)], am_mix mo_SR g1 M)
              rw [(show g1 442 0 0 = mo_mt (lx_T b z n) from h442)]
              show R (128, [some (aR 8 0), some (aI 1), some (aI 1), o3], [aI (mo_mt (lx_T b z n))], am_mix mo_SR g1 M)
              refine hR _ (hR _ (am_brc (rg := am_in (mo_mt (lx_T b z n)) ∧ am_in 40) (P := (mo_mt (lx_T b z n)) ≠ 40) (A := R (148, [some (aR 8 0), some (aI 1), some (aI 1), o3], [], am_mix mo_SR g1 M)) (B := R (133, [some (aR 8 0), some (aI 1), some (aI 1), o3], [], am_mix mo_SR g1 M)) (by omega) (fun c130 => ?_) (fun c130 => ?_)))
              · refine hR _ (?_)
                show R (149, [some (aR 8 0), some (aI 1), some (aI 1), o3], [aI 0], am_mix mo_SR g1 M)
                refine hR _ (show ((0 : Int) = 0 ∨ (0 : Int) = 1) ∧ K (some (aI 0)) (am_mix mo_SR g1 M) from ?_)
                have hg := hF (by first | exact Or.inl ⟨by omega, by omega⟩ | exact Or.inr (Or.inl ⟨by omega, rfl⟩) | exact Or.inr (Or.inr (by omega)))
                rw [hFl] at hg
                exact ⟨by omega, hg g1 hs1.2.2.2 hat⟩
              · refine hR _ (hR _ (?_))
                show R (135, [some (aR 8 0), some (aI 1), some (aI 1), o3], [aI 0, aR 8 0], am_mix mo_SR g1 M)
                refine hR _ (sm_opensOne (t := t) (H := H) (o := (sy_op H : Int)) (out := out) (s := 0) (by omega) ht ht5 hs1 (by omega) (by omega) (by omega) (fun h5 => ?_) (fun h5 g3 n1 n2 => ?_))
                · show R (138, [some (aR 8 0), some (aI 1), some (aI 1), o3], [aI 0], am_mix mo_SR g1 M)
                  refine hR _ (am_brf (rg := am_in 0) (P := (0 : Int) ≠ 0) (A := R (143, [some (aR 8 0), some (aI 1), some (aI 1), o3], [], am_mix mo_SR g1 M)) (B := R (141, [some (aR 8 0), some (aI 1), some (aI 1), o3], [], am_mix mo_SR g1 M)) (by omega) (by omega) ?_)
                  show R (141, [some (aR 8 0), some (aI 1), some (aI 1), o3], [], am_mix mo_SR g1 M)
                  refine hR _ (?_)
                  show R (142, [some (aR 8 0), some (aI 1), some (aI 1), o3], [aI 0], am_mix mo_SR g1 M)
                  refine hR _ (show ((0 : Int) = 0 ∨ (0 : Int) = 1) ∧ K (some (aI 0)) (am_mix mo_SR g1 M) from ?_)
                  have hg := hF (by first | exact Or.inl ⟨by omega, by omega⟩ | exact Or.inr (Or.inl ⟨by omega, rfl⟩) | exact Or.inr (Or.inr (by omega)))
                  rw [hFl] at hg
                  exact ⟨by omega, hg g1 hs1.2.2.2 hat⟩
                · have hopn : (sy_op H : Int) + 1 = (sy_op (0 :: H) : Int) := by
                    show (sy_op H : Int) + 1 = (((1 + sy_op H : Nat)) : Int)
                    omega
                  rw [hopn] at n1
                  show R (138, [some (aR 8 0), some (aI 1), some (aI 1), o3], [aI 1], am_mix mo_SR g3 M)
                  refine hR _ (am_brt (rg := am_in 1) (P := (1 : Int) ≠ 0) (A := R (143, [some (aR 8 0), some (aI 1), some (aI 1), o3], [], am_mix mo_SR g3 M)) (B := R (141, [some (aR 8 0), some (aI 1), some (aI 1), o3], [], am_mix mo_SR g3 M)) (by omega) (by omega) ?_)
                  show R (143, [some (aR 8 0), some (aI 1), some (aI 1), o3], [], am_mix mo_SR g3 M)
                  refine hR _ (hR _ (hR _ (?_)))
                  show R (14, [some (aR 8 0), some (aI 1), some (aI 1), o3], [], am_mix mo_SR g3 M)
                  have hP2 : lx_P b z n + 1 ≤ lx_P b z (n + 1) := hP1 (by omega)
                  have hg := hEe (by omega) (by omega)
                  rw [hGW] at hg
                  refine hg (by rw [List.length_cons]; omega) g3 _ n1 ?_
                  exact (congrFun (congrFun n2.1 0) 0).trans h440b
            · refine hR _ (hR _ (?_))
              show R (111, [some (aR 8 0), some (aI 1), some (aI 1), o3], [aI 19, aR 8 0], am_mix mo_SR g1 M)
              refine hR _ (sm_opensOne (t := t) (H := H) (o := (sy_op H : Int)) (out := out) (s := 19) (by omega) ht ht5 hs1 (by omega) (by omega) (by omega) (fun h5 => ?_) (fun h5 g3 n1 n2 => ?_))
              · show R (114, [some (aR 8 0), some (aI 1), some (aI 1), o3], [aI 0], am_mix mo_SR g1 M)
                refine hR _ (am_brf (rg := am_in 0) (P := (0 : Int) ≠ 0) (A := R (119, [some (aR 8 0), some (aI 1), some (aI 1), o3], [], am_mix mo_SR g1 M)) (B := R (117, [some (aR 8 0), some (aI 1), some (aI 1), o3], [], am_mix mo_SR g1 M)) (by omega) (by omega) ?_)
                show R (117, [some (aR 8 0), some (aI 1), some (aI 1), o3], [], am_mix mo_SR g1 M)
                refine hR _ (?_)
                show R (118, [some (aR 8 0), some (aI 1), some (aI 1), o3], [aI 0], am_mix mo_SR g1 M)
                refine hR _ (show ((0 : Int) = 0 ∨ (0 : Int) = 1) ∧ K (some (aI 0)) (am_mix mo_SR g1 M) from ?_)
                have hg := hF (by first | exact Or.inl ⟨by omega, by omega⟩ | exact Or.inr (Or.inl ⟨by omega, rfl⟩) | exact Or.inr (Or.inr (by omega)))
                rw [hFl] at hg
                exact ⟨by omega, hg g1 hs1.2.2.2 hat⟩
              · have hopn : (sy_op H : Int) + 1 = (sy_op (19 :: H) : Int) := by
                  show (sy_op H : Int) + 1 = (((1 + sy_op H : Nat)) : Int)
                  omega
                rw [hopn] at n1
                show R (114, [some (aR 8 0), some (aI 1), some (aI 1), o3], [aI 1], am_mix mo_SR g3 M)
                refine hR _ (am_brt (rg := am_in 1) (P := (1 : Int) ≠ 0) (A := R (119, [some (aR 8 0), some (aI 1), some (aI 1), o3], [], am_mix mo_SR g3 M)) (B := R (117, [some (aR 8 0), some (aI 1), some (aI 1), o3], [], am_mix mo_SR g3 M)) (by omega) (by omega) ?_)
                show R (119, [some (aR 8 0), some (aI 1), some (aI 1), o3], [], am_mix mo_SR g3 M)
                refine hR _ (hR _ (hR _ (?_)))
                show R (14, [some (aR 8 0), some (aI 1), some (aI 0), o3], [], am_mix mo_SR g3 M)
                have hP2 : lx_P b z n + 1 ≤ lx_P b z (n + 1) := hP1 (by omega)
                have hg := hDd (by omega) (by omega)
                rw [hGW] at hg
                refine hg (by rw [List.length_cons]; omega) g3 _ n1 ?_
                exact (congrFun (congrFun n2.1 0) 0).trans h440b
          · refine hR _ (hR _ (am_brf (rg := am_in 1) (P := (1 : Int) = 0) (A := R (99, [some (aR 8 0), some (aI 1), some (aI 1), o3], [], am_mix mo_SR g1 M)) (B := R (88, [some (aR 8 0), some (aI 1), some (aI 1), o3], [], am_mix mo_SR g1 M)) (by omega) (by omega) ?_))
            show R (88, [some (aR 8 0), some (aI 1), some (aI 1), o3], [], am_mix mo_SR g1 M)
            refine hR _ (hR _ (?_))
            show R (91, [some (aR 8 0), some (aI 1), some (aI 1), o3], [aI 13, aR 8 0], am_mix mo_SR g1 M)
            refine hR _ (sm_opensOne (t := t) (H := H) (o := (sy_op H : Int)) (out := out) (s := 13) (by omega) ht ht5 hs1 (by omega) (by omega) (by omega) (fun h5 => ?_) (fun h5 g3 n1 n2 => ?_))
            · show R (94, [some (aR 8 0), some (aI 1), some (aI 1), o3], [aI 0], am_mix mo_SR g1 M)
              refine hR _ (am_brf (rg := am_in 0) (P := (0 : Int) ≠ 0) (A := R (14, [some (aR 8 0), some (aI 1), some (aI 1), o3], [], am_mix mo_SR g1 M)) (B := R (97, [some (aR 8 0), some (aI 1), some (aI 1), o3], [], am_mix mo_SR g1 M)) (by omega) (by omega) ?_)
              show R (97, [some (aR 8 0), some (aI 1), some (aI 1), o3], [], am_mix mo_SR g1 M)
              refine hR _ (?_)
              show R (98, [some (aR 8 0), some (aI 1), some (aI 1), o3], [aI 0], am_mix mo_SR g1 M)
              refine hR _ (show ((0 : Int) = 0 ∨ (0 : Int) = 1) ∧ K (some (aI 0)) (am_mix mo_SR g1 M) from ?_)
              have hg := hF (by first | exact Or.inl ⟨by omega, by omega⟩ | exact Or.inr (Or.inl ⟨by omega, rfl⟩) | exact Or.inr (Or.inr (by omega)))
              rw [hFl] at hg
              exact ⟨by omega, hg g1 hs1.2.2.2 hat⟩
            · have hopn : (sy_op H : Int) + 1 = (sy_op (13 :: H) : Int) := by
                show (sy_op H : Int) + 1 = (((1 + sy_op H : Nat)) : Int)
                omega
              rw [hopn] at n1
              show R (94, [some (aR 8 0), some (aI 1), some (aI 1), o3], [aI 1], am_mix mo_SR g3 M)
              refine hR _ (am_brt (rg := am_in 1) (P := (1 : Int) ≠ 0) (A := R (14, [some (aR 8 0), some (aI 1), some (aI 1), o3], [], am_mix mo_SR g3 M)) (B := R (97, [some (aR 8 0), some (aI 1), some (aI 1), o3], [], am_mix mo_SR g3 M)) (by omega) (by omega) ?_)
              show R (14, [some (aR 8 0), some (aI 1), some (aI 1), o3], [], am_mix mo_SR g3 M)
              have hP2 : lx_P b z n + 1 ≤ lx_P b z (n + 1) := hP1 (by omega)
              have hg := hCc (by omega) rfl (by omega)
              rw [hGW] at hg
              refine hg (by rw [List.length_cons]; omega) g3 _ n1 ?_
              exact (congrFun (congrFun n2.1 0) 0).trans h440b
        · refine hR _ (hR _ (hR _ (?_)))
          show R (43, [some (aR 8 0), some (aI 1), some (aI 1), o3], [aI (g1 442 0 0), aR 8 0], am_mix mo_SR g1 M)
          rw [(show g1 442 0 0 = mo_mt (lx_T b z n) from h442)]
          show R (43, [some (aR 8 0), some (aI 1), some (aI 1), o3], [aI (mo_mt (lx_T b z n)), aR 8 0], am_mix mo_SR g1 M)
          refine hR _ (hR _ (am_brc (rg := am_in (mo_mt (lx_T b z n)) ∧ am_in 1) (P := (mo_mt (lx_T b z n)) ≠ 1) (A := R (57, [some (aR 8 0), some (aI 1), some (aI 1), o3], [aR 8 0], am_mix mo_SR g1 M)) (B := R (47, [some (aR 8 0), some (aI 1), some (aI 1), o3], [aR 8 0], am_mix mo_SR g1 M)) (by omega) (fun c44 => ?_) (fun c44 => ?_)))
          · refine hR _ (hR _ (?_))
            show R (61, [some (aR 8 0), some (aI 1), some (aI 1), o3], [aI (g1 443 0 0), aR 8 0], am_mix mo_SR g1 M)
            rw [show g1 443 0 0 = lx_T b z n - 10 from hat.2.2.2.2.2 (show 10 ≤ lx_T b z n ∧ lx_T b z n ≤ 15 by omega)]
            show R (61, [some (aR 8 0), some (aI 1), some (aI 1), o3], [aI (lx_T b z n - 10), aR 8 0], am_mix mo_SR g1 M)
            refine hR _ (sm_puts (t := t) (H := H) (o := (sy_op H : Int)) (out := out) (c := (lx_T b z n - 10)) (by omega) ht ht5 hs1 (by omega) (fun g3 n1 n2 => ?_))
            show R (64, [some (aR 8 0), some (aI 1), some (aI 1), o3], [], am_mix mo_SR g3 M)
            refine hR _ (hR _ (?_))
            show R (67, [some (aR 8 0), some (aI 1), some (aI 1), o3], [aI 7, aR 8 0], am_mix mo_SR g3 M)
            refine hR _ (sm_unwinds (t := t) (H := H) (o := (sy_op H : Int)) (out := out ++ [(lx_T b z n - 10)]) (k := 7) (by omega) ht ht5 n1 (by omega) (by rw [List.length_append, List.length_singleton]; omega) rfl (fun g4 m1 m2 => ?_))
            show R (70, [some (aR 8 0), some (aI 1), some (aI 1), o3], [], am_mix mo_SR g4 M)
            refine hR _ (hR _ (hR _ (?_)))
            show R (14, [some (aR 8 0), some (aI 0), some (aI 1), o3], [], am_mix mo_SR g4 M)
            have hP2 : lx_P b z n + 1 ≤ lx_P b z (n + 1) := hP1 (by omega)
            have hg := hB (by omega)
            rw [hGN] at hg
            have hlu := sy_len 7 H
            refine hg (by rw [List.length_append, List.length_append, List.length_singleton]; omega) g4 _ _ m1 ?_
            exact (congrFun (congrFun (m2.1.trans n2.1) 0) 0).trans h440b
          · refine hR _ (hR _ (hR _ (?_)))
            show R (53, [some (aR 8 0), some (aI 1), some (aI 1), o3], [aI (g1 443 0 0), aI 100000, aR 8 0], am_mix mo_SR g1 M)
            rw [show g1 443 0 0 = lx_V b z n from hat.2.2.2.1 (show lx_T b z n = 2 by omega)]
            show R (53, [some (aR 8 0), some (aI 1), some (aI 1), o3], [aI (lx_V b z n), aI 100000, aR 8 0], am_mix mo_SR g1 M)
            refine hR _ (hR _ (?_))
            show R (61, [some (aR 8 0), some (aI 1), some (aI 1), o3], [aI (100000 + (lx_V b z n)), aR 8 0], am_mix mo_SR g1 M)
            refine hR _ (sm_puts (t := t) (H := H) (o := (sy_op H : Int)) (out := out) (c := (100000 + (lx_V b z n))) (by omega) ht ht5 hs1 (by omega) (fun g3 n1 n2 => ?_))
            show R (64, [some (aR 8 0), some (aI 1), some (aI 1), o3], [], am_mix mo_SR g3 M)
            refine hR _ (hR _ (?_))
            show R (67, [some (aR 8 0), some (aI 1), some (aI 1), o3], [aI 7, aR 8 0], am_mix mo_SR g3 M)
            refine hR _ (sm_unwinds (t := t) (H := H) (o := (sy_op H : Int)) (out := out ++ [(100000 + (lx_V b z n))]) (k := 7) (by omega) ht ht5 n1 (by omega) (by rw [List.length_append, List.length_singleton]; omega) rfl (fun g4 m1 m2 => ?_))
            show R (70, [some (aR 8 0), some (aI 1), some (aI 1), o3], [], am_mix mo_SR g4 M)
            refine hR _ (hR _ (hR _ (?_)))
            show R (14, [some (aR 8 0), some (aI 0), some (aI 1), o3], [], am_mix mo_SR g4 M)
            have hP2 : lx_P b z n + 1 ≤ lx_P b z (n + 1) := hP1 (by omega)
            have hg := hA (by omega)
            rw [hGN] at hg
            have hlu := sy_len 7 H
            refine hg (by rw [List.length_append, List.length_append, List.length_singleton]; omega) g4 _ _ m1 ?_
            exact (congrFun (congrFun (m2.1.trans n2.1) 0) 0).trans h440b
  have stepN : ∀ (n : Nat) (H out : List Int), ((lx_T b z n) = 41 → ∀ H3, sy_un 1 H = 0 :: H3 → GN (n + 1) (sy_un 7 H3) (out ++ sy_tk 1 H ++ sy_tk 7 H3)) → ((lx_T b z n) = 41 → sy_un 1 H = [] → Fl n) → (sy_isop (lx_T b z n) → ¬ (sy_rk (jf_cv (lx_T b z n) 0) = 4 ∧ ∃ s r, sy_un 5 H = s :: r ∧ sy_rk s = 4) → GW (n + 1) (decide (jf_cv (lx_T b z n) 0 ≤ 12)) (jf_cv (lx_T b z n) 0 :: sy_un (sy_kk (jf_cv (lx_T b z n) 0)) H) (out ++ sy_tk (sy_kk (jf_cv (lx_T b z n) 0)) H)) → (sy_isop (lx_T b z n) → sy_rk (jf_cv (lx_T b z n) 0) = 4 → (∃ s r, sy_un 5 H = s :: r ∧ sy_rk s = 4) → Fl n) → ((lx_T b z n) = 59 → sy_un 1 H = [] → Dn n (out ++ sy_tk 1 H)) → ((lx_T b z n) = 59 → sy_un 1 H ≠ [] → Fl n) → (¬ (sy_isop (lx_T b z n) ∨ (lx_T b z n) = 41 ∨ (lx_T b z n) = 59) → Fl n) → GN n H out := by
    intro n H out hA hB hCc hDd hEe hF hZ
    rw [hGN]
    intro hlen g y o3 hs h440
    have hob := sy_op_b H
    have hlu := sy_len 1 H
    refine hR _ (?_)
    show R (15, [some (aR 8 0), some (aI 0), some (aI y), o3], [aR 8 0], am_mix mo_SR g M)
    refine hR _ (sm_goesNext (b := b) (z := z) (p := lx_P b z n) (by omega) hz hz2 hb hby hwd h440 (lx_P_b _ _ _) (fun g2 hat => ?_))
    have hs1 : mo_hd M (am_mix [440, 441, 442, 443] g2 (am_mix mo_SR g M)) t H (sy_op H : Int) out := hs
    have e9 : am_ag mo_SR M (am_mix [440, 441, 442, 443] g2 (am_mix mo_SR g M)) := (am_ag.rf.mix rfl).mix rfl
    rw [e9.eq] at hat hs1 ⊢
    generalize am_mix [440, 441, 442, 443] g2 (am_mix mo_SR g M) = g1 at hat hs1 ⊢
    have hTr := lx_T_b b z n
    have hm := mo_mt_f (lx_T_b b z n) (lx_T_9 b z n)
    have h442 : g1 442 0 0 = mo_mt (lx_T b z n) := hat.1
    have h440b : g1 440 0 0 = ((lx_P b z (n + 1) : Nat) : Int) := hat.2.2.1
    have hPn := lx_P_b b z n
    have hPn1 := lx_P_b b z (n + 1)
    have hP1 := lx_P_1 (b := b) (z := z) n
    show R (18, [some (aR 8 0), some (aI 0), some (aI y), o3], [], am_mix mo_SR g1 M)
    refine hR _ (hR _ (am_brt (rg := am_in 0) (P := (0 : Int) = 0) (A := R (150, [some (aR 8 0), some (aI 0), some (aI y), o3], [], am_mix mo_SR g1 M)) (B := R (22, [some (aR 8 0), some (aI 0), some (aI y), o3], [], am_mix mo_SR g1 M)) (by omega) (by omega) ?_))
    show R (150, [some (aR 8 0), some (aI 0), some (aI y), o3], [], am_mix mo_SR g1 M)
    refine hR _ (hR _ (?_))
    show R (154, [some (aR 8 0), some (aI 0), some (aI y), o3], [aI (g1 442 0 0)], am_mix mo_SR g1 M)
    rw [(show g1 442 0 0 = mo_mt (lx_T b z n) from h442)]
    show R (154, [some (aR 8 0), some (aI 0), some (aI y), o3], [aI (mo_mt (lx_T b z n))], am_mix mo_SR g1 M)
    refine hR _ (hR _ (am_brc (rg := am_in (mo_mt (lx_T b z n)) ∧ am_in 59) (P := (mo_mt (lx_T b z n)) ≠ 59) (A := R (177, [some (aR 8 0), some (aI 0), some (aI y), o3], [], am_mix mo_SR g1 M)) (B := R (159, [some (aR 8 0), some (aI 0), some (aI y), o3], [], am_mix mo_SR g1 M)) (by omega) (fun c156 => ?_) (fun c156 => ?_)))
    · refine hR _ (hR _ (?_))
      show R (181, [some (aR 8 0), some (aI 0), some (aI y), o3], [aI (g1 442 0 0)], am_mix mo_SR g1 M)
      rw [(show g1 442 0 0 = mo_mt (lx_T b z n) from h442)]
      show R (181, [some (aR 8 0), some (aI 0), some (aI y), o3], [aI (mo_mt (lx_T b z n))], am_mix mo_SR g1 M)
      refine hR _ (hR _ (am_brc (rg := am_in (mo_mt (lx_T b z n)) ∧ am_in 41) (P := (mo_mt (lx_T b z n)) ≠ 41) (A := R (229, [some (aR 8 0), some (aI 0), some (aI y), o3], [], am_mix mo_SR g1 M)) (B := R (186, [some (aR 8 0), some (aI 0), some (aI y), o3], [], am_mix mo_SR g1 M)) (by omega) (fun c183 => ?_) (fun c183 => ?_)))
      · refine hR _ (?_)
        show R (230, [some (aR 8 0), some (aI 0), some (aI y), o3], [aR 8 0], am_mix mo_SR g1 M)
        refine hR _ (sm_signOf (T := (lx_T b z n)) (by omega) h442 (lx_T_b b z n) (lx_T_9 b z n) (fun hop => ?_) (fun hnop => ?_))
        · have hcv := sy_cv hop
          show R (233, [some (aR 8 0), some (aI 0), some (aI y), o3], [aI (jf_cv (lx_T b z n) 0)], am_mix mo_SR g1 M)
          refine hR _ (hR _ (hR _ (hR _ (am_brc (rg := am_in (jf_cv (lx_T b z n) 0) ∧ am_in (-1)) (P := (jf_cv (lx_T b z n) 0) = (-1)) (A := R (247, [some (aR 8 0), some (aI 0), some (aI y), some (aI (jf_cv (lx_T b z n) 0))], [], am_mix mo_SR g1 M)) (B := R (239, [some (aR 8 0), some (aI 0), some (aI y), some (aI (jf_cv (lx_T b z n) 0))], [], am_mix mo_SR g1 M)) (by omega) (fun c236 => ?_) (fun c236 => ?_)))))
          · refine hR _ (?_)
            show R (248, [some (aR 8 0), some (aI 0), some (aI y), some (aI (jf_cv (lx_T b z n) 0))], [aI 0], am_mix mo_SR g1 M)
            refine hR _ (show ((0 : Int) = 0 ∨ (0 : Int) = 1) ∧ K (some (aI 0)) (am_mix mo_SR g1 M) from ?_)
            have hg : Fl n := by
              first
                | (refine hZ (fun hh => ?_); rcases hh with hh | hh | hh <;> first | exact hnop hh | omega)
                | exact hDd hop h4 hex
                | (refine hF (by omega) (fun he => ?_); rw [he] at hz446; simp at hz446; omega)
                | (refine hB (by omega) ?_; cases hq : sy_un 1 H with
                  | nil => rfl
                  | cons a l => rw [hq] at hz446; simp at hz446; omega)
                | (exfalso; omega)
            rw [hFl] at hg
            exact ⟨by omega, hg g1 hs1.2.2.2 hat⟩
          · refine hR _ (hR _ (?_))
            show R (241, [some (aR 8 0), some (aI 0), some (aI y), some (aI (jf_cv (lx_T b z n) 0))], [aI (jf_cv (lx_T b z n) 0), aR 8 0], am_mix mo_SR g1 M)
            refine hR _ (sm_between (t := t) (H := H) (out := out) (s := jf_cv (lx_T b z n) 0) (by omega) ht ht5 hs1 (by omega) ⟨hcv.1, hcv.2.1⟩ ⟨hcv.2.2.2.1, hcv.2.2.2.2.1⟩ (fun h4 hex g3 n1 n2 => ?_) (fun hne g3 n1 n2 => ?_))
            · show R (244, [some (aR 8 0), some (aI 0), some (aI y), some (aI (jf_cv (lx_T b z n) 0))], [aI 0], am_mix mo_SR g3 M)
              refine hR _ (am_brf (rg := am_in 0) (P := (0 : Int) ≠ 0) (A := R (249, [some (aR 8 0), some (aI 0), some (aI y), some (aI (jf_cv (lx_T b z n) 0))], [], am_mix mo_SR g3 M)) (B := R (247, [some (aR 8 0), some (aI 0), some (aI y), some (aI (jf_cv (lx_T b z n) 0))], [], am_mix mo_SR g3 M)) (by omega) (by omega) ?_)
              show R (247, [some (aR 8 0), some (aI 0), some (aI y), some (aI (jf_cv (lx_T b z n) 0))], [], am_mix mo_SR g3 M)
              refine hR _ (?_)
              show R (248, [some (aR 8 0), some (aI 0), some (aI y), some (aI (jf_cv (lx_T b z n) 0))], [aI 0], am_mix mo_SR g3 M)
              refine hR _ (show ((0 : Int) = 0 ∨ (0 : Int) = 1) ∧ K (some (aI 0)) (am_mix mo_SR g3 M) from ?_)
              have hg : Fl n := by
                first
                  | (refine hZ (fun hh => ?_); rcases hh with hh | hh | hh <;> first | exact hnop hh | omega)
                  | exact hDd hop h4 hex
                  | (refine hF (by omega) (fun he => ?_); rw [he] at hz446; simp at hz446; omega)
                  | (refine hB (by omega) ?_; cases hq : sy_un 1 H with
                    | nil => rfl
                    | cons a l => rw [hq] at hz446; simp at hz446; omega)
                  | (exfalso; omega)
              rw [hFl] at hg
              exact ⟨by omega, hg g3 n1.2.2.2 (n2.at hat)⟩
            · show R (244, [some (aR 8 0), some (aI 0), some (aI y), some (aI (jf_cv (lx_T b z n) 0))], [aI 1], am_mix mo_SR g3 M)
              refine hR _ (am_brt (rg := am_in 1) (P := (1 : Int) ≠ 0) (A := R (249, [some (aR 8 0), some (aI 0), some (aI y), some (aI (jf_cv (lx_T b z n) 0))], [], am_mix mo_SR g3 M)) (B := R (247, [some (aR 8 0), some (aI 0), some (aI y), some (aI (jf_cv (lx_T b z n) 0))], [], am_mix mo_SR g3 M)) (by omega) (by omega) ?_)
              show R (249, [some (aR 8 0), some (aI 0), some (aI y), some (aI (jf_cv (lx_T b z n) 0))], [], am_mix mo_SR g3 M)
              refine hR _ (hR _ (hR _ (hR _ (hR _ (am_brc (rg := am_in (jf_cv (lx_T b z n) 0) ∧ am_in 12) (P := 12 < (jf_cv (lx_T b z n) 0)) (A := R (261, [some (aR 8 0), some (aI 1), some (aI y), some (aI (jf_cv (lx_T b z n) 0))], [], am_mix mo_SR g3 M)) (B := R (257, [some (aR 8 0), some (aI 1), some (aI y), some (aI (jf_cv (lx_T b z n) 0))], [], am_mix mo_SR g3 M)) (by omega) (fun c254 => ?_) (fun c254 => ?_))))))
              · refine hR _ (hR _ (hR _ (?_)))
                show R (14, [some (aR 8 0), some (aI 1), some (aI 0), some (aI (jf_cv (lx_T b z n) 0))], [], am_mix mo_SR g3 M)
                have hP2 : lx_P b z n + 1 ≤ lx_P b z (n + 1) := hP1 (by unfold sy_isop at hop; omega)
                have hg := hCc hop hne
                rw [hGW] at hg
                have hlk := sy_len (sy_kk (jf_cv (lx_T b z n) 0)) H
                have hg2 := hg (by rw [List.length_cons, List.length_append]; omega) g3 (some (aI (jf_cv (lx_T b z n) 0))) (by rw [hcv.2.2.2.2.2]; exact n1) ((congrFun (congrFun n2.1 0) 0).trans h440b)
                rw [show decide (jf_cv (lx_T b z n) 0 ≤ 12) = false from decide_eq_false (by omega)] at hg2
                exact hg2
              · refine hR _ (hR _ (hR _ (hR _ (?_))))
                show R (14, [some (aR 8 0), some (aI 1), some (aI 1), some (aI (jf_cv (lx_T b z n) 0))], [], am_mix mo_SR g3 M)
                have hP2 : lx_P b z n + 1 ≤ lx_P b z (n + 1) := hP1 (by unfold sy_isop at hop; omega)
                have hg := hCc hop hne
                rw [hGW] at hg
                have hlk := sy_len (sy_kk (jf_cv (lx_T b z n) 0)) H
                have hg2 := hg (by rw [List.length_cons, List.length_append]; omega) g3 (some (aI (jf_cv (lx_T b z n) 0))) (by rw [hcv.2.2.2.2.2]; exact n1) ((congrFun (congrFun n2.1 0) 0).trans h440b)
                rw [show decide (jf_cv (lx_T b z n) 0 ≤ 12) = true from decide_eq_true (by omega)] at hg2
                exact hg2
        · show R (233, [some (aR 8 0), some (aI 0), some (aI y), o3], [aI (-1)], am_mix mo_SR g1 M)
          refine hR _ (hR _ (hR _ (hR _ (am_brt (rg := am_in (-1) ∧ am_in (-1)) (P := ((-1) : Int) = (-1)) (A := R (247, [some (aR 8 0), some (aI 0), some (aI y), some (aI (-1))], [], am_mix mo_SR g1 M)) (B := R (239, [some (aR 8 0), some (aI 0), some (aI y), some (aI (-1))], [], am_mix mo_SR g1 M)) (by omega) (by omega) ?_))))
          show R (247, [some (aR 8 0), some (aI 0), some (aI y), some (aI (-1))], [], am_mix mo_SR g1 M)
          refine hR _ (?_)
          show R (248, [some (aR 8 0), some (aI 0), some (aI y), some (aI (-1))], [aI 0], am_mix mo_SR g1 M)
          refine hR _ (show ((0 : Int) = 0 ∨ (0 : Int) = 1) ∧ K (some (aI 0)) (am_mix mo_SR g1 M) from ?_)
          have hg : Fl n := by
            first
              | (refine hZ (fun hh => ?_); rcases hh with hh | hh | hh <;> first | exact hnop hh | omega)
              | exact hDd hop h4 hex
              | (refine hF (by omega) (fun he => ?_); rw [he] at hz446; simp at hz446; omega)
              | (refine hB (by omega) ?_; cases hq : sy_un 1 H with
                | nil => rfl
                | cons a l => rw [hq] at hz446; simp at hz446; omega)
              | (exfalso; omega)
          rw [hFl] at hg
          exact ⟨by omega, hg g1 hs1.2.2.2 hat⟩
      · refine hR _ (hR _ (?_))
        show R (188, [some (aR 8 0), some (aI 0), some (aI y), o3], [aI 1, aR 8 0], am_mix mo_SR g1 M)
        refine hR _ (sm_unwinds (t := t) (H := H) (o := (sy_op H : Int)) (out := out) (k := 1) (by omega) ht ht5 hs1 (by omega) (by omega) rfl (fun g3 n1 n2 => ?_))
        have hz446 : g3 446 0 0 = (((sy_un 1 H).length : Nat) : Int) := n1.1.1
        show R (191, [some (aR 8 0), some (aI 0), some (aI y), o3], [], am_mix mo_SR g3 M)
        refine hR _ (hR _ (hR _ (am_brc (rg := am_in (g3 446 0 0)) (P := g3 446 0 0 ≠ 0) (A := R (200, [some (aR 8 0), some (aI 0), some (aI y), o3], [], am_mix mo_SR g3 M)) (B := R (198, [some (aR 8 0), some (aI 0), some (aI y), o3], [], am_mix mo_SR g3 M)) (by omega) (fun c195 => ?_) (fun c195 => ?_))))
        · obtain ⟨s3, H3, hsr⟩ : ∃ s3 H3, sy_un 1 H = s3 :: H3 := by
            cases hq : sy_un 1 H with
            | nil => rw [hq] at hz446; simp at hz446; omega
            | cons s3 H3 => exact ⟨s3, H3, rfl⟩
          have hs30 : s3 = 0 := by
            have h1 := sy_un_hd hsr
            have h2 := sy_rk_b s3
            have h3 : sy_rk s3 = 0 := by omega
            unfold sy_rk at h3
            repeat' split at h3
            all_goals omega
          subst hs30
          rw [hsr] at n1 hz446 hlu
          have hz2 : g3 446 0 0 = ((H3.length : Nat) : Int) + 1 := by rw [hz446]; simp
          have h447 : g3 447 0 0 = (sy_op H3 : Int) + 1 := by
            rw [show g3 447 0 0 = (sy_op (0 :: H3) : Int) from n1.1.2.2.1]
            show (((1 + sy_op H3 : Nat)) : Int) = _
            omega
          rw [List.length_cons] at hlu
          refine hR _ (hR _ (hR _ (hR _ (hR _ (hR _ (hR _ (hR _ (hR _ (hR _ (hR _ (hR _ (?_))))))))))))
          show R (220, [some (aR 8 0), some (aI 0), some (aI y), o3], [], am_wr (am_wr (am_mix mo_SR g3 M) 446 0 0 (g3 446 0 0 - 1)) 447 0 0 (g3 447 0 0 - 1))
          rw [show (g3 446 0 0 - 1) = ((H3.length : Nat) : Int) by omega, show (g3 447 0 0 - 1) = (sy_op H3 : Int) by omega]
          have hs4 := (n1.pop).op (o' := (sy_op H3 : Int))
          have l4 : mo_lx (am_wr (am_wr (am_mix mo_SR g3 M) 446 0 0 ((H3.length : Nat) : Int)) 447 0 0 (sy_op H3 : Int)) g1 := n2
          have e8 : am_ag mo_SR M (am_wr (am_wr (am_mix mo_SR g3 M) 446 0 0 ((H3.length : Nat) : Int)) 447 0 0 (sy_op H3 : Int)) := ((am_ag.rf.mix rfl).wr rfl).wr rfl
          rw [e8.eq] at hs4 l4 ⊢
          generalize am_wr (am_wr (am_mix mo_SR g3 M) 446 0 0 ((H3.length : Nat) : Int)) 447 0 0 (sy_op H3 : Int) = g4 at hs4 l4 ⊢
          show R (220, [some (aR 8 0), some (aI 0), some (aI y), o3], [], am_mix mo_SR g4 M)
          refine hR _ (hR _ (?_))
          show R (223, [some (aR 8 0), some (aI 0), some (aI y), o3], [aI 7, aR 8 0], am_mix mo_SR g4 M)
          refine hR _ (sm_unwinds (t := t) (H := H3) (o := (sy_op H3 : Int)) (out := out ++ sy_tk 1 H) (k := 7) (by omega) ht ht5 hs4 (by omega) (by rw [List.length_append]; omega) rfl (fun g5 m1 m2 => ?_))
          show R (226, [some (aR 8 0), some (aI 0), some (aI y), o3], [], am_mix mo_SR g5 M)
          refine hR _ (?_)
          show R (14, [some (aR 8 0), some (aI 0), some (aI y), o3], [], am_mix mo_SR g5 M)
          have hP2 : lx_P b z n + 1 ≤ lx_P b z (n + 1) := hP1 (by omega)
          have hg := hA (by omega) H3 hsr
          rw [hGN] at hg
          have hlu7 := sy_len 7 H3
          refine hg (by rw [List.length_append, List.length_append]; omega) g5 _ _ m1 ?_
          exact (congrFun (congrFun (m2.1.trans l4.1) 0) 0).trans h440b
        · refine hR _ (?_)
          show R (199, [some (aR 8 0), some (aI 0), some (aI y), o3], [aI 0], am_mix mo_SR g3 M)
          refine hR _ (show ((0 : Int) = 0 ∨ (0 : Int) = 1) ∧ K (some (aI 0)) (am_mix mo_SR g3 M) from ?_)
          have hg : Fl n := by
            first
              | (refine hZ (fun hh => ?_); rcases hh with hh | hh | hh <;> first | exact hnop hh | omega)
              | exact hDd hop h4 hex
              | (refine hF (by omega) (fun he => ?_); rw [he] at hz446; simp at hz446; omega)
              | (refine hB (by omega) ?_; cases hq : sy_un 1 H with
                | nil => rfl
                | cons a l => rw [hq] at hz446; simp at hz446; omega)
              | (exfalso; omega)
          rw [hFl] at hg
          exact ⟨by omega, hg g3 n1.2.2.2 (n2.at hat)⟩
    · refine hR _ (hR _ (?_))
      show R (161, [some (aR 8 0), some (aI 0), some (aI y), o3], [aI 1, aR 8 0], am_mix mo_SR g1 M)
      refine hR _ (sm_unwinds (t := t) (H := H) (o := (sy_op H : Int)) (out := out) (k := 1) (by omega) ht ht5 hs1 (by omega) (by omega) rfl (fun g3 n1 n2 => ?_))
      have hz446 : g3 446 0 0 = (((sy_un 1 H).length : Nat) : Int) := n1.1.1
      show R (164, [some (aR 8 0), some (aI 0), some (aI y), o3], [], am_mix mo_SR g3 M)
      refine hR _ (hR _ (hR _ (am_brc (rg := am_in (g3 446 0 0)) (P := g3 446 0 0 ≠ 0) (A := R (175, [some (aR 8 0), some (aI 0), some (aI y), o3], [], am_mix mo_SR g3 M)) (B := R (171, [some (aR 8 0), some (aI 0), some (aI y), o3], [], am_mix mo_SR g3 M)) (by omega) (fun c168 => ?_) (fun c168 => ?_))))
      · refine hR _ (?_)
        show R (176, [some (aR 8 0), some (aI 0), some (aI y), o3], [aI 0], am_mix mo_SR g3 M)
        refine hR _ (show ((0 : Int) = 0 ∨ (0 : Int) = 1) ∧ K (some (aI 0)) (am_mix mo_SR g3 M) from ?_)
        have hg : Fl n := by
          first
            | (refine hZ (fun hh => ?_); rcases hh with hh | hh | hh <;> first | exact hnop hh | omega)
            | exact hDd hop h4 hex
            | (refine hF (by omega) (fun he => ?_); rw [he] at hz446; simp at hz446; omega)
            | (refine hB (by omega) ?_; cases hq : sy_un 1 H with
              | nil => rfl
              | cons a l => rw [hq] at hz446; simp at hz446; omega)
            | (exfalso; omega)
        rw [hFl] at hg
        exact ⟨by omega, hg g3 n1.2.2.2 (n2.at hat)⟩
      · refine hR _ (hR _ (?_))
        show R (176, [some (aR 8 0), some (aI 0), some (aI y), o3], [aI 1], am_mix mo_SR g3 M)
        refine hR _ (show ((1 : Int) = 0 ∨ (1 : Int) = 1) ∧ K (some (aI 1)) (am_mix mo_SR g3 M) from ?_)
        have he : sy_un 1 H = [] := by
          cases hq : sy_un 1 H with
          | nil => rfl
          | cons a l => rw [hq] at hz446; simp at hz446; omega
        have hg := hEe (by omega) he
        rw [hDn] at hg
        exact ⟨by omega, hg g3 n1.2 (n2.at hat)⟩
  have hcF : ∀ (n : Nat) (mn : Bool) (H : List Int), (lx_T b z n) = 6 → sy_op H ≠ 5 → mn = true → ((((lx_T b z n) = 6 ∨ (lx_T b z n) = 45 ∨ (lx_T b z n) = 40) ∧ sy_op H = 5) ∨ ((lx_T b z n) = 6 ∧ mn = false) ∨ ¬ ((lx_T b z n) = 2 ∨ (lx_T b z n) = 6 ∨ (lx_T b z n) = 45 ∨ (lx_T b z n) = 40 ∨ (10 ≤ (lx_T b z n) ∧ (lx_T b z n) ≤ 15))) → Fl n := by
    intro n mn H h1 h2 h3 h4
    exfalso
    rcases h4 with ⟨-, h⟩ | ⟨-, h⟩ | h
    · omega
    · rw [h3] at h
      cases h
    · omega
  have hcG : ∀ (n : Nat) (mn : Bool) (H : List Int), ((lx_T b z n) = 45 ∨ (lx_T b z n) = 40) → sy_op H ≠ 5 → ((((lx_T b z n) = 6 ∨ (lx_T b z n) = 45 ∨ (lx_T b z n) = 40) ∧ sy_op H = 5) ∨ ((lx_T b z n) = 6 ∧ mn = false) ∨ ¬ ((lx_T b z n) = 2 ∨ (lx_T b z n) = 6 ∨ (lx_T b z n) = 45 ∨ (lx_T b z n) = 40 ∨ (10 ≤ (lx_T b z n) ∧ (lx_T b z n) ≤ 15))) → Fl n := by
    intro n mn H h1 h2 h4
    exfalso
    rcases h4 with ⟨-, h⟩ | ⟨h, -⟩ | h
    · omega
    · omega
    · omega
  have hcH : ∀ (n : Nat) (mn : Bool) (H : List Int), ((((lx_T b z n) = 6 ∨ (lx_T b z n) = 45 ∨ (lx_T b z n) = 40) ∧ sy_op H = 5) ∨ ((lx_T b z n) = 6 ∧ mn = false) ∨ ¬ ((lx_T b z n) = 2 ∨ (lx_T b z n) = 6 ∨ (lx_T b z n) = 45 ∨ (lx_T b z n) = 40 ∨ (10 ≤ (lx_T b z n) ∧ (lx_T b z n) ≤ 15))) → (lx_T b z n) = 6 → mn = true → sy_op H ≠ 5 → False := by
    intro n mn H h4 h1 h3 h2
    rcases h4 with ⟨-, h⟩ | ⟨-, h⟩ | h
    · omega
    · rw [h3] at h
      cases h
    · omega
  have hO : sy_ok (lx_T b z) (lx_V b z) GW GN Fl Dn := by
    refine ⟨⟨fun n mn H out h hg => ?_, fun n mn H out h hg => ?_⟩, ⟨fun n H out h h5 hg => ?_, fun n mn H out h h5 hg => ?_, fun n mn H out h h5 hg => ?_, fun n mn H out h hg => ?_⟩, fun n H H3 out h he hg => ?_, fun n H out h he hg => ?_, fun n H out h hne hg => ?_, fun n H out h h4 hex hg => ?_, fun n H out h he hg => ?_, fun n H out h he hg => ?_, fun n H out h hg => ?_⟩
    · exact stepW n mn H out (fun _ => hg) (fun h2 => absurd h2 (by omega)) (fun h2 _ _ => absurd h2 (by omega)) (fun h2 _ => absurd h2 (by omega)) (fun h2 _ => absurd h2 (by omega)) (fun hc => by rcases hc with ⟨hc, -⟩ | ⟨hc, -⟩ | hc <;> (exfalso; omega))
    · exact stepW n mn H out (fun h2 => absurd h2 (by omega)) (fun _ => hg) (fun h2 _ _ => absurd h2 (by omega)) (fun h2 _ => absurd h2 (by omega)) (fun h2 _ => absurd h2 (by omega)) (fun hc => by rcases hc with ⟨hc, -⟩ | ⟨hc, -⟩ | hc <;> (exfalso; omega))
    · exact stepW n true H out (fun h2 => absurd h2 (by omega)) (fun h2 => absurd h2 (by omega)) (fun _ _ _ => hg) (fun h2 _ => absurd h2 (by omega)) (fun h2 _ => absurd h2 (by omega)) (hcF n true H h (by omega) rfl)
    · exact stepW n mn H out (fun h2 => absurd h2 (by omega)) (fun h2 => absurd h2 (by omega)) (fun h2 _ _ => absurd h2 (by omega)) (fun _ _ => hg) (fun h2 _ => absurd h2 (by omega)) (hcG n mn H (by omega) (by omega))
    · exact stepW n mn H out (fun h2 => absurd h2 (by omega)) (fun h2 => absurd h2 (by omega)) (fun h2 _ _ => absurd h2 (by omega)) (fun h2 _ => absurd h2 (by omega)) (fun _ _ => hg) (hcG n mn H (by omega) (by omega))
    · exact stepW n mn H out (fun h2 => by exfalso; rcases h with ⟨h, -⟩ | ⟨h, -⟩ | h <;> omega) (fun h2 => by exfalso; rcases h with ⟨h, -⟩ | ⟨h, -⟩ | h <;> omega) (fun h2 hmn h5 => by exfalso; exact hcH n mn H h h2 hmn h5) (fun h2 h5 => by exfalso; rcases h with ⟨-, h⟩ | ⟨h, -⟩ | h <;> omega) (fun h2 h5 => by exfalso; rcases h with ⟨-, h⟩ | ⟨h, -⟩ | h <;> omega) (fun _ => hg)
    · exact stepN n H out (fun _ H3b he2 => by rw [he] at he2; cases he2; exact hg) (fun _ h2 => by rw [he] at h2; cases h2) (fun hop _ => by exfalso; unfold sy_isop at hop; omega) (fun hop _ _ => by exfalso; unfold sy_isop at hop; omega) (fun h2 _ => absurd h2 (by omega)) (fun h2 _ => absurd h2 (by omega)) (fun hn => absurd (Or.inr (Or.inl h)) hn)
    · exact stepN n H out (fun _ H3b h2 => by rw [he] at h2; cases h2) (fun _ _ => hg) (fun hop _ => by exfalso; unfold sy_isop at hop; omega) (fun hop _ _ => by exfalso; unfold sy_isop at hop; omega) (fun h2 _ => absurd h2 (by omega)) (fun h2 _ => absurd h2 (by omega)) (fun hn => absurd (Or.inr (Or.inl h)) hn)
    · exact stepN n H out (fun h2 _ _ => by exfalso; unfold sy_isop at h; omega) (fun h2 _ => by exfalso; unfold sy_isop at h; omega) (fun _ _ => hg) (fun _ h4 hex => absurd ⟨h4, hex⟩ hne) (fun h2 _ => by exfalso; unfold sy_isop at h; omega) (fun h2 _ => by exfalso; unfold sy_isop at h; omega) (fun hn => absurd (Or.inl h) hn)
    · exact stepN n H out (fun h2 _ _ => by exfalso; unfold sy_isop at h; omega) (fun h2 _ => by exfalso; unfold sy_isop at h; omega) (fun _ hne => absurd ⟨h4, hex⟩ hne) (fun _ _ _ => hg) (fun h2 _ => by exfalso; unfold sy_isop at h; omega) (fun h2 _ => by exfalso; unfold sy_isop at h; omega) (fun hn => absurd (Or.inl h) hn)
    · exact stepN n H out (fun h2 _ _ => absurd h2 (by omega)) (fun h2 _ => absurd h2 (by omega)) (fun hop _ => by exfalso; unfold sy_isop at hop; omega) (fun hop _ _ => by exfalso; unfold sy_isop at hop; omega) (fun _ _ => hg) (fun _ h2 => absurd he h2) (fun hn => absurd (Or.inr (Or.inr h)) hn)
    · exact stepN n H out (fun h2 _ _ => absurd h2 (by omega)) (fun h2 _ => absurd h2 (by omega)) (fun hop _ => by exfalso; unfold sy_isop at hop; omega) (fun hop _ _ => by exfalso; unfold sy_isop at hop; omega) (fun _ h2 => absurd h2 he) (fun _ _ => hg) (fun hn => absurd (Or.inr (Or.inr h)) hn)
    · exact stepN n H out (fun h2 _ _ => absurd (Or.inr (Or.inl h2)) h) (fun h2 _ => absurd (Or.inr (Or.inl h2)) h) (fun hop _ => absurd (Or.inl hop) h) (fun hop _ _ => absurd (Or.inl hop) h) (fun h2 _ => absurd (Or.inr (Or.inr h2)) h) (fun h2 _ => absurd (Or.inr (Or.inr h2)) h) (fun _ => hg)
  have hfin : GW n0 true [] out0 := sy_E hO lx_P_1 (lx_T_0 hz2) (fun m e => by rw [hFl]; exact fun g h1 h2 => hKf m (Or.inl e) g h1 h2) (fun m w e => ⟨fun h59 => by rw [hDn]; exact fun g h1 h2 => hKd m w e h59 g h1 h2, fun hn => by rw [hFl]; exact fun g h1 h2 => hKf m (Or.inr ⟨w, e, hn⟩) g h1 h2⟩)
  rw [hGW] at hfin
  refine hR _ (hR _ (hR _ (hR _ (hR _ (hR _ (hR _ (hR _ (hR _ (hR _ (?_))))))))))
  show R (14, [some (aR 8 0), some (aI 1), some (aI 1), none], [], am_wr (am_wr (am_mix mo_SR g0 M) 446 0 0 0) 447 0 0 0)
  have hs := hs0.clear
  have h4b : (am_wr (am_wr (am_mix mo_SR g0 M) 446 0 0 0) 447 0 0 0) 440 0 0 = ((lx_P b z n0 : Nat) : Int) := h440
  have e9 : am_ag mo_SR M (am_wr (am_wr (am_mix mo_SR g0 M) 446 0 0 0) 447 0 0 0) := ((am_ag.rf.mix rfl).wr rfl).wr rfl
  rw [e9.eq] at hs h4b ⊢
  exact hfin (by rw [List.length_nil]; omega) _ _ hs h4b
