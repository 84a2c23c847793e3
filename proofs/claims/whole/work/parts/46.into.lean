/-! wb -/
variable {wb : Bool}
/-! The tape's readInto; text -/
abbrev cr_S18 : List Nat := [15, 16, 18, 302, 303, 304, 305, 345]
/-- the other texts are as they were -/
def jf_ot (M m : am_M) (t : Nat) : Prop := ∀ i, i ≠ t → m 15 i = M 15 i ∧ m 16 i = M 16 i ∧ m 18 i = M 18 i

theorem cr_endPart {d : Nat} (hd : 2 ≤ d) {t : Nat} {v : Int} {M : am_M} {K : am_K} (ht : t < 6) (hv : 0 ≤ v ∧ v ≤ 2) (h : K none (am_wr M 18 t v.toNat (M 345 t 0))) : am_Call wb d 30 [aR 6 t, aI v] M K := by
  obtain ⟨d, rfl⟩ : ∃ e, d = e + 1 := ⟨d - 1, by omega⟩
  refine ⟨rfl, fun R hR hC => ?_⟩
  replace hR : ∀ c, am_F wb tb_f30 0 (am_Call wb d) K R c → R c := hR
  show R (0, [some (aR 6 t), some (aI v)], [], M)
  refine hR _ (hR _ (hR _ (?_)))
  show R (3, [some (aR 6 t), some (aI v)], [aI 2, aI 0, aI v], M)
  refine hR _ (sp_within (by omega) (by omega) (fun h3 => ?_) (fun h3 => ?_))
  · show R (6, [some (aR 6 t), some (aI v)], [aI 1], M)
    refine hR _ (am_brf (rg := am_in 1) (P := (1 : Int) = 0) (A := R (19, [some (aR 6 t), some (aI v)], [], M)) (B := R (9, [some (aR 6 t), some (aI v)], [], M)) (by omega) (by omega) ?_)
    show R (9, [some (aR 6 t), some (aI v)], [], M)
    refine hR _ (?_)
    show R (10, [some (aR 6 t), some (aI v)], [aR 6 t], M)
    refine hR _ (am_ct (am_vi (by omega : t < 6)) ?_)
    show R (13, [some (aR 6 t), some (aI v)], [aR 18 t], M)
    refine hR _ (hR _ (?_))
    show R (15, [some (aR 6 t), some (aI v)], [aR 6 t, aI v, aR 18 t], M)
    refine hR _ (am_ct (am_vi (by omega : t < 6)) ?_)
    show R (18, [some (aR 6 t), some (aI v)], [aI (M 345 t 0), aI v, aR 18 t], M)
    refine hR _ (am_ct (am_vi (by omega : t < 6)) ⟨(show 0 ≤ (v : Int) ∧ (v : Int) < 3 from (by omega)), ?_⟩)
    show R (19, [some (aR 6 t), some (aI v)], [], am_wr M 18 t ((v).toNat) (M 345 t 0))
    refine hR _ (show K none (am_wr M 18 t ((v).toNat) (M 345 t 0)) from ?_)
    exact h
  · show R (6, [some (aR 6 t), some (aI v)], [aI 0], M)
    refine hR _ (am_brt (rg := am_in 0) (P := (0 : Int) = 0) (A := R (19, [some (aR 6 t), some (aI v)], [], M)) (B := R (9, [some (aR 6 t), some (aI v)], [], M)) (by omega) (by omega) ?_)
    show R (19, [some (aR 6 t), some (aI v)], [], M)
    refine hR _ (show K none M from ?_)
    exact absurd hv (by omega)

theorem cr_empty {d : Nat} (hd : 1 ≤ d) {t : Nat} {M : am_M} {K : am_K} (ht : t < 6) (h : K none (am_wr M 345 t 0 0)) : am_Call wb d 13 [aR 6 t] M K := by
  obtain ⟨d, rfl⟩ : ∃ e, d = e + 1 := ⟨d - 1, by omega⟩
  refine ⟨rfl, fun R hR hC => ?_⟩
  replace hR : ∀ c, am_F wb tb_f13 0 (am_Call wb d) K R c → R c := hR
  show R (0, [some (aR 6 t)], [], M)
  refine hR _ (hR _ (?_))
  show R (2, [some (aR 6 t)], [aI 0, aR 6 t], M)
  refine hR _ (am_ct (am_vi (by omega : t < 6)) ?_)
  show R (5, [some (aR 6 t)], [], am_wr M 345 t 0 0)
  refine hR _ (show K none (am_wr M 345 t 0 0) from ?_)
  exact h

theorem tx_tok {d : Nat} (hd : 7 ≤ d) {b : Nat → Int} {z t : Nat} {M B : am_M} {n : Nat} {l : List Int} {g : am_M} {K : am_K} (hB1 : B 301 = M 301) (hB2 : B 20 = M 20) (hB3 : B 15 = M 15) (hB4 : B 16 = M 16) (hz : M 301 0 0 = (z : Int)) (hz2 : z ≤ 160) (hb : M 20 0 = b) (hby : lx_by_ok b z) (ht : t < 6) (hs : cr_s b z M (am_mix cr_S g B) t n l) (h : ∀ g, cr_s b z M (am_mix cr_S g B) t (n + 1) l → K none (am_mix cr_S g B)) : am_Call wb d 14 [aR 5 0] (am_mix cr_S g B) K := by
  refine cr_tok hd (M := B) (b := b) (z := z) (t := t) (n := n) (l := l) (by rw [hB1]; exact hz) hz2 (by rw [hB2]; exact hb) hby ht ⟨hs.1, hs.2.1, fun i hi => by rw [hB3, hB4]; exact hs.2.2 i hi⟩ (fun g hs' => h g ⟨hs'.1, hs'.2.1, fun i hi => ?_⟩)
  have := hs'.2.2 i hi
  rw [hB3, hB4] at this
  exact this
theorem tx_or {d : Nat} (hd : 48 ≤ d) {b : Nat → Int} {z t : Nat} {M B : am_M} {n : Nat} {l : List Int} {g : am_M} {K : am_K} (hB1 : B 301 = M 301) (hB2 : B 20 = M 20) (hB3 : B 15 = M 15) (hB4 : B 16 = M 16) (hz : M 301 0 0 = (z : Int)) (hz2 : z ≤ 160) (hb : M 20 0 = b) (hby : lx_by_ok b z) (ht : t < 6) (hs : cr_s b z M (am_mix cr_S g B) t n l) (hl : l.length ≤ lx_P b z n) (h0 : ∀ g m, rd_or (lx_T b z) (lx_V b z) (rd_nx (lx_T b z) (lx_V b z) 5) n = (m, none) → lx_st b z (am_mix cr_S g B) m → jf_oth M (am_mix cr_S g B) t → K (some (aI 0)) (am_mix cr_S g B)) (h1 : ∀ g m w, rd_or (lx_T b z) (lx_V b z) (rd_nx (lx_T b z) (lx_V b z) 5) n = (m, some w) → cr_s b z M (am_mix cr_S g B) t m (l ++ w) → K (some (aI 1)) (am_mix cr_S g B)) : am_Call wb d 22 [aR 5 0, aR 6 t, aI 0] (am_mix cr_S g B) K := by
  have hh := (cr_all (wb := wb) (M := B) (b := b) (z := z) (t := t) (by rw [hB1]; exact hz) hz2 (by rw [hB2]; exact hb) hby ht 5 0 (by decide) (by decide)).2.2
  refine hh (by omega) (n := n) (l := l) ⟨hs.1, hs.2.1, fun i hi => by rw [hB3, hB4]; exact hs.2.2 i hi⟩ hl (fun g m e h2 h3 => h0 g m e h2 (fun i hi => ?_)) (fun g m w e h2 => h1 g m w e ⟨h2.1, h2.2.1, fun i hi => ?_⟩)
  · have := h3 i hi
    rw [hB3, hB4] at this
    exact this
  · have := h2.2.2 i hi
    rw [hB3, hB4] at this
    exact this
theorem tx_end {d : Nat} (hd : 2 ≤ d) {b : Nat → Int} {z t : Nat} {M B : am_M} {n : Nat} {l : List Int} {g : am_M} {K : am_K} {v : Int} (ht : t < 6) (hv : 0 ≤ v ∧ v ≤ 2) (hs : cr_s b z M (am_mix cr_S g B) t n l) (h : cr_s b z M (am_mix cr_S g (am_wr B 18 t v.toNat (l.length : Int))) t n l → K none (am_mix cr_S g (am_wr B 18 t v.toNat (l.length : Int)))) : am_Call wb d 30 [aR 6 t, aI v] (am_mix cr_S g B) K := by
  refine cr_endPart hd ht hv ?_
  rw [am_mix_wr rfl, show am_mix cr_S g B 345 t 0 = (l.length : Int) from hs.2.1.1]
  exact h hs

set_option maxHeartbeats 2000000 in
theorem cr_readInto {d : Nat} (hd : 49 ≤ d) {b : Nat → Int} {z t : Nat} {M : am_M} {K : am_K} (hz : M 301 0 0 = (z : Int)) (hz2 : z ≤ 160) (hb : M 20 0 = b) (hby : lx_by_ok b z) (ht : t < 6) (hK0 : ∀ n, tx_all (lx_T b z) (lx_V b z) = (n, none) → ∀ g, jf_ot M (am_mix cr_S18 g M) t → K (some (aI (lx_Q b z n : Int))) (am_mix cr_S18 g M)) (hK1 : ∀ n w0 w1 w2, tx_all (lx_T b z) (lx_V b z) = (n, some (w0, w1, w2)) → ∀ g, jf_ot M (am_mix cr_S18 g M) t → jf_txt (am_mix cr_S18 g M) t w0 w1 w2 → K (some (aI (-1))) (am_mix cr_S18 g M)) : am_Call wb d 12 [aR 5 0, aR 6 t] M K := by
  obtain ⟨d, rfl⟩ : ∃ e, d = e + 1 := ⟨d - 1, by omega⟩
  refine ⟨rfl, fun R hR hC => ?_⟩
  replace hR : ∀ c, am_F wb tb_f12 1 (am_Call wb d) K R c → R c := hR
  show R (0, [some (aR 5 0), some (aR 6 t), none], [], M)
  have key : ∀ g : am_M, cr_s b z M (am_mix cr_S g M) t 0 [] → R (13, [some (aR 5 0), some (aR 6 t), none], [], am_mix cr_S g M) := by
    intro g hs
    have hl : ([] : List Int).length ≤ lx_P b z 0 := Nat.zero_le _
    have hT0 := lx_T_b b z 0
    refine hR _ (hR _ (hR _ (hR _ (hR _ (am_brf (rg := am_in 0 ∧ am_in 3) (P := 3 ≤ 0) (A := R (77, [some (aR 5 0), some (aR 6 t), some (aI 0)], [], am_mix cr_S g M)) (B := R (20, [some (aR 5 0), some (aR 6 t), some (aI 0)], [], am_mix cr_S g M)) (by omega) (by omega) ?_)))))
    show R (20, [some (aR 5 0), some (aR 6 t), some (aI 0)], [], am_mix cr_S g M)
    refine hR _ (hR _ (?_))
    show R (24, [some (aR 5 0), some (aR 6 t), some (aI 0)], [aI (g 303 0 0)], am_mix cr_S g M)
    rw [(show g 303 0 0 = lx_T b z 0 from hs.1.1)]
    show R (24, [some (aR 5 0), some (aR 6 t), some (aI 0)], [aI (lx_T b z 0)], am_mix cr_S g M)
    refine hR _ (hR _ (hR _ (hR _ (am_brc (rg := am_in (lx_T b z 0) ∧ am_in 3) (P := (lx_T b z 0) = 3) (A := R (35, [some (aR 5 0), some (aR 6 t), some (aI 0)], [], am_mix cr_S g M)) (B := R (30, [some (aR 5 0), some (aR 6 t), some (aI 0)], [], am_mix cr_S g M)) (by omega) (fun c27 => ?_) (fun c27 => ?_)))))
    · refine hR _ (?_)
      show R (36, [some (aR 5 0), some (aR 6 t), some (aI 0)], [aR 5 0], am_mix cr_S g M)
      refine hR _ (tx_tok (M := M) (by omega) rfl rfl rfl rfl hz hz2 hb hby ht hs (fun g326 hs327 => ?_))
      have hl328 : (([] : List Int)).length ≤ lx_P b z (0 + 1) := Nat.le_trans hl (lx_e_b (b := b) (lx_P_b b z 0)).1
      have hT329 := lx_T_b b z (0 + 1)
      show R (39, [some (aR 5 0), some (aR 6 t), some (aI 0)], [], am_mix cr_S g326 M)
      refine hR _ (hR _ (hR _ (?_)))
      show R (42, [some (aR 5 0), some (aR 6 t), some (aI 0)], [aI 0, aR 6 t, aR 5 0], am_mix cr_S g326 M)
      refine hR _ (tx_or (M := M) (by omega) rfl rfl rfl rfl hz hz2 hb hby ht hs327 hl328 (fun g336 m337 e338 hs339 ho => ?_) (fun g330 m334 w335 e333 hs331 => ?_))
      · show R (45, [some (aR 5 0), some (aR 6 t), some (aI 0)], [aI 0], am_mix cr_S g336 M)
        refine hR _ (am_brt (rg := am_in 0) (P := (0 : Int) = 0) (A := R (57, [some (aR 5 0), some (aR 6 t), some (aI 0)], [], am_mix cr_S g336 M)) (B := R (48, [some (aR 5 0), some (aR 6 t), some (aI 0)], [], am_mix cr_S g336 M)) (by omega) (by omega) ?_)
        show R (57, [some (aR 5 0), some (aR 6 t), some (aI 0)], [], am_mix cr_S g336 M)
        refine hR _ (hR _ (?_))
        show R (61, [some (aR 5 0), some (aR 6 t), some (aI 0)], [aI (g336 304 0 0)], am_mix cr_S g336 M)
        refine hR _ (show K (some (aI (g336 304 0 0))) (am_mix cr_S g336 M) from ?_)
        have e9 : am_ag cr_S18 M (am_mix cr_S g336 M) := (am_ag.rf).mix rfl
        refine am_fin (S := cr_S18) (F := fun m => jf_ot M m t) e9 ?_ (fun g9 hg => ?_)
        · intro i hi
          exact ⟨(ho i hi).1, (ho i hi).2, rfl⟩
        · rw [show g336 304 0 0 = (lx_Q b z m337 : Int) from hs339.2.1]
          refine hK0 m337 ?_ g9 hg
          unfold tx_all tx_part
          repeat (first | rw [if_pos (by omega)] | rw [if_neg (by omega)] | rw [e338] | (simp only [rd_then, tx_then]))
      · have hl332 : (([] : List Int) ++ w335).length ≤ lx_P b z m334 := cr_len (k := 0) hl328 (rd_or_mo lx_P_1 (rd_nx_mo lx_P_1 5) _ _ _ e333)
        have hT340 := lx_T_b b z m334
        show R (45, [some (aR 5 0), some (aR 6 t), some (aI 0)], [aI 1], am_mix cr_S g330 M)
        refine hR _ (am_brf (rg := am_in 1) (P := (1 : Int) = 0) (A := R (57, [some (aR 5 0), some (aR 6 t), some (aI 0)], [], am_mix cr_S g330 M)) (B := R (48, [some (aR 5 0), some (aR 6 t), some (aI 0)], [], am_mix cr_S g330 M)) (by omega) (by omega) ?_)
        show R (48, [some (aR 5 0), some (aR 6 t), some (aI 0)], [], am_mix cr_S g330 M)
        refine hR _ (hR _ (?_))
        show R (52, [some (aR 5 0), some (aR 6 t), some (aI 0)], [aI (g330 303 0 0)], am_mix cr_S g330 M)
        rw [(show g330 303 0 0 = lx_T b z m334 from hs331.1.1)]
        show R (52, [some (aR 5 0), some (aR 6 t), some (aI 0)], [aI (lx_T b z m334)], am_mix cr_S g330 M)
        refine hR _ (hR _ (am_brc (rg := am_in (lx_T b z m334) ∧ am_in 59) (P := (lx_T b z m334) = 59) (A := R (62, [some (aR 5 0), some (aR 6 t), some (aI 0)], [], am_mix cr_S g330 M)) (B := R (57, [some (aR 5 0), some (aR 6 t), some (aI 0)], [], am_mix cr_S g330 M)) (by omega) (fun c54 => ?_) (fun c54 => ?_)))
        · refine hR _ (hR _ (?_))
          show R (64, [some (aR 5 0), some (aR 6 t), some (aI 0)], [aI 0, aR 6 t], am_mix cr_S g330 M)
          refine hR _ (am_ct (am_vi (by omega : t < 6)) (tx_end (M := M) (by omega) ht (by omega) hs331 (fun hs341 => ?_)))
          show R (67, [some (aR 5 0), some (aR 6 t), some (aI 0)], [], am_mix cr_S g330 (am_wr M 18 t 0 (((([] : List Int) ++ w335)).length : Int)))
          refine hR _ (?_)
          show R (68, [some (aR 5 0), some (aR 6 t), some (aI 0)], [aR 5 0], am_mix cr_S g330 (am_wr M 18 t 0 (((([] : List Int) ++ w335)).length : Int)))
          refine hR _ (tx_tok (M := M) (by omega) rfl rfl rfl rfl hz hz2 hb hby ht hs341 (fun g342 hs343 => ?_))
          have hl344 : ((([] : List Int) ++ w335)).length ≤ lx_P b z (m334 + 1) := Nat.le_trans hl332 (lx_e_b (b := b) (lx_P_b b z m334)).1
          have hT345 := lx_T_b b z (m334 + 1)
          show R (71, [some (aR 5 0), some (aR 6 t), some (aI 0)], [], am_mix cr_S g342 (am_wr M 18 t 0 (((([] : List Int) ++ w335)).length : Int)))
          refine hR _ (hR _ (hR _ (hR _ (hR _ (am_brf (rg := am_in 1 ∧ am_in 3) (P := 3 ≤ 1) (A := R (77, [some (aR 5 0), some (aR 6 t), some (aI 1)], [], am_mix cr_S g342 (am_wr M 18 t 0 (((([] : List Int) ++ w335)).length : Int)))) (B := R (20, [some (aR 5 0), some (aR 6 t), some (aI 1)], [], am_mix cr_S g342 (am_wr M 18 t 0 (((([] : List Int) ++ w335)).length : Int)))) (by omega) (by omega) ?_)))))
          show R (20, [some (aR 5 0), some (aR 6 t), some (aI 1)], [], am_mix cr_S g342 (am_wr M 18 t 0 (((([] : List Int) ++ w335)).length : Int)))
          refine hR _ (hR _ (?_))
          show R (24, [some (aR 5 0), some (aR 6 t), some (aI 1)], [aI (g342 303 0 0)], am_mix cr_S g342 (am_wr M 18 t 0 (((([] : List Int) ++ w335)).length : Int)))
          rw [(show g342 303 0 0 = lx_T b z (m334 + 1) from hs343.1.1)]
          show R (24, [some (aR 5 0), some (aR 6 t), some (aI 1)], [aI (lx_T b z (m334 + 1))], am_mix cr_S g342 (am_wr M 18 t 0 (((([] : List Int) ++ w335)).length : Int)))
          refine hR _ (hR _ (hR _ (hR _ (am_brc (rg := am_in (lx_T b z (m334 + 1)) ∧ am_in 4) (P := (lx_T b z (m334 + 1)) = 4) (A := R (35, [some (aR 5 0), some (aR 6 t), some (aI 1)], [], am_mix cr_S g342 (am_wr M 18 t 0 (((([] : List Int) ++ w335)).length : Int)))) (B := R (30, [some (aR 5 0), some (aR 6 t), some (aI 1)], [], am_mix cr_S g342 (am_wr M 18 t 0 (((([] : List Int) ++ w335)).length : Int)))) (by omega) (fun c27 => ?_) (fun c27 => ?_)))))
          · refine hR _ (?_)
            show R (36, [some (aR 5 0), some (aR 6 t), some (aI 1)], [aR 5 0], am_mix cr_S g342 (am_wr M 18 t 0 (((([] : List Int) ++ w335)).length : Int)))
            refine hR _ (tx_tok (M := M) (by omega) rfl rfl rfl rfl hz hz2 hb hby ht hs343 (fun g346 hs347 => ?_))
            have hl348 : ((([] : List Int) ++ w335)).length ≤ lx_P b z ((m334 + 1) + 1) := Nat.le_trans hl344 (lx_e_b (b := b) (lx_P_b b z (m334 + 1))).1
            have hT349 := lx_T_b b z ((m334 + 1) + 1)
            show R (39, [some (aR 5 0), some (aR 6 t), some (aI 1)], [], am_mix cr_S g346 (am_wr M 18 t 0 (((([] : List Int) ++ w335)).length : Int)))
            refine hR _ (hR _ (hR _ (?_)))
            show R (42, [some (aR 5 0), some (aR 6 t), some (aI 1)], [aI 0, aR 6 t, aR 5 0], am_mix cr_S g346 (am_wr M 18 t 0 (((([] : List Int) ++ w335)).length : Int)))
            refine hR _ (tx_or (M := M) (by omega) rfl rfl rfl rfl hz hz2 hb hby ht hs347 hl348 (fun g356 m357 e358 hs359 ho => ?_) (fun g350 m354 w355 e353 hs351 => ?_))
            · show R (45, [some (aR 5 0), some (aR 6 t), some (aI 1)], [aI 0], am_mix cr_S g356 (am_wr M 18 t 0 (((([] : List Int) ++ w335)).length : Int)))
              refine hR _ (am_brt (rg := am_in 0) (P := (0 : Int) = 0) (A := R (57, [some (aR 5 0), some (aR 6 t), some (aI 1)], [], am_mix cr_S g356 (am_wr M 18 t 0 (((([] : List Int) ++ w335)).length : Int)))) (B := R (48, [some (aR 5 0), some (aR 6 t), some (aI 1)], [], am_mix cr_S g356 (am_wr M 18 t 0 (((([] : List Int) ++ w335)).length : Int)))) (by omega) (by omega) ?_)
              show R (57, [some (aR 5 0), some (aR 6 t), some (aI 1)], [], am_mix cr_S g356 (am_wr M 18 t 0 (((([] : List Int) ++ w335)).length : Int)))
              refine hR _ (hR _ (?_))
              show R (61, [some (aR 5 0), some (aR 6 t), some (aI 1)], [aI (g356 304 0 0)], am_mix cr_S g356 (am_wr M 18 t 0 (((([] : List Int) ++ w335)).length : Int)))
              refine hR _ (show K (some (aI (g356 304 0 0))) (am_mix cr_S g356 (am_wr M 18 t 0 (((([] : List Int) ++ w335)).length : Int))) from ?_)
              have e9 : am_ag cr_S18 M (am_mix cr_S g356 (am_wr M 18 t 0 (((([] : List Int) ++ w335)).length : Int))) := ((am_ag.rf).wr rfl).mix rfl
              refine am_fin (S := cr_S18) (F := fun m => jf_ot M m t) e9 ?_ (fun g9 hg => ?_)
              · intro i hi
                exact ⟨(ho i hi).1, (ho i hi).2, (funext fun j => (am_wr_ne (Or.inr (Or.inl hi))))⟩
              · rw [show g356 304 0 0 = (lx_Q b z m357 : Int) from hs359.2.1]
                refine hK0 m357 ?_ g9 hg
                unfold tx_all tx_part
                repeat (first | rw [if_pos (by omega)] | rw [if_neg (by omega)] | rw [e333] | rw [e358] | (simp only [rd_then, tx_then]))
            · have hl352 : ((([] : List Int) ++ w335) ++ w355).length ≤ lx_P b z m354 := cr_len (k := 0) hl348 (rd_or_mo lx_P_1 (rd_nx_mo lx_P_1 5) _ _ _ e353)
              have hT360 := lx_T_b b z m354
              show R (45, [some (aR 5 0), some (aR 6 t), some (aI 1)], [aI 1], am_mix cr_S g350 (am_wr M 18 t 0 (((([] : List Int) ++ w335)).length : Int)))
              refine hR _ (am_brf (rg := am_in 1) (P := (1 : Int) = 0) (A := R (57, [some (aR 5 0), some (aR 6 t), some (aI 1)], [], am_mix cr_S g350 (am_wr M 18 t 0 (((([] : List Int) ++ w335)).length : Int)))) (B := R (48, [some (aR 5 0), some (aR 6 t), some (aI 1)], [], am_mix cr_S g350 (am_wr M 18 t 0 (((([] : List Int) ++ w335)).length : Int)))) (by omega) (by omega) ?_)
              show R (48, [some (aR 5 0), some (aR 6 t), some (aI 1)], [], am_mix cr_S g350 (am_wr M 18 t 0 (((([] : List Int) ++ w335)).length : Int)))
              refine hR _ (hR _ (?_))
              show R (52, [some (aR 5 0), some (aR 6 t), some (aI 1)], [aI (g350 303 0 0)], am_mix cr_S g350 (am_wr M 18 t 0 (((([] : List Int) ++ w335)).length : Int)))
              rw [(show g350 303 0 0 = lx_T b z m354 from hs351.1.1)]
              show R (52, [some (aR 5 0), some (aR 6 t), some (aI 1)], [aI (lx_T b z m354)], am_mix cr_S g350 (am_wr M 18 t 0 (((([] : List Int) ++ w335)).length : Int)))
              refine hR _ (hR _ (am_brc (rg := am_in (lx_T b z m354) ∧ am_in 59) (P := (lx_T b z m354) = 59) (A := R (62, [some (aR 5 0), some (aR 6 t), some (aI 1)], [], am_mix cr_S g350 (am_wr M 18 t 0 (((([] : List Int) ++ w335)).length : Int)))) (B := R (57, [some (aR 5 0), some (aR 6 t), some (aI 1)], [], am_mix cr_S g350 (am_wr M 18 t 0 (((([] : List Int) ++ w335)).length : Int)))) (by omega) (fun c54 => ?_) (fun c54 => ?_)))
              · refine hR _ (hR _ (?_))
                show R (64, [some (aR 5 0), some (aR 6 t), some (aI 1)], [aI 1, aR 6 t], am_mix cr_S g350 (am_wr M 18 t 0 (((([] : List Int) ++ w335)).length : Int)))
                refine hR _ (am_ct (am_vi (by omega : t < 6)) (tx_end (M := M) (by omega) ht (by omega) hs351 (fun hs361 => ?_)))
                show R (67, [some (aR 5 0), some (aR 6 t), some (aI 1)], [], am_mix cr_S g350 (am_wr (am_wr M 18 t 0 (((([] : List Int) ++ w335)).length : Int)) 18 t 1 ((((([] : List Int) ++ w335) ++ w355)).length : Int)))
                refine hR _ (?_)
                show R (68, [some (aR 5 0), some (aR 6 t), some (aI 1)], [aR 5 0], am_mix cr_S g350 (am_wr (am_wr M 18 t 0 (((([] : List Int) ++ w335)).length : Int)) 18 t 1 ((((([] : List Int) ++ w335) ++ w355)).length : Int)))
                refine hR _ (tx_tok (M := M) (by omega) rfl rfl rfl rfl hz hz2 hb hby ht hs361 (fun g362 hs363 => ?_))
                have hl364 : (((([] : List Int) ++ w335) ++ w355)).length ≤ lx_P b z (m354 + 1) := Nat.le_trans hl352 (lx_e_b (b := b) (lx_P_b b z m354)).1
                have hT365 := lx_T_b b z (m354 + 1)
                show R (71, [some (aR 5 0), some (aR 6 t), some (aI 1)], [], am_mix cr_S g362 (am_wr (am_wr M 18 t 0 (((([] : List Int) ++ w335)).length : Int)) 18 t 1 ((((([] : List Int) ++ w335) ++ w355)).length : Int)))
                refine hR _ (hR _ (hR _ (hR _ (hR _ (am_brf (rg := am_in 2 ∧ am_in 3) (P := 3 ≤ 2) (A := R (77, [some (aR 5 0), some (aR 6 t), some (aI 2)], [], am_mix cr_S g362 (am_wr (am_wr M 18 t 0 (((([] : List Int) ++ w335)).length : Int)) 18 t 1 ((((([] : List Int) ++ w335) ++ w355)).length : Int)))) (B := R (20, [some (aR 5 0), some (aR 6 t), some (aI 2)], [], am_mix cr_S g362 (am_wr (am_wr M 18 t 0 (((([] : List Int) ++ w335)).length : Int)) 18 t 1 ((((([] : List Int) ++ w335) ++ w355)).length : Int)))) (by omega) (by omega) ?_)))))
                show R (20, [some (aR 5 0), some (aR 6 t), some (aI 2)], [], am_mix cr_S g362 (am_wr (am_wr M 18 t 0 (((([] : List Int) ++ w335)).length : Int)) 18 t 1 ((((([] : List Int) ++ w335) ++ w355)).length : Int)))
                refine hR _ (hR _ (?_))
                show R (24, [some (aR 5 0), some (aR 6 t), some (aI 2)], [aI (g362 303 0 0)], am_mix cr_S g362 (am_wr (am_wr M 18 t 0 (((([] : List Int) ++ w335)).length : Int)) 18 t 1 ((((([] : List Int) ++ w335) ++ w355)).length : Int)))
                rw [(show g362 303 0 0 = lx_T b z (m354 + 1) from hs363.1.1)]
                show R (24, [some (aR 5 0), some (aR 6 t), some (aI 2)], [aI (lx_T b z (m354 + 1))], am_mix cr_S g362 (am_wr (am_wr M 18 t 0 (((([] : List Int) ++ w335)).length : Int)) 18 t 1 ((((([] : List Int) ++ w335) ++ w355)).length : Int)))
                refine hR _ (hR _ (hR _ (hR _ (am_brc (rg := am_in (lx_T b z (m354 + 1)) ∧ am_in 5) (P := (lx_T b z (m354 + 1)) = 5) (A := R (35, [some (aR 5 0), some (aR 6 t), some (aI 2)], [], am_mix cr_S g362 (am_wr (am_wr M 18 t 0 (((([] : List Int) ++ w335)).length : Int)) 18 t 1 ((((([] : List Int) ++ w335) ++ w355)).length : Int)))) (B := R (30, [some (aR 5 0), some (aR 6 t), some (aI 2)], [], am_mix cr_S g362 (am_wr (am_wr M 18 t 0 (((([] : List Int) ++ w335)).length : Int)) 18 t 1 ((((([] : List Int) ++ w335) ++ w355)).length : Int)))) (by omega) (fun c27 => ?_) (fun c27 => ?_)))))
                · refine hR _ (?_)
                  show R (36, [some (aR 5 0), some (aR 6 t), some (aI 2)], [aR 5 0], am_mix cr_S g362 (am_wr (am_wr M 18 t 0 (((([] : List Int) ++ w335)).length : Int)) 18 t 1 ((((([] : List Int) ++ w335) ++ w355)).length : Int)))
                  refine hR _ (tx_tok (M := M) (by omega) rfl rfl rfl rfl hz hz2 hb hby ht hs363 (fun g366 hs367 => ?_))
                  have hl368 : (((([] : List Int) ++ w335) ++ w355)).length ≤ lx_P b z ((m354 + 1) + 1) := Nat.le_trans hl364 (lx_e_b (b := b) (lx_P_b b z (m354 + 1))).1
                  have hT369 := lx_T_b b z ((m354 + 1) + 1)
                  show R (39, [some (aR 5 0), some (aR 6 t), some (aI 2)], [], am_mix cr_S g366 (am_wr (am_wr M 18 t 0 (((([] : List Int) ++ w335)).length : Int)) 18 t 1 ((((([] : List Int) ++ w335) ++ w355)).length : Int)))
                  refine hR _ (hR _ (hR _ (?_)))
                  show R (42, [some (aR 5 0), some (aR 6 t), some (aI 2)], [aI 0, aR 6 t, aR 5 0], am_mix cr_S g366 (am_wr (am_wr M 18 t 0 (((([] : List Int) ++ w335)).length : Int)) 18 t 1 ((((([] : List Int) ++ w335) ++ w355)).length : Int)))
                  refine hR _ (tx_or (M := M) (by omega) rfl rfl rfl rfl hz hz2 hb hby ht hs367 hl368 (fun g376 m377 e378 hs379 ho => ?_) (fun g370 m374 w375 e373 hs371 => ?_))
                  · show R (45, [some (aR 5 0), some (aR 6 t), some (aI 2)], [aI 0], am_mix cr_S g376 (am_wr (am_wr M 18 t 0 (((([] : List Int) ++ w335)).length : Int)) 18 t 1 ((((([] : List Int) ++ w335) ++ w355)).length : Int)))
                    refine hR _ (am_brt (rg := am_in 0) (P := (0 : Int) = 0) (A := R (57, [some (aR 5 0), some (aR 6 t), some (aI 2)], [], am_mix cr_S g376 (am_wr (am_wr M 18 t 0 (((([] : List Int) ++ w335)).length : Int)) 18 t 1 ((((([] : List Int) ++ w335) ++ w355)).length : Int)))) (B := R (48, [some (aR 5 0), some (aR 6 t), some (aI 2)], [], am_mix cr_S g376 (am_wr (am_wr M 18 t 0 (((([] : List Int) ++ w335)).length : Int)) 18 t 1 ((((([] : List Int) ++ w335) ++ w355)).length : Int)))) (by omega) (by omega) ?_)
                    show R (57, [some (aR 5 0), some (aR 6 t), some (aI 2)], [], am_mix cr_S g376 (am_wr (am_wr M 18 t 0 (((([] : List Int) ++ w335)).length : Int)) 18 t 1 ((((([] : List Int) ++ w335) ++ w355)).length : Int)))
                    refine hR _ (hR _ (?_))
                    show R (61, [some (aR 5 0), some (aR 6 t), some (aI 2)], [aI (g376 304 0 0)], am_mix cr_S g376 (am_wr (am_wr M 18 t 0 (((([] : List Int) ++ w335)).length : Int)) 18 t 1 ((((([] : List Int) ++ w335) ++ w355)).length : Int)))
                    refine hR _ (show K (some (aI (g376 304 0 0))) (am_mix cr_S g376 (am_wr (am_wr M 18 t 0 (((([] : List Int) ++ w335)).length : Int)) 18 t 1 ((((([] : List Int) ++ w335) ++ w355)).length : Int))) from ?_)
                    have e9 : am_ag cr_S18 M (am_mix cr_S g376 (am_wr (am_wr M 18 t 0 (((([] : List Int) ++ w335)).length : Int)) 18 t 1 ((((([] : List Int) ++ w335) ++ w355)).length : Int))) := (((am_ag.rf).wr rfl).wr rfl).mix rfl
                    refine am_fin (S := cr_S18) (F := fun m => jf_ot M m t) e9 ?_ (fun g9 hg => ?_)
                    · intro i hi
                      exact ⟨(ho i hi).1, (ho i hi).2, (funext fun j => (am_wr_ne (Or.inr (Or.inl hi))).trans (am_wr_ne (Or.inr (Or.inl hi))))⟩
                    · rw [show g376 304 0 0 = (lx_Q b z m377 : Int) from hs379.2.1]
                      refine hK0 m377 ?_ g9 hg
                      unfold tx_all tx_part
                      repeat (first | rw [if_pos (by omega)] | rw [if_neg (by omega)] | rw [e333] | rw [e353] | rw [e378] | (simp only [rd_then, tx_then]))
                  · have hl372 : (((([] : List Int) ++ w335) ++ w355) ++ w375).length ≤ lx_P b z m374 := cr_len (k := 0) hl368 (rd_or_mo lx_P_1 (rd_nx_mo lx_P_1 5) _ _ _ e373)
                    have hT380 := lx_T_b b z m374
                    show R (45, [some (aR 5 0), some (aR 6 t), some (aI 2)], [aI 1], am_mix cr_S g370 (am_wr (am_wr M 18 t 0 (((([] : List Int) ++ w335)).length : Int)) 18 t 1 ((((([] : List Int) ++ w335) ++ w355)).length : Int)))
                    refine hR _ (am_brf (rg := am_in 1) (P := (1 : Int) = 0) (A := R (57, [some (aR 5 0), some (aR 6 t), some (aI 2)], [], am_mix cr_S g370 (am_wr (am_wr M 18 t 0 (((([] : List Int) ++ w335)).length : Int)) 18 t 1 ((((([] : List Int) ++ w335) ++ w355)).length : Int)))) (B := R (48, [some (aR 5 0), some (aR 6 t), some (aI 2)], [], am_mix cr_S g370 (am_wr (am_wr M 18 t 0 (((([] : List Int) ++ w335)).length : Int)) 18 t 1 ((((([] : List Int) ++ w335) ++ w355)).length : Int)))) (by omega) (by omega) ?_)
                    show R (48, [some (aR 5 0), some (aR 6 t), some (aI 2)], [], am_mix cr_S g370 (am_wr (am_wr M 18 t 0 (((([] : List Int) ++ w335)).length : Int)) 18 t 1 ((((([] : List Int) ++ w335) ++ w355)).length : Int)))
                    refine hR _ (hR _ (?_))
                    show R (52, [some (aR 5 0), some (aR 6 t), some (aI 2)], [aI (g370 303 0 0)], am_mix cr_S g370 (am_wr (am_wr M 18 t 0 (((([] : List Int) ++ w335)).length : Int)) 18 t 1 ((((([] : List Int) ++ w335) ++ w355)).length : Int)))
                    rw [(show g370 303 0 0 = lx_T b z m374 from hs371.1.1)]
                    show R (52, [some (aR 5 0), some (aR 6 t), some (aI 2)], [aI (lx_T b z m374)], am_mix cr_S g370 (am_wr (am_wr M 18 t 0 (((([] : List Int) ++ w335)).length : Int)) 18 t 1 ((((([] : List Int) ++ w335) ++ w355)).length : Int)))
                    refine hR _ (hR _ (am_brc (rg := am_in (lx_T b z m374) ∧ am_in 59) (P := (lx_T b z m374) = 59) (A := R (62, [some (aR 5 0), some (aR 6 t), some (aI 2)], [], am_mix cr_S g370 (am_wr (am_wr M 18 t 0 (((([] : List Int) ++ w335)).length : Int)) 18 t 1 ((((([] : List Int) ++ w335) ++ w355)).length : Int)))) (B := R (57, [some (aR 5 0), some (aR 6 t), some (aI 2)], [], am_mix cr_S g370 (am_wr (am_wr M 18 t 0 (((([] : List Int) ++ w335)).length : Int)) 18 t 1 ((((([] : List Int) ++ w335) ++ w355)).length : Int)))) (by omega) (fun c54 => ?_) (fun c54 => ?_)))
                    · refine hR _ (hR _ (?_))
                      show R (64, [some (aR 5 0), some (aR 6 t), some (aI 2)], [aI 2, aR 6 t], am_mix cr_S g370 (am_wr (am_wr M 18 t 0 (((([] : List Int) ++ w335)).length : Int)) 18 t 1 ((((([] : List Int) ++ w335) ++ w355)).length : Int)))
                      refine hR _ (am_ct (am_vi (by omega : t < 6)) (tx_end (M := M) (by omega) ht (by omega) hs371 (fun hs381 => ?_)))
                      show R (67, [some (aR 5 0), some (aR 6 t), some (aI 2)], [], am_mix cr_S g370 (am_wr (am_wr (am_wr M 18 t 0 (((([] : List Int) ++ w335)).length : Int)) 18 t 1 ((((([] : List Int) ++ w335) ++ w355)).length : Int)) 18 t 2 (((((([] : List Int) ++ w335) ++ w355) ++ w375)).length : Int)))
                      refine hR _ (?_)
                      show R (68, [some (aR 5 0), some (aR 6 t), some (aI 2)], [aR 5 0], am_mix cr_S g370 (am_wr (am_wr (am_wr M 18 t 0 (((([] : List Int) ++ w335)).length : Int)) 18 t 1 ((((([] : List Int) ++ w335) ++ w355)).length : Int)) 18 t 2 (((((([] : List Int) ++ w335) ++ w355) ++ w375)).length : Int)))
                      refine hR _ (tx_tok (M := M) (by omega) rfl rfl rfl rfl hz hz2 hb hby ht hs381 (fun g382 hs383 => ?_))
                      have hl384 : ((((([] : List Int) ++ w335) ++ w355) ++ w375)).length ≤ lx_P b z (m374 + 1) := Nat.le_trans hl372 (lx_e_b (b := b) (lx_P_b b z m374)).1
                      have hT385 := lx_T_b b z (m374 + 1)
                      show R (71, [some (aR 5 0), some (aR 6 t), some (aI 2)], [], am_mix cr_S g382 (am_wr (am_wr (am_wr M 18 t 0 (((([] : List Int) ++ w335)).length : Int)) 18 t 1 ((((([] : List Int) ++ w335) ++ w355)).length : Int)) 18 t 2 (((((([] : List Int) ++ w335) ++ w355) ++ w375)).length : Int)))
                      refine hR _ (hR _ (hR _ (hR _ (hR _ (am_brt (rg := am_in 3 ∧ am_in 3) (P := (3 : Int) ≤ 3) (A := R (77, [some (aR 5 0), some (aR 6 t), some (aI 3)], [], am_mix cr_S g382 (am_wr (am_wr (am_wr M 18 t 0 (((([] : List Int) ++ w335)).length : Int)) 18 t 1 ((((([] : List Int) ++ w335) ++ w355)).length : Int)) 18 t 2 (((((([] : List Int) ++ w335) ++ w355) ++ w375)).length : Int)))) (B := R (20, [some (aR 5 0), some (aR 6 t), some (aI 3)], [], am_mix cr_S g382 (am_wr (am_wr (am_wr M 18 t 0 (((([] : List Int) ++ w335)).length : Int)) 18 t 1 ((((([] : List Int) ++ w335) ++ w355)).length : Int)) 18 t 2 (((((([] : List Int) ++ w335) ++ w355) ++ w375)).length : Int)))) (by omega) (by omega) ?_)))))
                      show R (77, [some (aR 5 0), some (aR 6 t), some (aI 3)], [], am_mix cr_S g382 (am_wr (am_wr (am_wr M 18 t 0 (((([] : List Int) ++ w335)).length : Int)) 18 t 1 ((((([] : List Int) ++ w335) ++ w355)).length : Int)) 18 t 2 (((((([] : List Int) ++ w335) ++ w355) ++ w375)).length : Int)))
                      refine hR _ (hR _ (?_))
                      show R (81, [some (aR 5 0), some (aR 6 t), some (aI 3)], [aI (g382 303 0 0)], am_mix cr_S g382 (am_wr (am_wr (am_wr M 18 t 0 (((([] : List Int) ++ w335)).length : Int)) 18 t 1 ((((([] : List Int) ++ w335) ++ w355)).length : Int)) 18 t 2 (((((([] : List Int) ++ w335) ++ w355) ++ w375)).length : Int)))
                      rw [(show g382 303 0 0 = lx_T b z (m374 + 1) from hs383.1.1)]
                      show R (81, [some (aR 5 0), some (aR 6 t), some (aI 3)], [aI (lx_T b z (m374 + 1))], am_mix cr_S g382 (am_wr (am_wr (am_wr M 18 t 0 (((([] : List Int) ++ w335)).length : Int)) 18 t 1 ((((([] : List Int) ++ w335) ++ w355)).length : Int)) 18 t 2 (((((([] : List Int) ++ w335) ++ w355) ++ w375)).length : Int)))
                      refine hR _ (am_brc (rg := am_in (lx_T b z (m374 + 1))) (P := (lx_T b z (m374 + 1)) ≠ 0) (A := R (88, [some (aR 5 0), some (aR 6 t), some (aI 3)], [], am_mix cr_S g382 (am_wr (am_wr (am_wr M 18 t 0 (((([] : List Int) ++ w335)).length : Int)) 18 t 1 ((((([] : List Int) ++ w335) ++ w355)).length : Int)) 18 t 2 (((((([] : List Int) ++ w335) ++ w355) ++ w375)).length : Int)))) (B := R (84, [some (aR 5 0), some (aR 6 t), some (aI 3)], [], am_mix cr_S g382 (am_wr (am_wr (am_wr M 18 t 0 (((([] : List Int) ++ w335)).length : Int)) 18 t 1 ((((([] : List Int) ++ w335) ++ w355)).length : Int)) 18 t 2 (((((([] : List Int) ++ w335) ++ w355) ++ w375)).length : Int)))) (by omega) (fun c81 => ?_) (fun c81 => ?_))
                      · refine hR _ (hR _ (?_))
                        show R (92, [some (aR 5 0), some (aR 6 t), some (aI 3)], [aI (g382 304 0 0)], am_mix cr_S g382 (am_wr (am_wr (am_wr M 18 t 0 (((([] : List Int) ++ w335)).length : Int)) 18 t 1 ((((([] : List Int) ++ w335) ++ w355)).length : Int)) 18 t 2 (((((([] : List Int) ++ w335) ++ w355) ++ w375)).length : Int)))
                        refine hR _ (show K (some (aI (g382 304 0 0))) (am_mix cr_S g382 (am_wr (am_wr (am_wr M 18 t 0 (((([] : List Int) ++ w335)).length : Int)) 18 t 1 ((((([] : List Int) ++ w335) ++ w355)).length : Int)) 18 t 2 (((((([] : List Int) ++ w335) ++ w355) ++ w375)).length : Int))) from ?_)
                        have e9 : am_ag cr_S18 M (am_mix cr_S g382 (am_wr (am_wr (am_wr M 18 t 0 (((([] : List Int) ++ w335)).length : Int)) 18 t 1 ((((([] : List Int) ++ w335) ++ w355)).length : Int)) 18 t 2 (((((([] : List Int) ++ w335) ++ w355) ++ w375)).length : Int))) := ((((am_ag.rf).wr rfl).wr rfl).wr rfl).mix rfl
                        refine am_fin (S := cr_S18) (F := fun m => jf_ot M m t) e9 ?_ (fun g9 hg => ?_)
                        · intro i hi
                          exact ⟨(hs383.2.2 i hi).1, (hs383.2.2 i hi).2, (funext fun j => (am_wr_ne (Or.inr (Or.inl hi))).trans ((am_wr_ne (Or.inr (Or.inl hi))).trans (am_wr_ne (Or.inr (Or.inl hi)))))⟩
                        · rw [show g382 304 0 0 = (lx_Q b z (m374 + 1) : Int) from hs383.1.2.1]
                          refine hK0 (m374 + 1) ?_ g9 hg
                          unfold tx_all tx_part
                          repeat (first | rw [if_pos (by omega)] | rw [if_neg (by omega)] | rw [e333] | rw [e353] | rw [e373] | (simp only [rd_then, tx_then]))
                      · refine hR _ (hR _ (?_))
                        show R (92, [some (aR 5 0), some (aR 6 t), some (aI 3)], [aI (-1)], am_mix cr_S g382 (am_wr (am_wr (am_wr M 18 t 0 (((([] : List Int) ++ w335)).length : Int)) 18 t 1 ((((([] : List Int) ++ w335) ++ w355)).length : Int)) 18 t 2 (((((([] : List Int) ++ w335) ++ w355) ++ w375)).length : Int)))
                        refine hR _ (show K (some (aI (-1))) (am_mix cr_S g382 (am_wr (am_wr (am_wr M 18 t 0 (((([] : List Int) ++ w335)).length : Int)) 18 t 1 ((((([] : List Int) ++ w335) ++ w355)).length : Int)) 18 t 2 (((((([] : List Int) ++ w335) ++ w355) ++ w375)).length : Int))) from ?_)
                        have e9 : am_ag cr_S18 M (am_mix cr_S g382 (am_wr (am_wr (am_wr M 18 t 0 (((([] : List Int) ++ w335)).length : Int)) 18 t 1 ((((([] : List Int) ++ w335) ++ w355)).length : Int)) 18 t 2 (((((([] : List Int) ++ w335) ++ w355) ++ w375)).length : Int))) := ((((am_ag.rf).wr rfl).wr rfl).wr rfl).mix rfl
                        refine am_fin (S := cr_S18) (F := fun m => jf_ot M m t ∧ jf_txt m t w335 w355 w375) e9 ⟨?_, ?_⟩ (fun g hg => hK1 (m374 + 1) w335 w355 w375 ?_ g hg.1 hg.2)
                        · intro i hi
                          refine ⟨(hs383.2.2 i hi).1, (hs383.2.2 i hi).2, ?_⟩
                          funext j
                          exact (am_wr_ne (Or.inr (Or.inl hi))).trans ((am_wr_ne (Or.inr (Or.inl hi))).trans (am_wr_ne (Or.inr (Or.inl hi))))
                        · have hq := hs383.2.1
                          rw [List.nil_append, List.append_assoc] at hq
                          refine ⟨hq, ?_, ?_, ?_⟩
                          · show (am_wr (am_wr (am_wr M 18 t 0 (((([] : List Int) ++ w335)).length : Int)) 18 t 1 ((((([] : List Int) ++ w335) ++ w355)).length : Int)) 18 t 2 (((((([] : List Int) ++ w335) ++ w355) ++ w375)).length : Int)) 18 t 0 = _
                            refine (am_wr_ne (Or.inr (Or.inr (by decide)))).trans ((am_wr_ne (Or.inr (Or.inr (by decide)))).trans (am_wr_eq.trans ?_))
                            rw [List.nil_append]
                          · show (am_wr (am_wr (am_wr M 18 t 0 (((([] : List Int) ++ w335)).length : Int)) 18 t 1 ((((([] : List Int) ++ w335) ++ w355)).length : Int)) 18 t 2 (((((([] : List Int) ++ w335) ++ w355) ++ w375)).length : Int)) 18 t 1 = _
                            refine (am_wr_ne (Or.inr (Or.inr (by decide)))).trans (am_wr_eq.trans ?_)
                            rw [List.nil_append]
                          · show (am_wr (am_wr (am_wr M 18 t 0 (((([] : List Int) ++ w335)).length : Int)) 18 t 1 ((((([] : List Int) ++ w335) ++ w355)).length : Int)) 18 t 2 (((((([] : List Int) ++ w335) ++ w355) ++ w375)).length : Int)) 18 t 2 = _
                            refine am_wr_eq.trans ?_
                            rw [List.nil_append, List.append_assoc]
                        · unfold tx_all tx_part
                          repeat (first | rw [if_pos (by omega)] | rw [if_neg (by omega)] | rw [e333] | rw [e353] | rw [e373] | (simp only [rd_then, tx_then]))
                    · refine hR _ (hR _ (?_))
                      show R (61, [some (aR 5 0), some (aR 6 t), some (aI 2)], [aI (g370 304 0 0)], am_mix cr_S g370 (am_wr (am_wr M 18 t 0 (((([] : List Int) ++ w335)).length : Int)) 18 t 1 ((((([] : List Int) ++ w335) ++ w355)).length : Int)))
                      refine hR _ (show K (some (aI (g370 304 0 0))) (am_mix cr_S g370 (am_wr (am_wr M 18 t 0 (((([] : List Int) ++ w335)).length : Int)) 18 t 1 ((((([] : List Int) ++ w335) ++ w355)).length : Int))) from ?_)
                      have e9 : am_ag cr_S18 M (am_mix cr_S g370 (am_wr (am_wr M 18 t 0 (((([] : List Int) ++ w335)).length : Int)) 18 t 1 ((((([] : List Int) ++ w335) ++ w355)).length : Int))) := (((am_ag.rf).wr rfl).wr rfl).mix rfl
                      refine am_fin (S := cr_S18) (F := fun m => jf_ot M m t) e9 ?_ (fun g9 hg => ?_)
                      · intro i hi
                        exact ⟨(hs371.2.2 i hi).1, (hs371.2.2 i hi).2, (funext fun j => (am_wr_ne (Or.inr (Or.inl hi))).trans (am_wr_ne (Or.inr (Or.inl hi))))⟩
                      · rw [show g370 304 0 0 = (lx_Q b z m374 : Int) from hs371.1.2.1]
                        refine hK0 m374 ?_ g9 hg
                        unfold tx_all tx_part
                        repeat (first | rw [if_pos (by omega)] | rw [if_neg (by omega)] | rw [e333] | rw [e353] | rw [e373] | (simp only [rd_then, tx_then]))
                · refine hR _ (hR _ (?_))
                  show R (34, [some (aR 5 0), some (aR 6 t), some (aI 2)], [aI (g362 304 0 0)], am_mix cr_S g362 (am_wr (am_wr M 18 t 0 (((([] : List Int) ++ w335)).length : Int)) 18 t 1 ((((([] : List Int) ++ w335) ++ w355)).length : Int)))
                  refine hR _ (show K (some (aI (g362 304 0 0))) (am_mix cr_S g362 (am_wr (am_wr M 18 t 0 (((([] : List Int) ++ w335)).length : Int)) 18 t 1 ((((([] : List Int) ++ w335) ++ w355)).length : Int))) from ?_)
                  have e9 : am_ag cr_S18 M (am_mix cr_S g362 (am_wr (am_wr M 18 t 0 (((([] : List Int) ++ w335)).length : Int)) 18 t 1 ((((([] : List Int) ++ w335) ++ w355)).length : Int))) := (((am_ag.rf).wr rfl).wr rfl).mix rfl
                  refine am_fin (S := cr_S18) (F := fun m => jf_ot M m t) e9 ?_ (fun g9 hg => ?_)
                  · intro i hi
                    exact ⟨(hs363.2.2 i hi).1, (hs363.2.2 i hi).2, (funext fun j => (am_wr_ne (Or.inr (Or.inl hi))).trans (am_wr_ne (Or.inr (Or.inl hi))))⟩
                  · rw [show g362 304 0 0 = (lx_Q b z (m354 + 1) : Int) from hs363.1.2.1]
                    refine hK0 (m354 + 1) ?_ g9 hg
                    unfold tx_all tx_part
                    repeat (first | rw [if_pos (by omega)] | rw [if_neg (by omega)] | rw [e333] | rw [e353] | (simp only [rd_then, tx_then]))
              · refine hR _ (hR _ (?_))
                show R (61, [some (aR 5 0), some (aR 6 t), some (aI 1)], [aI (g350 304 0 0)], am_mix cr_S g350 (am_wr M 18 t 0 (((([] : List Int) ++ w335)).length : Int)))
                refine hR _ (show K (some (aI (g350 304 0 0))) (am_mix cr_S g350 (am_wr M 18 t 0 (((([] : List Int) ++ w335)).length : Int))) from ?_)
                have e9 : am_ag cr_S18 M (am_mix cr_S g350 (am_wr M 18 t 0 (((([] : List Int) ++ w335)).length : Int))) := ((am_ag.rf).wr rfl).mix rfl
                refine am_fin (S := cr_S18) (F := fun m => jf_ot M m t) e9 ?_ (fun g9 hg => ?_)
                · intro i hi
                  exact ⟨(hs351.2.2 i hi).1, (hs351.2.2 i hi).2, (funext fun j => (am_wr_ne (Or.inr (Or.inl hi))))⟩
                · rw [show g350 304 0 0 = (lx_Q b z m354 : Int) from hs351.1.2.1]
                  refine hK0 m354 ?_ g9 hg
                  unfold tx_all tx_part
                  repeat (first | rw [if_pos (by omega)] | rw [if_neg (by omega)] | rw [e333] | rw [e353] | (simp only [rd_then, tx_then]))
          · refine hR _ (hR _ (?_))
            show R (34, [some (aR 5 0), some (aR 6 t), some (aI 1)], [aI (g342 304 0 0)], am_mix cr_S g342 (am_wr M 18 t 0 (((([] : List Int) ++ w335)).length : Int)))
            refine hR _ (show K (some (aI (g342 304 0 0))) (am_mix cr_S g342 (am_wr M 18 t 0 (((([] : List Int) ++ w335)).length : Int))) from ?_)
            have e9 : am_ag cr_S18 M (am_mix cr_S g342 (am_wr M 18 t 0 (((([] : List Int) ++ w335)).length : Int))) := ((am_ag.rf).wr rfl).mix rfl
            refine am_fin (S := cr_S18) (F := fun m => jf_ot M m t) e9 ?_ (fun g9 hg => ?_)
            · intro i hi
              exact ⟨(hs343.2.2 i hi).1, (hs343.2.2 i hi).2, (funext fun j => (am_wr_ne (Or.inr (Or.inl hi))))⟩
            · rw [show g342 304 0 0 = (lx_Q b z (m334 + 1) : Int) from hs343.1.2.1]
              refine hK0 (m334 + 1) ?_ g9 hg
              unfold tx_all tx_part
              repeat (first | rw [if_pos (by omega)] | rw [if_neg (by omega)] | rw [e333] | (simp only [rd_then, tx_then]))
        · refine hR _ (hR _ (?_))
          show R (61, [some (aR 5 0), some (aR 6 t), some (aI 0)], [aI (g330 304 0 0)], am_mix cr_S g330 M)
          refine hR _ (show K (some (aI (g330 304 0 0))) (am_mix cr_S g330 M) from ?_)
          have e9 : am_ag cr_S18 M (am_mix cr_S g330 M) := (am_ag.rf).mix rfl
          refine am_fin (S := cr_S18) (F := fun m => jf_ot M m t) e9 ?_ (fun g9 hg => ?_)
          · intro i hi
            exact ⟨(hs331.2.2 i hi).1, (hs331.2.2 i hi).2, rfl⟩
          · rw [show g330 304 0 0 = (lx_Q b z m334 : Int) from hs331.1.2.1]
            refine hK0 m334 ?_ g9 hg
            unfold tx_all tx_part
            repeat (first | rw [if_pos (by omega)] | rw [if_neg (by omega)] | rw [e333] | (simp only [rd_then, tx_then]))
    · refine hR _ (hR _ (?_))
      show R (34, [some (aR 5 0), some (aR 6 t), some (aI 0)], [aI (g 304 0 0)], am_mix cr_S g M)
      refine hR _ (show K (some (aI (g 304 0 0))) (am_mix cr_S g M) from ?_)
      have e9 : am_ag cr_S18 M (am_mix cr_S g M) := (am_ag.rf).mix rfl
      refine am_fin (S := cr_S18) (F := fun m => jf_ot M m t) e9 ?_ (fun g9 hg => ?_)
      · intro i hi
        exact ⟨(hs.2.2 i hi).1, (hs.2.2 i hi).2, rfl⟩
      · rw [show g 304 0 0 = (lx_Q b z 0 : Int) from hs.1.2.1]
        refine hK0 0 ?_ g9 hg
        unfold tx_all tx_part
        repeat (first | rw [if_pos (by omega)] | rw [if_neg (by omega)] | (simp only [rd_then, tx_then]))
  refine hR _ (?_)
  show R (1, [some (aR 5 0), some (aR 6 t), none], [aR 6 t], M)
  refine hR _ (am_ct (am_vi (by omega : t < 6)) (cr_empty (by omega) ht ?_))
  show R (4, [some (aR 5 0), some (aR 6 t), none], [], am_wr M 345 t 0 0)
  refine hR _ (hR _ (hR _ (hR _ (?_))))
  show R (10, [some (aR 5 0), some (aR 6 t), none], [aR 5 0], am_wr (am_wr M 345 t 0 0) 302 0 0 0)
  have e9 : am_ag cr_S M (am_wr (am_wr M 345 t 0 0) 302 0 0 0) := (am_ag.rf.wr rfl).wr rfl
  refine hR _ (sp_readToken (p := 0) (z := z) (by omega) hz hz2 (by rw [← hb] at hby; exact hby) rfl (Nat.zero_le _) (fun g2 h2 => ?_))
  have hs : cr_s b z M (am_mix [302, 303, 304, 305] g2 (am_wr (am_wr M 345 t 0 0) 302 0 0 0)) t 0 [] := by
    refine ⟨?_, ⟨am_wr_eq, fun j hj => absurd hj (Nat.not_lt_zero j)⟩, fun i hi => ⟨rfl, rfl⟩⟩
    rw [← hb]
    exact h2
  replace e9 := e9.mix (S2 := [302, 303, 304, 305]) (g := g2) rfl
  rw [e9.eq] at hs ⊢
  generalize am_mix [302, 303, 304, 305] g2 (am_wr (am_wr M 345 t 0 0) 302 0 0 0) = g at hs ⊢
  exact key g hs

theorem sq_text {d : Nat} (hd : 50 ≤ d) {z : Nat} {M : am_M} {K : am_K} (hz : M 301 0 0 = (z : Int)) (hz2 : z ≤ 160) (hby : lx_by_ok (M 20 0) z) (hn : 0 ≤ M 386 0 0 ∧ M 386 0 0 ≤ 6) (hK0 : M 386 0 0 = 6 → K (some (aI (-4))) M) (hK1 : ∀ n, tx_all (lx_T (M 20 0) z) (lx_V (M 20 0) z) = (n, none) → M 386 0 0 < 6 → ∀ g, g 301 0 0 = 0 → jf_ot M (am_mix [15, 16, 18, 301, 302, 303, 304, 305, 345] g M) (M 386 0 0).toNat → K (some (aI (-100 - (lx_Q (M 20 0) z n : Int)))) (am_mix [15, 16, 18, 301, 302, 303, 304, 305, 345] g M)) (hK2 : ∀ n w0 w1 w2, tx_all (lx_T (M 20 0) z) (lx_V (M 20 0) z) = (n, some (w0, w1, w2)) → M 386 0 0 < 6 → ∀ g, g 301 0 0 = 0 ∧ g 386 0 0 = M 386 0 0 + 1 → jf_ot M (am_mix [15, 16, 18, 301, 302, 303, 304, 305, 345, 386] g M) (M 386 0 0).toNat → jf_tk (am_mix [15, 16, 18, 301, 302, 303, 304, 305, 345, 386] g M) (M 386 0 0).toNat 0 = w0 ∧ jf_tk (am_mix [15, 16, 18, 301, 302, 303, 304, 305, 345, 386] g M) (M 386 0 0).toNat 1 = w1 ∧ jf_tk (am_mix [15, 16, 18, 301, 302, 303, 304, 305, 345, 386] g M) (M 386 0 0).toNat 2 = w2 → jf_wt (am_mix [15, 16, 18, 301, 302, 303, 304, 305, 345, 386] g M) (M 386 0 0).toNat → K (some (aI (M 386 0 0))) (am_mix [15, 16, 18, 301, 302, 303, 304, 305, 345, 386] g M)) : am_Call wb d 11 [aR 7 0] M K := by
  obtain ⟨d, rfl⟩ : ∃ e, d = e + 1 := ⟨d - 1, by omega⟩
  refine ⟨rfl, fun R hR hC => ?_⟩
  replace hR : ∀ c, am_F wb tb_f11 1 (am_Call wb d) K R c → R c := hR
  show R (0, [some (aR 7 0), none], [], M)
  refine hR _ (hR _ (hR _ (hR _ (hR _ (hR _ (hR _ (hR _ (?_))))))))
  show R (12, [some (aR 7 0), none], [aI 5, aI 0, aI (M 386 0 0)], M)
  refine hR _ (sp_within (by omega) (by omega) (fun h12 => ?_) (fun h12 => ?_))
  · show R (15, [some (aR 7 0), none], [aI 1], M)
    refine hR _ (am_brt (rg := am_in 1) (P := (1 : Int) ≠ 0) (A := R (21, [some (aR 7 0), none], [], M)) (B := R (18, [some (aR 7 0), none], [], M)) (by omega) (by omega) ?_)
    show R (21, [some (aR 7 0), none], [], M)
    refine hR _ (hR _ (hR _ (hR _ (hR _ (hR _ (?_))))))
    show R (33, [some (aR 7 0), none], [aI (M 386 0 0), aR 10 0, aR 5 0], M)
    refine hR _ ⟨(show 0 ≤ (M 386 0 0 : Int) ∧ (M 386 0 0 : Int) < 6 from (by omega)), ?_⟩
    show R (34, [some (aR 7 0), none], [aR 6 ((M 386 0 0).toNat), aR 5 0], M)
    refine hR _ (cr_readInto (b := M 20 0) (z := z) (by omega) hz hz2 rfl hby (by omega) (fun n hn g1 ho => ?_) (fun n w0 w1 w2 hn g1 ho hx => ?_))
    · have hQ : lx_Q (M 20 0) z n ≤ z := (lx_q_b (lx_P_b _ _ _)).2
      show R (37, [some (aR 7 0), none], [aI (lx_Q (M 20 0) z n : Int)], am_mix [15, 16, 18, 302, 303, 304, 305, 345] g1 M)
      refine hR _ (hR _ (hR _ (hR _ (hR _ (hR _ (hR _ (hR _ (am_brf (rg := am_in (lx_Q (M 20 0) z n : Int) ∧ am_in (-1)) (P := (lx_Q (M 20 0) z n : Int) = (-1)) (A := R (56, [some (aR 7 0), some (aI (lx_Q (M 20 0) z n : Int))], [], am_wr (am_mix [15, 16, 18, 302, 303, 304, 305, 345] g1 M) 301 0 0 0)) (B := R (51, [some (aR 7 0), some (aI (lx_Q (M 20 0) z n : Int))], [], am_wr (am_mix [15, 16, 18, 302, 303, 304, 305, 345] g1 M) 301 0 0 0)) (by omega) (by omega) ?_))))))))
      show R (51, [some (aR 7 0), some (aI (lx_Q (M 20 0) z n : Int))], [], am_wr (am_mix [15, 16, 18, 302, 303, 304, 305, 345] g1 M) 301 0 0 0)
      refine hR _ (hR _ (hR _ (?_)))
      show R (55, [some (aR 7 0), some (aI (lx_Q (M 20 0) z n : Int))], [aI ((-100) - (lx_Q (M 20 0) z n : Int))], am_wr (am_mix [15, 16, 18, 302, 303, 304, 305, 345] g1 M) 301 0 0 0)
      refine hR _ (show K (some (aI ((-100) - (lx_Q (M 20 0) z n : Int)))) (am_wr (am_mix [15, 16, 18, 302, 303, 304, 305, 345] g1 M) 301 0 0 0) from ?_)
      have e9 : am_ag [15, 16, 18, 301, 302, 303, 304, 305, 345] M (am_wr (am_mix [15, 16, 18, 302, 303, 304, 305, 345] g1 M) 301 0 0 0) := ((am_ag.rf).mix rfl).wr rfl
      refine am_fin (S := [15, 16, 18, 301, 302, 303, 304, 305, 345]) (F := fun m => m 301 0 0 = 0 ∧ jf_ot M m (M 386 0 0).toNat) e9 ⟨am_wr_eq, ho⟩ (fun g hg => hK1 n hn (by omega) g hg.1 hg.2)
    · show R (37, [some (aR 7 0), none], [aI (-1)], am_mix [15, 16, 18, 302, 303, 304, 305, 345] g1 M)
      refine hR _ (hR _ (hR _ (hR _ (hR _ (hR _ (hR _ (hR _ (am_brt (rg := am_in (-1) ∧ am_in (-1)) (P := ((-1) : Int) = (-1)) (A := R (56, [some (aR 7 0), some (aI (-1))], [], am_wr (am_mix [15, 16, 18, 302, 303, 304, 305, 345] g1 M) 301 0 0 0)) (B := R (51, [some (aR 7 0), some (aI (-1))], [], am_wr (am_mix [15, 16, 18, 302, 303, 304, 305, 345] g1 M) 301 0 0 0)) (by omega) (by omega) ?_))))))))
      show R (56, [some (aR 7 0), some (aI (-1))], [], am_wr (am_mix [15, 16, 18, 302, 303, 304, 305, 345] g1 M) 301 0 0 0)
      refine hR _ (hR _ (hR _ (hR _ (hR _ (hR _ (hR _ (hR _ (hR _ (hR _ (?_))))))))))
      show R (72, [some (aR 7 0), some (aI (-1))], [aI ((M 386 0 0 + 1) - 1)], am_wr (am_wr (am_mix [15, 16, 18, 302, 303, 304, 305, 345] g1 M) 301 0 0 0) 386 0 0 (M 386 0 0 + 1))
      refine hR _ (show K (some (aI ((M 386 0 0 + 1) - 1))) (am_wr (am_wr (am_mix [15, 16, 18, 302, 303, 304, 305, 345] g1 M) 301 0 0 0) 386 0 0 (M 386 0 0 + 1)) from ?_)
      have e9 : am_ag [15, 16, 18, 301, 302, 303, 304, 305, 345, 386] M (am_wr (am_wr (am_mix [15, 16, 18, 302, 303, 304, 305, 345] g1 M) 301 0 0 0) 386 0 0 (M 386 0 0 + 1)) := (((am_ag.rf).mix rfl).wr rfl).wr rfl
      rw [show (M 386 0 0 + 1) - 1 = M 386 0 0 by omega]
      have hq := tx_all_ok (P := lx_P (M 20 0) z) lx_P_1 (fun n h => (lx_V_b h).1) hn
      have hq2 := lx_P_b (M 20 0) z n
      have hx2 := hx.ok hq.1 (by omega)
      refine am_fin (S := [15, 16, 18, 301, 302, 303, 304, 305, 345, 386]) (F := fun m => (m 301 0 0 = 0 ∧ m 386 0 0 = M 386 0 0 + 1) ∧ jf_ot M m (M 386 0 0).toNat ∧ (jf_tk m (M 386 0 0).toNat 0 = w0 ∧ jf_tk m (M 386 0 0).toNat 1 = w1 ∧ jf_tk m (M 386 0 0).toNat 2 = w2) ∧ jf_wt m (M 386 0 0).toNat) e9 ⟨⟨rfl, am_wr_eq⟩, ho, hx2⟩ (fun g hg => hK2 n w0 w1 w2 hn (by omega) g hg.1 hg.2.1 hg.2.2.1 hg.2.2.2)
  · show R (15, [some (aR 7 0), none], [aI 0], M)
    refine hR _ (am_brf (rg := am_in 0) (P := (0 : Int) ≠ 0) (A := R (21, [some (aR 7 0), none], [], M)) (B := R (18, [some (aR 7 0), none], [], M)) (by omega) (by omega) ?_)
    show R (18, [some (aR 7 0), none], [], M)
    refine hR _ (?_)
    show R (20, [some (aR 7 0), none], [aI (-4)], M)
    refine hR _ (show K (some (aI (-4))) M from ?_)
    exact hK0 (by omega)
