/-! wb -/
/-! THE COUPLING of the two memories -/
def mo_words : List Int := [114, 117, 110, 115, 32, 32, 32, 32, 108, 97, 116, 101, 32, 32, 32, 32, 99, 111, 115, 116, 115, 32, 32, 32, 110, 111, 116, 99, 104, 32, 32, 32, 97, 102, 116, 101, 114, 32, 32, 32, 111, 102, 102, 32, 32, 32, 32, 32, 111, 118, 101, 114, 32, 32, 32, 32, 109, 111, 114, 101, 32, 32, 32, 32, 112, 114, 105, 99, 101, 32, 32, 32, 111, 114, 32, 32, 32, 32, 32, 32, 97, 110, 100, 32, 32, 32, 32, 32, 110, 111, 116, 32, 32, 32, 32, 32]
def jf_Cp (M : am_M) : Prop := M 22 0 0 = M 220 0 0 ∧ M 22 0 1 = M 221 0 0 ∧ M 22 0 2 = M 222 0 0 ∧ M 22 0 3 = M 223 0 0
def jf_Cn (M : am_M) : Prop := M 421 0 0 = M 227 0 0 ∧ M 430 0 0 = M 386 0 0 ∧ M 431 0 0 = M 228 0 0 ∧ M 427 0 0 = M 301 0 0
def jf_Ch (M : am_M) (k : Nat) : Prop := M 23 0 k = M 140 k 0 ∧ M 24 0 k = M 141 k 0 ∧ M 25 0 (2 * k) = M 142 k 0 ∧ M 25 0 (2 * k + 1) = M 143 k 0
def jf_Cb (M : am_M) : Prop := M 26 0 0 = M 224 0 0 ∧ M 26 0 1 = M 225 0 0 ∧ M 26 0 2 = M 226 0 0
def jf_Ck (M : am_M) : Prop := ∀ j : Nat, (j : Int) < M 301 0 0 → M 27 0 j = M 20 0 j
def jf_Ct (M : am_M) : Prop := ∀ t : Nat, (t : Int) < M 386 0 0 → mo_wt M t ∧ ∀ p, p < 3 → mo_tk M t p = jf_tk M t p
def jf_Ci (M : am_M) : Prop := M 432 0 0 = M 382 0 0 ∧ (M 382 0 0 = 1 → (M 433 0 0 = M 227 1 0 ∧ M 434 0 0 = M 228 1 0) ∧ (M 30 0 0 = M 220 1 0 ∧ M 30 0 1 = M 221 1 0 ∧ M 30 0 2 = M 222 1 0 ∧ M 30 0 3 = M 223 1 0) ∧ (M 30 0 14 = M 224 1 0 ∧ M 30 0 15 = M 225 1 0 ∧ M 30 0 16 = M 226 1 0) ∧ ∀ k, k < 5 → M 30 0 (4 + 2 * k) = M 144 k 0 ∧ M 30 0 (4 + 2 * k + 1) = M 145 k 0)
def jf_Cs (M : am_M) (s : Nat) : Prop := M 31 0 s = M 180 s 0 ∧ M 32 0 s = M 181 s 0 ∧ ∀ j, j < 40 → M 33 0 (40 * s + j) = M 21 s j
def jf_Cw (M : am_M) : Prop := ∀ j, j < 96 → M 35 0 j = mo_words.getD j 0
def jf_C (M : am_M) : Prop := (jf_Cp M ∧ jf_Cn M ∧ ∀ k, k < 5 → jf_Ch M k) ∧ (jf_Cb M ∧ jf_Ck M ∧ jf_Ct M) ∧ jf_Ci M ∧ (∀ s, s < 4 → jf_Cs M s) ∧ jf_Cw M
theorem jf_C.p {M : am_M} (hJ : jf_J M) (hC : jf_C M) {k : Nat} (hk : k < 5) {t : Nat} (ht : (t : Int) < M 386 0 0) {mk st : Int} : mo_p M k t (jf_xp M k t mk st) := by
  have h1 := hC.1.2.2 k hk
  have h2 := hC.1.1
  have h3 := (hC.2.1.2.2 t ht).2
  exact ⟨⟨h1.1.symm, h1.2.1.symm, h1.2.2.1.symm, h1.2.2.2.symm⟩, ⟨h2.2.1.symm, h2.2.2.1.symm, h2.2.2.2.symm⟩, (h3 0 (by decide)).symm, (h3 1 (by decide)).symm, (h3 2 (by decide)).symm⟩
theorem jf_il_no {a b q : Int} (h : ¬ (0 ≤ q ∧ q ≤ 1)) : jf_il a b q = -4611686018427387904 := if_neg h
theorem jf_hd {M : am_M} {h : Int} (hn : 0 ≤ M 227 0 0 ∧ M 227 0 0 ≤ 5) : (∃ k : Nat, h = (k : Int) ∧ (k : Int) < M 227 0 0 ∧ k < 5) ∨ ¬ (0 ≤ h ∧ h < M 227 0 0) := by
  by_cases hh : 0 ≤ h ∧ h < M 227 0 0
  · exact Or.inl ⟨h.toNat, by omega, by omega, by omega⟩
  · exact Or.inr hh

theorem sm_isHand {d : Nat} (hd : 2 ≤ d) {h : Int} {M : am_M} {K : am_K} (hn : 0 ≤ M 421 0 0 ∧ M 421 0 0 ≤ 5) (hh : am_in h) (ht : 0 ≤ h ∧ h < M 421 0 0 → K (some (aI 1)) M) (hf : ¬ (0 ≤ h ∧ h < M 421 0 0) → K (some (aI 0)) M) : am_Call true d 147 [aR 8 0, aI h] M K := by
  obtain ⟨d, rfl⟩ : ∃ e, d = e + 1 := ⟨d - 1, by omega⟩
  refine ⟨rfl, fun R hR hC => ?_⟩
  replace hR : ∀ c, am_F true tb_f147 2 (am_Call true d) K R c → R c := hR
  show R (0, [some (aR 8 0), some (aI h)], [], M)
  refine hR _ (hR _ (hR _ (hR _ (hR _ (hR _ (?_))))))
  show R (8, [some (aR 8 0), some (aI h)], [aI (M 421 0 0 - 1), aI 0, aI h], M)
  refine hR _ (sp_in (by omega) (by omega) (fun h8 => ?_) (fun h8 => ?_))
  · show R (11, [some (aR 8 0), some (aI h)], [aI 1], M)
    refine hR _ (show ((1 : Int) = 0 ∨ (1 : Int) = 1) ∧ K (some (aI 1)) M from ?_)
    exact ⟨by omega, ht (by omega)⟩
  · show R (11, [some (aR 8 0), some (aI h)], [aI 0], M)
    refine hR _ (show ((0 : Int) = 0 ∨ (0 : Int) = 1) ∧ K (some (aI 0)) M from ?_)
    exact ⟨by omega, hf (by omega)⟩

theorem sm_goes {d : Nat} (hd : 7 ≤ d) {k r : Nat} {p : jf_par} {M : am_M} {K : am_K} (hk : k < 5) (hr : M 431 0 0 = (r : Int)) (hr6 : r < 6) (hwt : mo_wt M r) (hp : mo_p M k r p) (hok : jf_ok p) (hmk : p.mk = M 22 0 0) (hst : p.st = 0) (h : ∀ g : am_M, mo_th (am_mix mo_SM g M) p → K none (am_mix mo_SM g M)) : am_Call true d 150 [aR 8 0, aI ((k : Nat) : Int)] M K := by
  obtain ⟨d, rfl⟩ : ∃ e, d = e + 1 := ⟨d - 1, by omega⟩
  refine ⟨rfl, fun R hR hC => ?_⟩
  replace hR : ∀ c, am_F true tb_f150 0 (am_Call true d) K R c → R c := hR
  show R (0, [some (aR 8 0), some (aI ((k : Nat) : Int))], [], M)
  refine hR _ (hR _ (hR _ (hR _ (hR _ (?_)))))
  show R (7, [some (aR 8 0), some (aI ((k : Nat) : Int))], [aI 0, aR 22 0, aI ((k : Nat) : Int), aR 8 0], M)
  refine hR _ ⟨(show 0 ≤ (0 : Int) ∧ (0 : Int) < 4 from (by omega)), ?_⟩
  show R (8, [some (aR 8 0), some (aI ((k : Nat) : Int))], [aI (M 22 0 0), aI ((k : Nat) : Int), aR 8 0], M)
  refine hR _ (?_)
  show R (9, [some (aR 8 0), some (aI ((k : Nat) : Int))], [aI 0, aI (M 22 0 0), aI ((k : Nat) : Int), aR 8 0], M)
  suffices hS : R (9, [some (aR 8 0), some (aI ((k : Nat) : Int))], [aI p.st, aI p.mk, aI ((k : Nat) : Int), aR 8 0], M) by
    rw [hmk, hst] at hS
    exact hS
  refine hR _ (sm_think2 (p := p) (r := r) (by omega) hk hr hr6 hwt hp hok (fun g hg => ?_))
  show R (12, [some (aR 8 0), some (aI ((k : Nat) : Int))], [], am_mix mo_SM g M)
  refine hR _ (show K none (am_mix mo_SM g M) from ?_)
  exact h g hg

set_option maxHeartbeats 1000000 in
theorem sm_stops {d : Nat} (hd : 9 ≤ d) {h a w : Int} {M : am_M} {K : am_K} (hJ : jf_J M) (hW : jf_C M) (ha_h : am_in h) (ha_a : am_in a) (ha_w : am_in w) (hK : ∀ g, K (some (aI (jx_stops M h a w))) (am_mix mo_SM g M)) : am_Call true d 149 [aR 8 0, aI h, aI a, aI w] M K := by
  obtain ⟨d, rfl⟩ : ∃ e, d = e + 1 := ⟨d - 1, by omega⟩
  refine ⟨rfl, fun R hR hC => ?_⟩
  replace hR : ∀ c, am_F true tb_f149 1 (am_Call true d) K R c → R c := hR
  have hn := hJ.1.1.2.2.2.2.2.2.2.1
  have hl0 := hJ.1.1.2.2.2.2.2.2.2.2
  have htc := hJ.2.2.1.1
  have hlt : 0 ≤ M 228 0 0 ∧ M 228 0 0 < 6 := by omega
  have hmk := hJ.1.1.1
  have hdr := hJ.1.1.2.1
  have hpr := hJ.1.1.2.2.1
  have hfu := hJ.1.1.2.2.2.1
  have hn' : 0 ≤ M 421 0 0 ∧ M 421 0 0 ≤ 5 := by rw [hW.1.2.1.1]; exact hn
  have h421 : M 421 0 0 = M 227 0 0 := hW.1.2.1.1
  show R (0, [some (aR 8 0), some (aI h), some (aI a), some (aI w)], [], M)
  rcases jf_hd (M := M) (h := h) hn with ⟨k, rfl, hk5, hk⟩ | hno
  · obtain ⟨r, hrr⟩ : ∃ r, r = (M 228 0 0).toNat := ⟨_, rfl⟩
    have hr : M 431 0 0 = (r : Int) := by rw [hW.1.2.1.2.2.1]; omega
    have hr6 : r < 6 := by omega
    have hwt : mo_wt M r := (hW.2.1.2.2 r (by omega)).1
    obtain ⟨p, hpp⟩ : ∃ p, p = jf_px M k := ⟨_, rfl⟩
    have hp : mo_p M k r p := by rw [hpp, hrr]; exact jf_C.p hJ hW hk (by omega)
    have hok : jf_ok p := by rw [hpp]; exact hJ.px hk
    have hpm : p.mk = M 22 0 0 := by rw [hpp]; exact hW.1.1.1.symm
    have hps : p.st = 0 := by rw [hpp]
    have hpb := jf_P_b hok
    have hA := jf_A_b hok
    show R (0, [some (aR 8 0), some (aI ((k : Nat) : Int)), some (aI a), some (aI w)], [], M)
    refine hR _ (hR _ (?_))
    show R (2, [some (aR 8 0), some (aI ((k : Nat) : Int)), some (aI a), some (aI w)], [aI ((k : Nat) : Int), aR 8 0], M)
    refine hR _ (sm_isHand (by omega) (show 0 ≤ M 421 0 0 ∧ M 421 0 0 ≤ 5 from hn') (by omega) (fun _ => ?_) (fun hz => absurd (show 0 ≤ ((k : Nat) : Int) ∧ ((k : Nat) : Int) < M 421 0 0 by omega) hz))
    show R (5, [some (aR 8 0), some (aI ((k : Nat) : Int)), some (aI a), some (aI w)], [aI 1], M)
    refine hR _ (am_brt (rg := am_in 1) (P := (1 : Int) ≠ 0) (A := R (11, [some (aR 8 0), some (aI ((k : Nat) : Int)), some (aI a), some (aI w)], [], M)) (B := R (8, [some (aR 8 0), some (aI ((k : Nat) : Int)), some (aI a), some (aI w)], [], M)) (by omega) (by omega) ?_)
    show R (11, [some (aR 8 0), some (aI ((k : Nat) : Int)), some (aI a), some (aI w)], [], M)
    refine hR _ (hR _ (hR _ (?_)))
    show R (14, [some (aR 8 0), some (aI ((k : Nat) : Int)), some (aI a), some (aI w)], [aI 4, aI 0, aI a], M)
    refine hR _ (sp_in (by omega) (by omega) (fun h14 => ?_) (fun h14 => ?_))
    · show R (17, [some (aR 8 0), some (aI ((k : Nat) : Int)), some (aI a), some (aI w)], [aI 1], M)
      refine hR _ (am_brf (rg := am_in 1) (P := (1 : Int) = 0) (A := R (29, [some (aR 8 0), some (aI ((k : Nat) : Int)), some (aI a), some (aI w)], [], M)) (B := R (20, [some (aR 8 0), some (aI ((k : Nat) : Int)), some (aI a), some (aI w)], [], M)) (by omega) (by omega) ?_)
      show R (20, [some (aR 8 0), some (aI ((k : Nat) : Int)), some (aI a), some (aI w)], [], M)
      refine hR _ (hR _ (hR _ (?_)))
      show R (23, [some (aR 8 0), some (aI ((k : Nat) : Int)), some (aI a), some (aI w)], [aI 3, aI 0, aI w], M)
      refine hR _ (sp_in (by omega) (by omega) (fun h23 => ?_) (fun h23 => ?_))
      · show R (26, [some (aR 8 0), some (aI ((k : Nat) : Int)), some (aI a), some (aI w)], [aI 1], M)
        refine hR _ (am_brt (rg := am_in 1) (P := (1 : Int) ≠ 0) (A := R (32, [some (aR 8 0), some (aI ((k : Nat) : Int)), some (aI a), some (aI w)], [], M)) (B := R (29, [some (aR 8 0), some (aI ((k : Nat) : Int)), some (aI a), some (aI w)], [], M)) (by omega) (by omega) ?_)
        show R (32, [some (aR 8 0), some (aI ((k : Nat) : Int)), some (aI a), some (aI w)], [], M)
        refine hR _ (hR _ (?_))
        show R (34, [some (aR 8 0), some (aI ((k : Nat) : Int)), some (aI a), some (aI w)], [aI ((k : Nat) : Int), aR 8 0], M)
        refine hR _ (sm_goes (p := p) (r := r) (by omega) hk hr hr6 hwt hp hok hpm hps (fun g152 hth => ?_))
        have hthr := hth.1
        have hthA := hth.2.1
        have hthN := hth.2.2
        have hbO := fun a (ha : a < 5) => jf_O_b hok ha
        have hbE := fun a (ha : a < 5) => jf_E_b hok ha
        show R (37, [some (aR 8 0), some (aI ((k : Nat) : Int)), some (aI a), some (aI w)], [], am_mix mo_SM g152 M)
        refine hR _ (hR _ (am_brc (rg := am_in w) (P := w ≠ 0) (A := R (50, [some (aR 8 0), some (aI ((k : Nat) : Int)), some (aI a), some (aI w)], [], am_mix mo_SM g152 M)) (B := R (41, [some (aR 8 0), some (aI ((k : Nat) : Int)), some (aI a), some (aI w)], [], am_mix mo_SM g152 M)) (by omega) (fun c38 => ?_) (fun c38 => ?_)))
        · refine hR _ (hR _ (hR _ (am_brc (rg := am_in w ∧ am_in 1) (P := w ≠ 1) (A := R (64, [some (aR 8 0), some (aI ((k : Nat) : Int)), some (aI a), some (aI w)], [], am_mix mo_SM g152 M)) (B := R (55, [some (aR 8 0), some (aI ((k : Nat) : Int)), some (aI a), some (aI w)], [], am_mix mo_SM g152 M)) (by omega) (fun c52 => ?_) (fun c52 => ?_))))
          · refine hR _ (hR _ (hR _ (am_brc (rg := am_in w ∧ am_in 2) (P := w ≠ 2) (A := R (78, [some (aR 8 0), some (aI ((k : Nat) : Int)), some (aI a), some (aI w)], [], am_mix mo_SM g152 M)) (B := R (69, [some (aR 8 0), some (aI ((k : Nat) : Int)), some (aI a), some (aI w)], [], am_mix mo_SM g152 M)) (by omega) (fun c66 => ?_) (fun c66 => ?_))))
            · refine hR _ (hR _ (?_))
              show R (82, [some (aR 8 0), some (aI ((k : Nat) : Int)), some (aI a), some (aI w)], [aI (g152 455 0 0)], am_mix mo_SM g152 M)
              rw [(show g152 455 0 0 = (jf_P p).2.2 from hthN)]
              show R (82, [some (aR 8 0), some (aI ((k : Nat) : Int)), some (aI a), some (aI w)], [aI ((jf_P p).2.2)], am_mix mo_SM g152 M)
              refine hR _ (show K (some (aI ((jf_P p).2.2))) (am_mix mo_SM g152 M) from ?_)
              have hres : jx_stops M ((k : Nat) : Int) a w = (jf_P p).2.2 := by
                subst hpp
                unfold jx_stops
                repeat' split
                all_goals first | omega | rfl | exact jf_il_no (by omega)
              rw [hres] at hK
              have e9 : am_ag mo_SM M (am_mix mo_SM g152 M) := (am_ag.rf).mix rfl
              rw [e9.eq]
              exact hK _
            · refine hR _ (hR _ (hR _ (?_)))
              show R (74, [some (aR 8 0), some (aI ((k : Nat) : Int)), some (aI a), some (aI w)], [aI a, aR 41 0], am_mix mo_SM g152 M)
              refine hR _ ⟨(show 0 ≤ (a : Int) ∧ (a : Int) < 5 from (by omega)), ?_⟩
              show R (75, [some (aR 8 0), some (aI ((k : Nat) : Int)), some (aI a), some (aI w)], [aI (g152 41 0 ((a).toNat))], am_mix mo_SM g152 M)
              rw [(show g152 41 0 ((a).toNat) = jf_O p a.toNat from (hthr a.toNat (by omega)).2.2)]
              show R (75, [some (aR 8 0), some (aI ((k : Nat) : Int)), some (aI a), some (aI w)], [aI (jf_O p a.toNat)], am_mix mo_SM g152 M)
              refine hR _ (?_)
              show R (82, [some (aR 8 0), some (aI ((k : Nat) : Int)), some (aI a), some (aI w)], [aI (jf_O p a.toNat)], am_mix mo_SM g152 M)
              refine hR _ (show K (some (aI (jf_O p a.toNat))) (am_mix mo_SM g152 M) from ?_)
              have hres : jx_stops M ((k : Nat) : Int) a w = (jf_O p a.toNat) := by
                subst hpp
                unfold jx_stops
                repeat' split
                all_goals first | omega | rfl | exact jf_il_no (by omega)
              rw [hres] at hK
              have e9 : am_ag mo_SM M (am_mix mo_SM g152 M) := (am_ag.rf).mix rfl
              rw [e9.eq]
              exact hK _
          · refine hR _ (hR _ (hR _ (?_)))
            show R (60, [some (aR 8 0), some (aI ((k : Nat) : Int)), some (aI a), some (aI w)], [aI a, aR 40 0], am_mix mo_SM g152 M)
            refine hR _ ⟨(show 0 ≤ (a : Int) ∧ (a : Int) < 5 from (by omega)), ?_⟩
            show R (61, [some (aR 8 0), some (aI ((k : Nat) : Int)), some (aI a), some (aI w)], [aI (g152 40 0 ((a).toNat))], am_mix mo_SM g152 M)
            rw [(show g152 40 0 ((a).toNat) = jf_T p a.toNat from (hthr a.toNat (by omega)).2.1)]
            show R (61, [some (aR 8 0), some (aI ((k : Nat) : Int)), some (aI a), some (aI w)], [aI (jf_T p a.toNat)], am_mix mo_SM g152 M)
            refine hR _ (?_)
            show R (82, [some (aR 8 0), some (aI ((k : Nat) : Int)), some (aI a), some (aI w)], [aI (jf_T p a.toNat)], am_mix mo_SM g152 M)
            refine hR _ (show K (some (aI (jf_T p a.toNat))) (am_mix mo_SM g152 M) from ?_)
            have hres : jx_stops M ((k : Nat) : Int) a w = (jf_T p a.toNat) := by
              subst hpp
              unfold jx_stops
              repeat' split
              all_goals first | omega | rfl | exact jf_il_no (by omega)
            rw [hres] at hK
            have e9 : am_ag mo_SM M (am_mix mo_SM g152 M) := (am_ag.rf).mix rfl
            rw [e9.eq]
            exact hK _
        · refine hR _ (hR _ (hR _ (?_)))
          show R (46, [some (aR 8 0), some (aI ((k : Nat) : Int)), some (aI a), some (aI w)], [aI a, aR 39 0], am_mix mo_SM g152 M)
          refine hR _ ⟨(show 0 ≤ (a : Int) ∧ (a : Int) < 5 from (by omega)), ?_⟩
          show R (47, [some (aR 8 0), some (aI ((k : Nat) : Int)), some (aI a), some (aI w)], [aI (g152 39 0 ((a).toNat))], am_mix mo_SM g152 M)
          rw [(show g152 39 0 ((a).toNat) = jf_E p a.toNat from (hthr a.toNat (by omega)).1)]
          show R (47, [some (aR 8 0), some (aI ((k : Nat) : Int)), some (aI a), some (aI w)], [aI (jf_E p a.toNat)], am_mix mo_SM g152 M)
          refine hR _ (?_)
          show R (82, [some (aR 8 0), some (aI ((k : Nat) : Int)), some (aI a), some (aI w)], [aI (jf_E p a.toNat)], am_mix mo_SM g152 M)
          refine hR _ (show K (some (aI (jf_E p a.toNat))) (am_mix mo_SM g152 M) from ?_)
          have hres : jx_stops M ((k : Nat) : Int) a w = (jf_E p a.toNat) := by
            subst hpp
            unfold jx_stops
            repeat' split
            all_goals first | omega | rfl | exact jf_il_no (by omega)
          rw [hres] at hK
          have e9 : am_ag mo_SM M (am_mix mo_SM g152 M) := (am_ag.rf).mix rfl
          rw [e9.eq]
          exact hK _
      · show R (26, [some (aR 8 0), some (aI ((k : Nat) : Int)), some (aI a), some (aI w)], [aI 0], M)
        refine hR _ (am_brf (rg := am_in 0) (P := (0 : Int) ≠ 0) (A := R (32, [some (aR 8 0), some (aI ((k : Nat) : Int)), some (aI a), some (aI w)], [], M)) (B := R (29, [some (aR 8 0), some (aI ((k : Nat) : Int)), some (aI a), some (aI w)], [], M)) (by omega) (by omega) ?_)
        show R (29, [some (aR 8 0), some (aI ((k : Nat) : Int)), some (aI a), some (aI w)], [], M)
        refine hR _ (?_)
        show R (31, [some (aR 8 0), some (aI ((k : Nat) : Int)), some (aI a), some (aI w)], [aI (-7)], M)
        refine hR _ (show K (some (aI (-7))) M from ?_)
        have hres : jx_stops M ((k : Nat) : Int) a w = (-7) := by
          unfold jx_stops
          repeat' split
          all_goals first | omega | rfl | exact jf_il_no (by omega)
        rw [hres] at hK
        have e9 : am_ag mo_SM M M := am_ag.rf
        rw [e9.eq]
        exact hK _
    · show R (17, [some (aR 8 0), some (aI ((k : Nat) : Int)), some (aI a), some (aI w)], [aI 0], M)
      refine hR _ (am_brt (rg := am_in 0) (P := (0 : Int) = 0) (A := R (29, [some (aR 8 0), some (aI ((k : Nat) : Int)), some (aI a), some (aI w)], [], M)) (B := R (20, [some (aR 8 0), some (aI ((k : Nat) : Int)), some (aI a), some (aI w)], [], M)) (by omega) (by omega) ?_)
      show R (29, [some (aR 8 0), some (aI ((k : Nat) : Int)), some (aI a), some (aI w)], [], M)
      refine hR _ (?_)
      show R (31, [some (aR 8 0), some (aI ((k : Nat) : Int)), some (aI a), some (aI w)], [aI (-7)], M)
      refine hR _ (show K (some (aI (-7))) M from ?_)
      have hres : jx_stops M ((k : Nat) : Int) a w = (-7) := by
        unfold jx_stops
        repeat' split
        all_goals first | omega | rfl | exact jf_il_no (by omega)
      rw [hres] at hK
      have e9 : am_ag mo_SM M M := am_ag.rf
      rw [e9.eq]
      exact hK _
  · show R (0, [some (aR 8 0), some (aI h), some (aI a), some (aI w)], [], M)
    refine hR _ (hR _ (?_))
    show R (2, [some (aR 8 0), some (aI h), some (aI a), some (aI w)], [aI h, aR 8 0], M)
    refine hR _ (sm_isHand (by omega) (show 0 ≤ M 421 0 0 ∧ M 421 0 0 ≤ 5 from hn') (by omega) (fun hz => absurd (show 0 ≤ h ∧ h < M 227 0 0 from ⟨hz.1, by rw [← h421]; exact hz.2⟩) hno) (fun _ => ?_))
    show R (5, [some (aR 8 0), some (aI h), some (aI a), some (aI w)], [aI 0], M)
    refine hR _ (am_brf (rg := am_in 0) (P := (0 : Int) ≠ 0) (A := R (11, [some (aR 8 0), some (aI h), some (aI a), some (aI w)], [], M)) (B := R (8, [some (aR 8 0), some (aI h), some (aI a), some (aI w)], [], M)) (by omega) (by omega) ?_)
    show R (8, [some (aR 8 0), some (aI h), some (aI a), some (aI w)], [], M)
    refine hR _ (?_)
    show R (10, [some (aR 8 0), some (aI h), some (aI a), some (aI w)], [aI (-5)], M)
    refine hR _ (show K (some (aI (-5))) M from ?_)
    have hres : jx_stops M h a w = (-5) := by
      unfold jx_stops
      repeat' split
      all_goals first | omega | rfl | exact jf_il_no (by omega)
    rw [hres] at hK
    have e9 : am_ag mo_SM M M := am_ag.rf
    rw [e9.eq]
    exact hK _

set_option maxHeartbeats 1000000 in
theorem sm_mean {d : Nat} (hd : 9 ≤ d) {h q : Int} {M : am_M} {K : am_K} (hJ : jf_J M) (hW : jf_C M) (ha_h : am_in h) (ha_q : am_in q) (hK : ∀ g, K (some (aL (jx_mean M h q))) (am_mix mo_SM g M)) : am_Call true d 160 [aR 8 0, aI h, aI q] M K := by
  obtain ⟨d, rfl⟩ : ∃ e, d = e + 1 := ⟨d - 1, by omega⟩
  refine ⟨rfl, fun R hR hC => ?_⟩
  replace hR : ∀ c, am_F true tb_f160 5 (am_Call true d) K R c → R c := hR
  have hn := hJ.1.1.2.2.2.2.2.2.2.1
  have hl0 := hJ.1.1.2.2.2.2.2.2.2.2
  have htc := hJ.2.2.1.1
  have hlt : 0 ≤ M 228 0 0 ∧ M 228 0 0 < 6 := by omega
  have hmk := hJ.1.1.1
  have hdr := hJ.1.1.2.1
  have hpr := hJ.1.1.2.2.1
  have hfu := hJ.1.1.2.2.2.1
  have hn' : 0 ≤ M 421 0 0 ∧ M 421 0 0 ≤ 5 := by rw [hW.1.2.1.1]; exact hn
  have h421 : M 421 0 0 = M 227 0 0 := hW.1.2.1.1
  show R (0, [some (aR 8 0), some (aI h), some (aI q)], [], M)
  rcases jf_hd (M := M) (h := h) hn with ⟨k, rfl, hk5, hk⟩ | hno
  · obtain ⟨r, hrr⟩ : ∃ r, r = (M 228 0 0).toNat := ⟨_, rfl⟩
    have hr : M 431 0 0 = (r : Int) := by rw [hW.1.2.1.2.2.1]; omega
    have hr6 : r < 6 := by omega
    have hwt : mo_wt M r := (hW.2.1.2.2 r (by omega)).1
    obtain ⟨p, hpp⟩ : ∃ p, p = jf_px M k := ⟨_, rfl⟩
    have hp : mo_p M k r p := by rw [hpp, hrr]; exact jf_C.p hJ hW hk (by omega)
    have hok : jf_ok p := by rw [hpp]; exact hJ.px hk
    have hpm : p.mk = M 22 0 0 := by rw [hpp]; exact hW.1.1.1.symm
    have hps : p.st = 0 := by rw [hpp]
    have hpb := jf_P_b hok
    have hA := jf_A_b hok
    show R (0, [some (aR 8 0), some (aI ((k : Nat) : Int)), some (aI q)], [], M)
    refine hR _ (hR _ (?_))
    show R (2, [some (aR 8 0), some (aI ((k : Nat) : Int)), some (aI q)], [aI ((k : Nat) : Int), aR 8 0], M)
    refine hR _ (sm_isHand (by omega) (show 0 ≤ M 421 0 0 ∧ M 421 0 0 ≤ 5 from hn') (by omega) (fun _ => ?_) (fun hz => absurd (show 0 ≤ ((k : Nat) : Int) ∧ ((k : Nat) : Int) < M 421 0 0 by omega) hz))
    show R (5, [some (aR 8 0), some (aI ((k : Nat) : Int)), some (aI q)], [aI 1], M)
    refine hR _ (am_brf (rg := am_in 1) (P := (1 : Int) = 0) (A := R (17, [some (aR 8 0), some (aI ((k : Nat) : Int)), some (aI q)], [], M)) (B := R (8, [some (aR 8 0), some (aI ((k : Nat) : Int)), some (aI q)], [], M)) (by omega) (by omega) ?_)
    show R (8, [some (aR 8 0), some (aI ((k : Nat) : Int)), some (aI q)], [], M)
    refine hR _ (hR _ (hR _ (?_)))
    show R (11, [some (aR 8 0), some (aI ((k : Nat) : Int)), some (aI q)], [aI 1, aI 0, aI q], M)
    refine hR _ (sp_in (by omega) (by omega) (fun h11 => ?_) (fun h11 => ?_))
    · show R (14, [some (aR 8 0), some (aI ((k : Nat) : Int)), some (aI q)], [aI 1], M)
      refine hR _ (am_brt (rg := am_in 1) (P := (1 : Int) ≠ 0) (A := R (21, [some (aR 8 0), some (aI ((k : Nat) : Int)), some (aI q)], [], M)) (B := R (17, [some (aR 8 0), some (aI ((k : Nat) : Int)), some (aI q)], [], M)) (by omega) (by omega) ?_)
      show R (21, [some (aR 8 0), some (aI ((k : Nat) : Int)), some (aI q)], [], M)
      refine hR _ (hR _ (?_))
      show R (23, [some (aR 8 0), some (aI ((k : Nat) : Int)), some (aI q)], [aI ((k : Nat) : Int), aR 8 0], M)
      refine hR _ (sm_goes (p := p) (r := r) (by omega) hk hr hr6 hwt hp hok hpm hps (fun g153 hth => ?_))
      have hthr := hth.1
      have hthA := hth.2.1
      have hthN := hth.2.2
      have hbO := fun a (ha : a < 5) => jf_O_b hok ha
      have hbE := fun a (ha : a < 5) => jf_E_b hok ha
      show R (26, [some (aR 8 0), some (aI ((k : Nat) : Int)), some (aI q)], [], am_mix mo_SM g153 M)
      refine hR _ (hR _ (hR _ (hR _ (hR _ (?_)))))
      show R (33, [some (aR 8 0), some (aI ((k : Nat) : Int)), some (aI q)], [aI 0, aR 22 0, aI ((k : Nat) : Int), aR 8 0], am_mix mo_SM g153 M)
      refine hR _ ⟨(show 0 ≤ (0 : Int) ∧ (0 : Int) < 4 from (by omega)), ?_⟩
      show R (34, [some (aR 8 0), some (aI ((k : Nat) : Int)), some (aI q)], [aI (M 22 0 0), aI ((k : Nat) : Int), aR 8 0], am_mix mo_SM g153 M)
      rw [(show M 22 0 0 = M 220 0 0 from hW.1.1.1)]
      show R (34, [some (aR 8 0), some (aI ((k : Nat) : Int)), some (aI q)], [aI (M 220 0 0), aI ((k : Nat) : Int), aR 8 0], am_mix mo_SM g153 M)
      refine hR _ (sm_costsBy (p := p) (r := r) (by omega) hk hr hr6 hwt hp hok hth (by omega) (fun g154 => ?_))
      have hcc34 := jf_cc_b hok (M 220 0 0)
      show R (37, [some (aR 8 0), some (aI ((k : Nat) : Int)), some (aI q)], [aL (jf_cc p (M 220 0 0))], am_mix [37, 38] g154 (am_mix mo_SM g153 M))
      refine hR _ (hR _ (?_))
      show R (41, [some (aR 8 0), some (aI ((k : Nat) : Int)), some (aI q)], [aI (g153 454 0 0), aL (jf_cc p (M 220 0 0))], am_mix [37, 38] g154 (am_mix mo_SM g153 M))
      rw [(show g153 454 0 0 = jf_A p from hthA)]
      show R (41, [some (aR 8 0), some (aI ((k : Nat) : Int)), some (aI q)], [aI (jf_A p), aL (jf_cc p (M 220 0 0))], am_mix [37, 38] g154 (am_mix mo_SM g153 M))
      refine hR _ ⟨(by omega), ?_⟩
      show R (42, [some (aR 8 0), some (aI ((k : Nat) : Int)), some (aI q)], [aL (jf_A p), aL (jf_cc p (M 220 0 0))], am_mix [37, 38] g154 (am_mix mo_SM g153 M))
      refine hR _ (?_)
      show R (43, [some (aR 8 0), some (aI ((k : Nat) : Int)), some (aI q)], [aI q, aL (jf_A p), aL (jf_cc p (M 220 0 0))], am_mix [37, 38] g154 (am_mix mo_SM g153 M))
      refine hR _ (sm_lowest (by omega) (by omega) (by omega) (by omega) ?_)
      show R (46, [some (aR 8 0), some (aI ((k : Nat) : Int)), some (aI q)], [aL (jf_il (jf_cc p (M 220 0 0)) (jf_A p) q)], am_mix [37, 38] g154 (am_mix mo_SM g153 M))
      refine hR _ (show K (some (aL (jf_il (jf_cc p (M 220 0 0)) (jf_A p) q))) (am_mix [37, 38] g154 (am_mix mo_SM g153 M)) from ?_)
      have hres : jx_mean M ((k : Nat) : Int) q = (jf_il (jf_cc p (M 220 0 0)) (jf_A p) q) := by
        subst hpp
        unfold jx_mean
        repeat' split
        all_goals first | omega | rfl | exact jf_il_no (by omega)
      rw [hres] at hK
      have e9 : am_ag mo_SM M (am_mix [37, 38] g154 (am_mix mo_SM g153 M)) := ((am_ag.rf).mix rfl).mix rfl
      rw [e9.eq]
      exact hK _
    · show R (14, [some (aR 8 0), some (aI ((k : Nat) : Int)), some (aI q)], [aI 0], M)
      refine hR _ (am_brf (rg := am_in 0) (P := (0 : Int) ≠ 0) (A := R (21, [some (aR 8 0), some (aI ((k : Nat) : Int)), some (aI q)], [], M)) (B := R (17, [some (aR 8 0), some (aI ((k : Nat) : Int)), some (aI q)], [], M)) (by omega) (by omega) ?_)
      show R (17, [some (aR 8 0), some (aI ((k : Nat) : Int)), some (aI q)], [], M)
      refine hR _ (?_)
      show R (20, [some (aR 8 0), some (aI ((k : Nat) : Int)), some (aI q)], [aL (-4611686018427387904)], M)
      refine hR _ (show K (some (aL (-4611686018427387904))) M from ?_)
      have hres : jx_mean M ((k : Nat) : Int) q = (-4611686018427387904) := by
        unfold jx_mean
        repeat' split
        all_goals first | omega | rfl | exact jf_il_no (by omega)
      rw [hres] at hK
      have e9 : am_ag mo_SM M M := am_ag.rf
      rw [e9.eq]
      exact hK _
  · show R (0, [some (aR 8 0), some (aI h), some (aI q)], [], M)
    refine hR _ (hR _ (?_))
    show R (2, [some (aR 8 0), some (aI h), some (aI q)], [aI h, aR 8 0], M)
    refine hR _ (sm_isHand (by omega) (show 0 ≤ M 421 0 0 ∧ M 421 0 0 ≤ 5 from hn') (by omega) (fun hz => absurd (show 0 ≤ h ∧ h < M 227 0 0 from ⟨hz.1, by rw [← h421]; exact hz.2⟩) hno) (fun _ => ?_))
    show R (5, [some (aR 8 0), some (aI h), some (aI q)], [aI 0], M)
    refine hR _ (am_brt (rg := am_in 0) (P := (0 : Int) = 0) (A := R (17, [some (aR 8 0), some (aI h), some (aI q)], [], M)) (B := R (8, [some (aR 8 0), some (aI h), some (aI q)], [], M)) (by omega) (by omega) ?_)
    show R (17, [some (aR 8 0), some (aI h), some (aI q)], [], M)
    refine hR _ (?_)
    show R (20, [some (aR 8 0), some (aI h), some (aI q)], [aL (-4611686018427387904)], M)
    refine hR _ (show K (some (aL (-4611686018427387904))) M from ?_)
    have hres : jx_mean M h q = (-4611686018427387904) := by
      unfold jx_mean
      repeat' split
      all_goals first | omega | rfl | exact jf_il_no (by omega)
    rw [hres] at hK
    have e9 : am_ag mo_SM M M := am_ag.rf
    rw [e9.eq]
    exact hK _

set_option maxHeartbeats 1000000 in
theorem sm_time {d : Nat} (hd : 9 ≤ d) {h q : Int} {M : am_M} {K : am_K} (hJ : jf_J M) (hW : jf_C M) (ha_h : am_in h) (ha_q : am_in q) (hK : ∀ g, K (some (aL (jx_time M h q))) (am_mix mo_SM g M)) : am_Call true d 163 [aR 8 0, aI h, aI q] M K := by
  obtain ⟨d, rfl⟩ : ∃ e, d = e + 1 := ⟨d - 1, by omega⟩
  refine ⟨rfl, fun R hR hC => ?_⟩
  replace hR : ∀ c, am_F true tb_f163 5 (am_Call true d) K R c → R c := hR
  have hn := hJ.1.1.2.2.2.2.2.2.2.1
  have hl0 := hJ.1.1.2.2.2.2.2.2.2.2
  have htc := hJ.2.2.1.1
  have hlt : 0 ≤ M 228 0 0 ∧ M 228 0 0 < 6 := by omega
  have hmk := hJ.1.1.1
  have hdr := hJ.1.1.2.1
  have hpr := hJ.1.1.2.2.1
  have hfu := hJ.1.1.2.2.2.1
  have hn' : 0 ≤ M 421 0 0 ∧ M 421 0 0 ≤ 5 := by rw [hW.1.2.1.1]; exact hn
  have h421 : M 421 0 0 = M 227 0 0 := hW.1.2.1.1
  show R (0, [some (aR 8 0), some (aI h), some (aI q)], [], M)
  rcases jf_hd (M := M) (h := h) hn with ⟨k, rfl, hk5, hk⟩ | hno
  · obtain ⟨r, hrr⟩ : ∃ r, r = (M 228 0 0).toNat := ⟨_, rfl⟩
    have hr : M 431 0 0 = (r : Int) := by rw [hW.1.2.1.2.2.1]; omega
    have hr6 : r < 6 := by omega
    have hwt : mo_wt M r := (hW.2.1.2.2 r (by omega)).1
    obtain ⟨p, hpp⟩ : ∃ p, p = jf_px M k := ⟨_, rfl⟩
    have hp : mo_p M k r p := by rw [hpp, hrr]; exact jf_C.p hJ hW hk (by omega)
    have hok : jf_ok p := by rw [hpp]; exact hJ.px hk
    have hpm : p.mk = M 22 0 0 := by rw [hpp]; exact hW.1.1.1.symm
    have hps : p.st = 0 := by rw [hpp]
    have hpb := jf_P_b hok
    have hA := jf_A_b hok
    show R (0, [some (aR 8 0), some (aI ((k : Nat) : Int)), some (aI q)], [], M)
    refine hR _ (hR _ (?_))
    show R (2, [some (aR 8 0), some (aI ((k : Nat) : Int)), some (aI q)], [aI ((k : Nat) : Int), aR 8 0], M)
    refine hR _ (sm_isHand (by omega) (show 0 ≤ M 421 0 0 ∧ M 421 0 0 ≤ 5 from hn') (by omega) (fun _ => ?_) (fun hz => absurd (show 0 ≤ ((k : Nat) : Int) ∧ ((k : Nat) : Int) < M 421 0 0 by omega) hz))
    show R (5, [some (aR 8 0), some (aI ((k : Nat) : Int)), some (aI q)], [aI 1], M)
    refine hR _ (am_brf (rg := am_in 1) (P := (1 : Int) = 0) (A := R (17, [some (aR 8 0), some (aI ((k : Nat) : Int)), some (aI q)], [], M)) (B := R (8, [some (aR 8 0), some (aI ((k : Nat) : Int)), some (aI q)], [], M)) (by omega) (by omega) ?_)
    show R (8, [some (aR 8 0), some (aI ((k : Nat) : Int)), some (aI q)], [], M)
    refine hR _ (hR _ (hR _ (?_)))
    show R (11, [some (aR 8 0), some (aI ((k : Nat) : Int)), some (aI q)], [aI 1, aI 0, aI q], M)
    refine hR _ (sp_in (by omega) (by omega) (fun h11 => ?_) (fun h11 => ?_))
    · show R (14, [some (aR 8 0), some (aI ((k : Nat) : Int)), some (aI q)], [aI 1], M)
      refine hR _ (am_brt (rg := am_in 1) (P := (1 : Int) ≠ 0) (A := R (21, [some (aR 8 0), some (aI ((k : Nat) : Int)), some (aI q)], [], M)) (B := R (17, [some (aR 8 0), some (aI ((k : Nat) : Int)), some (aI q)], [], M)) (by omega) (by omega) ?_)
      show R (21, [some (aR 8 0), some (aI ((k : Nat) : Int)), some (aI q)], [], M)
      refine hR _ (hR _ (?_))
      show R (23, [some (aR 8 0), some (aI ((k : Nat) : Int)), some (aI q)], [aI ((k : Nat) : Int), aR 8 0], M)
      refine hR _ (sm_goes (p := p) (r := r) (by omega) hk hr hr6 hwt hp hok hpm hps (fun g155 hth => ?_))
      have hthr := hth.1
      have hthA := hth.2.1
      have hthN := hth.2.2
      have hbO := fun a (ha : a < 5) => jf_O_b hok ha
      have hbE := fun a (ha : a < 5) => jf_E_b hok ha
      show R (26, [some (aR 8 0), some (aI ((k : Nat) : Int)), some (aI q)], [], am_mix mo_SM g155 M)
      refine hR _ (?_)
      show R (27, [some (aR 8 0), some (aI ((k : Nat) : Int)), some (aI q)], [aR 8 0], am_mix mo_SM g155 M)
      refine hR _ (sm_tenthsOfAll (by omega) hok hth ?_)
      have htt27 := jf_tt_b hok
      show R (30, [some (aR 8 0), some (aI ((k : Nat) : Int)), some (aI q)], [aL (jf_tt p)], am_mix mo_SM g155 M)
      refine hR _ (hR _ (?_))
      show R (34, [some (aR 8 0), some (aI ((k : Nat) : Int)), some (aI q)], [aI (g155 454 0 0), aL (jf_tt p)], am_mix mo_SM g155 M)
      rw [(show g155 454 0 0 = jf_A p from hthA)]
      show R (34, [some (aR 8 0), some (aI ((k : Nat) : Int)), some (aI q)], [aI (jf_A p), aL (jf_tt p)], am_mix mo_SM g155 M)
      refine hR _ ⟨(by omega), ?_⟩
      show R (35, [some (aR 8 0), some (aI ((k : Nat) : Int)), some (aI q)], [aL (jf_A p), aL (jf_tt p)], am_mix mo_SM g155 M)
      refine hR _ (?_)
      show R (36, [some (aR 8 0), some (aI ((k : Nat) : Int)), some (aI q)], [aI q, aL (jf_A p), aL (jf_tt p)], am_mix mo_SM g155 M)
      refine hR _ (sm_lowest (by omega) (by omega) (by omega) (by omega) ?_)
      show R (39, [some (aR 8 0), some (aI ((k : Nat) : Int)), some (aI q)], [aL (jf_il (jf_tt p) (jf_A p) q)], am_mix mo_SM g155 M)
      refine hR _ (show K (some (aL (jf_il (jf_tt p) (jf_A p) q))) (am_mix mo_SM g155 M) from ?_)
      have hres : jx_time M ((k : Nat) : Int) q = (jf_il (jf_tt p) (jf_A p) q) := by
        subst hpp
        unfold jx_time
        repeat' split
        all_goals first | omega | rfl | exact jf_il_no (by omega)
      rw [hres] at hK
      have e9 : am_ag mo_SM M (am_mix mo_SM g155 M) := (am_ag.rf).mix rfl
      rw [e9.eq]
      exact hK _
    · show R (14, [some (aR 8 0), some (aI ((k : Nat) : Int)), some (aI q)], [aI 0], M)
      refine hR _ (am_brf (rg := am_in 0) (P := (0 : Int) ≠ 0) (A := R (21, [some (aR 8 0), some (aI ((k : Nat) : Int)), some (aI q)], [], M)) (B := R (17, [some (aR 8 0), some (aI ((k : Nat) : Int)), some (aI q)], [], M)) (by omega) (by omega) ?_)
      show R (17, [some (aR 8 0), some (aI ((k : Nat) : Int)), some (aI q)], [], M)
      refine hR _ (?_)
      show R (20, [some (aR 8 0), some (aI ((k : Nat) : Int)), some (aI q)], [aL (-4611686018427387904)], M)
      refine hR _ (show K (some (aL (-4611686018427387904))) M from ?_)
      have hres : jx_time M ((k : Nat) : Int) q = (-4611686018427387904) := by
        unfold jx_time
        repeat' split
        all_goals first | omega | rfl | exact jf_il_no (by omega)
      rw [hres] at hK
      have e9 : am_ag mo_SM M M := am_ag.rf
      rw [e9.eq]
      exact hK _
  · show R (0, [some (aR 8 0), some (aI h), some (aI q)], [], M)
    refine hR _ (hR _ (?_))
    show R (2, [some (aR 8 0), some (aI h), some (aI q)], [aI h, aR 8 0], M)
    refine hR _ (sm_isHand (by omega) (show 0 ≤ M 421 0 0 ∧ M 421 0 0 ≤ 5 from hn') (by omega) (fun hz => absurd (show 0 ≤ h ∧ h < M 227 0 0 from ⟨hz.1, by rw [← h421]; exact hz.2⟩) hno) (fun _ => ?_))
    show R (5, [some (aR 8 0), some (aI h), some (aI q)], [aI 0], M)
    refine hR _ (am_brt (rg := am_in 0) (P := (0 : Int) = 0) (A := R (17, [some (aR 8 0), some (aI h), some (aI q)], [], M)) (B := R (8, [some (aR 8 0), some (aI h), some (aI q)], [], M)) (by omega) (by omega) ?_)
    show R (17, [some (aR 8 0), some (aI h), some (aI q)], [], M)
    refine hR _ (?_)
    show R (20, [some (aR 8 0), some (aI h), some (aI q)], [aL (-4611686018427387904)], M)
    refine hR _ (show K (some (aL (-4611686018427387904))) M from ?_)
    have hres : jx_time M h q = (-4611686018427387904) := by
      unfold jx_time
      repeat' split
      all_goals first | omega | rfl | exact jf_il_no (by omega)
    rw [hres] at hK
    have e9 : am_ag mo_SM M M := am_ag.rf
    rw [e9.eq]
    exact hK _

set_option maxHeartbeats 1000000 in
theorem sm_at {d : Nat} (hd : 9 ≤ d) {h e q : Int} {M : am_M} {K : am_K} (hJ : jf_J M) (hW : jf_C M) (ha_h : am_in h) (ha_e : am_in e) (ha_q : am_in q) (hK : ∀ g, K (some (aL (jx_at M h e q))) (am_mix mo_SM g M)) : am_Call true d 165 [aR 8 0, aI h, aI e, aI q] M K := by
  obtain ⟨d, rfl⟩ : ∃ e, d = e + 1 := ⟨d - 1, by omega⟩
  refine ⟨rfl, fun R hR hC => ?_⟩
  replace hR : ∀ c, am_F true tb_f165 5 (am_Call true d) K R c → R c := hR
  have hn := hJ.1.1.2.2.2.2.2.2.2.1
  have hl0 := hJ.1.1.2.2.2.2.2.2.2.2
  have htc := hJ.2.2.1.1
  have hlt : 0 ≤ M 228 0 0 ∧ M 228 0 0 < 6 := by omega
  have hmk := hJ.1.1.1
  have hdr := hJ.1.1.2.1
  have hpr := hJ.1.1.2.2.1
  have hfu := hJ.1.1.2.2.2.1
  have hn' : 0 ≤ M 421 0 0 ∧ M 421 0 0 ≤ 5 := by rw [hW.1.2.1.1]; exact hn
  have h421 : M 421 0 0 = M 227 0 0 := hW.1.2.1.1
  show R (0, [some (aR 8 0), some (aI h), some (aI e), some (aI q)], [], M)
  rcases jf_hd (M := M) (h := h) hn with ⟨k, rfl, hk5, hk⟩ | hno
  · obtain ⟨r, hrr⟩ : ∃ r, r = (M 228 0 0).toNat := ⟨_, rfl⟩
    have hr : M 431 0 0 = (r : Int) := by rw [hW.1.2.1.2.2.1]; omega
    have hr6 : r < 6 := by omega
    have hwt : mo_wt M r := (hW.2.1.2.2 r (by omega)).1
    obtain ⟨p, hpp⟩ : ∃ p, p = jf_px M k := ⟨_, rfl⟩
    have hp : mo_p M k r p := by rw [hpp, hrr]; exact jf_C.p hJ hW hk (by omega)
    have hok : jf_ok p := by rw [hpp]; exact hJ.px hk
    have hpm : p.mk = M 22 0 0 := by rw [hpp]; exact hW.1.1.1.symm
    have hps : p.st = 0 := by rw [hpp]
    have hpb := jf_P_b hok
    have hA := jf_A_b hok
    show R (0, [some (aR 8 0), some (aI ((k : Nat) : Int)), some (aI e), some (aI q)], [], M)
    refine hR _ (hR _ (?_))
    show R (2, [some (aR 8 0), some (aI ((k : Nat) : Int)), some (aI e), some (aI q)], [aI ((k : Nat) : Int), aR 8 0], M)
    refine hR _ (sm_isHand (by omega) (show 0 ≤ M 421 0 0 ∧ M 421 0 0 ≤ 5 from hn') (by omega) (fun _ => ?_) (fun hz => absurd (show 0 ≤ ((k : Nat) : Int) ∧ ((k : Nat) : Int) < M 421 0 0 by omega) hz))
    show R (5, [some (aR 8 0), some (aI ((k : Nat) : Int)), some (aI e), some (aI q)], [aI 1], M)
    refine hR _ (am_brf (rg := am_in 1) (P := (1 : Int) = 0) (A := R (28, [some (aR 8 0), some (aI ((k : Nat) : Int)), some (aI e), some (aI q)], [], M)) (B := R (8, [some (aR 8 0), some (aI ((k : Nat) : Int)), some (aI e), some (aI q)], [], M)) (by omega) (by omega) ?_)
    show R (8, [some (aR 8 0), some (aI ((k : Nat) : Int)), some (aI e), some (aI q)], [], M)
    refine hR _ (hR _ (hR _ (?_)))
    show R (13, [some (aR 8 0), some (aI ((k : Nat) : Int)), some (aI e), some (aI q)], [aI 5000, aI 0, aI e], M)
    refine hR _ (sp_in (by omega) (by omega) (fun h13 => ?_) (fun h13 => ?_))
    · show R (16, [some (aR 8 0), some (aI ((k : Nat) : Int)), some (aI e), some (aI q)], [aI 1], M)
      refine hR _ (am_brf (rg := am_in 1) (P := (1 : Int) = 0) (A := R (28, [some (aR 8 0), some (aI ((k : Nat) : Int)), some (aI e), some (aI q)], [], M)) (B := R (19, [some (aR 8 0), some (aI ((k : Nat) : Int)), some (aI e), some (aI q)], [], M)) (by omega) (by omega) ?_)
      show R (19, [some (aR 8 0), some (aI ((k : Nat) : Int)), some (aI e), some (aI q)], [], M)
      refine hR _ (hR _ (hR _ (?_)))
      show R (22, [some (aR 8 0), some (aI ((k : Nat) : Int)), some (aI e), some (aI q)], [aI 1, aI 0, aI q], M)
      refine hR _ (sp_in (by omega) (by omega) (fun h22 => ?_) (fun h22 => ?_))
      · show R (25, [some (aR 8 0), some (aI ((k : Nat) : Int)), some (aI e), some (aI q)], [aI 1], M)
        refine hR _ (am_brt (rg := am_in 1) (P := (1 : Int) ≠ 0) (A := R (32, [some (aR 8 0), some (aI ((k : Nat) : Int)), some (aI e), some (aI q)], [], M)) (B := R (28, [some (aR 8 0), some (aI ((k : Nat) : Int)), some (aI e), some (aI q)], [], M)) (by omega) (by omega) ?_)
        show R (32, [some (aR 8 0), some (aI ((k : Nat) : Int)), some (aI e), some (aI q)], [], M)
        refine hR _ (hR _ (?_))
        show R (34, [some (aR 8 0), some (aI ((k : Nat) : Int)), some (aI e), some (aI q)], [aI ((k : Nat) : Int), aR 8 0], M)
        refine hR _ (sm_goes (p := p) (r := r) (by omega) hk hr hr6 hwt hp hok hpm hps (fun g156 hth => ?_))
        have hthr := hth.1
        have hthA := hth.2.1
        have hthN := hth.2.2
        have hbO := fun a (ha : a < 5) => jf_O_b hok ha
        have hbE := fun a (ha : a < 5) => jf_E_b hok ha
        show R (37, [some (aR 8 0), some (aI ((k : Nat) : Int)), some (aI e), some (aI q)], [], am_mix mo_SM g156 M)
        refine hR _ (hR _ (?_))
        show R (39, [some (aR 8 0), some (aI ((k : Nat) : Int)), some (aI e), some (aI q)], [aI e, aR 8 0], am_mix mo_SM g156 M)
        refine hR _ (sm_oftenAt (by omega) hok hth (by omega) ?_)
        have hat39 := jf_at_b hok (e)
        show R (42, [some (aR 8 0), some (aI ((k : Nat) : Int)), some (aI e), some (aI q)], [aL (jf_at p e)], am_mix mo_SM g156 M)
        refine hR _ (hR _ (?_))
        show R (46, [some (aR 8 0), some (aI ((k : Nat) : Int)), some (aI e), some (aI q)], [aI (g156 454 0 0), aL (jf_at p e)], am_mix mo_SM g156 M)
        rw [(show g156 454 0 0 = jf_A p from hthA)]
        show R (46, [some (aR 8 0), some (aI ((k : Nat) : Int)), some (aI e), some (aI q)], [aI (jf_A p), aL (jf_at p e)], am_mix mo_SM g156 M)
        refine hR _ ⟨(by omega), ?_⟩
        show R (47, [some (aR 8 0), some (aI ((k : Nat) : Int)), some (aI e), some (aI q)], [aL (jf_A p), aL (jf_at p e)], am_mix mo_SM g156 M)
        refine hR _ (?_)
        show R (48, [some (aR 8 0), some (aI ((k : Nat) : Int)), some (aI e), some (aI q)], [aI q, aL (jf_A p), aL (jf_at p e)], am_mix mo_SM g156 M)
        refine hR _ (sm_lowest (by omega) (by omega) (by omega) (by omega) ?_)
        show R (51, [some (aR 8 0), some (aI ((k : Nat) : Int)), some (aI e), some (aI q)], [aL (jf_il (jf_at p e) (jf_A p) q)], am_mix mo_SM g156 M)
        refine hR _ (show K (some (aL (jf_il (jf_at p e) (jf_A p) q))) (am_mix mo_SM g156 M) from ?_)
        have hres : jx_at M ((k : Nat) : Int) e q = (jf_il (jf_at p e) (jf_A p) q) := by
          subst hpp
          unfold jx_at
          repeat' split
          all_goals first | omega | rfl | exact jf_il_no (by omega)
        rw [hres] at hK
        have e9 : am_ag mo_SM M (am_mix mo_SM g156 M) := (am_ag.rf).mix rfl
        rw [e9.eq]
        exact hK _
      · show R (25, [some (aR 8 0), some (aI ((k : Nat) : Int)), some (aI e), some (aI q)], [aI 0], M)
        refine hR _ (am_brf (rg := am_in 0) (P := (0 : Int) ≠ 0) (A := R (32, [some (aR 8 0), some (aI ((k : Nat) : Int)), some (aI e), some (aI q)], [], M)) (B := R (28, [some (aR 8 0), some (aI ((k : Nat) : Int)), some (aI e), some (aI q)], [], M)) (by omega) (by omega) ?_)
        show R (28, [some (aR 8 0), some (aI ((k : Nat) : Int)), some (aI e), some (aI q)], [], M)
        refine hR _ (?_)
        show R (31, [some (aR 8 0), some (aI ((k : Nat) : Int)), some (aI e), some (aI q)], [aL (-4611686018427387904)], M)
        refine hR _ (show K (some (aL (-4611686018427387904))) M from ?_)
        have hres : jx_at M ((k : Nat) : Int) e q = (-4611686018427387904) := by
          unfold jx_at
          repeat' split
          all_goals first | omega | rfl | exact jf_il_no (by omega)
        rw [hres] at hK
        have e9 : am_ag mo_SM M M := am_ag.rf
        rw [e9.eq]
        exact hK _
    · show R (16, [some (aR 8 0), some (aI ((k : Nat) : Int)), some (aI e), some (aI q)], [aI 0], M)
      refine hR _ (am_brt (rg := am_in 0) (P := (0 : Int) = 0) (A := R (28, [some (aR 8 0), some (aI ((k : Nat) : Int)), some (aI e), some (aI q)], [], M)) (B := R (19, [some (aR 8 0), some (aI ((k : Nat) : Int)), some (aI e), some (aI q)], [], M)) (by omega) (by omega) ?_)
      show R (28, [some (aR 8 0), some (aI ((k : Nat) : Int)), some (aI e), some (aI q)], [], M)
      refine hR _ (?_)
      show R (31, [some (aR 8 0), some (aI ((k : Nat) : Int)), some (aI e), some (aI q)], [aL (-4611686018427387904)], M)
      refine hR _ (show K (some (aL (-4611686018427387904))) M from ?_)
      have hres : jx_at M ((k : Nat) : Int) e q = (-4611686018427387904) := by
        unfold jx_at
        repeat' split
        all_goals first | omega | rfl | exact jf_il_no (by omega)
      rw [hres] at hK
      have e9 : am_ag mo_SM M M := am_ag.rf
      rw [e9.eq]
      exact hK _
  · show R (0, [some (aR 8 0), some (aI h), some (aI e), some (aI q)], [], M)
    refine hR _ (hR _ (?_))
    show R (2, [some (aR 8 0), some (aI h), some (aI e), some (aI q)], [aI h, aR 8 0], M)
    refine hR _ (sm_isHand (by omega) (show 0 ≤ M 421 0 0 ∧ M 421 0 0 ≤ 5 from hn') (by omega) (fun hz => absurd (show 0 ≤ h ∧ h < M 227 0 0 from ⟨hz.1, by rw [← h421]; exact hz.2⟩) hno) (fun _ => ?_))
    show R (5, [some (aR 8 0), some (aI h), some (aI e), some (aI q)], [aI 0], M)
    refine hR _ (am_brt (rg := am_in 0) (P := (0 : Int) = 0) (A := R (28, [some (aR 8 0), some (aI h), some (aI e), some (aI q)], [], M)) (B := R (8, [some (aR 8 0), some (aI h), some (aI e), some (aI q)], [], M)) (by omega) (by omega) ?_)
    show R (28, [some (aR 8 0), some (aI h), some (aI e), some (aI q)], [], M)
    refine hR _ (?_)
    show R (31, [some (aR 8 0), some (aI h), some (aI e), some (aI q)], [aL (-4611686018427387904)], M)
    refine hR _ (show K (some (aL (-4611686018427387904))) M from ?_)
    have hres : jx_at M h e q = (-4611686018427387904) := by
      unfold jx_at
      repeat' split
      all_goals first | omega | rfl | exact jf_il_no (by omega)
    rw [hres] at hK
    have e9 : am_ag mo_SM M M := am_ag.rf
    rw [e9.eq]
    exact hK _

set_option maxHeartbeats 1000000 in
theorem sm_full {d : Nat} (hd : 9 ≤ d) {h s q : Int} {M : am_M} {K : am_K} (hJ : jf_J M) (hW : jf_C M) (ha_h : am_in h) (ha_s : am_in s) (ha_q : am_in q) (hK : ∀ g, K (some (aL (jx_full M h s q))) (am_mix mo_SM g M)) : am_Call true d 177 [aR 8 0, aI h, aI s, aI q] M K := by
  obtain ⟨d, rfl⟩ : ∃ e, d = e + 1 := ⟨d - 1, by omega⟩
  refine ⟨rfl, fun R hR hC => ?_⟩
  replace hR : ∀ c, am_F true tb_f177 5 (am_Call true d) K R c → R c := hR
  have hn := hJ.1.1.2.2.2.2.2.2.2.1
  have hl0 := hJ.1.1.2.2.2.2.2.2.2.2
  have htc := hJ.2.2.1.1
  have hlt : 0 ≤ M 228 0 0 ∧ M 228 0 0 < 6 := by omega
  have hmk := hJ.1.1.1
  have hdr := hJ.1.1.2.1
  have hpr := hJ.1.1.2.2.1
  have hfu := hJ.1.1.2.2.2.1
  have hn' : 0 ≤ M 421 0 0 ∧ M 421 0 0 ≤ 5 := by rw [hW.1.2.1.1]; exact hn
  have h421 : M 421 0 0 = M 227 0 0 := hW.1.2.1.1
  show R (0, [some (aR 8 0), some (aI h), some (aI s), some (aI q), none], [], M)
  rcases jf_hd (M := M) (h := h) hn with ⟨k, rfl, hk5, hk⟩ | hno
  · obtain ⟨r, hrr⟩ : ∃ r, r = (M 228 0 0).toNat := ⟨_, rfl⟩
    have hr : M 431 0 0 = (r : Int) := by rw [hW.1.2.1.2.2.1]; omega
    have hr6 : r < 6 := by omega
    have hwt : mo_wt M r := (hW.2.1.2.2 r (by omega)).1
    obtain ⟨p, hpp⟩ : ∃ p, p = jf_px M k := ⟨_, rfl⟩
    have hp : mo_p M k r p := by rw [hpp, hrr]; exact jf_C.p hJ hW hk (by omega)
    have hok : jf_ok p := by rw [hpp]; exact hJ.px hk
    have hpm : p.mk = M 22 0 0 := by rw [hpp]; exact hW.1.1.1.symm
    have hps : p.st = 0 := by rw [hpp]
    have hpb := jf_P_b hok
    have hA := jf_A_b hok
    show R (0, [some (aR 8 0), some (aI ((k : Nat) : Int)), some (aI s), some (aI q), none], [], M)
    refine hR _ (hR _ (?_))
    show R (2, [some (aR 8 0), some (aI ((k : Nat) : Int)), some (aI s), some (aI q), none], [aI ((k : Nat) : Int), aR 8 0], M)
    refine hR _ (sm_isHand (by omega) (show 0 ≤ M 421 0 0 ∧ M 421 0 0 ≤ 5 from hn') (by omega) (fun _ => ?_) (fun hz => absurd (show 0 ≤ ((k : Nat) : Int) ∧ ((k : Nat) : Int) < M 421 0 0 by omega) hz))
    show R (5, [some (aR 8 0), some (aI ((k : Nat) : Int)), some (aI s), some (aI q), none], [aI 1], M)
    refine hR _ (am_brf (rg := am_in 1) (P := (1 : Int) = 0) (A := R (26, [some (aR 8 0), some (aI ((k : Nat) : Int)), some (aI s), some (aI q), none], [], M)) (B := R (8, [some (aR 8 0), some (aI ((k : Nat) : Int)), some (aI s), some (aI q), none], [], M)) (by omega) (by omega) ?_)
    show R (8, [some (aR 8 0), some (aI ((k : Nat) : Int)), some (aI s), some (aI q), none], [], M)
    refine hR _ (hR _ (hR _ (?_)))
    show R (11, [some (aR 8 0), some (aI ((k : Nat) : Int)), some (aI s), some (aI q), none], [aI 1, aI 0, aI s], M)
    refine hR _ (sp_in (by omega) (by omega) (fun h11 => ?_) (fun h11 => ?_))
    · show R (14, [some (aR 8 0), some (aI ((k : Nat) : Int)), some (aI s), some (aI q), none], [aI 1], M)
      refine hR _ (am_brf (rg := am_in 1) (P := (1 : Int) = 0) (A := R (26, [some (aR 8 0), some (aI ((k : Nat) : Int)), some (aI s), some (aI q), none], [], M)) (B := R (17, [some (aR 8 0), some (aI ((k : Nat) : Int)), some (aI s), some (aI q), none], [], M)) (by omega) (by omega) ?_)
      show R (17, [some (aR 8 0), some (aI ((k : Nat) : Int)), some (aI s), some (aI q), none], [], M)
      refine hR _ (hR _ (hR _ (?_)))
      show R (20, [some (aR 8 0), some (aI ((k : Nat) : Int)), some (aI s), some (aI q), none], [aI 1, aI 0, aI q], M)
      refine hR _ (sp_in (by omega) (by omega) (fun h20 => ?_) (fun h20 => ?_))
      · show R (23, [some (aR 8 0), some (aI ((k : Nat) : Int)), some (aI s), some (aI q), none], [aI 1], M)
        refine hR _ (am_brt (rg := am_in 1) (P := (1 : Int) ≠ 0) (A := R (30, [some (aR 8 0), some (aI ((k : Nat) : Int)), some (aI s), some (aI q), none], [], M)) (B := R (26, [some (aR 8 0), some (aI ((k : Nat) : Int)), some (aI s), some (aI q), none], [], M)) (by omega) (by omega) ?_)
        show R (30, [some (aR 8 0), some (aI ((k : Nat) : Int)), some (aI s), some (aI q), none], [], M)
        refine hR _ (hR _ (?_))
        show R (32, [some (aR 8 0), some (aI ((k : Nat) : Int)), some (aI s), some (aI q), none], [aI ((k : Nat) : Int), aR 8 0], M)
        refine hR _ (sm_goes (p := p) (r := r) (by omega) hk hr hr6 hwt hp hok hpm hps (fun g157 hth => ?_))
        have hthr := hth.1
        have hthA := hth.2.1
        have hthN := hth.2.2
        have hbO := fun a (ha : a < 5) => jf_O_b hok ha
        have hbE := fun a (ha : a < 5) => jf_E_b hok ha
        show R (35, [some (aR 8 0), some (aI ((k : Nat) : Int)), some (aI s), some (aI q), none], [], am_mix mo_SM g157 M)
        refine hR _ (hR _ (am_brc (rg := am_in s) (P := s ≠ 0) (A := R (43, [some (aR 8 0), some (aI ((k : Nat) : Int)), some (aI s), some (aI q), none], [], am_mix mo_SM g157 M)) (B := R (39, [some (aR 8 0), some (aI ((k : Nat) : Int)), some (aI s), some (aI q), none], [], am_mix mo_SM g157 M)) (by omega) (fun c36 => ?_) (fun c36 => ?_)))
        · refine hR _ (hR _ (hR _ (hR _ (?_))))
          show R (49, [some (aR 8 0), some (aI ((k : Nat) : Int)), some (aI s), some (aI q), none], [aI 3, aR 22 0, aI 0], am_mix mo_SM g157 M)
          refine hR _ ⟨(show 0 ≤ (3 : Int) ∧ (3 : Int) < 4 from (by omega)), ?_⟩
          show R (50, [some (aR 8 0), some (aI ((k : Nat) : Int)), some (aI s), some (aI q), none], [aI (M 22 0 3), aI 0], am_mix mo_SM g157 M)
          rw [(show M 22 0 3 = M 223 0 0 from hW.1.1.2.2.2)]
          show R (50, [some (aR 8 0), some (aI ((k : Nat) : Int)), some (aI s), some (aI q), none], [aI (M 223 0 0), aI 0], am_mix mo_SM g157 M)
          refine hR _ (hR _ (hR _ (?_)))
          show R (55, [some (aR 8 0), some (aI ((k : Nat) : Int)), some (aI s), some (aI q), none], [aI 0, aR 22 0, aI (M 223 0 0), aI 0], am_mix mo_SM g157 M)
          refine hR _ ⟨(show 0 ≤ (0 : Int) ∧ (0 : Int) < 4 from (by omega)), ?_⟩
          show R (56, [some (aR 8 0), some (aI ((k : Nat) : Int)), some (aI s), some (aI q), none], [aI (M 22 0 0), aI (M 223 0 0), aI 0], am_mix mo_SM g157 M)
          rw [(show M 22 0 0 = M 220 0 0 from hW.1.1.1)]
          show R (56, [some (aR 8 0), some (aI ((k : Nat) : Int)), some (aI s), some (aI q), none], [aI (M 220 0 0), aI (M 223 0 0), aI 0], am_mix mo_SM g157 M)
          refine hR _ (am_brc (rg := am_in (M 223 0 0) ∧ am_in (M 220 0 0)) (P := (M 220 0 0) ≤ (M 223 0 0)) (A := R (63, [some (aR 8 0), some (aI ((k : Nat) : Int)), some (aI s), some (aI q), none], [aI 0], am_mix mo_SM g157 M)) (B := R (59, [some (aR 8 0), some (aI ((k : Nat) : Int)), some (aI s), some (aI q), none], [aI 0], am_mix mo_SM g157 M)) (by omega) (fun c56 => ?_) (fun c56 => ?_))
          · refine hR _ (hR _ (am_brf (rg := am_in 0 ∧ am_in 0) (P := (0 : Int) ≠ 0) (A := R (71, [some (aR 8 0), some (aI ((k : Nat) : Int)), some (aI s), some (aI q), none], [], am_mix mo_SM g157 M)) (B := R (67, [some (aR 8 0), some (aI ((k : Nat) : Int)), some (aI s), some (aI q), none], [], am_mix mo_SM g157 M)) (by omega) (by omega) ?_))
            show R (67, [some (aR 8 0), some (aI ((k : Nat) : Int)), some (aI s), some (aI q), none], [], am_mix mo_SM g157 M)
            refine hR _ (hR _ (hR _ (hR _ (hR _ (am_brf (rg := am_in 1) (P := (1 : Int) = 0) (A := R (92, [some (aR 8 0), some (aI ((k : Nat) : Int)), some (aI s), some (aI q), some (aI 1)], [], am_mix mo_SM g157 M)) (B := R (79, [some (aR 8 0), some (aI ((k : Nat) : Int)), some (aI s), some (aI q), some (aI 1)], [], am_mix mo_SM g157 M)) (by omega) (by omega) ?_)))))
            show R (79, [some (aR 8 0), some (aI ((k : Nat) : Int)), some (aI s), some (aI q), some (aI 1)], [], am_mix mo_SM g157 M)
            refine hR _ (hR _ (hR _ (hR _ (?_))))
            show R (85, [some (aR 8 0), some (aI ((k : Nat) : Int)), some (aI s), some (aI q), some (aI 1)], [aI 3, aR 22 0, aR 8 0], am_mix mo_SM g157 M)
            refine hR _ ⟨(show 0 ≤ (3 : Int) ∧ (3 : Int) < 4 from (by omega)), ?_⟩
            show R (86, [some (aR 8 0), some (aI ((k : Nat) : Int)), some (aI s), some (aI q), some (aI 1)], [aI (M 22 0 3), aR 8 0], am_mix mo_SM g157 M)
            rw [(show M 22 0 3 = M 223 0 0 from hW.1.1.2.2.2)]
            show R (86, [some (aR 8 0), some (aI ((k : Nat) : Int)), some (aI s), some (aI q), some (aI 1)], [aI (M 223 0 0), aR 8 0], am_mix mo_SM g157 M)
            refine hR _ (sm_oftenAt (by omega) hok hth (by omega) ?_)
            have hat86 := jf_at_b hok ((M 223 0 0))
            show R (89, [some (aR 8 0), some (aI ((k : Nat) : Int)), some (aI s), some (aI q), some (aI 1)], [aL (jf_at p (M 223 0 0))], am_mix mo_SM g157 M)
            refine hR _ (hR _ (hR _ (?_)))
            show R (97, [some (aR 8 0), some (aI ((k : Nat) : Int)), some (aI s), some (aI q), some (aI 1)], [aI (g157 454 0 0), aL (jf_at p (M 223 0 0))], am_mix mo_SM g157 M)
            rw [(show g157 454 0 0 = jf_A p from hthA)]
            show R (97, [some (aR 8 0), some (aI ((k : Nat) : Int)), some (aI s), some (aI q), some (aI 1)], [aI (jf_A p), aL (jf_at p (M 223 0 0))], am_mix mo_SM g157 M)
            refine hR _ ⟨(by omega), ?_⟩
            show R (98, [some (aR 8 0), some (aI ((k : Nat) : Int)), some (aI s), some (aI q), some (aI 1)], [aL (jf_A p), aL (jf_at p (M 223 0 0))], am_mix mo_SM g157 M)
            refine hR _ (?_)
            show R (99, [some (aR 8 0), some (aI ((k : Nat) : Int)), some (aI s), some (aI q), some (aI 1)], [aI q, aL (jf_A p), aL (jf_at p (M 223 0 0))], am_mix mo_SM g157 M)
            refine hR _ (sm_lowest (by omega) (by omega) (by omega) (by omega) ?_)
            show R (102, [some (aR 8 0), some (aI ((k : Nat) : Int)), some (aI s), some (aI q), some (aI 1)], [aL (jf_il (jf_at p (M 223 0 0)) (jf_A p) q)], am_mix mo_SM g157 M)
            refine hR _ (show K (some (aL (jf_il (jf_at p (M 223 0 0)) (jf_A p) q))) (am_mix mo_SM g157 M) from ?_)
            have hres : jx_full M ((k : Nat) : Int) s q = (jf_il (jf_at p (M 223 0 0)) (jf_A p) q) := by
              subst hpp
              unfold jx_full
              repeat' split
              all_goals first | omega | rfl | exact jf_il_no (by omega)
            rw [hres] at hK
            have e9 : am_ag mo_SM M (am_mix mo_SM g157 M) := (am_ag.rf).mix rfl
            rw [e9.eq]
            exact hK _
          · refine hR _ (hR _ (hR _ (am_brt (rg := am_in 0 ∧ am_in 1) (P := (0 : Int) ≠ 1) (A := R (71, [some (aR 8 0), some (aI ((k : Nat) : Int)), some (aI s), some (aI q), none], [], am_mix mo_SM g157 M)) (B := R (67, [some (aR 8 0), some (aI ((k : Nat) : Int)), some (aI s), some (aI q), none], [], am_mix mo_SM g157 M)) (by omega) (by omega) ?_)))
            show R (71, [some (aR 8 0), some (aI ((k : Nat) : Int)), some (aI s), some (aI q), none], [], am_mix mo_SM g157 M)
            refine hR _ (hR _ (hR _ (hR _ (am_brt (rg := am_in 0) (P := (0 : Int) = 0) (A := R (92, [some (aR 8 0), some (aI ((k : Nat) : Int)), some (aI s), some (aI q), some (aI 0)], [], am_mix mo_SM g157 M)) (B := R (79, [some (aR 8 0), some (aI ((k : Nat) : Int)), some (aI s), some (aI q), some (aI 0)], [], am_mix mo_SM g157 M)) (by omega) (by omega) ?_))))
            show R (92, [some (aR 8 0), some (aI ((k : Nat) : Int)), some (aI s), some (aI q), some (aI 0)], [], am_mix mo_SM g157 M)
            refine hR _ (hR _ (hR _ (?_)))
            show R (97, [some (aR 8 0), some (aI ((k : Nat) : Int)), some (aI s), some (aI q), some (aI 0)], [aI (g157 454 0 0), aL 0], am_mix mo_SM g157 M)
            rw [(show g157 454 0 0 = jf_A p from hthA)]
            show R (97, [some (aR 8 0), some (aI ((k : Nat) : Int)), some (aI s), some (aI q), some (aI 0)], [aI (jf_A p), aL 0], am_mix mo_SM g157 M)
            refine hR _ ⟨(by omega), ?_⟩
            show R (98, [some (aR 8 0), some (aI ((k : Nat) : Int)), some (aI s), some (aI q), some (aI 0)], [aL (jf_A p), aL 0], am_mix mo_SM g157 M)
            refine hR _ (?_)
            show R (99, [some (aR 8 0), some (aI ((k : Nat) : Int)), some (aI s), some (aI q), some (aI 0)], [aI q, aL (jf_A p), aL 0], am_mix mo_SM g157 M)
            refine hR _ (sm_lowest (by omega) (by omega) (by omega) (by omega) ?_)
            show R (102, [some (aR 8 0), some (aI ((k : Nat) : Int)), some (aI s), some (aI q), some (aI 0)], [aL (jf_il 0 (jf_A p) q)], am_mix mo_SM g157 M)
            refine hR _ (show K (some (aL (jf_il 0 (jf_A p) q))) (am_mix mo_SM g157 M) from ?_)
            have hres : jx_full M ((k : Nat) : Int) s q = (jf_il 0 (jf_A p) q) := by
              subst hpp
              unfold jx_full
              repeat' split
              all_goals first | omega | rfl | exact jf_il_no (by omega)
            rw [hres] at hK
            have e9 : am_ag mo_SM M (am_mix mo_SM g157 M) := (am_ag.rf).mix rfl
            rw [e9.eq]
            exact hK _
        · refine hR _ (hR _ (hR _ (hR _ (hR _ (?_)))))
          show R (49, [some (aR 8 0), some (aI ((k : Nat) : Int)), some (aI s), some (aI q), none], [aI 3, aR 22 0, aI 1], am_mix mo_SM g157 M)
          refine hR _ ⟨(show 0 ≤ (3 : Int) ∧ (3 : Int) < 4 from (by omega)), ?_⟩
          show R (50, [some (aR 8 0), some (aI ((k : Nat) : Int)), some (aI s), some (aI q), none], [aI (M 22 0 3), aI 1], am_mix mo_SM g157 M)
          rw [(show M 22 0 3 = M 223 0 0 from hW.1.1.2.2.2)]
          show R (50, [some (aR 8 0), some (aI ((k : Nat) : Int)), some (aI s), some (aI q), none], [aI (M 223 0 0), aI 1], am_mix mo_SM g157 M)
          refine hR _ (hR _ (hR _ (?_)))
          show R (55, [some (aR 8 0), some (aI ((k : Nat) : Int)), some (aI s), some (aI q), none], [aI 0, aR 22 0, aI (M 223 0 0), aI 1], am_mix mo_SM g157 M)
          refine hR _ ⟨(show 0 ≤ (0 : Int) ∧ (0 : Int) < 4 from (by omega)), ?_⟩
          show R (56, [some (aR 8 0), some (aI ((k : Nat) : Int)), some (aI s), some (aI q), none], [aI (M 22 0 0), aI (M 223 0 0), aI 1], am_mix mo_SM g157 M)
          rw [(show M 22 0 0 = M 220 0 0 from hW.1.1.1)]
          show R (56, [some (aR 8 0), some (aI ((k : Nat) : Int)), some (aI s), some (aI q), none], [aI (M 220 0 0), aI (M 223 0 0), aI 1], am_mix mo_SM g157 M)
          refine hR _ (am_brc (rg := am_in (M 223 0 0) ∧ am_in (M 220 0 0)) (P := (M 220 0 0) ≤ (M 223 0 0)) (A := R (63, [some (aR 8 0), some (aI ((k : Nat) : Int)), some (aI s), some (aI q), none], [aI 1], am_mix mo_SM g157 M)) (B := R (59, [some (aR 8 0), some (aI ((k : Nat) : Int)), some (aI s), some (aI q), none], [aI 1], am_mix mo_SM g157 M)) (by omega) (fun c56 => ?_) (fun c56 => ?_))
          · refine hR _ (hR _ (am_brt (rg := am_in 1 ∧ am_in 0) (P := (1 : Int) ≠ 0) (A := R (71, [some (aR 8 0), some (aI ((k : Nat) : Int)), some (aI s), some (aI q), none], [], am_mix mo_SM g157 M)) (B := R (67, [some (aR 8 0), some (aI ((k : Nat) : Int)), some (aI s), some (aI q), none], [], am_mix mo_SM g157 M)) (by omega) (by omega) ?_))
            show R (71, [some (aR 8 0), some (aI ((k : Nat) : Int)), some (aI s), some (aI q), none], [], am_mix mo_SM g157 M)
            refine hR _ (hR _ (hR _ (hR _ (am_brt (rg := am_in 0) (P := (0 : Int) = 0) (A := R (92, [some (aR 8 0), some (aI ((k : Nat) : Int)), some (aI s), some (aI q), some (aI 0)], [], am_mix mo_SM g157 M)) (B := R (79, [some (aR 8 0), some (aI ((k : Nat) : Int)), some (aI s), some (aI q), some (aI 0)], [], am_mix mo_SM g157 M)) (by omega) (by omega) ?_))))
            show R (92, [some (aR 8 0), some (aI ((k : Nat) : Int)), some (aI s), some (aI q), some (aI 0)], [], am_mix mo_SM g157 M)
            refine hR _ (hR _ (hR _ (?_)))
            show R (97, [some (aR 8 0), some (aI ((k : Nat) : Int)), some (aI s), some (aI q), some (aI 0)], [aI (g157 454 0 0), aL 0], am_mix mo_SM g157 M)
            rw [(show g157 454 0 0 = jf_A p from hthA)]
            show R (97, [some (aR 8 0), some (aI ((k : Nat) : Int)), some (aI s), some (aI q), some (aI 0)], [aI (jf_A p), aL 0], am_mix mo_SM g157 M)
            refine hR _ ⟨(by omega), ?_⟩
            show R (98, [some (aR 8 0), some (aI ((k : Nat) : Int)), some (aI s), some (aI q), some (aI 0)], [aL (jf_A p), aL 0], am_mix mo_SM g157 M)
            refine hR _ (?_)
            show R (99, [some (aR 8 0), some (aI ((k : Nat) : Int)), some (aI s), some (aI q), some (aI 0)], [aI q, aL (jf_A p), aL 0], am_mix mo_SM g157 M)
            refine hR _ (sm_lowest (by omega) (by omega) (by omega) (by omega) ?_)
            show R (102, [some (aR 8 0), some (aI ((k : Nat) : Int)), some (aI s), some (aI q), some (aI 0)], [aL (jf_il 0 (jf_A p) q)], am_mix mo_SM g157 M)
            refine hR _ (show K (some (aL (jf_il 0 (jf_A p) q))) (am_mix mo_SM g157 M) from ?_)
            have hres : jx_full M ((k : Nat) : Int) s q = (jf_il 0 (jf_A p) q) := by
              subst hpp
              unfold jx_full
              repeat' split
              all_goals first | omega | rfl | exact jf_il_no (by omega)
            rw [hres] at hK
            have e9 : am_ag mo_SM M (am_mix mo_SM g157 M) := (am_ag.rf).mix rfl
            rw [e9.eq]
            exact hK _
          · refine hR _ (hR _ (hR _ (am_brf (rg := am_in 1 ∧ am_in 1) (P := (1 : Int) ≠ 1) (A := R (71, [some (aR 8 0), some (aI ((k : Nat) : Int)), some (aI s), some (aI q), none], [], am_mix mo_SM g157 M)) (B := R (67, [some (aR 8 0), some (aI ((k : Nat) : Int)), some (aI s), some (aI q), none], [], am_mix mo_SM g157 M)) (by omega) (by omega) ?_)))
            show R (67, [some (aR 8 0), some (aI ((k : Nat) : Int)), some (aI s), some (aI q), none], [], am_mix mo_SM g157 M)
            refine hR _ (hR _ (hR _ (hR _ (hR _ (am_brf (rg := am_in 1) (P := (1 : Int) = 0) (A := R (92, [some (aR 8 0), some (aI ((k : Nat) : Int)), some (aI s), some (aI q), some (aI 1)], [], am_mix mo_SM g157 M)) (B := R (79, [some (aR 8 0), some (aI ((k : Nat) : Int)), some (aI s), some (aI q), some (aI 1)], [], am_mix mo_SM g157 M)) (by omega) (by omega) ?_)))))
            show R (79, [some (aR 8 0), some (aI ((k : Nat) : Int)), some (aI s), some (aI q), some (aI 1)], [], am_mix mo_SM g157 M)
            refine hR _ (hR _ (hR _ (hR _ (?_))))
            show R (85, [some (aR 8 0), some (aI ((k : Nat) : Int)), some (aI s), some (aI q), some (aI 1)], [aI 3, aR 22 0, aR 8 0], am_mix mo_SM g157 M)
            refine hR _ ⟨(show 0 ≤ (3 : Int) ∧ (3 : Int) < 4 from (by omega)), ?_⟩
            show R (86, [some (aR 8 0), some (aI ((k : Nat) : Int)), some (aI s), some (aI q), some (aI 1)], [aI (M 22 0 3), aR 8 0], am_mix mo_SM g157 M)
            rw [(show M 22 0 3 = M 223 0 0 from hW.1.1.2.2.2)]
            show R (86, [some (aR 8 0), some (aI ((k : Nat) : Int)), some (aI s), some (aI q), some (aI 1)], [aI (M 223 0 0), aR 8 0], am_mix mo_SM g157 M)
            refine hR _ (sm_oftenAt (by omega) hok hth (by omega) ?_)
            have hat86 := jf_at_b hok ((M 223 0 0))
            show R (89, [some (aR 8 0), some (aI ((k : Nat) : Int)), some (aI s), some (aI q), some (aI 1)], [aL (jf_at p (M 223 0 0))], am_mix mo_SM g157 M)
            refine hR _ (hR _ (hR _ (?_)))
            show R (97, [some (aR 8 0), some (aI ((k : Nat) : Int)), some (aI s), some (aI q), some (aI 1)], [aI (g157 454 0 0), aL (jf_at p (M 223 0 0))], am_mix mo_SM g157 M)
            rw [(show g157 454 0 0 = jf_A p from hthA)]
            show R (97, [some (aR 8 0), some (aI ((k : Nat) : Int)), some (aI s), some (aI q), some (aI 1)], [aI (jf_A p), aL (jf_at p (M 223 0 0))], am_mix mo_SM g157 M)
            refine hR _ ⟨(by omega), ?_⟩
            show R (98, [some (aR 8 0), some (aI ((k : Nat) : Int)), some (aI s), some (aI q), some (aI 1)], [aL (jf_A p), aL (jf_at p (M 223 0 0))], am_mix mo_SM g157 M)
            refine hR _ (?_)
            show R (99, [some (aR 8 0), some (aI ((k : Nat) : Int)), some (aI s), some (aI q), some (aI 1)], [aI q, aL (jf_A p), aL (jf_at p (M 223 0 0))], am_mix mo_SM g157 M)
            refine hR _ (sm_lowest (by omega) (by omega) (by omega) (by omega) ?_)
            show R (102, [some (aR 8 0), some (aI ((k : Nat) : Int)), some (aI s), some (aI q), some (aI 1)], [aL (jf_il (jf_at p (M 223 0 0)) (jf_A p) q)], am_mix mo_SM g157 M)
            refine hR _ (show K (some (aL (jf_il (jf_at p (M 223 0 0)) (jf_A p) q))) (am_mix mo_SM g157 M) from ?_)
            have hres : jx_full M ((k : Nat) : Int) s q = (jf_il (jf_at p (M 223 0 0)) (jf_A p) q) := by
              subst hpp
              unfold jx_full
              repeat' split
              all_goals first | omega | rfl | exact jf_il_no (by omega)
            rw [hres] at hK
            have e9 : am_ag mo_SM M (am_mix mo_SM g157 M) := (am_ag.rf).mix rfl
            rw [e9.eq]
            exact hK _
      · show R (23, [some (aR 8 0), some (aI ((k : Nat) : Int)), some (aI s), some (aI q), none], [aI 0], M)
        refine hR _ (am_brf (rg := am_in 0) (P := (0 : Int) ≠ 0) (A := R (30, [some (aR 8 0), some (aI ((k : Nat) : Int)), some (aI s), some (aI q), none], [], M)) (B := R (26, [some (aR 8 0), some (aI ((k : Nat) : Int)), some (aI s), some (aI q), none], [], M)) (by omega) (by omega) ?_)
        show R (26, [some (aR 8 0), some (aI ((k : Nat) : Int)), some (aI s), some (aI q), none], [], M)
        refine hR _ (?_)
        show R (29, [some (aR 8 0), some (aI ((k : Nat) : Int)), some (aI s), some (aI q), none], [aL (-4611686018427387904)], M)
        refine hR _ (show K (some (aL (-4611686018427387904))) M from ?_)
        have hres : jx_full M ((k : Nat) : Int) s q = (-4611686018427387904) := by
          unfold jx_full
          repeat' split
          all_goals first | omega | rfl | exact jf_il_no (by omega)
        rw [hres] at hK
        have e9 : am_ag mo_SM M M := am_ag.rf
        rw [e9.eq]
        exact hK _
    · show R (14, [some (aR 8 0), some (aI ((k : Nat) : Int)), some (aI s), some (aI q), none], [aI 0], M)
      refine hR _ (am_brt (rg := am_in 0) (P := (0 : Int) = 0) (A := R (26, [some (aR 8 0), some (aI ((k : Nat) : Int)), some (aI s), some (aI q), none], [], M)) (B := R (17, [some (aR 8 0), some (aI ((k : Nat) : Int)), some (aI s), some (aI q), none], [], M)) (by omega) (by omega) ?_)
      show R (26, [some (aR 8 0), some (aI ((k : Nat) : Int)), some (aI s), some (aI q), none], [], M)
      refine hR _ (?_)
      show R (29, [some (aR 8 0), some (aI ((k : Nat) : Int)), some (aI s), some (aI q), none], [aL (-4611686018427387904)], M)
      refine hR _ (show K (some (aL (-4611686018427387904))) M from ?_)
      have hres : jx_full M ((k : Nat) : Int) s q = (-4611686018427387904) := by
        unfold jx_full
        repeat' split
        all_goals first | omega | rfl | exact jf_il_no (by omega)
      rw [hres] at hK
      have e9 : am_ag mo_SM M M := am_ag.rf
      rw [e9.eq]
      exact hK _
  · show R (0, [some (aR 8 0), some (aI h), some (aI s), some (aI q), none], [], M)
    refine hR _ (hR _ (?_))
    show R (2, [some (aR 8 0), some (aI h), some (aI s), some (aI q), none], [aI h, aR 8 0], M)
    refine hR _ (sm_isHand (by omega) (show 0 ≤ M 421 0 0 ∧ M 421 0 0 ≤ 5 from hn') (by omega) (fun hz => absurd (show 0 ≤ h ∧ h < M 227 0 0 from ⟨hz.1, by rw [← h421]; exact hz.2⟩) hno) (fun _ => ?_))
    show R (5, [some (aR 8 0), some (aI h), some (aI s), some (aI q), none], [aI 0], M)
    refine hR _ (am_brt (rg := am_in 0) (P := (0 : Int) = 0) (A := R (26, [some (aR 8 0), some (aI h), some (aI s), some (aI q), none], [], M)) (B := R (8, [some (aR 8 0), some (aI h), some (aI s), some (aI q), none], [], M)) (by omega) (by omega) ?_)
    show R (26, [some (aR 8 0), some (aI h), some (aI s), some (aI q), none], [], M)
    refine hR _ (?_)
    show R (29, [some (aR 8 0), some (aI h), some (aI s), some (aI q), none], [aL (-4611686018427387904)], M)
    refine hR _ (show K (some (aL (-4611686018427387904))) M from ?_)
    have hres : jx_full M h s q = (-4611686018427387904) := by
      unfold jx_full
      repeat' split
      all_goals first | omega | rfl | exact jf_il_no (by omega)
    rw [hres] at hK
    have e9 : am_ag mo_SM M M := am_ag.rf
    rw [e9.eq]
    exact hK _

set_option maxHeartbeats 1000000 in
theorem sm_drawn {d : Nat} (hd : 9 ≤ d) {sd h w : Int} {M : am_M} {K : am_K} (hJ : jf_J M) (hW : jf_C M) (ha_sd : am_in sd) (ha_h : am_in h) (ha_w : am_in w) (hK : ∀ g, K (some (aI (jx_drawn M sd h w))) (am_mix mo_SM g M)) : am_Call true d 192 [aR 8 0, aI sd, aI h, aI w] M K := by
  obtain ⟨d, rfl⟩ : ∃ e, d = e + 1 := ⟨d - 1, by omega⟩
  refine ⟨rfl, fun R hR hC => ?_⟩
  replace hR : ∀ c, am_F true tb_f192 1 (am_Call true d) K R c → R c := hR
  have hn := hJ.1.1.2.2.2.2.2.2.2.1
  have hl0 := hJ.1.1.2.2.2.2.2.2.2.2
  have htc := hJ.2.2.1.1
  have hlt : 0 ≤ M 228 0 0 ∧ M 228 0 0 < 6 := by omega
  have hmk := hJ.1.1.1
  have hdr := hJ.1.1.2.1
  have hpr := hJ.1.1.2.2.1
  have hfu := hJ.1.1.2.2.2.1
  have hn' : 0 ≤ M 421 0 0 ∧ M 421 0 0 ≤ 5 := by rw [hW.1.2.1.1]; exact hn
  have h421 : M 421 0 0 = M 227 0 0 := hW.1.2.1.1
  show R (0, [some (aR 8 0), some (aI sd), some (aI h), some (aI w), none], [], M)
  rcases jf_hd (M := M) (h := h) hn with ⟨k, rfl, hk5, hk⟩ | hno
  · obtain ⟨r, hrr⟩ : ∃ r, r = (M 228 0 0).toNat := ⟨_, rfl⟩
    have hr : M 431 0 0 = (r : Int) := by rw [hW.1.2.1.2.2.1]; omega
    have hr6 : r < 6 := by omega
    have hwt : mo_wt M r := (hW.2.1.2.2 r (by omega)).1
    obtain ⟨p, hpp⟩ : ∃ p, p = jf_px M k := ⟨_, rfl⟩
    have hp : mo_p M k r p := by rw [hpp, hrr]; exact jf_C.p hJ hW hk (by omega)
    have hok : jf_ok p := by rw [hpp]; exact hJ.px hk
    have hpm : p.mk = M 22 0 0 := by rw [hpp]; exact hW.1.1.1.symm
    have hps : p.st = 0 := by rw [hpp]
    have hpb := jf_P_b hok
    have hA := jf_A_b hok
    show R (0, [some (aR 8 0), some (aI sd), some (aI ((k : Nat) : Int)), some (aI w), none], [], M)
    refine hR _ (hR _ (?_))
    show R (2, [some (aR 8 0), some (aI sd), some (aI ((k : Nat) : Int)), some (aI w), none], [aI ((k : Nat) : Int), aR 8 0], M)
    refine hR _ (sm_isHand (by omega) (show 0 ≤ M 421 0 0 ∧ M 421 0 0 ≤ 5 from hn') (by omega) (fun _ => ?_) (fun hz => absurd (show 0 ≤ ((k : Nat) : Int) ∧ ((k : Nat) : Int) < M 421 0 0 by omega) hz))
    show R (5, [some (aR 8 0), some (aI sd), some (aI ((k : Nat) : Int)), some (aI w), none], [aI 1], M)
    refine hR _ (am_brt (rg := am_in 1) (P := (1 : Int) ≠ 0) (A := R (11, [some (aR 8 0), some (aI sd), some (aI ((k : Nat) : Int)), some (aI w), none], [], M)) (B := R (8, [some (aR 8 0), some (aI sd), some (aI ((k : Nat) : Int)), some (aI w), none], [], M)) (by omega) (by omega) ?_)
    show R (11, [some (aR 8 0), some (aI sd), some (aI ((k : Nat) : Int)), some (aI w), none], [], M)
    refine hR _ (hR _ (hR _ (?_)))
    show R (16, [some (aR 8 0), some (aI sd), some (aI ((k : Nat) : Int)), some (aI w), none], [aI 99999, aI 0, aI sd], M)
    refine hR _ (sp_in (by omega) (by omega) (fun h16 => ?_) (fun h16 => ?_))
    · show R (19, [some (aR 8 0), some (aI sd), some (aI ((k : Nat) : Int)), some (aI w), none], [aI 1], M)
      refine hR _ (am_brf (rg := am_in 1) (P := (1 : Int) = 0) (A := R (31, [some (aR 8 0), some (aI sd), some (aI ((k : Nat) : Int)), some (aI w), none], [], M)) (B := R (22, [some (aR 8 0), some (aI sd), some (aI ((k : Nat) : Int)), some (aI w), none], [], M)) (by omega) (by omega) ?_)
      show R (22, [some (aR 8 0), some (aI sd), some (aI ((k : Nat) : Int)), some (aI w), none], [], M)
      refine hR _ (hR _ (hR _ (?_)))
      show R (25, [some (aR 8 0), some (aI sd), some (aI ((k : Nat) : Int)), some (aI w), none], [aI 1, aI 0, aI w], M)
      refine hR _ (sp_in (by omega) (by omega) (fun h25 => ?_) (fun h25 => ?_))
      · show R (28, [some (aR 8 0), some (aI sd), some (aI ((k : Nat) : Int)), some (aI w), none], [aI 1], M)
        refine hR _ (am_brt (rg := am_in 1) (P := (1 : Int) ≠ 0) (A := R (34, [some (aR 8 0), some (aI sd), some (aI ((k : Nat) : Int)), some (aI w), none], [], M)) (B := R (31, [some (aR 8 0), some (aI sd), some (aI ((k : Nat) : Int)), some (aI w), none], [], M)) (by omega) (by omega) ?_)
        show R (34, [some (aR 8 0), some (aI sd), some (aI ((k : Nat) : Int)), some (aI w), none], [], M)
        refine hR _ (hR _ (?_))
        show R (36, [some (aR 8 0), some (aI sd), some (aI ((k : Nat) : Int)), some (aI w), none], [aI ((k : Nat) : Int), aR 8 0], M)
        refine hR _ (sm_goes (p := p) (r := r) (by omega) hk hr hr6 hwt hp hok hpm hps (fun g158 hth => ?_))
        have hthr := hth.1
        have hthA := hth.2.1
        have hthN := hth.2.2
        have hbO := fun a (ha : a < 5) => jf_O_b hok ha
        have hbE := fun a (ha : a < 5) => jf_E_b hok ha
        show R (39, [some (aR 8 0), some (aI sd), some (aI ((k : Nat) : Int)), some (aI w), none], [], am_mix mo_SM g158 M)
        refine hR _ (hR _ (?_))
        show R (41, [some (aR 8 0), some (aI sd), some (aI ((k : Nat) : Int)), some (aI w), none], [aI sd, aR 8 0], am_mix mo_SM g158 M)
        refine hR _ (sm_lateBy (by omega) hok hth (by omega) ?_)
        have hlb41 := jf_lb_b p (sd)
        show R (44, [some (aR 8 0), some (aI sd), some (aI ((k : Nat) : Int)), some (aI w), none], [aI ((jf_lb p sd : Nat) : Int)], am_mix mo_SM g158 M)
        refine hR _ (hR _ (hR _ (am_brc (rg := am_in w) (P := w ≠ 0) (A := R (60, [some (aR 8 0), some (aI sd), some (aI ((k : Nat) : Int)), some (aI w), some (aI ((jf_lb p sd : Nat) : Int))], [], am_mix mo_SM g158 M)) (B := R (50, [some (aR 8 0), some (aI sd), some (aI ((k : Nat) : Int)), some (aI w), some (aI ((jf_lb p sd : Nat) : Int))], [], am_mix mo_SM g158 M)) (by omega) (fun c47 => ?_) (fun c47 => ?_))))
        · refine hR _ (?_)
          show R (62, [some (aR 8 0), some (aI sd), some (aI ((k : Nat) : Int)), some (aI w), some (aI ((jf_lb p sd : Nat) : Int))], [aI ((jf_lb p sd : Nat) : Int)], am_mix mo_SM g158 M)
          refine hR _ (show K (some (aI ((jf_lb p sd : Nat) : Int))) (am_mix mo_SM g158 M) from ?_)
          have hres : jx_drawn M sd ((k : Nat) : Int) w = ((jf_lb p sd : Nat) : Int) := by
            subst hpp
            unfold jx_drawn
            repeat' split
            all_goals first | omega | rfl | exact jf_il_no (by omega)
          rw [hres] at hK
          have e9 : am_ag mo_SM M (am_mix mo_SM g158 M) := (am_ag.rf).mix rfl
          rw [e9.eq]
          exact hK _
        · refine hR _ (hR _ (hR _ (?_)))
          show R (56, [some (aR 8 0), some (aI sd), some (aI ((k : Nat) : Int)), some (aI w), some (aI ((jf_lb p sd : Nat) : Int))], [aI ((jf_lb p sd : Nat) : Int), aR 39 0], am_mix mo_SM g158 M)
          refine hR _ ⟨(show 0 ≤ (((jf_lb p sd : Nat) : Int) : Int) ∧ (((jf_lb p sd : Nat) : Int) : Int) < 5 from (by omega)), ?_⟩
          show R (57, [some (aR 8 0), some (aI sd), some (aI ((k : Nat) : Int)), some (aI w), some (aI ((jf_lb p sd : Nat) : Int))], [aI (g158 39 0 ((((jf_lb p sd : Nat) : Int)).toNat))], am_mix mo_SM g158 M)
          rw [(show g158 39 0 ((((jf_lb p sd : Nat) : Int)).toNat) = jf_E p ((((jf_lb p sd : Nat) : Int)).toNat) from (hthr ((((jf_lb p sd : Nat) : Int)).toNat) (by omega)).1)]
          show R (57, [some (aR 8 0), some (aI sd), some (aI ((k : Nat) : Int)), some (aI w), some (aI ((jf_lb p sd : Nat) : Int))], [aI (jf_E p ((((jf_lb p sd : Nat) : Int)).toNat))], am_mix mo_SM g158 M)
          refine hR _ (?_)
          show R (62, [some (aR 8 0), some (aI sd), some (aI ((k : Nat) : Int)), some (aI w), some (aI ((jf_lb p sd : Nat) : Int))], [aI (jf_E p ((((jf_lb p sd : Nat) : Int)).toNat))], am_mix mo_SM g158 M)
          refine hR _ (show K (some (aI (jf_E p ((((jf_lb p sd : Nat) : Int)).toNat)))) (am_mix mo_SM g158 M) from ?_)
          have hres : jx_drawn M sd ((k : Nat) : Int) w = (jf_E p ((((jf_lb p sd : Nat) : Int)).toNat)) := by
            subst hpp
            unfold jx_drawn
            repeat' split
            all_goals first | omega | rfl | exact jf_il_no (by omega)
          rw [hres] at hK
          have e9 : am_ag mo_SM M (am_mix mo_SM g158 M) := (am_ag.rf).mix rfl
          rw [e9.eq]
          exact hK _
      · show R (28, [some (aR 8 0), some (aI sd), some (aI ((k : Nat) : Int)), some (aI w), none], [aI 0], M)
        refine hR _ (am_brf (rg := am_in 0) (P := (0 : Int) ≠ 0) (A := R (34, [some (aR 8 0), some (aI sd), some (aI ((k : Nat) : Int)), some (aI w), none], [], M)) (B := R (31, [some (aR 8 0), some (aI sd), some (aI ((k : Nat) : Int)), some (aI w), none], [], M)) (by omega) (by omega) ?_)
        show R (31, [some (aR 8 0), some (aI sd), some (aI ((k : Nat) : Int)), some (aI w), none], [], M)
        refine hR _ (?_)
        show R (33, [some (aR 8 0), some (aI sd), some (aI ((k : Nat) : Int)), some (aI w), none], [aI (-7)], M)
        refine hR _ (show K (some (aI (-7))) M from ?_)
        have hres : jx_drawn M sd ((k : Nat) : Int) w = (-7) := by
          unfold jx_drawn
          repeat' split
          all_goals first | omega | rfl | exact jf_il_no (by omega)
        rw [hres] at hK
        have e9 : am_ag mo_SM M M := am_ag.rf
        rw [e9.eq]
        exact hK _
    · show R (19, [some (aR 8 0), some (aI sd), some (aI ((k : Nat) : Int)), some (aI w), none], [aI 0], M)
      refine hR _ (am_brt (rg := am_in 0) (P := (0 : Int) = 0) (A := R (31, [some (aR 8 0), some (aI sd), some (aI ((k : Nat) : Int)), some (aI w), none], [], M)) (B := R (22, [some (aR 8 0), some (aI sd), some (aI ((k : Nat) : Int)), some (aI w), none], [], M)) (by omega) (by omega) ?_)
      show R (31, [some (aR 8 0), some (aI sd), some (aI ((k : Nat) : Int)), some (aI w), none], [], M)
      refine hR _ (?_)
      show R (33, [some (aR 8 0), some (aI sd), some (aI ((k : Nat) : Int)), some (aI w), none], [aI (-7)], M)
      refine hR _ (show K (some (aI (-7))) M from ?_)
      have hres : jx_drawn M sd ((k : Nat) : Int) w = (-7) := by
        unfold jx_drawn
        repeat' split
        all_goals first | omega | rfl | exact jf_il_no (by omega)
      rw [hres] at hK
      have e9 : am_ag mo_SM M M := am_ag.rf
      rw [e9.eq]
      exact hK _
  · show R (0, [some (aR 8 0), some (aI sd), some (aI h), some (aI w), none], [], M)
    refine hR _ (hR _ (?_))
    show R (2, [some (aR 8 0), some (aI sd), some (aI h), some (aI w), none], [aI h, aR 8 0], M)
    refine hR _ (sm_isHand (by omega) (show 0 ≤ M 421 0 0 ∧ M 421 0 0 ≤ 5 from hn') (by omega) (fun hz => absurd (show 0 ≤ h ∧ h < M 227 0 0 from ⟨hz.1, by rw [← h421]; exact hz.2⟩) hno) (fun _ => ?_))
    show R (5, [some (aR 8 0), some (aI sd), some (aI h), some (aI w), none], [aI 0], M)
    refine hR _ (am_brf (rg := am_in 0) (P := (0 : Int) ≠ 0) (A := R (11, [some (aR 8 0), some (aI sd), some (aI h), some (aI w), none], [], M)) (B := R (8, [some (aR 8 0), some (aI sd), some (aI h), some (aI w), none], [], M)) (by omega) (by omega) ?_)
    show R (8, [some (aR 8 0), some (aI sd), some (aI h), some (aI w), none], [], M)
    refine hR _ (?_)
    show R (10, [some (aR 8 0), some (aI sd), some (aI h), some (aI w), none], [aI (-5)], M)
    refine hR _ (show K (some (aI (-5))) M from ?_)
    have hres : jx_drawn M sd h w = (-5) := by
      unfold jx_drawn
      repeat' split
      all_goals first | omega | rfl | exact jf_il_no (by omega)
    rw [hres] at hK
    have e9 : am_ag mo_SM M M := am_ag.rf
    rw [e9.eq]
    exact hK _
