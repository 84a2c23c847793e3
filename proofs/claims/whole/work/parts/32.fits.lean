/-! wb -/
variable {wb : Bool}
/-! fits, film -/
abbrev jf_pk (M : am_M) (k : Nat) (v : Int) : jf_par := (v, M 141 k 0, M 142 k 0, M 143 k 0, M 221 0 0, M 222 0 0, M 223 0 0, jf_tk M (M 228 0 0).toNat, M 220 0 0, 0)
abbrev jf_pm (M : am_M) (k : Nat) (v : Int) : jf_par := (M 140 k 0, v, M 142 k 0, M 143 k 0, M 221 0 0, M 222 0 0, M 223 0 0, jf_tk M (M 228 0 0).toNat, M 220 0 0, 0)
def jf_pf (M : am_M) (k : Nat) (so v : Int) : jf_par := if so = 0 then jf_pk M k v else if so = 1 then jf_pm M k v else jf_pa M k v
def jf_bf (M : am_M) (s k : Nat) (so : Int) : Nat → Int × Int × Int := jf_best (fun i => (i : Int)) (fun i => (jf_pb (jf_pf M k so i) (M 21 s) (M 181 s 0).toNat, 1))
def jf_bfn (so : Int) : Nat := if so = 0 then 6 else if so = 1 then 10 else 100
def jx_fits (M : am_M) (sa h sw : Int) : Int := if (0 ≤ sa ∧ sa < 4) ∧ 0 ≤ h ∧ h < M 227 0 0 then (if M 180 sa.toNat 0 = -1 then -4611686018427387904 else if (0 ≤ Int.tdiv sw 10 ∧ Int.tdiv sw 10 ≤ 2) ∧ 0 ≤ Int.tmod sw 10 ∧ Int.tmod sw 10 ≤ 1 then (if Int.tmod sw 10 ≠ 0 then (jf_bf M sa.toNat h.toNat (Int.tdiv sw 10) (jf_bfn (Int.tdiv sw 10))).2.1 else (jf_bf M sa.toNat h.toNat (Int.tdiv sw 10) (jf_bfn (Int.tdiv sw 10))).1) else -4611686018427387904) else -4611686018427387904
theorem jf_J.pk {M : am_M} (h : jf_J M) {k : Nat} (hk : k < 5) {v : Int} (hv : 0 ≤ v ∧ v ≤ 5) : jf_ok (jf_pk M k v) := by
  have h1 := h.2.1 k hk
  have h2 := h.1.1
  have h3 := h2.1
  exact ⟨hv, h1.2.1, h1.2.2.1, h1.2.2.2.1, h2.2.1, h2.2.2.1, h2.2.2.2.1, (show 1 ≤ M 220 0 0 ∧ M 220 0 0 ≤ 5100 by omega), (show (0 : Int) ≤ 0 by omega), (show (0 : Int) ≤ 5000 by omega)⟩
theorem jf_J.pm {M : am_M} (h : jf_J M) {k : Nat} (hk : k < 5) {v : Int} (hv : 0 ≤ v ∧ v ≤ 9) : jf_ok (jf_pm M k v) := by
  have h1 := h.2.1 k hk
  have h2 := h.1.1
  have h3 := h2.1
  exact ⟨h1.1, hv, h1.2.2.1, h1.2.2.2.1, h2.2.1, h2.2.2.1, h2.2.2.2.1, (show 1 ≤ M 220 0 0 ∧ M 220 0 0 ≤ 5100 by omega), (show (0 : Int) ≤ 0 by omega), (show (0 : Int) ≤ 5000 by omega)⟩
theorem jf_J.pf {M : am_M} (h : jf_J M) {k : Nat} (hk : k < 5) {so v : Int} (hs : 0 ≤ so ∧ so ≤ 2) (hv : 0 ≤ v ∧ v < jf_bfn so) : jf_ok (jf_pf M k so v) := by
  unfold jf_bfn at hv
  unfold jf_pf
  by_cases h0 : so = 0
  · rw [if_pos h0] at hv ⊢
    exact h.pk hk (by omega)
  · by_cases h1 : so = 1
    · rw [if_neg h0, if_pos h1] at hv
      rw [if_neg h0, if_pos h1]
      exact h.pm hk (by omega)
    · rw [if_neg h0, if_neg h1] at hv
      rw [if_neg h0, if_neg h1]
      exact h.pa hk (by omega)
/-- what film tells -/
def jf_fl (p : jf_par) : Nat → List Int
  | 0 => []
  | a + 1 => if jf_O p a ≤ 0 then jf_fl p a else jf_fl p a ++ [jf_E p a]
theorem jf_fl_b (p : jf_par) : ∀ a, (jf_fl p a).length ≤ a
  | 0 => Nat.le_refl _
  | a + 1 => by
    have := jf_fl_b p a
    unfold jf_fl
    split
    · omega
    · rw [List.length_append, List.length_singleton]
      omega
theorem jf_app (l : List Int) (x : Int) (j : Nat) : (l ++ [x]).getD j 0 = if j = l.length then x else l.getD j 0 := by
  induction l generalizing j with
  | nil =>
    cases j with
    | zero => rfl
    | succ j => rfl
  | cons a t ih =>
    cases j with
    | zero => rfl
    | succ j =>
      show (t ++ [x]).getD j 0 = _
      rw [ih]
      by_cases h : j = t.length
      · rw [if_pos h, if_pos (by rw [h]; rfl)]
      · rw [if_neg h, if_neg (by simpa using h)]
        rfl
theorem jf_fl_1 {p : jf_par} {a : Nat} (h : ¬ jf_O p a ≤ 0) : jf_fl p (a + 1) = jf_fl p a ++ [jf_E p a] := if_neg h
theorem jf_fl_0 {p : jf_par} {a : Nat} (h : jf_O p a ≤ 0) : jf_fl p (a + 1) = jf_fl p a := if_pos h

set_option maxHeartbeats 1000000 in
theorem sq_fits {d : Nat} (hd : 8 ≤ d) {sa h sw : Int} {M : am_M} {K : am_K} (hJ : jf_J M) (ha_s : am_in sa) (ha_h : am_in h) (ha_w : am_in sw) (hK : ∀ g, jf_tr g M → K (some (aL (jx_fits M sa h sw))) (am_mix [12, 13, 14, 263, 264, 265, 266, 346, 17, 19, 100, 101, 102, 140, 141, 142, 143] g M)) : am_Call wb d 98 [aR 7 0, aI sa, aI h, aI sw] M K := by
  obtain ⟨d, rfl⟩ : ∃ e, d = e + 1 := ⟨d - 1, by omega⟩
  refine ⟨rfl, fun R hR hC => ?_⟩
  replace hR : ∀ c, am_F wb tb_f98 5 (am_Call wb d) K R c → R c := hR
  have hn := hJ.1.1.2.2.2.2.2.2.2.1
  have hl0 := hJ.1.1.2.2.2.2.2.2.2.2
  have htc := hJ.2.2.1.1
  have hlt : 0 ≤ M 228 0 0 ∧ M 228 0 0 < 6 := by omega
  have hmk := hJ.1.1.1
  have hdr := hJ.1.1.2.1
  have hpr := hJ.1.1.2.2.1
  have hfu := hJ.1.1.2.2.2.1
  show R (0, [some (aR 7 0), some (aI sa), some (aI h), some (aI sw), none, none, none, none, none, none], [], M)
  refine hR _ (hR _ (?_))
  show R (2, [some (aR 7 0), some (aI sa), some (aI h), some (aI sw), none, none, none, none, none, none], [aI sa, aR 7 0], M)
  refine hR _ (sp_sheetAt (by omega) (by omega) (fun s hhs hs4 => ?_) (fun hns => ?_))
  · have hJs := hJ.2.2.2.1 s hs4
    have hJs1 := hJs.1
    have hJs2 := hJs.2.1
    show R (5, [some (aR 7 0), some (aI sa), some (aI h), some (aI sw), none, none, none, none, none, none], [aR 2 s], M)
    refine hR _ (hR _ (hR _ (?_)))
    show R (9, [some (aR 7 0), some (aI sa), some (aI h), some (aI sw), some (aR 2 s), none, none, none, none, none], [aI h, aR 7 0], M)
    refine hR _ (sp_handAt (by omega) hn (by omega) (fun k hhk hk5 => ?_) (fun hno => ?_))
    · replace hk5 : (k : Int) < M 227 0 0 := hk5
      have hkw := hJ.wk (k := k) (by omega)
      have hok := hJ.px (k := k) (by omega)
      show R (12, [some (aR 7 0), some (aI sa), some (aI h), some (aI sw), some (aR 2 s), none, none, none, none, none], [aR 1 k], M)
      refine hR _ (hR _ (hR _ (hR _ (?_))))
      show R (21, [some (aR 7 0), some (aI sa), some (aI h), some (aI sw), some (aR 2 s), some (aR 1 k), none, none, none, none], [aR 2 s], M)
      refine hR _ (am_ct (am_vi (by omega : s < 4)) ?_)
      show R (24, [some (aR 7 0), some (aI sa), some (aI h), some (aI sw), some (aR 2 s), some (aR 1 k), none, none, none, none], [aI (M 180 s 0)], M)
      refine hR _ (hR _ (am_brc (rg := am_in (M 180 s 0) ∧ am_in (-1)) (P := M 180 s 0 = (-1)) (A := R (33, [some (aR 7 0), some (aI sa), some (aI h), some (aI sw), some (aR 2 s), some (aR 1 k), none, none, none, none], [], M)) (B := R (28, [some (aR 7 0), some (aI sa), some (aI h), some (aI sw), some (aR 2 s), some (aR 1 k), none, none, none, none], [], M)) (by omega) (fun c25 => ?_) (fun c25 => ?_)))
      · refine hR _ (?_)
        show R (36, [some (aR 7 0), some (aI sa), some (aI h), some (aI sw), some (aR 2 s), some (aR 1 k), none, none, none, none], [aL (-4611686018427387904)], M)
        refine hR _ (show K (some (aL (-4611686018427387904))) M from ?_)
        have hres : jx_fits M sa h sw = (-4611686018427387904) := by
          subst hhs
          subst hhk
          unfold jx_fits
          rw [Int.toNat_natCast]
          repeat' split
          all_goals first | omega | rfl
        rw [hres] at hK
        have e9 : am_ag [12, 13, 14, 263, 264, 265, 266, 346, 17, 19, 100, 101, 102, 140, 141, 142, 143] M M := am_ag.rf
        rw [e9.eq]
        exact hK _ (fun j hj => ⟨rfl, rfl, rfl, rfl⟩)
      · refine hR _ (hR _ (?_))
        show R (37, [some (aR 7 0), some (aI sa), some (aI h), some (aI sw), some (aR 2 s), some (aR 1 k), none, none, none, none], [], M)
        have htd : -214748364 ≤ Int.tdiv sw 10 ∧ Int.tdiv sw 10 ≤ 214748364 := by
          by_cases h0 : 0 ≤ sw
          · rw [jf_td _ _ h0]
            omega
          · have e : Int.tdiv sw 10 = -(Int.tdiv (-sw) 10) := by rw [Int.neg_tdiv, Int.neg_neg]
            rw [e, jf_td _ _ (by omega)]
            omega
        have htm : -9 ≤ Int.tmod sw 10 ∧ Int.tmod sw 10 ≤ 9 := by
          have h1 := Int.tmod_add_mul_tdiv sw 10
          by_cases h0 : 0 ≤ sw
          · rw [jf_tm _ _ h0]
            omega
          · have e : Int.tmod sw 10 = -(Int.tmod (-sw) 10) := by rw [Int.neg_tmod, Int.neg_neg]
            rw [e, jf_tm _ _ (by omega)]
            omega
        refine hR _ (hR _ (?_))
        show R (40, [some (aR 7 0), some (aI sa), some (aI h), some (aI sw), some (aR 2 s), some (aR 1 k), none, none, none, none], [aI 10, aI sw], M)
        refine hR _ ⟨(by omega), ?_⟩
        show R (41, [some (aR 7 0), some (aI sa), some (aI h), some (aI sw), some (aR 2 s), some (aR 1 k), none, none, none, none], [aI (Int.tdiv sw 10)], M)
        refine hR _ (hR _ (hR _ (?_)))
        show R (46, [some (aR 7 0), some (aI sa), some (aI h), some (aI sw), some (aR 2 s), some (aR 1 k), some (aI (Int.tdiv sw 10)), none, none, none], [aI 10, aI sw], M)
        refine hR _ ⟨(by omega), ?_⟩
        show R (47, [some (aR 7 0), some (aI sa), some (aI h), some (aI sw), some (aR 2 s), some (aR 1 k), some (aI (Int.tdiv sw 10)), none, none, none], [aI (Int.tmod sw 10)], M)
        refine hR _ (hR _ (hR _ (hR _ (?_))))
        show R (53, [some (aR 7 0), some (aI sa), some (aI h), some (aI sw), some (aR 2 s), some (aR 1 k), some (aI (Int.tdiv sw 10)), some (aI (Int.tmod sw 10)), none, none], [aI 2, aI 0, aI (Int.tdiv sw 10)], M)
        refine hR _ (sp_within (by omega) (by omega) (fun h53 => ?_) (fun h53 => ?_))
        · show R (56, [some (aR 7 0), some (aI sa), some (aI h), some (aI sw), some (aR 2 s), some (aR 1 k), some (aI (Int.tdiv sw 10)), some (aI (Int.tmod sw 10)), none, none], [aI 1], M)
          refine hR _ (am_brf (rg := am_in 1) (P := (1 : Int) = 0) (A := R (69, [some (aR 7 0), some (aI sa), some (aI h), some (aI sw), some (aR 2 s), some (aR 1 k), some (aI (Int.tdiv sw 10)), some (aI (Int.tmod sw 10)), none, none], [], M)) (B := R (59, [some (aR 7 0), some (aI sa), some (aI h), some (aI sw), some (aR 2 s), some (aR 1 k), some (aI (Int.tdiv sw 10)), some (aI (Int.tmod sw 10)), none, none], [], M)) (by omega) (by omega) ?_)
          show R (59, [some (aR 7 0), some (aI sa), some (aI h), some (aI sw), some (aR 2 s), some (aR 1 k), some (aI (Int.tdiv sw 10)), some (aI (Int.tmod sw 10)), none, none], [], M)
          refine hR _ (hR _ (hR _ (?_)))
          show R (63, [some (aR 7 0), some (aI sa), some (aI h), some (aI sw), some (aR 2 s), some (aR 1 k), some (aI (Int.tdiv sw 10)), some (aI (Int.tmod sw 10)), none, none], [aI 1, aI 0, aI (Int.tmod sw 10)], M)
          refine hR _ (sp_within (by omega) (by omega) (fun h63 => ?_) (fun h63 => ?_))
          · show R (66, [some (aR 7 0), some (aI sa), some (aI h), some (aI sw), some (aR 2 s), some (aR 1 k), some (aI (Int.tdiv sw 10)), some (aI (Int.tmod sw 10)), none, none], [aI 1], M)
            refine hR _ (am_brt (rg := am_in 1) (P := (1 : Int) ≠ 0) (A := R (73, [some (aR 7 0), some (aI sa), some (aI h), some (aI sw), some (aR 2 s), some (aR 1 k), some (aI (Int.tdiv sw 10)), some (aI (Int.tmod sw 10)), none, none], [], M)) (B := R (69, [some (aR 7 0), some (aI sa), some (aI h), some (aI sw), some (aR 2 s), some (aR 1 k), some (aI (Int.tdiv sw 10)), some (aI (Int.tmod sw 10)), none, none], [], M)) (by omega) (by omega) ?_)
            show R (73, [some (aR 7 0), some (aI sa), some (aI h), some (aI sw), some (aR 2 s), some (aR 1 k), some (aI (Int.tdiv sw 10)), some (aI (Int.tmod sw 10)), none, none], [], M)
            refine hR _ (hR _ (am_brc (rg := am_in (Int.tdiv sw 10)) (P := (Int.tdiv sw 10) ≠ 0) (A := R (82, [some (aR 7 0), some (aI sa), some (aI h), some (aI sw), some (aR 2 s), some (aR 1 k), some (aI (Int.tdiv sw 10)), some (aI (Int.tmod sw 10)), none, none], [], M)) (B := R (78, [some (aR 7 0), some (aI sa), some (aI h), some (aI sw), some (aR 2 s), some (aR 1 k), some (aI (Int.tdiv sw 10)), some (aI (Int.tmod sw 10)), none, none], [], M)) (by omega) (fun c75 => ?_) (fun c75 => ?_)))
            · refine hR _ (hR _ (hR _ (am_brc (rg := am_in (Int.tdiv sw 10) ∧ am_in 1) (P := (Int.tdiv sw 10) ≠ 1) (A := R (93, [some (aR 7 0), some (aI sa), some (aI h), some (aI sw), some (aR 2 s), some (aR 1 k), some (aI (Int.tdiv sw 10)), some (aI (Int.tmod sw 10)), none, none], [], M)) (B := R (88, [some (aR 7 0), some (aI sa), some (aI h), some (aI sw), some (aR 2 s), some (aR 1 k), some (aI (Int.tdiv sw 10)), some (aI (Int.tmod sw 10)), none, none], [], M)) (by omega) (fun c85 => ?_) (fun c85 => ?_))))
              · refine hR _ (hR _ (hR _ (hR _ (?_))))
                show R (101, [some (aR 7 0), some (aI sa), some (aI h), some (aI sw), some (aR 2 s), some (aR 1 k), some (aI (Int.tdiv sw 10)), some (aI (Int.tmod sw 10)), some (aI 99), none], [aR 0 0], M)
                refine hR _ (sp_Best_start (by omega) ?_)
                show R (104, [some (aR 7 0), some (aI sa), some (aI h), some (aI sw), some (aR 2 s), some (aR 1 k), some (aI (Int.tdiv sw 10)), some (aI (Int.tmod sw 10)), some (aI 99), none], [], am_wr (am_wr (am_wr M 100 0 0 (-1)) 101 0 0 0) 102 0 0 1)
                refine hR _ (hR _ (hR _ (?_)))
                show R (110, [some (aR 7 0), some (aI sa), some (aI h), some (aI sw), some (aR 2 s), some (aR 1 k), some (aI (Int.tdiv sw 10)), some (aI (Int.tmod sw 10)), some (aI 99), none], [aR 1 k, aR 1 5], am_wr (am_wr (am_wr M 100 0 0 (-1)) 101 0 0 0) 102 0 0 1)
                refine hR _ (sp_Hand_becomeLike (by omega) (by omega) ?_)
                show R (113, [some (aR 7 0), some (aI sa), some (aI h), some (aI sw), some (aR 2 s), some (aR 1 k), some (aI (Int.tdiv sw 10)), some (aI (Int.tmod sw 10)), some (aI 99), none], [], am_wr (am_wr (am_wr (am_wr (am_wr (am_wr (am_wr M 100 0 0 (-1)) 101 0 0 0) 102 0 0 1) 140 5 0 (M 140 k 0)) 141 5 0 (M 141 k 0)) 142 5 0 (M 142 k 0)) 143 5 0 (M 143 k 0))
                refine hR _ (hR _ (?_))
                show R (116, [some (aR 7 0), some (aI sa), some (aI h), some (aI sw), some (aR 2 s), some (aR 1 k), some (aI (Int.tdiv sw 10)), some (aI (Int.tmod sw 10)), some (aI 99), some (aI 0)], [], am_wr (am_wr (am_wr (am_wr (am_wr (am_wr (am_wr M 100 0 0 (-1)) 101 0 0 0) 102 0 0 1) 140 5 0 (M 140 k 0)) 141 5 0 (M 141 k 0)) 142 5 0 (M 142 k 0)) 143 5 0 (M 143 k 0))
                have hkw5 : jf_wk M 5 (M 228 0 0).toNat := hJ.wk (by omega)
                have hso : Int.tdiv sw 10 = 2 := by omega
                have hbn : jf_bfn (Int.tdiv sw 10) = 100 := by rw [hso]; rfl
                have hpf : ∀ v, jf_pf M k (Int.tdiv sw 10) v = jf_pa M k v := fun v => by rw [hso]; rfl
                have hbnd : ∀ i : Nat, i ≤ 100 → jf_bp (jf_bf M s k (Int.tdiv sw 10) i) 1000000000 65 100 := jf_best_b (by omega) (by omega) (by omega) (fun i hi => by
                  have h1 := jf_pb_b (hJ.pf (k := k) (so := Int.tdiv sw 10) (v := (i : Int)) (by omega) (by omega) (by rw [hbn]; omega)) (M 21 s) (M 181 s 0).toNat
                  dsimp only
                  omega)
                have key : ∀ (n i : Nat) (x : Int) (g : am_M), x = (i : Int) → i + n = 100 → (g 100 0 0, g 101 0 0, g 102 0 0) = jf_bf M s k (Int.tdiv sw 10) i → jf_tr g M → (g 140 5 0 = M 140 k 0 ∧ g 141 5 0 = M 141 k 0 ∧ g 143 5 0 = M 143 k 0) → R (116, [some (aR 7 0), some (aI sa), some (aI h), some (aI sw), some (aR 2 s), some (aR 1 k), some (aI (Int.tdiv sw 10)), some (aI (Int.tmod sw 10)), some (aI 99), some (aI x)], [], am_mix [12, 13, 14, 263, 264, 265, 266, 346, 17, 19, 100, 101, 102, 140, 141, 142, 143] g M) := by
                  intro n
                  induction n with
                  | zero =>
                    intro i x g hx hin hst htr h5
                    subst hx
                    have hi : i = 100 := by omega
                    rw [show i = jf_bfn (Int.tdiv sw 10) by omega] at hst
                    have hs1 : g 100 0 0 = (jf_bf M s k (Int.tdiv sw 10) (jf_bfn (Int.tdiv sw 10))).1 := congrArg (fun z => z.1) hst
                    have hs2 : g 101 0 0 = (jf_bf M s k (Int.tdiv sw 10) (jf_bfn (Int.tdiv sw 10))).2.1 := congrArg (fun z => z.2.1) hst
                    have hbd := (hbnd (jf_bfn (Int.tdiv sw 10)) (by omega)).1
                    refine hR _ (hR _ (hR _ (am_brt (rg := am_in ((i : Nat) : Int) ∧ am_in 99) (P := 99 < ((i : Nat) : Int)) (A := R (197, [some (aR 7 0), some (aI sa), some (aI h), some (aI sw), some (aR 2 s), some (aR 1 k), some (aI (Int.tdiv sw 10)), some (aI (Int.tmod sw 10)), some (aI 99), some (aI ((i : Nat) : Int))], [], am_mix [12, 13, 14, 263, 264, 265, 266, 346, 17, 19, 100, 101, 102, 140, 141, 142, 143] g M)) (B := R (123, [some (aR 7 0), some (aI sa), some (aI h), some (aI sw), some (aR 2 s), some (aR 1 k), some (aI (Int.tdiv sw 10)), some (aI (Int.tmod sw 10)), some (aI 99), some (aI ((i : Nat) : Int))], [], am_mix [12, 13, 14, 263, 264, 265, 266, 346, 17, 19, 100, 101, 102, 140, 141, 142, 143] g M)) (by omega) (by omega) ?_)))
                    show R (197, [some (aR 7 0), some (aI sa), some (aI h), some (aI sw), some (aR 2 s), some (aR 1 k), some (aI (Int.tdiv sw 10)), some (aI (Int.tmod sw 10)), some (aI 99), some (aI ((i : Nat) : Int))], [], am_mix [12, 13, 14, 263, 264, 265, 266, 346, 17, 19, 100, 101, 102, 140, 141, 142, 143] g M)
                    refine hR _ (hR _ (am_brc (rg := am_in (Int.tmod sw 10)) (P := (Int.tmod sw 10) ≠ 0) (A := R (213, [some (aR 7 0), some (aI sa), some (aI h), some (aI sw), some (aR 2 s), some (aR 1 k), some (aI (Int.tdiv sw 10)), some (aI (Int.tmod sw 10)), some (aI 99), some (aI ((i : Nat) : Int))], [], am_mix [12, 13, 14, 263, 264, 265, 266, 346, 17, 19, 100, 101, 102, 140, 141, 142, 143] g M)) (B := R (202, [some (aR 7 0), some (aI sa), some (aI h), some (aI sw), some (aR 2 s), some (aR 1 k), some (aI (Int.tdiv sw 10)), some (aI (Int.tmod sw 10)), some (aI 99), some (aI ((i : Nat) : Int))], [], am_mix [12, 13, 14, 263, 264, 265, 266, 346, 17, 19, 100, 101, 102, 140, 141, 142, 143] g M)) (by omega) (fun c199 => ?_) (fun c199 => ?_)))
                    · refine hR _ (hR _ (hR _ (?_)))
                      show R (220, [some (aR 7 0), some (aI sa), some (aI h), some (aI sw), some (aR 2 s), some (aR 1 k), some (aI (Int.tdiv sw 10)), some (aI (Int.tmod sw 10)), some (aI 99), some (aI ((i : Nat) : Int))], [aL (g 101 0 0)], am_mix [12, 13, 14, 263, 264, 265, 266, 346, 17, 19, 100, 101, 102, 140, 141, 142, 143] g M)
                      refine hR _ (show K (some (aL (g 101 0 0))) (am_mix [12, 13, 14, 263, 264, 265, 266, 346, 17, 19, 100, 101, 102, 140, 141, 142, 143] g M) from ?_)
                      have hres : jx_fits M sa h sw = g 101 0 0 := by
                        subst hhk
                        subst hhs
                        unfold jx_fits
                        rw [Int.toNat_natCast, Int.toNat_natCast, if_pos (by omega), if_neg (by omega), if_pos (by omega), if_pos (by omega), hs2]
                      rw [hres] at hK
                      exact hK _ htr
                    · refine hR _ (hR _ (hR _ (?_)))
                      show R (209, [some (aR 7 0), some (aI sa), some (aI h), some (aI sw), some (aR 2 s), some (aR 1 k), some (aI (Int.tdiv sw 10)), some (aI (Int.tmod sw 10)), some (aI 99), some (aI ((i : Nat) : Int))], [aI (g 100 0 0)], am_mix [12, 13, 14, 263, 264, 265, 266, 346, 17, 19, 100, 101, 102, 140, 141, 142, 143] g M)
                      refine hR _ ⟨(by omega), ?_⟩
                      show R (210, [some (aR 7 0), some (aI sa), some (aI h), some (aI sw), some (aR 2 s), some (aR 1 k), some (aI (Int.tdiv sw 10)), some (aI (Int.tmod sw 10)), some (aI 99), some (aI ((i : Nat) : Int))], [aL (g 100 0 0)], am_mix [12, 13, 14, 263, 264, 265, 266, 346, 17, 19, 100, 101, 102, 140, 141, 142, 143] g M)
                      refine hR _ (?_)
                      show R (220, [some (aR 7 0), some (aI sa), some (aI h), some (aI sw), some (aR 2 s), some (aR 1 k), some (aI (Int.tdiv sw 10)), some (aI (Int.tmod sw 10)), some (aI 99), some (aI ((i : Nat) : Int))], [aL (g 100 0 0)], am_mix [12, 13, 14, 263, 264, 265, 266, 346, 17, 19, 100, 101, 102, 140, 141, 142, 143] g M)
                      refine hR _ (show K (some (aL (g 100 0 0))) (am_mix [12, 13, 14, 263, 264, 265, 266, 346, 17, 19, 100, 101, 102, 140, 141, 142, 143] g M) from ?_)
                      have hres : jx_fits M sa h sw = g 100 0 0 := by
                        subst hhk
                        subst hhs
                        unfold jx_fits
                        rw [Int.toNat_natCast, Int.toNat_natCast, if_pos (by omega), if_neg (by omega), if_pos (by omega), if_neg (by omega), hs1]
                      rw [hres] at hK
                      exact hK _ htr
                  | succ n ih =>
                    intro i x g hx hin hst htr h5
                    subst hx
                    have hb := hbnd i (by omega)
                    rw [← hst] at hb
                    have hb1 : -1 ≤ g 100 0 0 ∧ g 100 0 0 ≤ 100 := hb.1
                    have hb2 : -1000000000 ≤ g 101 0 0 ∧ g 101 0 0 ≤ 1000000000 := hb.2.1
                    have hb3 : 1 ≤ g 102 0 0 ∧ g 102 0 0 ≤ 65 := hb.2.2
                    have hpe : jf_xp (am_wr (am_mix [12, 13, 14, 263, 264, 265, 266, 346, 17, 19, 100, 101, 102, 140, 141, 142, 143] g M) 142 5 0 ((i : Nat) : Int)) 5 (M 228 0 0).toNat (M 220 0 0) 0 = jf_pa M k ((i : Nat) : Int) := by
                      show (g 140 5 0, g 141 5 0, ((i : Nat) : Int), g 143 5 0, M 221 0 0, M 222 0 0, M 223 0 0, jf_tk M (M 228 0 0).toNat, M 220 0 0, 0) = _
                      rw [h5.1, h5.2.1, h5.2.2]
                    have hokv : jf_ok (jf_pa M k ((i : Nat) : Int)) := hJ.pa (by omega) (by omega)
                    have hpbv := jf_pb_b hokv (M 21 s) (M 181 s 0).toNat
                    refine hR _ (hR _ (hR _ (am_brf (rg := am_in ((i : Nat) : Int) ∧ am_in 99) (P := 99 < ((i : Nat) : Int)) (A := R (197, [some (aR 7 0), some (aI sa), some (aI h), some (aI sw), some (aR 2 s), some (aR 1 k), some (aI (Int.tdiv sw 10)), some (aI (Int.tmod sw 10)), some (aI 99), some (aI ((i : Nat) : Int))], [], am_mix [12, 13, 14, 263, 264, 265, 266, 346, 17, 19, 100, 101, 102, 140, 141, 142, 143] g M)) (B := R (123, [some (aR 7 0), some (aI sa), some (aI h), some (aI sw), some (aR 2 s), some (aR 1 k), some (aI (Int.tdiv sw 10)), some (aI (Int.tmod sw 10)), some (aI 99), some (aI ((i : Nat) : Int))], [], am_mix [12, 13, 14, 263, 264, 265, 266, 346, 17, 19, 100, 101, 102, 140, 141, 142, 143] g M)) (by omega) (by omega) ?_)))
                    show R (123, [some (aR 7 0), some (aI sa), some (aI h), some (aI sw), some (aR 2 s), some (aR 1 k), some (aI (Int.tdiv sw 10)), some (aI (Int.tmod sw 10)), some (aI 99), some (aI ((i : Nat) : Int))], [], am_mix [12, 13, 14, 263, 264, 265, 266, 346, 17, 19, 100, 101, 102, 140, 141, 142, 143] g M)
                    refine hR _ (hR _ (am_brt (rg := am_in (Int.tdiv sw 10)) (P := (Int.tdiv sw 10) ≠ 0) (A := R (140, [some (aR 7 0), some (aI sa), some (aI h), some (aI sw), some (aR 2 s), some (aR 1 k), some (aI (Int.tdiv sw 10)), some (aI (Int.tmod sw 10)), some (aI 99), some (aI ((i : Nat) : Int))], [], am_mix [12, 13, 14, 263, 264, 265, 266, 346, 17, 19, 100, 101, 102, 140, 141, 142, 143] g M)) (B := R (128, [some (aR 7 0), some (aI sa), some (aI h), some (aI sw), some (aR 2 s), some (aR 1 k), some (aI (Int.tdiv sw 10)), some (aI (Int.tmod sw 10)), some (aI 99), some (aI ((i : Nat) : Int))], [], am_mix [12, 13, 14, 263, 264, 265, 266, 346, 17, 19, 100, 101, 102, 140, 141, 142, 143] g M)) (by omega) (by omega) ?_))
                    show R (140, [some (aR 7 0), some (aI sa), some (aI h), some (aI sw), some (aR 2 s), some (aR 1 k), some (aI (Int.tdiv sw 10)), some (aI (Int.tmod sw 10)), some (aI 99), some (aI ((i : Nat) : Int))], [], am_mix [12, 13, 14, 263, 264, 265, 266, 346, 17, 19, 100, 101, 102, 140, 141, 142, 143] g M)
                    refine hR _ (hR _ (hR _ (am_brt (rg := am_in (Int.tdiv sw 10) ∧ am_in 1) (P := (Int.tdiv sw 10) ≠ 1) (A := R (158, [some (aR 7 0), some (aI sa), some (aI h), some (aI sw), some (aR 2 s), some (aR 1 k), some (aI (Int.tdiv sw 10)), some (aI (Int.tmod sw 10)), some (aI 99), some (aI ((i : Nat) : Int))], [], am_mix [12, 13, 14, 263, 264, 265, 266, 346, 17, 19, 100, 101, 102, 140, 141, 142, 143] g M)) (B := R (146, [some (aR 7 0), some (aI sa), some (aI h), some (aI sw), some (aR 2 s), some (aR 1 k), some (aI (Int.tdiv sw 10)), some (aI (Int.tmod sw 10)), some (aI 99), some (aI ((i : Nat) : Int))], [], am_mix [12, 13, 14, 263, 264, 265, 266, 346, 17, 19, 100, 101, 102, 140, 141, 142, 143] g M)) (by omega) (by omega) ?_)))
                    show R (158, [some (aR 7 0), some (aI sa), some (aI h), some (aI sw), some (aR 2 s), some (aR 1 k), some (aI (Int.tdiv sw 10)), some (aI (Int.tmod sw 10)), some (aI 99), some (aI ((i : Nat) : Int))], [], am_mix [12, 13, 14, 263, 264, 265, 266, 346, 17, 19, 100, 101, 102, 140, 141, 142, 143] g M)
                    refine hR _ (hR _ (hR _ (hR _ (hR _ (hR _ (hR _ (hR _ (hR _ (hR _ (hR _ (hR _ (?_))))))))))))
                    show R (181, [some (aR 7 0), some (aI sa), some (aI h), some (aI sw), some (aR 2 s), some (aR 1 k), some (aI (Int.tdiv sw 10)), some (aI (Int.tmod sw 10)), some (aI 99), some (aI ((i : Nat) : Int))], [aR 7 0, aR 1 5, aR 2 s, aR 7 0, aI ((i : Nat) : Int), aR 0 0], am_wr (am_mix [12, 13, 14, 263, 264, 265, 266, 346, 17, 19, 100, 101, 102, 140, 141, 142, 143] g M) 142 5 0 ((i : Nat) : Int))
                    refine hR _ (sp_lawText (by omega) hlt ?_)
                    show R (184, [some (aR 7 0), some (aI sa), some (aI h), some (aI sw), some (aR 2 s), some (aR 1 k), some (aI (Int.tdiv sw 10)), some (aI (Int.tmod sw 10)), some (aI 99), some (aI ((i : Nat) : Int))], [aR 6 ((M 228 0 0).toNat), aR 1 5, aR 2 s, aR 7 0, aI ((i : Nat) : Int), aR 0 0], am_wr (am_mix [12, 13, 14, 263, 264, 265, 266, 346, 17, 19, 100, 101, 102, 140, 141, 142, 143] g M) 142 5 0 ((i : Nat) : Int))
                    refine hR _ (sp_partsBy (k := 5) (t := (M 228 0 0).toNat) (by omega) (by omega) (hJ.2.2.2.1 _ (by omega)) hkw5 (show jf_ok (jf_xp (am_wr (am_mix [12, 13, 14, 263, 264, 265, 266, 346, 17, 19, 100, 101, 102, 140, 141, 142, 143] g M) 142 5 0 ((i : Nat) : Int)) 5 (M 228 0 0).toNat (M 220 0 0) 0) from hpe.symm ▸ hokv) (fun g96 => ?_))
                    show R (187, [some (aR 7 0), some (aI sa), some (aI h), some (aI sw), some (aR 2 s), some (aR 1 k), some (aI (Int.tdiv sw 10)), some (aI (Int.tmod sw 10)), some (aI 99), some (aI ((i : Nat) : Int))], [aL (jf_pb (jf_xp (am_wr (am_mix [12, 13, 14, 263, 264, 265, 266, 346, 17, 19, 100, 101, 102, 140, 141, 142, 143] g M) 142 5 0 ((i : Nat) : Int)) 5 (M 228 0 0).toNat (M 220 0 0) 0) (M 21 s) (M 181 s 0).toNat), aI ((i : Nat) : Int), aR 0 0], am_mix [12, 13, 14, 263, 264, 265, 266, 346, 17, 19] g96 (am_wr (am_mix [12, 13, 14, 263, 264, 265, 266, 346, 17, 19, 100, 101, 102, 140, 141, 142, 143] g M) 142 5 0 ((i : Nat) : Int)))
                    rw [hpe]
                    show R (187, [some (aR 7 0), some (aI sa), some (aI h), some (aI sw), some (aR 2 s), some (aR 1 k), some (aI (Int.tdiv sw 10)), some (aI (Int.tmod sw 10)), some (aI 99), some (aI ((i : Nat) : Int))], [aL (jf_pb (jf_pa M k ((i : Nat) : Int)) (M 21 s) (M 181 s 0).toNat), aI ((i : Nat) : Int), aR 0 0], am_mix [12, 13, 14, 263, 264, 265, 266, 346, 17, 19] g96 (am_wr (am_mix [12, 13, 14, 263, 264, 265, 266, 346, 17, 19, 100, 101, 102, 140, 141, 142, 143] g M) 142 5 0 ((i : Nat) : Int)))
                    refine hR _ (?_)
                    show R (188, [some (aR 7 0), some (aI sa), some (aI h), some (aI sw), some (aR 2 s), some (aR 1 k), some (aI (Int.tdiv sw 10)), some (aI (Int.tmod sw 10)), some (aI 99), some (aI ((i : Nat) : Int))], [aL 1, aL (jf_pb (jf_pa M k ((i : Nat) : Int)) (M 21 s) (M 181 s 0).toNat), aI ((i : Nat) : Int), aR 0 0], am_mix [12, 13, 14, 263, 264, 265, 266, 346, 17, 19] g96 (am_wr (am_mix [12, 13, 14, 263, 264, 265, 266, 346, 17, 19, 100, 101, 102, 140, 141, 142, 143] g M) 142 5 0 ((i : Nat) : Int)))
                    refine hR _ (sp_offer (by omega) (show am_in (g 100 0 0) from by omega) (show -1000000000000000000 ≤ (jf_pb (jf_pa M k ((i : Nat) : Int)) (M 21 s) (M 181 s 0).toNat) * g 102 0 0 ∧ (jf_pb (jf_pa M k ((i : Nat) : Int)) (M 21 s) (M 181 s 0).toNat) * g 102 0 0 ≤ 1000000000000000000 from by have hx := jf_mb (a := (jf_pb (jf_pa M k ((i : Nat) : Int)) (M 21 s) (M 181 s 0).toNat)) (b := g 102 0 0) (A := 1000000000) (B := 65) (by omega) (by omega); omega) (show -1000000000000000000 ≤ g 101 0 0 * 1 ∧ g 101 0 0 * 1 ≤ 1000000000000000000 from by have hx := jf_mb (a := g 101 0 0) (b := 1) (A := 1000000000) (B := 65) (by omega) (by omega); omega) (fun g97 hof => ?_))
                    replace hof : (g97 100 0 0, g97 101 0 0, g97 102 0 0) = jf_bst (g 100 0 0, g 101 0 0, g 102 0 0) ((i : Nat) : Int) (jf_pb (jf_pa M k ((i : Nat) : Int)) (M 21 s) (M 181 s 0).toNat) 1 := hof
                    show R (191, [some (aR 7 0), some (aI sa), some (aI h), some (aI sw), some (aR 2 s), some (aR 1 k), some (aI (Int.tdiv sw 10)), some (aI (Int.tmod sw 10)), some (aI 99), some (aI ((i : Nat) : Int))], [], am_mix [100, 101, 102] g97 (am_mix [12, 13, 14, 263, 264, 265, 266, 346, 17, 19] g96 (am_wr (am_mix [12, 13, 14, 263, 264, 265, 266, 346, 17, 19, 100, 101, 102, 140, 141, 142, 143] g M) 142 5 0 ((i : Nat) : Int))))
                    refine hR _ (hR _ (?_))
                    show R (116, [some (aR 7 0), some (aI sa), some (aI h), some (aI sw), some (aR 2 s), some (aR 1 k), some (aI (Int.tdiv sw 10)), some (aI (Int.tmod sw 10)), some (aI 99), some (aI (((i : Nat) : Int) + 1))], [], am_mix [100, 101, 102] g97 (am_mix [12, 13, 14, 263, 264, 265, 266, 346, 17, 19] g96 (am_wr (am_mix [12, 13, 14, 263, 264, 265, 266, 346, 17, 19, 100, 101, 102, 140, 141, 142, 143] g M) 142 5 0 ((i : Nat) : Int))))
                    have e9 : am_ag [12, 13, 14, 263, 264, 265, 266, 346, 17, 19, 100, 101, 102, 140, 141, 142, 143] M (am_mix [100, 101, 102] g97 (am_mix [12, 13, 14, 263, 264, 265, 266, 346, 17, 19] g96 (am_wr (am_mix [12, 13, 14, 263, 264, 265, 266, 346, 17, 19, 100, 101, 102, 140, 141, 142, 143] g M) 142 5 0 ((i : Nat) : Int)))) := ((((am_ag.rf).mix rfl).wr rfl).mix rfl).mix rfl
                    rw [e9.eq]
                    refine ih (i + 1) _ _ rfl (by omega) ?_ ?_ h5
                    · refine hof.trans ?_
                      rw [hst, ← hpf]
                      rfl
                    · intro j hj
                      have hw : ∀ v, (am_wr (am_mix [12, 13, 14, 263, 264, 265, 266, 346, 17, 19, 100, 101, 102, 140, 141, 142, 143] g M) 142 5 0 ((i : Nat) : Int)) v j 0 = am_mix [12, 13, 14, 263, 264, 265, 266, 346, 17, 19, 100, 101, 102, 140, 141, 142, 143] g M v j 0 := fun v => jf_wr5 hj
                      exact ⟨(hw 140).trans (htr j hj).1, (hw 141).trans (htr j hj).2.1, (hw 142).trans (htr j hj).2.2.1, (hw 143).trans (htr j hj).2.2.2⟩
                have e9 : am_ag [12, 13, 14, 263, 264, 265, 266, 346, 17, 19, 100, 101, 102, 140, 141, 142, 143] M (am_wr (am_wr (am_wr (am_wr (am_wr (am_wr (am_wr M 100 0 0 (-1)) 101 0 0 0) 102 0 0 1) 140 5 0 (M 140 k 0)) 141 5 0 (M 141 k 0)) 142 5 0 (M 142 k 0)) 143 5 0 (M 143 k 0)) := (((((((am_ag.rf).wr rfl).wr rfl).wr rfl).wr rfl).wr rfl).wr rfl).wr rfl
                rw [e9.eq]
                refine key 100 0 _ _ rfl rfl rfl ?_ ⟨rfl, rfl, rfl⟩
                intro j hj
                have hw : ∀ v, (am_wr (am_wr (am_wr (am_wr (am_wr (am_wr (am_wr M 100 0 0 (-1)) 101 0 0 0) 102 0 0 1) 140 5 0 (M 140 k 0)) 141 5 0 (M 141 k 0)) 142 5 0 (M 142 k 0)) 143 5 0 (M 143 k 0)) v j 0 = (am_wr (am_wr (am_wr M 100 0 0 (-1)) 101 0 0 0) 102 0 0 1) v j 0 := fun v => (jf_wr5 hj).trans ((jf_wr5 hj).trans ((jf_wr5 hj).trans (jf_wr5 hj)))
                exact ⟨hw 140, hw 141, hw 142, hw 143⟩
              · refine hR _ (hR _ (hR _ (hR _ (hR _ (?_)))))
                show R (101, [some (aR 7 0), some (aI sa), some (aI h), some (aI sw), some (aR 2 s), some (aR 1 k), some (aI (Int.tdiv sw 10)), some (aI (Int.tmod sw 10)), some (aI 9), none], [aR 0 0], M)
                refine hR _ (sp_Best_start (by omega) ?_)
                show R (104, [some (aR 7 0), some (aI sa), some (aI h), some (aI sw), some (aR 2 s), some (aR 1 k), some (aI (Int.tdiv sw 10)), some (aI (Int.tmod sw 10)), some (aI 9), none], [], am_wr (am_wr (am_wr M 100 0 0 (-1)) 101 0 0 0) 102 0 0 1)
                refine hR _ (hR _ (hR _ (?_)))
                show R (110, [some (aR 7 0), some (aI sa), some (aI h), some (aI sw), some (aR 2 s), some (aR 1 k), some (aI (Int.tdiv sw 10)), some (aI (Int.tmod sw 10)), some (aI 9), none], [aR 1 k, aR 1 5], am_wr (am_wr (am_wr M 100 0 0 (-1)) 101 0 0 0) 102 0 0 1)
                refine hR _ (sp_Hand_becomeLike (by omega) (by omega) ?_)
                show R (113, [some (aR 7 0), some (aI sa), some (aI h), some (aI sw), some (aR 2 s), some (aR 1 k), some (aI (Int.tdiv sw 10)), some (aI (Int.tmod sw 10)), some (aI 9), none], [], am_wr (am_wr (am_wr (am_wr (am_wr (am_wr (am_wr M 100 0 0 (-1)) 101 0 0 0) 102 0 0 1) 140 5 0 (M 140 k 0)) 141 5 0 (M 141 k 0)) 142 5 0 (M 142 k 0)) 143 5 0 (M 143 k 0))
                refine hR _ (hR _ (?_))
                show R (116, [some (aR 7 0), some (aI sa), some (aI h), some (aI sw), some (aR 2 s), some (aR 1 k), some (aI (Int.tdiv sw 10)), some (aI (Int.tmod sw 10)), some (aI 9), some (aI 0)], [], am_wr (am_wr (am_wr (am_wr (am_wr (am_wr (am_wr M 100 0 0 (-1)) 101 0 0 0) 102 0 0 1) 140 5 0 (M 140 k 0)) 141 5 0 (M 141 k 0)) 142 5 0 (M 142 k 0)) 143 5 0 (M 143 k 0))
                have hkw5 : jf_wk M 5 (M 228 0 0).toNat := hJ.wk (by omega)
                have hso : Int.tdiv sw 10 = 1 := by omega
                have hbn : jf_bfn (Int.tdiv sw 10) = 10 := by rw [hso]; rfl
                have hpf : ∀ v, jf_pf M k (Int.tdiv sw 10) v = jf_pm M k v := fun v => by rw [hso]; rfl
                have hbnd : ∀ i : Nat, i ≤ 10 → jf_bp (jf_bf M s k (Int.tdiv sw 10) i) 1000000000 65 100 := jf_best_b (by omega) (by omega) (by omega) (fun i hi => by
                  have h1 := jf_pb_b (hJ.pf (k := k) (so := Int.tdiv sw 10) (v := (i : Int)) (by omega) (by omega) (by rw [hbn]; omega)) (M 21 s) (M 181 s 0).toNat
                  dsimp only
                  omega)
                have key : ∀ (n i : Nat) (x : Int) (g : am_M), x = (i : Int) → i + n = 10 → (g 100 0 0, g 101 0 0, g 102 0 0) = jf_bf M s k (Int.tdiv sw 10) i → jf_tr g M → (g 140 5 0 = M 140 k 0 ∧ g 142 5 0 = M 142 k 0 ∧ g 143 5 0 = M 143 k 0) → R (116, [some (aR 7 0), some (aI sa), some (aI h), some (aI sw), some (aR 2 s), some (aR 1 k), some (aI (Int.tdiv sw 10)), some (aI (Int.tmod sw 10)), some (aI 9), some (aI x)], [], am_mix [12, 13, 14, 263, 264, 265, 266, 346, 17, 19, 100, 101, 102, 140, 141, 142, 143] g M) := by
                  intro n
                  induction n with
                  | zero =>
                    intro i x g hx hin hst htr h5
                    subst hx
                    have hi : i = 10 := by omega
                    rw [show i = jf_bfn (Int.tdiv sw 10) by omega] at hst
                    have hs1 : g 100 0 0 = (jf_bf M s k (Int.tdiv sw 10) (jf_bfn (Int.tdiv sw 10))).1 := congrArg (fun z => z.1) hst
                    have hs2 : g 101 0 0 = (jf_bf M s k (Int.tdiv sw 10) (jf_bfn (Int.tdiv sw 10))).2.1 := congrArg (fun z => z.2.1) hst
                    have hbd := (hbnd (jf_bfn (Int.tdiv sw 10)) (by omega)).1
                    refine hR _ (hR _ (hR _ (am_brt (rg := am_in ((i : Nat) : Int) ∧ am_in 9) (P := 9 < ((i : Nat) : Int)) (A := R (197, [some (aR 7 0), some (aI sa), some (aI h), some (aI sw), some (aR 2 s), some (aR 1 k), some (aI (Int.tdiv sw 10)), some (aI (Int.tmod sw 10)), some (aI 9), some (aI ((i : Nat) : Int))], [], am_mix [12, 13, 14, 263, 264, 265, 266, 346, 17, 19, 100, 101, 102, 140, 141, 142, 143] g M)) (B := R (123, [some (aR 7 0), some (aI sa), some (aI h), some (aI sw), some (aR 2 s), some (aR 1 k), some (aI (Int.tdiv sw 10)), some (aI (Int.tmod sw 10)), some (aI 9), some (aI ((i : Nat) : Int))], [], am_mix [12, 13, 14, 263, 264, 265, 266, 346, 17, 19, 100, 101, 102, 140, 141, 142, 143] g M)) (by omega) (by omega) ?_)))
                    show R (197, [some (aR 7 0), some (aI sa), some (aI h), some (aI sw), some (aR 2 s), some (aR 1 k), some (aI (Int.tdiv sw 10)), some (aI (Int.tmod sw 10)), some (aI 9), some (aI ((i : Nat) : Int))], [], am_mix [12, 13, 14, 263, 264, 265, 266, 346, 17, 19, 100, 101, 102, 140, 141, 142, 143] g M)
                    refine hR _ (hR _ (am_brc (rg := am_in (Int.tmod sw 10)) (P := (Int.tmod sw 10) ≠ 0) (A := R (213, [some (aR 7 0), some (aI sa), some (aI h), some (aI sw), some (aR 2 s), some (aR 1 k), some (aI (Int.tdiv sw 10)), some (aI (Int.tmod sw 10)), some (aI 9), some (aI ((i : Nat) : Int))], [], am_mix [12, 13, 14, 263, 264, 265, 266, 346, 17, 19, 100, 101, 102, 140, 141, 142, 143] g M)) (B := R (202, [some (aR 7 0), some (aI sa), some (aI h), some (aI sw), some (aR 2 s), some (aR 1 k), some (aI (Int.tdiv sw 10)), some (aI (Int.tmod sw 10)), some (aI 9), some (aI ((i : Nat) : Int))], [], am_mix [12, 13, 14, 263, 264, 265, 266, 346, 17, 19, 100, 101, 102, 140, 141, 142, 143] g M)) (by omega) (fun c199 => ?_) (fun c199 => ?_)))
                    · refine hR _ (hR _ (hR _ (?_)))
                      show R (220, [some (aR 7 0), some (aI sa), some (aI h), some (aI sw), some (aR 2 s), some (aR 1 k), some (aI (Int.tdiv sw 10)), some (aI (Int.tmod sw 10)), some (aI 9), some (aI ((i : Nat) : Int))], [aL (g 101 0 0)], am_mix [12, 13, 14, 263, 264, 265, 266, 346, 17, 19, 100, 101, 102, 140, 141, 142, 143] g M)
                      refine hR _ (show K (some (aL (g 101 0 0))) (am_mix [12, 13, 14, 263, 264, 265, 266, 346, 17, 19, 100, 101, 102, 140, 141, 142, 143] g M) from ?_)
                      have hres : jx_fits M sa h sw = g 101 0 0 := by
                        subst hhk
                        subst hhs
                        unfold jx_fits
                        rw [Int.toNat_natCast, Int.toNat_natCast, if_pos (by omega), if_neg (by omega), if_pos (by omega), if_pos (by omega), hs2]
                      rw [hres] at hK
                      exact hK _ htr
                    · refine hR _ (hR _ (hR _ (?_)))
                      show R (209, [some (aR 7 0), some (aI sa), some (aI h), some (aI sw), some (aR 2 s), some (aR 1 k), some (aI (Int.tdiv sw 10)), some (aI (Int.tmod sw 10)), some (aI 9), some (aI ((i : Nat) : Int))], [aI (g 100 0 0)], am_mix [12, 13, 14, 263, 264, 265, 266, 346, 17, 19, 100, 101, 102, 140, 141, 142, 143] g M)
                      refine hR _ ⟨(by omega), ?_⟩
                      show R (210, [some (aR 7 0), some (aI sa), some (aI h), some (aI sw), some (aR 2 s), some (aR 1 k), some (aI (Int.tdiv sw 10)), some (aI (Int.tmod sw 10)), some (aI 9), some (aI ((i : Nat) : Int))], [aL (g 100 0 0)], am_mix [12, 13, 14, 263, 264, 265, 266, 346, 17, 19, 100, 101, 102, 140, 141, 142, 143] g M)
                      refine hR _ (?_)
                      show R (220, [some (aR 7 0), some (aI sa), some (aI h), some (aI sw), some (aR 2 s), some (aR 1 k), some (aI (Int.tdiv sw 10)), some (aI (Int.tmod sw 10)), some (aI 9), some (aI ((i : Nat) : Int))], [aL (g 100 0 0)], am_mix [12, 13, 14, 263, 264, 265, 266, 346, 17, 19, 100, 101, 102, 140, 141, 142, 143] g M)
                      refine hR _ (show K (some (aL (g 100 0 0))) (am_mix [12, 13, 14, 263, 264, 265, 266, 346, 17, 19, 100, 101, 102, 140, 141, 142, 143] g M) from ?_)
                      have hres : jx_fits M sa h sw = g 100 0 0 := by
                        subst hhk
                        subst hhs
                        unfold jx_fits
                        rw [Int.toNat_natCast, Int.toNat_natCast, if_pos (by omega), if_neg (by omega), if_pos (by omega), if_neg (by omega), hs1]
                      rw [hres] at hK
                      exact hK _ htr
                  | succ n ih =>
                    intro i x g hx hin hst htr h5
                    subst hx
                    have hb := hbnd i (by omega)
                    rw [← hst] at hb
                    have hb1 : -1 ≤ g 100 0 0 ∧ g 100 0 0 ≤ 100 := hb.1
                    have hb2 : -1000000000 ≤ g 101 0 0 ∧ g 101 0 0 ≤ 1000000000 := hb.2.1
                    have hb3 : 1 ≤ g 102 0 0 ∧ g 102 0 0 ≤ 65 := hb.2.2
                    have hpe : jf_xp (am_wr (am_mix [12, 13, 14, 263, 264, 265, 266, 346, 17, 19, 100, 101, 102, 140, 141, 142, 143] g M) 141 5 0 ((i : Nat) : Int)) 5 (M 228 0 0).toNat (M 220 0 0) 0 = jf_pm M k ((i : Nat) : Int) := by
                      show (g 140 5 0, ((i : Nat) : Int), g 142 5 0, g 143 5 0, M 221 0 0, M 222 0 0, M 223 0 0, jf_tk M (M 228 0 0).toNat, M 220 0 0, 0) = _
                      rw [h5.1, h5.2.1, h5.2.2]
                    have hokv : jf_ok (jf_pm M k ((i : Nat) : Int)) := hJ.pm (by omega) (by omega)
                    have hpbv := jf_pb_b hokv (M 21 s) (M 181 s 0).toNat
                    refine hR _ (hR _ (hR _ (am_brf (rg := am_in ((i : Nat) : Int) ∧ am_in 9) (P := 9 < ((i : Nat) : Int)) (A := R (197, [some (aR 7 0), some (aI sa), some (aI h), some (aI sw), some (aR 2 s), some (aR 1 k), some (aI (Int.tdiv sw 10)), some (aI (Int.tmod sw 10)), some (aI 9), some (aI ((i : Nat) : Int))], [], am_mix [12, 13, 14, 263, 264, 265, 266, 346, 17, 19, 100, 101, 102, 140, 141, 142, 143] g M)) (B := R (123, [some (aR 7 0), some (aI sa), some (aI h), some (aI sw), some (aR 2 s), some (aR 1 k), some (aI (Int.tdiv sw 10)), some (aI (Int.tmod sw 10)), some (aI 9), some (aI ((i : Nat) : Int))], [], am_mix [12, 13, 14, 263, 264, 265, 266, 346, 17, 19, 100, 101, 102, 140, 141, 142, 143] g M)) (by omega) (by omega) ?_)))
                    show R (123, [some (aR 7 0), some (aI sa), some (aI h), some (aI sw), some (aR 2 s), some (aR 1 k), some (aI (Int.tdiv sw 10)), some (aI (Int.tmod sw 10)), some (aI 9), some (aI ((i : Nat) : Int))], [], am_mix [12, 13, 14, 263, 264, 265, 266, 346, 17, 19, 100, 101, 102, 140, 141, 142, 143] g M)
                    refine hR _ (hR _ (am_brt (rg := am_in (Int.tdiv sw 10)) (P := (Int.tdiv sw 10) ≠ 0) (A := R (140, [some (aR 7 0), some (aI sa), some (aI h), some (aI sw), some (aR 2 s), some (aR 1 k), some (aI (Int.tdiv sw 10)), some (aI (Int.tmod sw 10)), some (aI 9), some (aI ((i : Nat) : Int))], [], am_mix [12, 13, 14, 263, 264, 265, 266, 346, 17, 19, 100, 101, 102, 140, 141, 142, 143] g M)) (B := R (128, [some (aR 7 0), some (aI sa), some (aI h), some (aI sw), some (aR 2 s), some (aR 1 k), some (aI (Int.tdiv sw 10)), some (aI (Int.tmod sw 10)), some (aI 9), some (aI ((i : Nat) : Int))], [], am_mix [12, 13, 14, 263, 264, 265, 266, 346, 17, 19, 100, 101, 102, 140, 141, 142, 143] g M)) (by omega) (by omega) ?_))
                    show R (140, [some (aR 7 0), some (aI sa), some (aI h), some (aI sw), some (aR 2 s), some (aR 1 k), some (aI (Int.tdiv sw 10)), some (aI (Int.tmod sw 10)), some (aI 9), some (aI ((i : Nat) : Int))], [], am_mix [12, 13, 14, 263, 264, 265, 266, 346, 17, 19, 100, 101, 102, 140, 141, 142, 143] g M)
                    refine hR _ (hR _ (hR _ (am_brf (rg := am_in (Int.tdiv sw 10) ∧ am_in 1) (P := (Int.tdiv sw 10) ≠ 1) (A := R (158, [some (aR 7 0), some (aI sa), some (aI h), some (aI sw), some (aR 2 s), some (aR 1 k), some (aI (Int.tdiv sw 10)), some (aI (Int.tmod sw 10)), some (aI 9), some (aI ((i : Nat) : Int))], [], am_mix [12, 13, 14, 263, 264, 265, 266, 346, 17, 19, 100, 101, 102, 140, 141, 142, 143] g M)) (B := R (146, [some (aR 7 0), some (aI sa), some (aI h), some (aI sw), some (aR 2 s), some (aR 1 k), some (aI (Int.tdiv sw 10)), some (aI (Int.tmod sw 10)), some (aI 9), some (aI ((i : Nat) : Int))], [], am_mix [12, 13, 14, 263, 264, 265, 266, 346, 17, 19, 100, 101, 102, 140, 141, 142, 143] g M)) (by omega) (by omega) ?_)))
                    show R (146, [some (aR 7 0), some (aI sa), some (aI h), some (aI sw), some (aR 2 s), some (aR 1 k), some (aI (Int.tdiv sw 10)), some (aI (Int.tmod sw 10)), some (aI 9), some (aI ((i : Nat) : Int))], [], am_mix [12, 13, 14, 263, 264, 265, 266, 346, 17, 19, 100, 101, 102, 140, 141, 142, 143] g M)
                    refine hR _ (hR _ (hR _ (hR _ (hR _ (hR _ (hR _ (hR _ (hR _ (hR _ (hR _ (hR _ (hR _ (?_)))))))))))))
                    show R (181, [some (aR 7 0), some (aI sa), some (aI h), some (aI sw), some (aR 2 s), some (aR 1 k), some (aI (Int.tdiv sw 10)), some (aI (Int.tmod sw 10)), some (aI 9), some (aI ((i : Nat) : Int))], [aR 7 0, aR 1 5, aR 2 s, aR 7 0, aI ((i : Nat) : Int), aR 0 0], am_wr (am_mix [12, 13, 14, 263, 264, 265, 266, 346, 17, 19, 100, 101, 102, 140, 141, 142, 143] g M) 141 5 0 ((i : Nat) : Int))
                    refine hR _ (sp_lawText (by omega) hlt ?_)
                    show R (184, [some (aR 7 0), some (aI sa), some (aI h), some (aI sw), some (aR 2 s), some (aR 1 k), some (aI (Int.tdiv sw 10)), some (aI (Int.tmod sw 10)), some (aI 9), some (aI ((i : Nat) : Int))], [aR 6 ((M 228 0 0).toNat), aR 1 5, aR 2 s, aR 7 0, aI ((i : Nat) : Int), aR 0 0], am_wr (am_mix [12, 13, 14, 263, 264, 265, 266, 346, 17, 19, 100, 101, 102, 140, 141, 142, 143] g M) 141 5 0 ((i : Nat) : Int))
                    refine hR _ (sp_partsBy (k := 5) (t := (M 228 0 0).toNat) (by omega) (by omega) (hJ.2.2.2.1 _ (by omega)) hkw5 (show jf_ok (jf_xp (am_wr (am_mix [12, 13, 14, 263, 264, 265, 266, 346, 17, 19, 100, 101, 102, 140, 141, 142, 143] g M) 141 5 0 ((i : Nat) : Int)) 5 (M 228 0 0).toNat (M 220 0 0) 0) from hpe.symm ▸ hokv) (fun g98 => ?_))
                    show R (187, [some (aR 7 0), some (aI sa), some (aI h), some (aI sw), some (aR 2 s), some (aR 1 k), some (aI (Int.tdiv sw 10)), some (aI (Int.tmod sw 10)), some (aI 9), some (aI ((i : Nat) : Int))], [aL (jf_pb (jf_xp (am_wr (am_mix [12, 13, 14, 263, 264, 265, 266, 346, 17, 19, 100, 101, 102, 140, 141, 142, 143] g M) 141 5 0 ((i : Nat) : Int)) 5 (M 228 0 0).toNat (M 220 0 0) 0) (M 21 s) (M 181 s 0).toNat), aI ((i : Nat) : Int), aR 0 0], am_mix [12, 13, 14, 263, 264, 265, 266, 346, 17, 19] g98 (am_wr (am_mix [12, 13, 14, 263, 264, 265, 266, 346, 17, 19, 100, 101, 102, 140, 141, 142, 143] g M) 141 5 0 ((i : Nat) : Int)))
                    rw [hpe]
                    show R (187, [some (aR 7 0), some (aI sa), some (aI h), some (aI sw), some (aR 2 s), some (aR 1 k), some (aI (Int.tdiv sw 10)), some (aI (Int.tmod sw 10)), some (aI 9), some (aI ((i : Nat) : Int))], [aL (jf_pb (jf_pm M k ((i : Nat) : Int)) (M 21 s) (M 181 s 0).toNat), aI ((i : Nat) : Int), aR 0 0], am_mix [12, 13, 14, 263, 264, 265, 266, 346, 17, 19] g98 (am_wr (am_mix [12, 13, 14, 263, 264, 265, 266, 346, 17, 19, 100, 101, 102, 140, 141, 142, 143] g M) 141 5 0 ((i : Nat) : Int)))
                    refine hR _ (?_)
                    show R (188, [some (aR 7 0), some (aI sa), some (aI h), some (aI sw), some (aR 2 s), some (aR 1 k), some (aI (Int.tdiv sw 10)), some (aI (Int.tmod sw 10)), some (aI 9), some (aI ((i : Nat) : Int))], [aL 1, aL (jf_pb (jf_pm M k ((i : Nat) : Int)) (M 21 s) (M 181 s 0).toNat), aI ((i : Nat) : Int), aR 0 0], am_mix [12, 13, 14, 263, 264, 265, 266, 346, 17, 19] g98 (am_wr (am_mix [12, 13, 14, 263, 264, 265, 266, 346, 17, 19, 100, 101, 102, 140, 141, 142, 143] g M) 141 5 0 ((i : Nat) : Int)))
                    refine hR _ (sp_offer (by omega) (show am_in (g 100 0 0) from by omega) (show -1000000000000000000 ≤ (jf_pb (jf_pm M k ((i : Nat) : Int)) (M 21 s) (M 181 s 0).toNat) * g 102 0 0 ∧ (jf_pb (jf_pm M k ((i : Nat) : Int)) (M 21 s) (M 181 s 0).toNat) * g 102 0 0 ≤ 1000000000000000000 from by have hx := jf_mb (a := (jf_pb (jf_pm M k ((i : Nat) : Int)) (M 21 s) (M 181 s 0).toNat)) (b := g 102 0 0) (A := 1000000000) (B := 65) (by omega) (by omega); omega) (show -1000000000000000000 ≤ g 101 0 0 * 1 ∧ g 101 0 0 * 1 ≤ 1000000000000000000 from by have hx := jf_mb (a := g 101 0 0) (b := 1) (A := 1000000000) (B := 65) (by omega) (by omega); omega) (fun g99 hof => ?_))
                    replace hof : (g99 100 0 0, g99 101 0 0, g99 102 0 0) = jf_bst (g 100 0 0, g 101 0 0, g 102 0 0) ((i : Nat) : Int) (jf_pb (jf_pm M k ((i : Nat) : Int)) (M 21 s) (M 181 s 0).toNat) 1 := hof
                    show R (191, [some (aR 7 0), some (aI sa), some (aI h), some (aI sw), some (aR 2 s), some (aR 1 k), some (aI (Int.tdiv sw 10)), some (aI (Int.tmod sw 10)), some (aI 9), some (aI ((i : Nat) : Int))], [], am_mix [100, 101, 102] g99 (am_mix [12, 13, 14, 263, 264, 265, 266, 346, 17, 19] g98 (am_wr (am_mix [12, 13, 14, 263, 264, 265, 266, 346, 17, 19, 100, 101, 102, 140, 141, 142, 143] g M) 141 5 0 ((i : Nat) : Int))))
                    refine hR _ (hR _ (?_))
                    show R (116, [some (aR 7 0), some (aI sa), some (aI h), some (aI sw), some (aR 2 s), some (aR 1 k), some (aI (Int.tdiv sw 10)), some (aI (Int.tmod sw 10)), some (aI 9), some (aI (((i : Nat) : Int) + 1))], [], am_mix [100, 101, 102] g99 (am_mix [12, 13, 14, 263, 264, 265, 266, 346, 17, 19] g98 (am_wr (am_mix [12, 13, 14, 263, 264, 265, 266, 346, 17, 19, 100, 101, 102, 140, 141, 142, 143] g M) 141 5 0 ((i : Nat) : Int))))
                    have e9 : am_ag [12, 13, 14, 263, 264, 265, 266, 346, 17, 19, 100, 101, 102, 140, 141, 142, 143] M (am_mix [100, 101, 102] g99 (am_mix [12, 13, 14, 263, 264, 265, 266, 346, 17, 19] g98 (am_wr (am_mix [12, 13, 14, 263, 264, 265, 266, 346, 17, 19, 100, 101, 102, 140, 141, 142, 143] g M) 141 5 0 ((i : Nat) : Int)))) := ((((am_ag.rf).mix rfl).wr rfl).mix rfl).mix rfl
                    rw [e9.eq]
                    refine ih (i + 1) _ _ rfl (by omega) ?_ ?_ h5
                    · refine hof.trans ?_
                      rw [hst, ← hpf]
                      rfl
                    · intro j hj
                      have hw : ∀ v, (am_wr (am_mix [12, 13, 14, 263, 264, 265, 266, 346, 17, 19, 100, 101, 102, 140, 141, 142, 143] g M) 141 5 0 ((i : Nat) : Int)) v j 0 = am_mix [12, 13, 14, 263, 264, 265, 266, 346, 17, 19, 100, 101, 102, 140, 141, 142, 143] g M v j 0 := fun v => jf_wr5 hj
                      exact ⟨(hw 140).trans (htr j hj).1, (hw 141).trans (htr j hj).2.1, (hw 142).trans (htr j hj).2.2.1, (hw 143).trans (htr j hj).2.2.2⟩
                have e9 : am_ag [12, 13, 14, 263, 264, 265, 266, 346, 17, 19, 100, 101, 102, 140, 141, 142, 143] M (am_wr (am_wr (am_wr (am_wr (am_wr (am_wr (am_wr M 100 0 0 (-1)) 101 0 0 0) 102 0 0 1) 140 5 0 (M 140 k 0)) 141 5 0 (M 141 k 0)) 142 5 0 (M 142 k 0)) 143 5 0 (M 143 k 0)) := (((((((am_ag.rf).wr rfl).wr rfl).wr rfl).wr rfl).wr rfl).wr rfl).wr rfl
                rw [e9.eq]
                refine key 10 0 _ _ rfl rfl rfl ?_ ⟨rfl, rfl, rfl⟩
                intro j hj
                have hw : ∀ v, (am_wr (am_wr (am_wr (am_wr (am_wr (am_wr (am_wr M 100 0 0 (-1)) 101 0 0 0) 102 0 0 1) 140 5 0 (M 140 k 0)) 141 5 0 (M 141 k 0)) 142 5 0 (M 142 k 0)) 143 5 0 (M 143 k 0)) v j 0 = (am_wr (am_wr (am_wr M 100 0 0 (-1)) 101 0 0 0) 102 0 0 1) v j 0 := fun v => (jf_wr5 hj).trans ((jf_wr5 hj).trans ((jf_wr5 hj).trans (jf_wr5 hj)))
                exact ⟨hw 140, hw 141, hw 142, hw 143⟩
            · refine hR _ (hR _ (hR _ (hR _ (hR _ (?_)))))
              show R (101, [some (aR 7 0), some (aI sa), some (aI h), some (aI sw), some (aR 2 s), some (aR 1 k), some (aI (Int.tdiv sw 10)), some (aI (Int.tmod sw 10)), some (aI 5), none], [aR 0 0], M)
              refine hR _ (sp_Best_start (by omega) ?_)
              show R (104, [some (aR 7 0), some (aI sa), some (aI h), some (aI sw), some (aR 2 s), some (aR 1 k), some (aI (Int.tdiv sw 10)), some (aI (Int.tmod sw 10)), some (aI 5), none], [], am_wr (am_wr (am_wr M 100 0 0 (-1)) 101 0 0 0) 102 0 0 1)
              refine hR _ (hR _ (hR _ (?_)))
              show R (110, [some (aR 7 0), some (aI sa), some (aI h), some (aI sw), some (aR 2 s), some (aR 1 k), some (aI (Int.tdiv sw 10)), some (aI (Int.tmod sw 10)), some (aI 5), none], [aR 1 k, aR 1 5], am_wr (am_wr (am_wr M 100 0 0 (-1)) 101 0 0 0) 102 0 0 1)
              refine hR _ (sp_Hand_becomeLike (by omega) (by omega) ?_)
              show R (113, [some (aR 7 0), some (aI sa), some (aI h), some (aI sw), some (aR 2 s), some (aR 1 k), some (aI (Int.tdiv sw 10)), some (aI (Int.tmod sw 10)), some (aI 5), none], [], am_wr (am_wr (am_wr (am_wr (am_wr (am_wr (am_wr M 100 0 0 (-1)) 101 0 0 0) 102 0 0 1) 140 5 0 (M 140 k 0)) 141 5 0 (M 141 k 0)) 142 5 0 (M 142 k 0)) 143 5 0 (M 143 k 0))
              refine hR _ (hR _ (?_))
              show R (116, [some (aR 7 0), some (aI sa), some (aI h), some (aI sw), some (aR 2 s), some (aR 1 k), some (aI (Int.tdiv sw 10)), some (aI (Int.tmod sw 10)), some (aI 5), some (aI 0)], [], am_wr (am_wr (am_wr (am_wr (am_wr (am_wr (am_wr M 100 0 0 (-1)) 101 0 0 0) 102 0 0 1) 140 5 0 (M 140 k 0)) 141 5 0 (M 141 k 0)) 142 5 0 (M 142 k 0)) 143 5 0 (M 143 k 0))
              have hkw5 : jf_wk M 5 (M 228 0 0).toNat := hJ.wk (by omega)
              have hso : Int.tdiv sw 10 = 0 := by omega
              have hbn : jf_bfn (Int.tdiv sw 10) = 6 := by rw [hso]; rfl
              have hpf : ∀ v, jf_pf M k (Int.tdiv sw 10) v = jf_pk M k v := fun v => by rw [hso]; rfl
              have hbnd : ∀ i : Nat, i ≤ 6 → jf_bp (jf_bf M s k (Int.tdiv sw 10) i) 1000000000 65 100 := jf_best_b (by omega) (by omega) (by omega) (fun i hi => by
                have h1 := jf_pb_b (hJ.pf (k := k) (so := Int.tdiv sw 10) (v := (i : Int)) (by omega) (by omega) (by rw [hbn]; omega)) (M 21 s) (M 181 s 0).toNat
                dsimp only
                omega)
              have key : ∀ (n i : Nat) (x : Int) (g : am_M), x = (i : Int) → i + n = 6 → (g 100 0 0, g 101 0 0, g 102 0 0) = jf_bf M s k (Int.tdiv sw 10) i → jf_tr g M → (g 141 5 0 = M 141 k 0 ∧ g 142 5 0 = M 142 k 0 ∧ g 143 5 0 = M 143 k 0) → R (116, [some (aR 7 0), some (aI sa), some (aI h), some (aI sw), some (aR 2 s), some (aR 1 k), some (aI (Int.tdiv sw 10)), some (aI (Int.tmod sw 10)), some (aI 5), some (aI x)], [], am_mix [12, 13, 14, 263, 264, 265, 266, 346, 17, 19, 100, 101, 102, 140, 141, 142, 143] g M) := by
                intro n
                induction n with
                | zero =>
                  intro i x g hx hin hst htr h5
                  subst hx
                  have hi : i = 6 := by omega
                  rw [show i = jf_bfn (Int.tdiv sw 10) by omega] at hst
                  have hs1 : g 100 0 0 = (jf_bf M s k (Int.tdiv sw 10) (jf_bfn (Int.tdiv sw 10))).1 := congrArg (fun z => z.1) hst
                  have hs2 : g 101 0 0 = (jf_bf M s k (Int.tdiv sw 10) (jf_bfn (Int.tdiv sw 10))).2.1 := congrArg (fun z => z.2.1) hst
                  have hbd := (hbnd (jf_bfn (Int.tdiv sw 10)) (by omega)).1
                  refine hR _ (hR _ (hR _ (am_brt (rg := am_in ((i : Nat) : Int) ∧ am_in 5) (P := 5 < ((i : Nat) : Int)) (A := R (197, [some (aR 7 0), some (aI sa), some (aI h), some (aI sw), some (aR 2 s), some (aR 1 k), some (aI (Int.tdiv sw 10)), some (aI (Int.tmod sw 10)), some (aI 5), some (aI ((i : Nat) : Int))], [], am_mix [12, 13, 14, 263, 264, 265, 266, 346, 17, 19, 100, 101, 102, 140, 141, 142, 143] g M)) (B := R (123, [some (aR 7 0), some (aI sa), some (aI h), some (aI sw), some (aR 2 s), some (aR 1 k), some (aI (Int.tdiv sw 10)), some (aI (Int.tmod sw 10)), some (aI 5), some (aI ((i : Nat) : Int))], [], am_mix [12, 13, 14, 263, 264, 265, 266, 346, 17, 19, 100, 101, 102, 140, 141, 142, 143] g M)) (by omega) (by omega) ?_)))
                  show R (197, [some (aR 7 0), some (aI sa), some (aI h), some (aI sw), some (aR 2 s), some (aR 1 k), some (aI (Int.tdiv sw 10)), some (aI (Int.tmod sw 10)), some (aI 5), some (aI ((i : Nat) : Int))], [], am_mix [12, 13, 14, 263, 264, 265, 266, 346, 17, 19, 100, 101, 102, 140, 141, 142, 143] g M)
                  refine hR _ (hR _ (am_brc (rg := am_in (Int.tmod sw 10)) (P := (Int.tmod sw 10) ≠ 0) (A := R (213, [some (aR 7 0), some (aI sa), some (aI h), some (aI sw), some (aR 2 s), some (aR 1 k), some (aI (Int.tdiv sw 10)), some (aI (Int.tmod sw 10)), some (aI 5), some (aI ((i : Nat) : Int))], [], am_mix [12, 13, 14, 263, 264, 265, 266, 346, 17, 19, 100, 101, 102, 140, 141, 142, 143] g M)) (B := R (202, [some (aR 7 0), some (aI sa), some (aI h), some (aI sw), some (aR 2 s), some (aR 1 k), some (aI (Int.tdiv sw 10)), some (aI (Int.tmod sw 10)), some (aI 5), some (aI ((i : Nat) : Int))], [], am_mix [12, 13, 14, 263, 264, 265, 266, 346, 17, 19, 100, 101, 102, 140, 141, 142, 143] g M)) (by omega) (fun c199 => ?_) (fun c199 => ?_)))
                  · refine hR _ (hR _ (hR _ (?_)))
                    show R (220, [some (aR 7 0), some (aI sa), some (aI h), some (aI sw), some (aR 2 s), some (aR 1 k), some (aI (Int.tdiv sw 10)), some (aI (Int.tmod sw 10)), some (aI 5), some (aI ((i : Nat) : Int))], [aL (g 101 0 0)], am_mix [12, 13, 14, 263, 264, 265, 266, 346, 17, 19, 100, 101, 102, 140, 141, 142, 143] g M)
                    refine hR _ (show K (some (aL (g 101 0 0))) (am_mix [12, 13, 14, 263, 264, 265, 266, 346, 17, 19, 100, 101, 102, 140, 141, 142, 143] g M) from ?_)
                    have hres : jx_fits M sa h sw = g 101 0 0 := by
                      subst hhk
                      subst hhs
                      unfold jx_fits
                      rw [Int.toNat_natCast, Int.toNat_natCast, if_pos (by omega), if_neg (by omega), if_pos (by omega), if_pos (by omega), hs2]
                    rw [hres] at hK
                    exact hK _ htr
                  · refine hR _ (hR _ (hR _ (?_)))
                    show R (209, [some (aR 7 0), some (aI sa), some (aI h), some (aI sw), some (aR 2 s), some (aR 1 k), some (aI (Int.tdiv sw 10)), some (aI (Int.tmod sw 10)), some (aI 5), some (aI ((i : Nat) : Int))], [aI (g 100 0 0)], am_mix [12, 13, 14, 263, 264, 265, 266, 346, 17, 19, 100, 101, 102, 140, 141, 142, 143] g M)
                    refine hR _ ⟨(by omega), ?_⟩
                    show R (210, [some (aR 7 0), some (aI sa), some (aI h), some (aI sw), some (aR 2 s), some (aR 1 k), some (aI (Int.tdiv sw 10)), some (aI (Int.tmod sw 10)), some (aI 5), some (aI ((i : Nat) : Int))], [aL (g 100 0 0)], am_mix [12, 13, 14, 263, 264, 265, 266, 346, 17, 19, 100, 101, 102, 140, 141, 142, 143] g M)
                    refine hR _ (?_)
                    show R (220, [some (aR 7 0), some (aI sa), some (aI h), some (aI sw), some (aR 2 s), some (aR 1 k), some (aI (Int.tdiv sw 10)), some (aI (Int.tmod sw 10)), some (aI 5), some (aI ((i : Nat) : Int))], [aL (g 100 0 0)], am_mix [12, 13, 14, 263, 264, 265, 266, 346, 17, 19, 100, 101, 102, 140, 141, 142, 143] g M)
                    refine hR _ (show K (some (aL (g 100 0 0))) (am_mix [12, 13, 14, 263, 264, 265, 266, 346, 17, 19, 100, 101, 102, 140, 141, 142, 143] g M) from ?_)
                    have hres : jx_fits M sa h sw = g 100 0 0 := by
                      subst hhk
                      subst hhs
                      unfold jx_fits
                      rw [Int.toNat_natCast, Int.toNat_natCast, if_pos (by omega), if_neg (by omega), if_pos (by omega), if_neg (by omega), hs1]
                    rw [hres] at hK
                    exact hK _ htr
                | succ n ih =>
                  intro i x g hx hin hst htr h5
                  subst hx
                  have hb := hbnd i (by omega)
                  rw [← hst] at hb
                  have hb1 : -1 ≤ g 100 0 0 ∧ g 100 0 0 ≤ 100 := hb.1
                  have hb2 : -1000000000 ≤ g 101 0 0 ∧ g 101 0 0 ≤ 1000000000 := hb.2.1
                  have hb3 : 1 ≤ g 102 0 0 ∧ g 102 0 0 ≤ 65 := hb.2.2
                  have hpe : jf_xp (am_wr (am_mix [12, 13, 14, 263, 264, 265, 266, 346, 17, 19, 100, 101, 102, 140, 141, 142, 143] g M) 140 5 0 ((i : Nat) : Int)) 5 (M 228 0 0).toNat (M 220 0 0) 0 = jf_pk M k ((i : Nat) : Int) := by
                    show (((i : Nat) : Int), g 141 5 0, g 142 5 0, g 143 5 0, M 221 0 0, M 222 0 0, M 223 0 0, jf_tk M (M 228 0 0).toNat, M 220 0 0, 0) = _
                    rw [h5.1, h5.2.1, h5.2.2]
                  have hokv : jf_ok (jf_pk M k ((i : Nat) : Int)) := hJ.pk (by omega) (by omega)
                  have hpbv := jf_pb_b hokv (M 21 s) (M 181 s 0).toNat
                  refine hR _ (hR _ (hR _ (am_brf (rg := am_in ((i : Nat) : Int) ∧ am_in 5) (P := 5 < ((i : Nat) : Int)) (A := R (197, [some (aR 7 0), some (aI sa), some (aI h), some (aI sw), some (aR 2 s), some (aR 1 k), some (aI (Int.tdiv sw 10)), some (aI (Int.tmod sw 10)), some (aI 5), some (aI ((i : Nat) : Int))], [], am_mix [12, 13, 14, 263, 264, 265, 266, 346, 17, 19, 100, 101, 102, 140, 141, 142, 143] g M)) (B := R (123, [some (aR 7 0), some (aI sa), some (aI h), some (aI sw), some (aR 2 s), some (aR 1 k), some (aI (Int.tdiv sw 10)), some (aI (Int.tmod sw 10)), some (aI 5), some (aI ((i : Nat) : Int))], [], am_mix [12, 13, 14, 263, 264, 265, 266, 346, 17, 19, 100, 101, 102, 140, 141, 142, 143] g M)) (by omega) (by omega) ?_)))
                  show R (123, [some (aR 7 0), some (aI sa), some (aI h), some (aI sw), some (aR 2 s), some (aR 1 k), some (aI (Int.tdiv sw 10)), some (aI (Int.tmod sw 10)), some (aI 5), some (aI ((i : Nat) : Int))], [], am_mix [12, 13, 14, 263, 264, 265, 266, 346, 17, 19, 100, 101, 102, 140, 141, 142, 143] g M)
                  refine hR _ (hR _ (am_brf (rg := am_in (Int.tdiv sw 10)) (P := (Int.tdiv sw 10) ≠ 0) (A := R (140, [some (aR 7 0), some (aI sa), some (aI h), some (aI sw), some (aR 2 s), some (aR 1 k), some (aI (Int.tdiv sw 10)), some (aI (Int.tmod sw 10)), some (aI 5), some (aI ((i : Nat) : Int))], [], am_mix [12, 13, 14, 263, 264, 265, 266, 346, 17, 19, 100, 101, 102, 140, 141, 142, 143] g M)) (B := R (128, [some (aR 7 0), some (aI sa), some (aI h), some (aI sw), some (aR 2 s), some (aR 1 k), some (aI (Int.tdiv sw 10)), some (aI (Int.tmod sw 10)), some (aI 5), some (aI ((i : Nat) : Int))], [], am_mix [12, 13, 14, 263, 264, 265, 266, 346, 17, 19, 100, 101, 102, 140, 141, 142, 143] g M)) (by omega) (by omega) ?_))
                  show R (128, [some (aR 7 0), some (aI sa), some (aI h), some (aI sw), some (aR 2 s), some (aR 1 k), some (aI (Int.tdiv sw 10)), some (aI (Int.tmod sw 10)), some (aI 5), some (aI ((i : Nat) : Int))], [], am_mix [12, 13, 14, 263, 264, 265, 266, 346, 17, 19, 100, 101, 102, 140, 141, 142, 143] g M)
                  refine hR _ (hR _ (hR _ (hR _ (hR _ (hR _ (hR _ (hR _ (hR _ (hR _ (hR _ (hR _ (hR _ (?_)))))))))))))
                  show R (181, [some (aR 7 0), some (aI sa), some (aI h), some (aI sw), some (aR 2 s), some (aR 1 k), some (aI (Int.tdiv sw 10)), some (aI (Int.tmod sw 10)), some (aI 5), some (aI ((i : Nat) : Int))], [aR 7 0, aR 1 5, aR 2 s, aR 7 0, aI ((i : Nat) : Int), aR 0 0], am_wr (am_mix [12, 13, 14, 263, 264, 265, 266, 346, 17, 19, 100, 101, 102, 140, 141, 142, 143] g M) 140 5 0 ((i : Nat) : Int))
                  refine hR _ (sp_lawText (by omega) hlt ?_)
                  show R (184, [some (aR 7 0), some (aI sa), some (aI h), some (aI sw), some (aR 2 s), some (aR 1 k), some (aI (Int.tdiv sw 10)), some (aI (Int.tmod sw 10)), some (aI 5), some (aI ((i : Nat) : Int))], [aR 6 ((M 228 0 0).toNat), aR 1 5, aR 2 s, aR 7 0, aI ((i : Nat) : Int), aR 0 0], am_wr (am_mix [12, 13, 14, 263, 264, 265, 266, 346, 17, 19, 100, 101, 102, 140, 141, 142, 143] g M) 140 5 0 ((i : Nat) : Int))
                  refine hR _ (sp_partsBy (k := 5) (t := (M 228 0 0).toNat) (by omega) (by omega) (hJ.2.2.2.1 _ (by omega)) hkw5 (show jf_ok (jf_xp (am_wr (am_mix [12, 13, 14, 263, 264, 265, 266, 346, 17, 19, 100, 101, 102, 140, 141, 142, 143] g M) 140 5 0 ((i : Nat) : Int)) 5 (M 228 0 0).toNat (M 220 0 0) 0) from hpe.symm ▸ hokv) (fun g100 => ?_))
                  show R (187, [some (aR 7 0), some (aI sa), some (aI h), some (aI sw), some (aR 2 s), some (aR 1 k), some (aI (Int.tdiv sw 10)), some (aI (Int.tmod sw 10)), some (aI 5), some (aI ((i : Nat) : Int))], [aL (jf_pb (jf_xp (am_wr (am_mix [12, 13, 14, 263, 264, 265, 266, 346, 17, 19, 100, 101, 102, 140, 141, 142, 143] g M) 140 5 0 ((i : Nat) : Int)) 5 (M 228 0 0).toNat (M 220 0 0) 0) (M 21 s) (M 181 s 0).toNat), aI ((i : Nat) : Int), aR 0 0], am_mix [12, 13, 14, 263, 264, 265, 266, 346, 17, 19] g100 (am_wr (am_mix [12, 13, 14, 263, 264, 265, 266, 346, 17, 19, 100, 101, 102, 140, 141, 142, 143] g M) 140 5 0 ((i : Nat) : Int)))
                  rw [hpe]
                  show R (187, [some (aR 7 0), some (aI sa), some (aI h), some (aI sw), some (aR 2 s), some (aR 1 k), some (aI (Int.tdiv sw 10)), some (aI (Int.tmod sw 10)), some (aI 5), some (aI ((i : Nat) : Int))], [aL (jf_pb (jf_pk M k ((i : Nat) : Int)) (M 21 s) (M 181 s 0).toNat), aI ((i : Nat) : Int), aR 0 0], am_mix [12, 13, 14, 263, 264, 265, 266, 346, 17, 19] g100 (am_wr (am_mix [12, 13, 14, 263, 264, 265, 266, 346, 17, 19, 100, 101, 102, 140, 141, 142, 143] g M) 140 5 0 ((i : Nat) : Int)))
                  refine hR _ (?_)
                  show R (188, [some (aR 7 0), some (aI sa), some (aI h), some (aI sw), some (aR 2 s), some (aR 1 k), some (aI (Int.tdiv sw 10)), some (aI (Int.tmod sw 10)), some (aI 5), some (aI ((i : Nat) : Int))], [aL 1, aL (jf_pb (jf_pk M k ((i : Nat) : Int)) (M 21 s) (M 181 s 0).toNat), aI ((i : Nat) : Int), aR 0 0], am_mix [12, 13, 14, 263, 264, 265, 266, 346, 17, 19] g100 (am_wr (am_mix [12, 13, 14, 263, 264, 265, 266, 346, 17, 19, 100, 101, 102, 140, 141, 142, 143] g M) 140 5 0 ((i : Nat) : Int)))
                  refine hR _ (sp_offer (by omega) (show am_in (g 100 0 0) from by omega) (show -1000000000000000000 ≤ (jf_pb (jf_pk M k ((i : Nat) : Int)) (M 21 s) (M 181 s 0).toNat) * g 102 0 0 ∧ (jf_pb (jf_pk M k ((i : Nat) : Int)) (M 21 s) (M 181 s 0).toNat) * g 102 0 0 ≤ 1000000000000000000 from by have hx := jf_mb (a := (jf_pb (jf_pk M k ((i : Nat) : Int)) (M 21 s) (M 181 s 0).toNat)) (b := g 102 0 0) (A := 1000000000) (B := 65) (by omega) (by omega); omega) (show -1000000000000000000 ≤ g 101 0 0 * 1 ∧ g 101 0 0 * 1 ≤ 1000000000000000000 from by have hx := jf_mb (a := g 101 0 0) (b := 1) (A := 1000000000) (B := 65) (by omega) (by omega); omega) (fun g101 hof => ?_))
                  replace hof : (g101 100 0 0, g101 101 0 0, g101 102 0 0) = jf_bst (g 100 0 0, g 101 0 0, g 102 0 0) ((i : Nat) : Int) (jf_pb (jf_pk M k ((i : Nat) : Int)) (M 21 s) (M 181 s 0).toNat) 1 := hof
                  show R (191, [some (aR 7 0), some (aI sa), some (aI h), some (aI sw), some (aR 2 s), some (aR 1 k), some (aI (Int.tdiv sw 10)), some (aI (Int.tmod sw 10)), some (aI 5), some (aI ((i : Nat) : Int))], [], am_mix [100, 101, 102] g101 (am_mix [12, 13, 14, 263, 264, 265, 266, 346, 17, 19] g100 (am_wr (am_mix [12, 13, 14, 263, 264, 265, 266, 346, 17, 19, 100, 101, 102, 140, 141, 142, 143] g M) 140 5 0 ((i : Nat) : Int))))
                  refine hR _ (hR _ (?_))
                  show R (116, [some (aR 7 0), some (aI sa), some (aI h), some (aI sw), some (aR 2 s), some (aR 1 k), some (aI (Int.tdiv sw 10)), some (aI (Int.tmod sw 10)), some (aI 5), some (aI (((i : Nat) : Int) + 1))], [], am_mix [100, 101, 102] g101 (am_mix [12, 13, 14, 263, 264, 265, 266, 346, 17, 19] g100 (am_wr (am_mix [12, 13, 14, 263, 264, 265, 266, 346, 17, 19, 100, 101, 102, 140, 141, 142, 143] g M) 140 5 0 ((i : Nat) : Int))))
                  have e9 : am_ag [12, 13, 14, 263, 264, 265, 266, 346, 17, 19, 100, 101, 102, 140, 141, 142, 143] M (am_mix [100, 101, 102] g101 (am_mix [12, 13, 14, 263, 264, 265, 266, 346, 17, 19] g100 (am_wr (am_mix [12, 13, 14, 263, 264, 265, 266, 346, 17, 19, 100, 101, 102, 140, 141, 142, 143] g M) 140 5 0 ((i : Nat) : Int)))) := ((((am_ag.rf).mix rfl).wr rfl).mix rfl).mix rfl
                  rw [e9.eq]
                  refine ih (i + 1) _ _ rfl (by omega) ?_ ?_ h5
                  · refine hof.trans ?_
                    rw [hst, ← hpf]
                    rfl
                  · intro j hj
                    have hw : ∀ v, (am_wr (am_mix [12, 13, 14, 263, 264, 265, 266, 346, 17, 19, 100, 101, 102, 140, 141, 142, 143] g M) 140 5 0 ((i : Nat) : Int)) v j 0 = am_mix [12, 13, 14, 263, 264, 265, 266, 346, 17, 19, 100, 101, 102, 140, 141, 142, 143] g M v j 0 := fun v => jf_wr5 hj
                    exact ⟨(hw 140).trans (htr j hj).1, (hw 141).trans (htr j hj).2.1, (hw 142).trans (htr j hj).2.2.1, (hw 143).trans (htr j hj).2.2.2⟩
              have e9 : am_ag [12, 13, 14, 263, 264, 265, 266, 346, 17, 19, 100, 101, 102, 140, 141, 142, 143] M (am_wr (am_wr (am_wr (am_wr (am_wr (am_wr (am_wr M 100 0 0 (-1)) 101 0 0 0) 102 0 0 1) 140 5 0 (M 140 k 0)) 141 5 0 (M 141 k 0)) 142 5 0 (M 142 k 0)) 143 5 0 (M 143 k 0)) := (((((((am_ag.rf).wr rfl).wr rfl).wr rfl).wr rfl).wr rfl).wr rfl).wr rfl
              rw [e9.eq]
              refine key 6 0 _ _ rfl rfl rfl ?_ ⟨rfl, rfl, rfl⟩
              intro j hj
              have hw : ∀ v, (am_wr (am_wr (am_wr (am_wr (am_wr (am_wr (am_wr M 100 0 0 (-1)) 101 0 0 0) 102 0 0 1) 140 5 0 (M 140 k 0)) 141 5 0 (M 141 k 0)) 142 5 0 (M 142 k 0)) 143 5 0 (M 143 k 0)) v j 0 = (am_wr (am_wr (am_wr M 100 0 0 (-1)) 101 0 0 0) 102 0 0 1) v j 0 := fun v => (jf_wr5 hj).trans ((jf_wr5 hj).trans ((jf_wr5 hj).trans (jf_wr5 hj)))
              exact ⟨hw 140, hw 141, hw 142, hw 143⟩
          · show R (66, [some (aR 7 0), some (aI sa), some (aI h), some (aI sw), some (aR 2 s), some (aR 1 k), some (aI (Int.tdiv sw 10)), some (aI (Int.tmod sw 10)), none, none], [aI 0], M)
            refine hR _ (am_brf (rg := am_in 0) (P := (0 : Int) ≠ 0) (A := R (73, [some (aR 7 0), some (aI sa), some (aI h), some (aI sw), some (aR 2 s), some (aR 1 k), some (aI (Int.tdiv sw 10)), some (aI (Int.tmod sw 10)), none, none], [], M)) (B := R (69, [some (aR 7 0), some (aI sa), some (aI h), some (aI sw), some (aR 2 s), some (aR 1 k), some (aI (Int.tdiv sw 10)), some (aI (Int.tmod sw 10)), none, none], [], M)) (by omega) (by omega) ?_)
            show R (69, [some (aR 7 0), some (aI sa), some (aI h), some (aI sw), some (aR 2 s), some (aR 1 k), some (aI (Int.tdiv sw 10)), some (aI (Int.tmod sw 10)), none, none], [], M)
            refine hR _ (?_)
            show R (72, [some (aR 7 0), some (aI sa), some (aI h), some (aI sw), some (aR 2 s), some (aR 1 k), some (aI (Int.tdiv sw 10)), some (aI (Int.tmod sw 10)), none, none], [aL (-4611686018427387904)], M)
            refine hR _ (show K (some (aL (-4611686018427387904))) M from ?_)
            have hres : jx_fits M sa h sw = (-4611686018427387904) := by
              subst hhs
              subst hhk
              unfold jx_fits
              rw [Int.toNat_natCast]
              repeat' split
              all_goals first | omega | rfl
            rw [hres] at hK
            have e9 : am_ag [12, 13, 14, 263, 264, 265, 266, 346, 17, 19, 100, 101, 102, 140, 141, 142, 143] M M := am_ag.rf
            rw [e9.eq]
            exact hK _ (fun j hj => ⟨rfl, rfl, rfl, rfl⟩)
        · show R (56, [some (aR 7 0), some (aI sa), some (aI h), some (aI sw), some (aR 2 s), some (aR 1 k), some (aI (Int.tdiv sw 10)), some (aI (Int.tmod sw 10)), none, none], [aI 0], M)
          refine hR _ (am_brt (rg := am_in 0) (P := (0 : Int) = 0) (A := R (69, [some (aR 7 0), some (aI sa), some (aI h), some (aI sw), some (aR 2 s), some (aR 1 k), some (aI (Int.tdiv sw 10)), some (aI (Int.tmod sw 10)), none, none], [], M)) (B := R (59, [some (aR 7 0), some (aI sa), some (aI h), some (aI sw), some (aR 2 s), some (aR 1 k), some (aI (Int.tdiv sw 10)), some (aI (Int.tmod sw 10)), none, none], [], M)) (by omega) (by omega) ?_)
          show R (69, [some (aR 7 0), some (aI sa), some (aI h), some (aI sw), some (aR 2 s), some (aR 1 k), some (aI (Int.tdiv sw 10)), some (aI (Int.tmod sw 10)), none, none], [], M)
          refine hR _ (?_)
          show R (72, [some (aR 7 0), some (aI sa), some (aI h), some (aI sw), some (aR 2 s), some (aR 1 k), some (aI (Int.tdiv sw 10)), some (aI (Int.tmod sw 10)), none, none], [aL (-4611686018427387904)], M)
          refine hR _ (show K (some (aL (-4611686018427387904))) M from ?_)
          have hres : jx_fits M sa h sw = (-4611686018427387904) := by
            subst hhs
            subst hhk
            unfold jx_fits
            rw [Int.toNat_natCast]
            repeat' split
            all_goals first | omega | rfl
          rw [hres] at hK
          have e9 : am_ag [12, 13, 14, 263, 264, 265, 266, 346, 17, 19, 100, 101, 102, 140, 141, 142, 143] M M := am_ag.rf
          rw [e9.eq]
          exact hK _ (fun j hj => ⟨rfl, rfl, rfl, rfl⟩)
    · replace hno : ¬ (0 ≤ h ∧ h < M 227 0 0) := hno
      show R (12, [some (aR 7 0), some (aI sa), some (aI h), some (aI sw), some (aR 2 s), none, none, none, none, none], [aN], M)
      refine hR _ (hR _ (hR _ (hR _ (?_))))
      show R (21, [some (aR 7 0), some (aI sa), some (aI h), some (aI sw), some (aR 2 s), some (aN), none, none, none, none], [aR 2 s], M)
      refine hR _ (am_ct (am_vi (by omega : s < 4)) ?_)
      show R (24, [some (aR 7 0), some (aI sa), some (aI h), some (aI sw), some (aR 2 s), some (aN), none, none, none, none], [aI (M 180 s 0)], M)
      refine hR _ (hR _ (am_brc (rg := am_in (M 180 s 0) ∧ am_in (-1)) (P := M 180 s 0 = (-1)) (A := R (33, [some (aR 7 0), some (aI sa), some (aI h), some (aI sw), some (aR 2 s), some (aN), none, none, none, none], [], M)) (B := R (28, [some (aR 7 0), some (aI sa), some (aI h), some (aI sw), some (aR 2 s), some (aN), none, none, none, none], [], M)) (by omega) (fun c25 => ?_) (fun c25 => ?_)))
      · refine hR _ (?_)
        show R (36, [some (aR 7 0), some (aI sa), some (aI h), some (aI sw), some (aR 2 s), some (aN), none, none, none, none], [aL (-4611686018427387904)], M)
        refine hR _ (show K (some (aL (-4611686018427387904))) M from ?_)
        have hres : jx_fits M sa h sw = (-4611686018427387904) := by
          subst hhs
          unfold jx_fits
          rw [Int.toNat_natCast]
          repeat' split
          all_goals first | omega | rfl
        rw [hres] at hK
        have e9 : am_ag [12, 13, 14, 263, 264, 265, 266, 346, 17, 19, 100, 101, 102, 140, 141, 142, 143] M M := am_ag.rf
        rw [e9.eq]
        exact hK _ (fun j hj => ⟨rfl, rfl, rfl, rfl⟩)
      · refine hR _ (hR _ (hR _ (?_)))
        show R (36, [some (aR 7 0), some (aI sa), some (aI h), some (aI sw), some (aR 2 s), some (aN), none, none, none, none], [aL (-4611686018427387904)], M)
        refine hR _ (show K (some (aL (-4611686018427387904))) M from ?_)
        have hres : jx_fits M sa h sw = (-4611686018427387904) := by
          subst hhs
          unfold jx_fits
          rw [Int.toNat_natCast]
          repeat' split
          all_goals first | omega | rfl
        rw [hres] at hK
        have e9 : am_ag [12, 13, 14, 263, 264, 265, 266, 346, 17, 19, 100, 101, 102, 140, 141, 142, 143] M M := am_ag.rf
        rw [e9.eq]
        exact hK _ (fun j hj => ⟨rfl, rfl, rfl, rfl⟩)
  · show R (5, [some (aR 7 0), some (aI sa), some (aI h), some (aI sw), none, none, none, none, none, none], [aN], M)
    refine hR _ (hR _ (hR _ (?_)))
    show R (9, [some (aR 7 0), some (aI sa), some (aI h), some (aI sw), some (aN), none, none, none, none, none], [aI h, aR 7 0], M)
    refine hR _ (sp_handAt (by omega) hn (by omega) (fun k hhk hk5 => ?_) (fun hno => ?_))
    · replace hk5 : (k : Int) < M 227 0 0 := hk5
      have hkw := hJ.wk (k := k) (by omega)
      have hok := hJ.px (k := k) (by omega)
      show R (12, [some (aR 7 0), some (aI sa), some (aI h), some (aI sw), some (aN), none, none, none, none, none], [aR 1 k], M)
      refine hR _ (hR _ (hR _ (hR _ (?_))))
      show R (36, [some (aR 7 0), some (aI sa), some (aI h), some (aI sw), some (aN), some (aR 1 k), none, none, none, none], [aL (-4611686018427387904)], M)
      refine hR _ (show K (some (aL (-4611686018427387904))) M from ?_)
      have hres : jx_fits M sa h sw = (-4611686018427387904) := by
        subst hhk
        unfold jx_fits
        repeat' split
        all_goals first | omega | rfl
      rw [hres] at hK
      have e9 : am_ag [12, 13, 14, 263, 264, 265, 266, 346, 17, 19, 100, 101, 102, 140, 141, 142, 143] M M := am_ag.rf
      rw [e9.eq]
      exact hK _ (fun j hj => ⟨rfl, rfl, rfl, rfl⟩)
    · replace hno : ¬ (0 ≤ h ∧ h < M 227 0 0) := hno
      show R (12, [some (aR 7 0), some (aI sa), some (aI h), some (aI sw), some (aN), none, none, none, none, none], [aN], M)
      refine hR _ (hR _ (hR _ (hR _ (?_))))
      show R (36, [some (aR 7 0), some (aI sa), some (aI h), some (aI sw), some (aN), some (aN), none, none, none, none], [aL (-4611686018427387904)], M)
      refine hR _ (show K (some (aL (-4611686018427387904))) M from ?_)
      have hres : jx_fits M sa h sw = (-4611686018427387904) := by
        unfold jx_fits
        repeat' split
        all_goals first | omega | rfl
      rw [hres] at hK
      have e9 : am_ag [12, 13, 14, 263, 264, 265, 266, 346, 17, 19, 100, 101, 102, 140, 141, 142, 143] M M := am_ag.rf
      rw [e9.eq]
      exact hK _ (fun j hj => ⟨rfl, rfl, rfl, rfl⟩)

theorem sp_append {d : Nat} (hd : 3 ≤ d) {s : Nat} {v : Int} {M : am_M} {K : am_K} (hs : s < 4) (hz : 0 ≤ M 181 s 0 ∧ M 181 s 0 ≤ 39) (hso : am_in (M 180 s 0)) (hv : am_in v) (h : K none (am_wr (am_wr M 181 s 0 (M 181 s 0 + 1)) 21 s (M 181 s 0).toNat (jf_put (M 180 s 0) v))) : am_Call wb d 104 [aR 2 s, aI v] M K := by
  obtain ⟨d, rfl⟩ : ∃ e, d = e + 1 := ⟨d - 1, by omega⟩
  refine ⟨rfl, fun R hR hC => ?_⟩
  replace hR : ∀ c, am_F wb tb_f104 0 (am_Call wb d) K R c → R c := hR
  show R (0, [some (aR 2 s), some (aI v)], [], M)
  refine hR _ (?_)
  show R (1, [some (aR 2 s), some (aI v)], [aR 2 s], M)
  refine hR _ (am_ct (am_vi (by omega : s < 4)) ?_)
  show R (4, [some (aR 2 s), some (aI v)], [aI (M 181 s 0)], M)
  refine hR _ (hR _ (am_brt (rg := am_in (M 181 s 0) ∧ am_in 40) (P := M 181 s 0 < 40) (A := R (10, [some (aR 2 s), some (aI v)], [], M)) (B := R (9, [some (aR 2 s), some (aI v)], [], M)) (by omega) (by omega) ?_))
  show R (10, [some (aR 2 s), some (aI v)], [], M)
  refine hR _ (hR _ (?_))
  show R (12, [some (aR 2 s), some (aI v)], [aR 2 s, aR 2 s], M)
  refine hR _ (am_ct (am_vi (by omega : s < 4)) ?_)
  show R (15, [some (aR 2 s), some (aI v)], [aI (M 181 s 0), aR 2 s], M)
  refine hR _ (hR _ (?_))
  show R (17, [some (aR 2 s), some (aI v)], [aI (M 181 s 0 + 1), aR 2 s], M)
  refine hR _ (am_ct (am_vi (by omega : s < 4)) ?_)
  show R (20, [some (aR 2 s), some (aI v)], [], am_wr M 181 s 0 (M 181 s 0 + 1))
  refine hR _ (hR _ (?_))
  show R (22, [some (aR 2 s), some (aI v)], [aR 2 s, aR 2 s], am_wr M 181 s 0 (M 181 s 0 + 1))
  refine hR _ (am_ct (am_vi (by omega : s < 4)) ?_)
  show R (25, [some (aR 2 s), some (aI v)], [aI ((am_wr M 181 s 0 (M 181 s 0 + 1)) 181 s 0), aR 2 s], am_wr M 181 s 0 (M 181 s 0 + 1))
  rw [am_wr_eq]
  refine hR _ (hR _ (hR _ (?_)))
  show R (28, [some (aR 2 s), some (aI v)], [aI v, aI ((M 181 s 0 + 1) - 1), aR 2 s], am_wr M 181 s 0 (M 181 s 0 + 1))
  refine hR _ (am_ct (am_vi (by omega : s < 4)) (sp_write (by omega) (by omega) (by omega) (show am_in (M 180 s 0) from by omega) (by omega) ?_))
  show R (31, [some (aR 2 s), some (aI v)], [], am_wr (am_wr M 181 s 0 (M 181 s 0 + 1)) 21 s ((((M 181 s 0 + 1) - 1)).toNat) (jf_put (M 180 s 0) v))
  refine hR _ (show K none (am_wr (am_wr M 181 s 0 (M 181 s 0 + 1)) 21 s ((((M 181 s 0 + 1) - 1)).toNat) (jf_put (M 180 s 0) v)) from ?_)
  rw [show ((M 181 s 0 + 1) - 1).toNat = (M 181 s 0).toNat by omega]
  exact h
