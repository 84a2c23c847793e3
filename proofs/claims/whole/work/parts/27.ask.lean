/-! wb -/
variable {wb : Bool}
/-! What the class's questions answer -/
def jx_stops (M : am_M) (h a w : Int) : Int := if 0 ≤ h ∧ h < M 227 0 0 then (if (0 ≤ a ∧ a ≤ 4) ∧ 0 ≤ w ∧ w ≤ 3 then (if w = 0 then jf_E (jf_px M h.toNat) a.toNat else if w = 1 then jf_T (jf_px M h.toNat) a.toNat else if w = 2 then jf_O (jf_px M h.toNat) a.toNat else (jf_P (jf_px M h.toNat)).2.2) else -7) else -5
def jx_chance (M : am_M) (h s q : Int) : Int := if (0 ≤ h ∧ h < M 227 0 0) ∧ 0 ≤ s ∧ s ≤ 2 then jf_il (if s = 0 then jf_at (jf_px M h.toNat) (M 220 0 0) else if s = 1 then jf_ab (jf_px M h.toNat) (M 220 0 0) else jf_A (jf_px M h.toNat) - jf_at (jf_px M h.toNat) (M 220 0 0) - jf_ab (jf_px M h.toNat) (M 220 0 0)) (jf_A (jf_px M h.toNat)) q else -4611686018427387904
def jx_mean (M : am_M) (h q : Int) : Int := if 0 ≤ h ∧ h < M 227 0 0 then jf_il (jf_cc (jf_px M h.toNat) (M 220 0 0)) (jf_A (jf_px M h.toNat)) q else -4611686018427387904
def jx_time (M : am_M) (h q : Int) : Int := if 0 ≤ h ∧ h < M 227 0 0 then jf_il (jf_tt (jf_px M h.toNat)) (jf_A (jf_px M h.toNat)) q else -4611686018427387904
def jx_at (M : am_M) (h e q : Int) : Int := if (0 ≤ h ∧ h < M 227 0 0) ∧ 0 ≤ e ∧ e ≤ 5000 then jf_il (jf_at (jf_px M h.toNat) e) (jf_A (jf_px M h.toNat)) q else -4611686018427387904
def jx_full (M : am_M) (h s q : Int) : Int := if (0 ≤ h ∧ h < M 227 0 0) ∧ 0 ≤ s ∧ s ≤ 1 then jf_il (if (M 223 0 0 < M 220 0 0 ∧ s = 0) ∨ (¬ M 223 0 0 < M 220 0 0 ∧ s = 1) then jf_at (jf_px M h.toNat) (M 223 0 0) else 0) (jf_A (jf_px M h.toNat)) q else -4611686018427387904
def jx_spread (M : am_M) (h : Int) : Int := if 0 ≤ h ∧ h < M 227 0 0 then jf_ms (jf_px M h.toNat) 5 - jf_ls (jf_px M h.toNat) 5 else -5
def jx_alike (M : am_M) (h n q : Int) : Int := if (0 ≤ h ∧ h < M 227 0 0) ∧ 1 ≤ n ∧ n ≤ 4 then jf_il (jf_al (jf_px M h.toNat) n.toNat) (jf_pw (jf_A (jf_px M h.toNat)) n.toNat) q else -4611686018427387904
def jx_drawn (M : am_M) (sd h w : Int) : Int := if 0 ≤ h ∧ h < M 227 0 0 then (if (0 ≤ sd ∧ sd ≤ 99999) ∧ 0 ≤ w ∧ w ≤ 1 then (if w = 0 then jf_E (jf_px M h.toNat) (jf_lb (jf_px M h.toNat) sd) else (jf_lb (jf_px M h.toNat) sd : Int)) else -7) else -5
def jf_od (p : jf_par) (sd mk : Int) : Nat → Int
  | 0 => 0
  | n + 1 => if jf_E p (jf_lb p (sd + n)) = mk then jf_od p sd mk n + 1 else jf_od p sd mk n
def jx_odds (M : am_M) (sd n h q : Int) : Int := if (0 ≤ sd ∧ sd ≤ 99999) ∧ (1 ≤ n ∧ n ≤ 99) ∧ 0 ≤ h ∧ h < M 227 0 0 then jf_il (jf_od (jf_px M h.toNat) sd (M 220 0 0) n.toNat) n q else -4611686018427387904
theorem jf_od_b (p : jf_par) (sd mk : Int) : ∀ n : Nat, 0 ≤ jf_od p sd mk n ∧ jf_od p sd mk n ≤ n
  | 0 => by
    unfold jf_od
    omega
  | n + 1 => by
    have := jf_od_b p sd mk n
    unfold jf_od
    split <;> omega
theorem jf_pw_m {v : Int} (hv : 1 ≤ v ∧ v ≤ 65) : ∀ n, n ≤ 4 → 1 ≤ jf_pw v n ∧ jf_pw v n ≤ 17850625 := by
  have key : ∀ n, 1 ≤ jf_pw v n ∧ jf_pw v n ≤ jf_pw 65 n := by
    intro n
    induction n with
    | zero => exact ⟨Int.le_refl _, Int.le_refl _⟩
    | succ n ih =>
      have h1 : 1 * 1 ≤ jf_pw v n * v := Int.mul_le_mul ih.1 hv.1 (by omega) (by omega)
      exact ⟨h1, Int.mul_le_mul ih.2 hv.2 (by omega) (by omega)⟩
  intro n hn
  have h := key n
  match n, hn with
  | 0, _ => exact ⟨h.1, Int.le_trans h.2 (by decide)⟩
  | 1, _ => exact ⟨h.1, Int.le_trans h.2 (by decide)⟩
  | 2, _ => exact ⟨h.1, Int.le_trans h.2 (by decide)⟩
  | 3, _ => exact ⟨h.1, Int.le_trans h.2 (by decide)⟩
  | 4, _ => exact ⟨h.1, Int.le_trans h.2 (by decide)⟩
theorem jf_al_b {p : jf_par} (hp : jf_ok p) {n : Nat} (hn : n ≤ 4) : 0 ≤ jf_al p n ∧ jf_al p n ≤ 89253125 := by
  have := jf_su_b (f := fun a => if jf_fi p a a = 0 then 0 else jf_pw (jf_at p (jf_E p a)) n) (n := 17850625) fun a ha => by
    have h1 := jf_pw_b (jf_at_b hp (jf_E p a)) n
    have h2 := jf_pw_m (v := 65) (by omega) n hn
    split <;> omega
  exact this
theorem jf_at_A {p : jf_par} (hp : jf_ok p) (e : Int) : jf_at p e ≤ jf_A p := by
  rw [jf_A_sum hp]
  have h0 := jf_O_b hp (a := 0) (by omega)
  have h1 := jf_O_b hp (a := 1) (by omega)
  have h2 := jf_O_b hp (a := 2) (by omega)
  have h3 := jf_O_b hp (a := 3) (by omega)
  have h4 := jf_O_b hp (a := 4) (by omega)
  unfold jf_at jf_su
  dsimp only
  have : ∀ (x y z : Int) , 0 ≤ z → (if x = y then z else 0) ≤ z := fun x y z hz => by split <;> omega
  have g0 := this (jf_E p 0) e _ h0.1
  have g1 := this (jf_E p 1) e _ h1.1
  have g2 := this (jf_E p 2) e _ h2.1
  have g3 := this (jf_E p 3) e _ h3.1
  have g4 := this (jf_E p 4) e _ h4.1
  omega
theorem jf_mb {a b A B : Int} (ha : -A ≤ a ∧ a ≤ A) (hb : 0 ≤ b ∧ b ≤ B) : -(A * B) ≤ a * b ∧ a * b ≤ A * B := by
  have h1 : a * b ≤ A * B := Int.mul_le_mul ha.2 hb.2 hb.1 (by omega)
  have h2 : (-a) * b ≤ A * B := Int.mul_le_mul (by omega) hb.2 hb.1 (by omega)
  rw [Int.neg_mul] at h2
  omega

set_option maxHeartbeats 1000000 in
theorem sq_stops {d : Nat} (hd : 8 ≤ d) {h a w : Int} {M : am_M} {K : am_K} (hJ : jf_J M) (ha_h : am_in h) (ha_a : am_in a) (ha_w : am_in w) (hK : ∀ g, K (some (aI (jx_stops M h a w))) (am_mix [12, 13, 14, 263, 264, 265, 266, 346, 17, 19, 100, 101, 102] g M)) : am_Call wb d 49 [aR 7 0, aI h, aI a, aI w] M K := by
  obtain ⟨d, rfl⟩ : ∃ e, d = e + 1 := ⟨d - 1, by omega⟩
  refine ⟨rfl, fun R hR hC => ?_⟩
  replace hR : ∀ c, am_F wb tb_f49 1 (am_Call wb d) K R c → R c := hR
  have hn := hJ.1.1.2.2.2.2.2.2.2.1
  have hl0 := hJ.1.1.2.2.2.2.2.2.2.2
  have htc := hJ.2.2.1.1
  have hlt : 0 ≤ M 228 0 0 ∧ M 228 0 0 < 6 := by omega
  have hmk := hJ.1.1.1
  have hdr := hJ.1.1.2.1
  have hpr := hJ.1.1.2.2.1
  have hfu := hJ.1.1.2.2.2.1
  show R (0, [some (aR 7 0), some (aI h), some (aI a), some (aI w), none], [], M)
  refine hR _ (hR _ (?_))
  show R (2, [some (aR 7 0), some (aI h), some (aI a), some (aI w), none], [aI h, aR 7 0], M)
  refine hR _ (sp_handAt (by omega) hn (by omega) (fun k hhk hk5 => ?_) (fun hno => ?_))
  · replace hk5 : (k : Int) < M 227 0 0 := hk5
    have hkw := hJ.wk (k := k) (by omega)
    have hok := hJ.px (k := k) (by omega)
    show R (5, [some (aR 7 0), some (aI h), some (aI a), some (aI w), none], [aR 1 k], M)
    refine hR _ (hR _ (hR _ (hR _ (hR _ (hR _ (?_))))))
    show R (18, [some (aR 7 0), some (aI h), some (aI a), some (aI w), some (aR 1 k)], [aI 4, aI 0, aI a], M)
    refine hR _ (sp_within (by omega) (by omega) (fun h18 => ?_) (fun h18 => ?_))
    · show R (21, [some (aR 7 0), some (aI h), some (aI a), some (aI w), some (aR 1 k)], [aI 1], M)
      refine hR _ (am_brf (rg := am_in 1) (P := (1 : Int) = 0) (A := R (33, [some (aR 7 0), some (aI h), some (aI a), some (aI w), some (aR 1 k)], [], M)) (B := R (24, [some (aR 7 0), some (aI h), some (aI a), some (aI w), some (aR 1 k)], [], M)) (by omega) (by omega) ?_)
      show R (24, [some (aR 7 0), some (aI h), some (aI a), some (aI w), some (aR 1 k)], [], M)
      refine hR _ (hR _ (hR _ (?_)))
      show R (27, [some (aR 7 0), some (aI h), some (aI a), some (aI w), some (aR 1 k)], [aI 3, aI 0, aI w], M)
      refine hR _ (sp_within (by omega) (by omega) (fun h27 => ?_) (fun h27 => ?_))
      · show R (30, [some (aR 7 0), some (aI h), some (aI a), some (aI w), some (aR 1 k)], [aI 1], M)
        refine hR _ (am_brt (rg := am_in 1) (P := (1 : Int) ≠ 0) (A := R (36, [some (aR 7 0), some (aI h), some (aI a), some (aI w), some (aR 1 k)], [], M)) (B := R (33, [some (aR 7 0), some (aI h), some (aI a), some (aI w), some (aR 1 k)], [], M)) (by omega) (by omega) ?_)
        show R (36, [some (aR 7 0), some (aI h), some (aI a), some (aI w), some (aR 1 k)], [], M)
        refine hR _ (hR _ (?_))
        show R (39, [some (aR 7 0), some (aI h), some (aI a), some (aI w), some (aR 1 k)], [aR 1 k, aR 7 0], M)
        refine hR _ (sp_Xthink (by omega) hkw hlt hok (fun g56 hth => ?_))
        obtain ⟨p, hp⟩ : ∃ p, p = jf_px M k := ⟨_, rfl⟩
        replace hth : jf_th (am_mix [12, 13, 14, 263, 264, 265, 266, 346, 17, 19] g56 M) (jf_px M k) := hth
        rw [← hp] at hth hok
        have hthA : g56 263 0 0 = jf_A p := hth.2.1
        have hthN : g56 264 0 0 = (jf_P p).2.2 := hth.2.2
        have hA := jf_A_b hok
        have hPb := jf_P_b hok
        show R (42, [some (aR 7 0), some (aI h), some (aI a), some (aI w), some (aR 1 k)], [], am_mix [12, 13, 14, 263, 264, 265, 266, 346, 17, 19] g56 M)
        refine hR _ (hR _ (am_brc (rg := am_in w) (P := w ≠ 0) (A := R (55, [some (aR 7 0), some (aI h), some (aI a), some (aI w), some (aR 1 k)], [], am_mix [12, 13, 14, 263, 264, 265, 266, 346, 17, 19] g56 M)) (B := R (46, [some (aR 7 0), some (aI h), some (aI a), some (aI w), some (aR 1 k)], [], am_mix [12, 13, 14, 263, 264, 265, 266, 346, 17, 19] g56 M)) (by omega) (fun c43 => ?_) (fun c43 => ?_)))
        · refine hR _ (hR _ (hR _ (am_brc (rg := am_in w ∧ am_in 1) (P := w ≠ 1) (A := R (69, [some (aR 7 0), some (aI h), some (aI a), some (aI w), some (aR 1 k)], [], am_mix [12, 13, 14, 263, 264, 265, 266, 346, 17, 19] g56 M)) (B := R (60, [some (aR 7 0), some (aI h), some (aI a), some (aI w), some (aR 1 k)], [], am_mix [12, 13, 14, 263, 264, 265, 266, 346, 17, 19] g56 M)) (by omega) (fun c57 => ?_) (fun c57 => ?_))))
          · refine hR _ (hR _ (hR _ (am_brc (rg := am_in w ∧ am_in 2) (P := w ≠ 2) (A := R (85, [some (aR 7 0), some (aI h), some (aI a), some (aI w), some (aR 1 k)], [], am_mix [12, 13, 14, 263, 264, 265, 266, 346, 17, 19] g56 M)) (B := R (74, [some (aR 7 0), some (aI h), some (aI a), some (aI w), some (aR 1 k)], [], am_mix [12, 13, 14, 263, 264, 265, 266, 346, 17, 19] g56 M)) (by omega) (fun c71 => ?_) (fun c71 => ?_))))
            · refine hR _ (hR _ (hR _ (?_)))
              show R (92, [some (aR 7 0), some (aI h), some (aI a), some (aI w), some (aR 1 k)], [aI (g56 264 0 0)], am_mix [12, 13, 14, 263, 264, 265, 266, 346, 17, 19] g56 M)
              rw [hthN]
              show R (92, [some (aR 7 0), some (aI h), some (aI a), some (aI w), some (aR 1 k)], [aI ((jf_P p).2.2)], am_mix [12, 13, 14, 263, 264, 265, 266, 346, 17, 19] g56 M)
              refine hR _ (show K (some (aI ((jf_P p).2.2))) (am_mix [12, 13, 14, 263, 264, 265, 266, 346, 17, 19] g56 M) from ?_)
              have hres : jx_stops M h a w = (jf_P p).2.2 := by
                subst hhk
                subst hp
                unfold jx_stops
                repeat' split
                all_goals first | omega | rfl
              rw [hres] at hK
              have e9 : am_ag [12, 13, 14, 263, 264, 265, 266, 346, 17, 19, 100, 101, 102] M (am_mix [12, 13, 14, 263, 264, 265, 266, 346, 17, 19] g56 M) := (am_ag.rf).mix rfl
              rw [e9.eq]
              exact hK _
            · refine hR _ (hR _ (hR _ (?_)))
              show R (79, [some (aR 7 0), some (aI h), some (aI a), some (aI w), some (aR 1 k)], [aI a, aR 4 0], am_mix [12, 13, 14, 263, 264, 265, 266, 346, 17, 19] g56 M)
              refine hR _ (sp_oftenOf (by omega) hok hth (by omega) ?_)
              have hx79 := jf_O_b hok (a := (a).toNat) (by omega)
              show R (82, [some (aR 7 0), some (aI h), some (aI a), some (aI w), some (aR 1 k)], [aI (jf_O p (a).toNat)], am_mix [12, 13, 14, 263, 264, 265, 266, 346, 17, 19] g56 M)
              refine hR _ (?_)
              show R (92, [some (aR 7 0), some (aI h), some (aI a), some (aI w), some (aR 1 k)], [aI (jf_O p (a).toNat)], am_mix [12, 13, 14, 263, 264, 265, 266, 346, 17, 19] g56 M)
              refine hR _ (show K (some (aI (jf_O p (a).toNat))) (am_mix [12, 13, 14, 263, 264, 265, 266, 346, 17, 19] g56 M) from ?_)
              have hres : jx_stops M h a w = (jf_O p (a).toNat) := by
                subst hhk
                subst hp
                unfold jx_stops
                repeat' split
                all_goals first | omega | rfl
              rw [hres] at hK
              have e9 : am_ag [12, 13, 14, 263, 264, 265, 266, 346, 17, 19, 100, 101, 102] M (am_mix [12, 13, 14, 263, 264, 265, 266, 346, 17, 19] g56 M) := (am_ag.rf).mix rfl
              rw [e9.eq]
              exact hK _
          · refine hR _ (hR _ (hR _ (?_)))
            show R (65, [some (aR 7 0), some (aI h), some (aI a), some (aI w), some (aR 1 k)], [aI a, aR 4 0], am_mix [12, 13, 14, 263, 264, 265, 266, 346, 17, 19] g56 M)
            refine hR _ (sp_tenthsOf (by omega) hok hth (by omega) ?_)
            have hx65 := jf_T_b hok (a := (a).toNat) (by omega)
            show R (68, [some (aR 7 0), some (aI h), some (aI a), some (aI w), some (aR 1 k)], [aI (jf_T p (a).toNat)], am_mix [12, 13, 14, 263, 264, 265, 266, 346, 17, 19] g56 M)
            refine hR _ (show K (some (aI (jf_T p (a).toNat))) (am_mix [12, 13, 14, 263, 264, 265, 266, 346, 17, 19] g56 M) from ?_)
            have hres : jx_stops M h a w = (jf_T p (a).toNat) := by
              subst hhk
              subst hp
              unfold jx_stops
              repeat' split
              all_goals first | omega | rfl
            rw [hres] at hK
            have e9 : am_ag [12, 13, 14, 263, 264, 265, 266, 346, 17, 19, 100, 101, 102] M (am_mix [12, 13, 14, 263, 264, 265, 266, 346, 17, 19] g56 M) := (am_ag.rf).mix rfl
            rw [e9.eq]
            exact hK _
        · refine hR _ (hR _ (hR _ (?_)))
          show R (51, [some (aR 7 0), some (aI h), some (aI a), some (aI w), some (aR 1 k)], [aI a, aR 4 0], am_mix [12, 13, 14, 263, 264, 265, 266, 346, 17, 19] g56 M)
          refine hR _ (sp_endOf (by omega) hok hth (by omega) ?_)
          have hx51 := jf_E_b hok (a := (a).toNat) (by omega)
          show R (54, [some (aR 7 0), some (aI h), some (aI a), some (aI w), some (aR 1 k)], [aI (jf_E p (a).toNat)], am_mix [12, 13, 14, 263, 264, 265, 266, 346, 17, 19] g56 M)
          refine hR _ (show K (some (aI (jf_E p (a).toNat))) (am_mix [12, 13, 14, 263, 264, 265, 266, 346, 17, 19] g56 M) from ?_)
          have hres : jx_stops M h a w = (jf_E p (a).toNat) := by
            subst hhk
            subst hp
            unfold jx_stops
            repeat' split
            all_goals first | omega | rfl
          rw [hres] at hK
          have e9 : am_ag [12, 13, 14, 263, 264, 265, 266, 346, 17, 19, 100, 101, 102] M (am_mix [12, 13, 14, 263, 264, 265, 266, 346, 17, 19] g56 M) := (am_ag.rf).mix rfl
          rw [e9.eq]
          exact hK _
      · show R (30, [some (aR 7 0), some (aI h), some (aI a), some (aI w), some (aR 1 k)], [aI 0], M)
        refine hR _ (am_brf (rg := am_in 0) (P := (0 : Int) ≠ 0) (A := R (36, [some (aR 7 0), some (aI h), some (aI a), some (aI w), some (aR 1 k)], [], M)) (B := R (33, [some (aR 7 0), some (aI h), some (aI a), some (aI w), some (aR 1 k)], [], M)) (by omega) (by omega) ?_)
        show R (33, [some (aR 7 0), some (aI h), some (aI a), some (aI w), some (aR 1 k)], [], M)
        refine hR _ (?_)
        show R (35, [some (aR 7 0), some (aI h), some (aI a), some (aI w), some (aR 1 k)], [aI (-7)], M)
        refine hR _ (show K (some (aI (-7))) M from ?_)
        have hres : jx_stops M h a w = (-7) := by
          unfold jx_stops
          repeat' split
          all_goals first | omega | rfl
        rw [hres] at hK
        have e9 : am_ag [12, 13, 14, 263, 264, 265, 266, 346, 17, 19, 100, 101, 102] M M := am_ag.rf
        rw [e9.eq]
        exact hK _
    · show R (21, [some (aR 7 0), some (aI h), some (aI a), some (aI w), some (aR 1 k)], [aI 0], M)
      refine hR _ (am_brt (rg := am_in 0) (P := (0 : Int) = 0) (A := R (33, [some (aR 7 0), some (aI h), some (aI a), some (aI w), some (aR 1 k)], [], M)) (B := R (24, [some (aR 7 0), some (aI h), some (aI a), some (aI w), some (aR 1 k)], [], M)) (by omega) (by omega) ?_)
      show R (33, [some (aR 7 0), some (aI h), some (aI a), some (aI w), some (aR 1 k)], [], M)
      refine hR _ (?_)
      show R (35, [some (aR 7 0), some (aI h), some (aI a), some (aI w), some (aR 1 k)], [aI (-7)], M)
      refine hR _ (show K (some (aI (-7))) M from ?_)
      have hres : jx_stops M h a w = (-7) := by
        unfold jx_stops
        repeat' split
        all_goals first | omega | rfl
      rw [hres] at hK
      have e9 : am_ag [12, 13, 14, 263, 264, 265, 266, 346, 17, 19, 100, 101, 102] M M := am_ag.rf
      rw [e9.eq]
      exact hK _
  · replace hno : ¬ (0 ≤ h ∧ h < M 227 0 0) := hno
    show R (5, [some (aR 7 0), some (aI h), some (aI a), some (aI w), none], [aN], M)
    refine hR _ (hR _ (hR _ (hR _ (?_))))
    show R (14, [some (aR 7 0), some (aI h), some (aI a), some (aI w), some (aN)], [aI (-5)], M)
    refine hR _ (show K (some (aI (-5))) M from ?_)
    have hres : jx_stops M h a w = (-5) := by
      unfold jx_stops
      repeat' split
      all_goals first | omega | rfl
    rw [hres] at hK
    have e9 : am_ag [12, 13, 14, 263, 264, 265, 266, 346, 17, 19, 100, 101, 102] M M := am_ag.rf
    rw [e9.eq]
    exact hK _

set_option maxHeartbeats 1000000 in
theorem sq_chance {d : Nat} (hd : 8 ≤ d) {h s q : Int} {M : am_M} {K : am_K} (hJ : jf_J M) (ha_h : am_in h) (ha_s : am_in s) (ha_q : am_in q) (hK : ∀ g, K (some (aL (jx_chance M h s q))) (am_mix [12, 13, 14, 263, 264, 265, 266, 346, 17, 19, 100, 101, 102] g M)) : am_Call wb d 64 [aR 7 0, aI h, aI s, aI q] M K := by
  obtain ⟨d, rfl⟩ : ∃ e, d = e + 1 := ⟨d - 1, by omega⟩
  refine ⟨rfl, fun R hR hC => ?_⟩
  replace hR : ∀ c, am_F wb tb_f64 5 (am_Call wb d) K R c → R c := hR
  have hn := hJ.1.1.2.2.2.2.2.2.2.1
  have hl0 := hJ.1.1.2.2.2.2.2.2.2.2
  have htc := hJ.2.2.1.1
  have hlt : 0 ≤ M 228 0 0 ∧ M 228 0 0 < 6 := by omega
  have hmk := hJ.1.1.1
  have hdr := hJ.1.1.2.1
  have hpr := hJ.1.1.2.2.1
  have hfu := hJ.1.1.2.2.2.1
  show R (0, [some (aR 7 0), some (aI h), some (aI s), some (aI q), none, none, none, none, none], [], M)
  refine hR _ (hR _ (?_))
  show R (2, [some (aR 7 0), some (aI h), some (aI s), some (aI q), none, none, none, none, none], [aI h, aR 7 0], M)
  refine hR _ (sp_handAt (by omega) hn (by omega) (fun k hhk hk5 => ?_) (fun hno => ?_))
  · replace hk5 : (k : Int) < M 227 0 0 := hk5
    have hkw := hJ.wk (k := k) (by omega)
    have hok := hJ.px (k := k) (by omega)
    show R (5, [some (aR 7 0), some (aI h), some (aI s), some (aI q), none, none, none, none, none], [aR 1 k], M)
    refine hR _ (hR _ (hR _ (hR _ (hR _ (hR _ (?_))))))
    show R (15, [some (aR 7 0), some (aI h), some (aI s), some (aI q), some (aR 1 k), none, none, none, none], [aI 2, aI 0, aI s], M)
    refine hR _ (sp_within (by omega) (by omega) (fun h15 => ?_) (fun h15 => ?_))
    · show R (18, [some (aR 7 0), some (aI h), some (aI s), some (aI q), some (aR 1 k), none, none, none, none], [aI 1], M)
      refine hR _ (am_brt (rg := am_in 1) (P := (1 : Int) ≠ 0) (A := R (25, [some (aR 7 0), some (aI h), some (aI s), some (aI q), some (aR 1 k), none, none, none, none], [], M)) (B := R (21, [some (aR 7 0), some (aI h), some (aI s), some (aI q), some (aR 1 k), none, none, none, none], [], M)) (by omega) (by omega) ?_)
      show R (25, [some (aR 7 0), some (aI h), some (aI s), some (aI q), some (aR 1 k), none, none, none, none], [], M)
      refine hR _ (hR _ (?_))
      show R (28, [some (aR 7 0), some (aI h), some (aI s), some (aI q), some (aR 1 k), none, none, none, none], [aR 1 k, aR 7 0], M)
      refine hR _ (sp_Xthink (by omega) hkw hlt hok (fun g57 hth => ?_))
      obtain ⟨p, hp⟩ : ∃ p, p = jf_px M k := ⟨_, rfl⟩
      replace hth : jf_th (am_mix [12, 13, 14, 263, 264, 265, 266, 346, 17, 19] g57 M) (jf_px M k) := hth
      rw [← hp] at hth hok
      have hthA : g57 263 0 0 = jf_A p := hth.2.1
      have hthN : g57 264 0 0 = (jf_P p).2.2 := hth.2.2
      have hA := jf_A_b hok
      have hPb := jf_P_b hok
      show R (31, [some (aR 7 0), some (aI h), some (aI s), some (aI q), some (aR 1 k), none, none, none, none], [], am_mix [12, 13, 14, 263, 264, 265, 266, 346, 17, 19] g57 M)
      refine hR _ (hR _ (hR _ (hR _ (hR _ (?_)))))
      show R (42, [some (aR 7 0), some (aI h), some (aI s), some (aI q), some (aR 1 k), none, none, none, none], [aI (M 220 0 0), aR 4 0], am_mix [12, 13, 14, 263, 264, 265, 266, 346, 17, 19] g57 M)
      refine hR _ (sp_oftenAt (by omega) hok hth (by omega) ?_)
      have hat42 := jf_at_b hok (M 220 0 0)
      show R (45, [some (aR 7 0), some (aI h), some (aI s), some (aI q), some (aR 1 k), none, none, none, none], [aL (jf_at p (M 220 0 0))], am_mix [12, 13, 14, 263, 264, 265, 266, 346, 17, 19] g57 M)
      refine hR _ (hR _ (hR _ (hR _ (hR _ (hR _ (?_))))))
      show R (58, [some (aR 7 0), some (aI h), some (aI s), some (aI q), some (aR 1 k), some (aL (jf_at p (M 220 0 0))), none, none, none], [aI (M 220 0 0), aR 4 0], am_mix [12, 13, 14, 263, 264, 265, 266, 346, 17, 19] g57 M)
      refine hR _ (sp_oftenAbove (by omega) hok hth (by omega) ?_)
      have hab58 := jf_ab_b hok (M 220 0 0)
      show R (61, [some (aR 7 0), some (aI h), some (aI s), some (aI q), some (aR 1 k), some (aL (jf_at p (M 220 0 0))), none, none, none], [aL (jf_ab p (M 220 0 0))], am_mix [12, 13, 14, 263, 264, 265, 266, 346, 17, 19] g57 M)
      refine hR _ (hR _ (hR _ (am_brc (rg := am_in s) (P := s ≠ 0) (A := R (82, [some (aR 7 0), some (aI h), some (aI s), some (aI q), some (aR 1 k), some (aL (jf_at p (M 220 0 0))), none, some (aL (jf_ab p (M 220 0 0))), none], [], am_mix [12, 13, 14, 263, 264, 265, 266, 346, 17, 19] g57 M)) (B := R (67, [some (aR 7 0), some (aI h), some (aI s), some (aI q), some (aR 1 k), some (aL (jf_at p (M 220 0 0))), none, some (aL (jf_ab p (M 220 0 0))), none], [], am_mix [12, 13, 14, 263, 264, 265, 266, 346, 17, 19] g57 M)) (by omega) (fun c64 => ?_) (fun c64 => ?_))))
      · refine hR _ (hR _ (hR _ (am_brc (rg := am_in s ∧ am_in 1) (P := s ≠ 1) (A := R (92, [some (aR 7 0), some (aI h), some (aI s), some (aI q), some (aR 1 k), some (aL (jf_at p (M 220 0 0))), none, some (aL (jf_ab p (M 220 0 0))), none], [], am_mix [12, 13, 14, 263, 264, 265, 266, 346, 17, 19] g57 M)) (B := R (87, [some (aR 7 0), some (aI h), some (aI s), some (aI q), some (aR 1 k), some (aL (jf_at p (M 220 0 0))), none, some (aL (jf_ab p (M 220 0 0))), none], [], am_mix [12, 13, 14, 263, 264, 265, 266, 346, 17, 19] g57 M)) (by omega) (fun c84 => ?_) (fun c84 => ?_))))
        · refine hR _ (hR _ (hR _ (?_)))
          show R (99, [some (aR 7 0), some (aI h), some (aI s), some (aI q), some (aR 1 k), some (aL (jf_at p (M 220 0 0))), none, some (aL (jf_ab p (M 220 0 0))), none], [aI (g57 263 0 0)], am_mix [12, 13, 14, 263, 264, 265, 266, 346, 17, 19] g57 M)
          rw [hthA]
          show R (99, [some (aR 7 0), some (aI h), some (aI s), some (aI q), some (aR 1 k), some (aL (jf_at p (M 220 0 0))), none, some (aL (jf_ab p (M 220 0 0))), none], [aI (jf_A p)], am_mix [12, 13, 14, 263, 264, 265, 266, 346, 17, 19] g57 M)
          refine hR _ ⟨(by omega), ?_⟩
          show R (100, [some (aR 7 0), some (aI h), some (aI s), some (aI q), some (aR 1 k), some (aL (jf_at p (M 220 0 0))), none, some (aL (jf_ab p (M 220 0 0))), none], [aL (jf_A p)], am_mix [12, 13, 14, 263, 264, 265, 266, 346, 17, 19] g57 M)
          refine hR _ (hR _ (hR _ (hR _ (hR _ (hR _ (hR _ (?_)))))))
          show R (113, [some (aR 7 0), some (aI h), some (aI s), some (aI q), some (aR 1 k), some (aL (jf_at p (M 220 0 0))), none, some (aL (jf_ab p (M 220 0 0))), none], [aI (g57 263 0 0), aL (((jf_A p) - (jf_at p (M 220 0 0))) - (jf_ab p (M 220 0 0)))], am_mix [12, 13, 14, 263, 264, 265, 266, 346, 17, 19] g57 M)
          rw [hthA]
          show R (113, [some (aR 7 0), some (aI h), some (aI s), some (aI q), some (aR 1 k), some (aL (jf_at p (M 220 0 0))), none, some (aL (jf_ab p (M 220 0 0))), none], [aI (jf_A p), aL (((jf_A p) - (jf_at p (M 220 0 0))) - (jf_ab p (M 220 0 0)))], am_mix [12, 13, 14, 263, 264, 265, 266, 346, 17, 19] g57 M)
          refine hR _ ⟨(by omega), ?_⟩
          show R (114, [some (aR 7 0), some (aI h), some (aI s), some (aI q), some (aR 1 k), some (aL (jf_at p (M 220 0 0))), none, some (aL (jf_ab p (M 220 0 0))), none], [aL (jf_A p), aL (((jf_A p) - (jf_at p (M 220 0 0))) - (jf_ab p (M 220 0 0)))], am_mix [12, 13, 14, 263, 264, 265, 266, 346, 17, 19] g57 M)
          refine hR _ (?_)
          show R (115, [some (aR 7 0), some (aI h), some (aI s), some (aI q), some (aR 1 k), some (aL (jf_at p (M 220 0 0))), none, some (aL (jf_ab p (M 220 0 0))), none], [aI q, aL (jf_A p), aL (((jf_A p) - (jf_at p (M 220 0 0))) - (jf_ab p (M 220 0 0)))], am_mix [12, 13, 14, 263, 264, 265, 266, 346, 17, 19] g57 M)
          refine hR _ (sp_il (by omega) (by omega) (by omega) (by omega) ?_)
          show R (118, [some (aR 7 0), some (aI h), some (aI s), some (aI q), some (aR 1 k), some (aL (jf_at p (M 220 0 0))), none, some (aL (jf_ab p (M 220 0 0))), none], [aL (jf_il (((jf_A p) - (jf_at p (M 220 0 0))) - (jf_ab p (M 220 0 0))) (jf_A p) q)], am_mix [12, 13, 14, 263, 264, 265, 266, 346, 17, 19] g57 M)
          refine hR _ (show K (some (aL (jf_il (((jf_A p) - (jf_at p (M 220 0 0))) - (jf_ab p (M 220 0 0))) (jf_A p) q))) (am_mix [12, 13, 14, 263, 264, 265, 266, 346, 17, 19] g57 M) from ?_)
          have hres : jx_chance M h s q = (jf_il (((jf_A p) - (jf_at p (M 220 0 0))) - (jf_ab p (M 220 0 0))) (jf_A p) q) := by
            subst hhk
            subst hp
            unfold jx_chance
            repeat' split
            all_goals first | omega | rfl
          rw [hres] at hK
          have e9 : am_ag [12, 13, 14, 263, 264, 265, 266, 346, 17, 19, 100, 101, 102] M (am_mix [12, 13, 14, 263, 264, 265, 266, 346, 17, 19] g57 M) := (am_ag.rf).mix rfl
          rw [e9.eq]
          exact hK _
        · refine hR _ (hR _ (hR _ (hR _ (hR _ (?_)))))
          show R (113, [some (aR 7 0), some (aI h), some (aI s), some (aI q), some (aR 1 k), some (aL (jf_at p (M 220 0 0))), none, some (aL (jf_ab p (M 220 0 0))), none], [aI (g57 263 0 0), aL (jf_ab p (M 220 0 0))], am_mix [12, 13, 14, 263, 264, 265, 266, 346, 17, 19] g57 M)
          rw [hthA]
          show R (113, [some (aR 7 0), some (aI h), some (aI s), some (aI q), some (aR 1 k), some (aL (jf_at p (M 220 0 0))), none, some (aL (jf_ab p (M 220 0 0))), none], [aI (jf_A p), aL (jf_ab p (M 220 0 0))], am_mix [12, 13, 14, 263, 264, 265, 266, 346, 17, 19] g57 M)
          refine hR _ ⟨(by omega), ?_⟩
          show R (114, [some (aR 7 0), some (aI h), some (aI s), some (aI q), some (aR 1 k), some (aL (jf_at p (M 220 0 0))), none, some (aL (jf_ab p (M 220 0 0))), none], [aL (jf_A p), aL (jf_ab p (M 220 0 0))], am_mix [12, 13, 14, 263, 264, 265, 266, 346, 17, 19] g57 M)
          refine hR _ (?_)
          show R (115, [some (aR 7 0), some (aI h), some (aI s), some (aI q), some (aR 1 k), some (aL (jf_at p (M 220 0 0))), none, some (aL (jf_ab p (M 220 0 0))), none], [aI q, aL (jf_A p), aL (jf_ab p (M 220 0 0))], am_mix [12, 13, 14, 263, 264, 265, 266, 346, 17, 19] g57 M)
          refine hR _ (sp_il (by omega) (by omega) (by omega) (by omega) ?_)
          show R (118, [some (aR 7 0), some (aI h), some (aI s), some (aI q), some (aR 1 k), some (aL (jf_at p (M 220 0 0))), none, some (aL (jf_ab p (M 220 0 0))), none], [aL (jf_il (jf_ab p (M 220 0 0)) (jf_A p) q)], am_mix [12, 13, 14, 263, 264, 265, 266, 346, 17, 19] g57 M)
          refine hR _ (show K (some (aL (jf_il (jf_ab p (M 220 0 0)) (jf_A p) q))) (am_mix [12, 13, 14, 263, 264, 265, 266, 346, 17, 19] g57 M) from ?_)
          have hres : jx_chance M h s q = (jf_il (jf_ab p (M 220 0 0)) (jf_A p) q) := by
            subst hhk
            subst hp
            unfold jx_chance
            repeat' split
            all_goals first | omega | rfl
          rw [hres] at hK
          have e9 : am_ag [12, 13, 14, 263, 264, 265, 266, 346, 17, 19, 100, 101, 102] M (am_mix [12, 13, 14, 263, 264, 265, 266, 346, 17, 19] g57 M) := (am_ag.rf).mix rfl
          rw [e9.eq]
          exact hK _
      · refine hR _ (hR _ (hR _ (hR _ (?_))))
        show R (76, [some (aR 7 0), some (aI h), some (aI s), some (aI q), some (aR 1 k), some (aL (jf_at p (M 220 0 0))), none, some (aL (jf_ab p (M 220 0 0))), none], [aI (g57 263 0 0), aL (jf_at p (M 220 0 0))], am_mix [12, 13, 14, 263, 264, 265, 266, 346, 17, 19] g57 M)
        rw [hthA]
        show R (76, [some (aR 7 0), some (aI h), some (aI s), some (aI q), some (aR 1 k), some (aL (jf_at p (M 220 0 0))), none, some (aL (jf_ab p (M 220 0 0))), none], [aI (jf_A p), aL (jf_at p (M 220 0 0))], am_mix [12, 13, 14, 263, 264, 265, 266, 346, 17, 19] g57 M)
        refine hR _ ⟨(by omega), ?_⟩
        show R (77, [some (aR 7 0), some (aI h), some (aI s), some (aI q), some (aR 1 k), some (aL (jf_at p (M 220 0 0))), none, some (aL (jf_ab p (M 220 0 0))), none], [aL (jf_A p), aL (jf_at p (M 220 0 0))], am_mix [12, 13, 14, 263, 264, 265, 266, 346, 17, 19] g57 M)
        refine hR _ (?_)
        show R (78, [some (aR 7 0), some (aI h), some (aI s), some (aI q), some (aR 1 k), some (aL (jf_at p (M 220 0 0))), none, some (aL (jf_ab p (M 220 0 0))), none], [aI q, aL (jf_A p), aL (jf_at p (M 220 0 0))], am_mix [12, 13, 14, 263, 264, 265, 266, 346, 17, 19] g57 M)
        refine hR _ (sp_il (by omega) (by omega) (by omega) (by omega) ?_)
        show R (81, [some (aR 7 0), some (aI h), some (aI s), some (aI q), some (aR 1 k), some (aL (jf_at p (M 220 0 0))), none, some (aL (jf_ab p (M 220 0 0))), none], [aL (jf_il (jf_at p (M 220 0 0)) (jf_A p) q)], am_mix [12, 13, 14, 263, 264, 265, 266, 346, 17, 19] g57 M)
        refine hR _ (show K (some (aL (jf_il (jf_at p (M 220 0 0)) (jf_A p) q))) (am_mix [12, 13, 14, 263, 264, 265, 266, 346, 17, 19] g57 M) from ?_)
        have hres : jx_chance M h s q = (jf_il (jf_at p (M 220 0 0)) (jf_A p) q) := by
          subst hhk
          subst hp
          unfold jx_chance
          repeat' split
          all_goals first | omega | rfl
        rw [hres] at hK
        have e9 : am_ag [12, 13, 14, 263, 264, 265, 266, 346, 17, 19, 100, 101, 102] M (am_mix [12, 13, 14, 263, 264, 265, 266, 346, 17, 19] g57 M) := (am_ag.rf).mix rfl
        rw [e9.eq]
        exact hK _
    · show R (18, [some (aR 7 0), some (aI h), some (aI s), some (aI q), some (aR 1 k), none, none, none, none], [aI 0], M)
      refine hR _ (am_brf (rg := am_in 0) (P := (0 : Int) ≠ 0) (A := R (25, [some (aR 7 0), some (aI h), some (aI s), some (aI q), some (aR 1 k), none, none, none, none], [], M)) (B := R (21, [some (aR 7 0), some (aI h), some (aI s), some (aI q), some (aR 1 k), none, none, none, none], [], M)) (by omega) (by omega) ?_)
      show R (21, [some (aR 7 0), some (aI h), some (aI s), some (aI q), some (aR 1 k), none, none, none, none], [], M)
      refine hR _ (?_)
      show R (24, [some (aR 7 0), some (aI h), some (aI s), some (aI q), some (aR 1 k), none, none, none, none], [aL (-4611686018427387904)], M)
      refine hR _ (show K (some (aL (-4611686018427387904))) M from ?_)
      have hres : jx_chance M h s q = (-4611686018427387904) := by
        unfold jx_chance
        repeat' split
        all_goals first | omega | rfl
      rw [hres] at hK
      have e9 : am_ag [12, 13, 14, 263, 264, 265, 266, 346, 17, 19, 100, 101, 102] M M := am_ag.rf
      rw [e9.eq]
      exact hK _
  · replace hno : ¬ (0 ≤ h ∧ h < M 227 0 0) := hno
    show R (5, [some (aR 7 0), some (aI h), some (aI s), some (aI q), none, none, none, none, none], [aN], M)
    refine hR _ (hR _ (hR _ (hR _ (?_))))
    show R (24, [some (aR 7 0), some (aI h), some (aI s), some (aI q), some (aN), none, none, none, none], [aL (-4611686018427387904)], M)
    refine hR _ (show K (some (aL (-4611686018427387904))) M from ?_)
    have hres : jx_chance M h s q = (-4611686018427387904) := by
      unfold jx_chance
      repeat' split
      all_goals first | omega | rfl
    rw [hres] at hK
    have e9 : am_ag [12, 13, 14, 263, 264, 265, 266, 346, 17, 19, 100, 101, 102] M M := am_ag.rf
    rw [e9.eq]
    exact hK _

set_option maxHeartbeats 1000000 in
theorem sq_mean {d : Nat} (hd : 8 ≤ d) {h q : Int} {M : am_M} {K : am_K} (hJ : jf_J M) (ha_h : am_in h) (ha_q : am_in q) (hK : ∀ g, K (some (aL (jx_mean M h q))) (am_mix [12, 13, 14, 263, 264, 265, 266, 346, 17, 19, 100, 101, 102] g M)) : am_Call wb d 69 [aR 7 0, aI h, aI q] M K := by
  obtain ⟨d, rfl⟩ : ∃ e, d = e + 1 := ⟨d - 1, by omega⟩
  refine ⟨rfl, fun R hR hC => ?_⟩
  replace hR : ∀ c, am_F wb tb_f69 5 (am_Call wb d) K R c → R c := hR
  have hn := hJ.1.1.2.2.2.2.2.2.2.1
  have hl0 := hJ.1.1.2.2.2.2.2.2.2.2
  have htc := hJ.2.2.1.1
  have hlt : 0 ≤ M 228 0 0 ∧ M 228 0 0 < 6 := by omega
  have hmk := hJ.1.1.1
  have hdr := hJ.1.1.2.1
  have hpr := hJ.1.1.2.2.1
  have hfu := hJ.1.1.2.2.2.1
  show R (0, [some (aR 7 0), some (aI h), some (aI q), none], [], M)
  refine hR _ (hR _ (?_))
  show R (2, [some (aR 7 0), some (aI h), some (aI q), none], [aI h, aR 7 0], M)
  refine hR _ (sp_handAt (by omega) hn (by omega) (fun k hhk hk5 => ?_) (fun hno => ?_))
  · replace hk5 : (k : Int) < M 227 0 0 := hk5
    have hkw := hJ.wk (k := k) (by omega)
    have hok := hJ.px (k := k) (by omega)
    show R (5, [some (aR 7 0), some (aI h), some (aI q), none], [aR 1 k], M)
    refine hR _ (hR _ (hR _ (hR _ (hR _ (?_)))))
    show R (16, [some (aR 7 0), some (aI h), some (aI q), some (aR 1 k)], [aR 1 k, aR 7 0], M)
    refine hR _ (sp_Xthink (by omega) hkw hlt hok (fun g58 hth => ?_))
    obtain ⟨p, hp⟩ : ∃ p, p = jf_px M k := ⟨_, rfl⟩
    replace hth : jf_th (am_mix [12, 13, 14, 263, 264, 265, 266, 346, 17, 19] g58 M) (jf_px M k) := hth
    rw [← hp] at hth hok
    have hthA : g58 263 0 0 = jf_A p := hth.2.1
    have hthN : g58 264 0 0 = (jf_P p).2.2 := hth.2.2
    have hA := jf_A_b hok
    have hPb := jf_P_b hok
    show R (19, [some (aR 7 0), some (aI h), some (aI q), some (aR 1 k)], [], am_mix [12, 13, 14, 263, 264, 265, 266, 346, 17, 19] g58 M)
    refine hR _ (hR _ (hR _ (hR _ (hR _ (?_)))))
    show R (28, [some (aR 7 0), some (aI h), some (aI q), some (aR 1 k)], [aI (M 220 0 0), aR 1 k, aR 7 0], am_mix [12, 13, 14, 263, 264, 265, 266, 346, 17, 19] g58 M)
    refine hR _ (sp_costsOf (by omega) hp hkw hlt hok hth (by omega) (fun g59 => ?_))
    have hcc28 := jf_cc_b hok (M 220 0 0)
    show R (31, [some (aR 7 0), some (aI h), some (aI q), some (aR 1 k)], [aL (jf_cc p (M 220 0 0))], am_mix [346, 17, 19] g59 (am_mix [12, 13, 14, 263, 264, 265, 266, 346, 17, 19] g58 M))
    refine hR _ (hR _ (hR _ (?_)))
    show R (38, [some (aR 7 0), some (aI h), some (aI q), some (aR 1 k)], [aI (g58 263 0 0), aL (jf_cc p (M 220 0 0))], am_mix [346, 17, 19] g59 (am_mix [12, 13, 14, 263, 264, 265, 266, 346, 17, 19] g58 M))
    rw [hthA]
    show R (38, [some (aR 7 0), some (aI h), some (aI q), some (aR 1 k)], [aI (jf_A p), aL (jf_cc p (M 220 0 0))], am_mix [346, 17, 19] g59 (am_mix [12, 13, 14, 263, 264, 265, 266, 346, 17, 19] g58 M))
    refine hR _ ⟨(by omega), ?_⟩
    show R (39, [some (aR 7 0), some (aI h), some (aI q), some (aR 1 k)], [aL (jf_A p), aL (jf_cc p (M 220 0 0))], am_mix [346, 17, 19] g59 (am_mix [12, 13, 14, 263, 264, 265, 266, 346, 17, 19] g58 M))
    refine hR _ (?_)
    show R (40, [some (aR 7 0), some (aI h), some (aI q), some (aR 1 k)], [aI q, aL (jf_A p), aL (jf_cc p (M 220 0 0))], am_mix [346, 17, 19] g59 (am_mix [12, 13, 14, 263, 264, 265, 266, 346, 17, 19] g58 M))
    refine hR _ (sp_il (by omega) (by omega) (by omega) (by omega) ?_)
    show R (43, [some (aR 7 0), some (aI h), some (aI q), some (aR 1 k)], [aL (jf_il (jf_cc p (M 220 0 0)) (jf_A p) q)], am_mix [346, 17, 19] g59 (am_mix [12, 13, 14, 263, 264, 265, 266, 346, 17, 19] g58 M))
    refine hR _ (show K (some (aL (jf_il (jf_cc p (M 220 0 0)) (jf_A p) q))) (am_mix [346, 17, 19] g59 (am_mix [12, 13, 14, 263, 264, 265, 266, 346, 17, 19] g58 M)) from ?_)
    have hres : jx_mean M h q = (jf_il (jf_cc p (M 220 0 0)) (jf_A p) q) := by
      subst hhk
      subst hp
      unfold jx_mean
      repeat' split
      all_goals first | omega | rfl
    rw [hres] at hK
    have e9 : am_ag [12, 13, 14, 263, 264, 265, 266, 346, 17, 19, 100, 101, 102] M (am_mix [346, 17, 19] g59 (am_mix [12, 13, 14, 263, 264, 265, 266, 346, 17, 19] g58 M)) := ((am_ag.rf).mix rfl).mix rfl
    rw [e9.eq]
    exact hK _
  · replace hno : ¬ (0 ≤ h ∧ h < M 227 0 0) := hno
    show R (5, [some (aR 7 0), some (aI h), some (aI q), none], [aN], M)
    refine hR _ (hR _ (hR _ (hR _ (?_))))
    show R (13, [some (aR 7 0), some (aI h), some (aI q), some (aN)], [aL (-4611686018427387904)], M)
    refine hR _ (show K (some (aL (-4611686018427387904))) M from ?_)
    have hres : jx_mean M h q = (-4611686018427387904) := by
      unfold jx_mean
      repeat' split
      all_goals first | omega | rfl
    rw [hres] at hK
    have e9 : am_ag [12, 13, 14, 263, 264, 265, 266, 346, 17, 19, 100, 101, 102] M M := am_ag.rf
    rw [e9.eq]
    exact hK _

set_option maxHeartbeats 1000000 in
theorem sq_time {d : Nat} (hd : 8 ≤ d) {h q : Int} {M : am_M} {K : am_K} (hJ : jf_J M) (ha_h : am_in h) (ha_q : am_in q) (hK : ∀ g, K (some (aL (jx_time M h q))) (am_mix [12, 13, 14, 263, 264, 265, 266, 346, 17, 19, 100, 101, 102] g M)) : am_Call wb d 72 [aR 7 0, aI h, aI q] M K := by
  obtain ⟨d, rfl⟩ : ∃ e, d = e + 1 := ⟨d - 1, by omega⟩
  refine ⟨rfl, fun R hR hC => ?_⟩
  replace hR : ∀ c, am_F wb tb_f72 5 (am_Call wb d) K R c → R c := hR
  have hn := hJ.1.1.2.2.2.2.2.2.2.1
  have hl0 := hJ.1.1.2.2.2.2.2.2.2.2
  have htc := hJ.2.2.1.1
  have hlt : 0 ≤ M 228 0 0 ∧ M 228 0 0 < 6 := by omega
  have hmk := hJ.1.1.1
  have hdr := hJ.1.1.2.1
  have hpr := hJ.1.1.2.2.1
  have hfu := hJ.1.1.2.2.2.1
  show R (0, [some (aR 7 0), some (aI h), some (aI q), none], [], M)
  refine hR _ (hR _ (?_))
  show R (2, [some (aR 7 0), some (aI h), some (aI q), none], [aI h, aR 7 0], M)
  refine hR _ (sp_handAt (by omega) hn (by omega) (fun k hhk hk5 => ?_) (fun hno => ?_))
  · replace hk5 : (k : Int) < M 227 0 0 := hk5
    have hkw := hJ.wk (k := k) (by omega)
    have hok := hJ.px (k := k) (by omega)
    show R (5, [some (aR 7 0), some (aI h), some (aI q), none], [aR 1 k], M)
    refine hR _ (hR _ (hR _ (hR _ (hR _ (?_)))))
    show R (16, [some (aR 7 0), some (aI h), some (aI q), some (aR 1 k)], [aR 1 k, aR 7 0], M)
    refine hR _ (sp_Xthink (by omega) hkw hlt hok (fun g60 hth => ?_))
    obtain ⟨p, hp⟩ : ∃ p, p = jf_px M k := ⟨_, rfl⟩
    replace hth : jf_th (am_mix [12, 13, 14, 263, 264, 265, 266, 346, 17, 19] g60 M) (jf_px M k) := hth
    rw [← hp] at hth hok
    have hthA : g60 263 0 0 = jf_A p := hth.2.1
    have hthN : g60 264 0 0 = (jf_P p).2.2 := hth.2.2
    have hA := jf_A_b hok
    have hPb := jf_P_b hok
    show R (19, [some (aR 7 0), some (aI h), some (aI q), some (aR 1 k)], [], am_mix [12, 13, 14, 263, 264, 265, 266, 346, 17, 19] g60 M)
    refine hR _ (hR _ (?_))
    show R (23, [some (aR 7 0), some (aI h), some (aI q), some (aR 1 k)], [aR 4 0], am_mix [12, 13, 14, 263, 264, 265, 266, 346, 17, 19] g60 M)
    refine hR _ (sp_allTenths (by omega) hok hth ?_)
    have htt23 := jf_tt_b hok
    show R (26, [some (aR 7 0), some (aI h), some (aI q), some (aR 1 k)], [aL (jf_tt p)], am_mix [12, 13, 14, 263, 264, 265, 266, 346, 17, 19] g60 M)
    refine hR _ (hR _ (hR _ (?_)))
    show R (33, [some (aR 7 0), some (aI h), some (aI q), some (aR 1 k)], [aI (g60 263 0 0), aL (jf_tt p)], am_mix [12, 13, 14, 263, 264, 265, 266, 346, 17, 19] g60 M)
    rw [hthA]
    show R (33, [some (aR 7 0), some (aI h), some (aI q), some (aR 1 k)], [aI (jf_A p), aL (jf_tt p)], am_mix [12, 13, 14, 263, 264, 265, 266, 346, 17, 19] g60 M)
    refine hR _ ⟨(by omega), ?_⟩
    show R (34, [some (aR 7 0), some (aI h), some (aI q), some (aR 1 k)], [aL (jf_A p), aL (jf_tt p)], am_mix [12, 13, 14, 263, 264, 265, 266, 346, 17, 19] g60 M)
    refine hR _ (?_)
    show R (35, [some (aR 7 0), some (aI h), some (aI q), some (aR 1 k)], [aI q, aL (jf_A p), aL (jf_tt p)], am_mix [12, 13, 14, 263, 264, 265, 266, 346, 17, 19] g60 M)
    refine hR _ (sp_il (by omega) (by omega) (by omega) (by omega) ?_)
    show R (38, [some (aR 7 0), some (aI h), some (aI q), some (aR 1 k)], [aL (jf_il (jf_tt p) (jf_A p) q)], am_mix [12, 13, 14, 263, 264, 265, 266, 346, 17, 19] g60 M)
    refine hR _ (show K (some (aL (jf_il (jf_tt p) (jf_A p) q))) (am_mix [12, 13, 14, 263, 264, 265, 266, 346, 17, 19] g60 M) from ?_)
    have hres : jx_time M h q = (jf_il (jf_tt p) (jf_A p) q) := by
      subst hhk
      subst hp
      unfold jx_time
      repeat' split
      all_goals first | omega | rfl
    rw [hres] at hK
    have e9 : am_ag [12, 13, 14, 263, 264, 265, 266, 346, 17, 19, 100, 101, 102] M (am_mix [12, 13, 14, 263, 264, 265, 266, 346, 17, 19] g60 M) := (am_ag.rf).mix rfl
    rw [e9.eq]
    exact hK _
  · replace hno : ¬ (0 ≤ h ∧ h < M 227 0 0) := hno
    show R (5, [some (aR 7 0), some (aI h), some (aI q), none], [aN], M)
    refine hR _ (hR _ (hR _ (hR _ (?_))))
    show R (13, [some (aR 7 0), some (aI h), some (aI q), some (aN)], [aL (-4611686018427387904)], M)
    refine hR _ (show K (some (aL (-4611686018427387904))) M from ?_)
    have hres : jx_time M h q = (-4611686018427387904) := by
      unfold jx_time
      repeat' split
      all_goals first | omega | rfl
    rw [hres] at hK
    have e9 : am_ag [12, 13, 14, 263, 264, 265, 266, 346, 17, 19, 100, 101, 102] M M := am_ag.rf
    rw [e9.eq]
    exact hK _

set_option maxHeartbeats 1000000 in
theorem sq_at {d : Nat} (hd : 8 ≤ d) {h e q : Int} {M : am_M} {K : am_K} (hJ : jf_J M) (ha_h : am_in h) (ha_e : am_in e) (ha_q : am_in q) (hK : ∀ g, K (some (aL (jx_at M h e q))) (am_mix [12, 13, 14, 263, 264, 265, 266, 346, 17, 19, 100, 101, 102] g M)) : am_Call wb d 74 [aR 7 0, aI h, aI e, aI q] M K := by
  obtain ⟨d, rfl⟩ : ∃ e, d = e + 1 := ⟨d - 1, by omega⟩
  refine ⟨rfl, fun R hR hC => ?_⟩
  replace hR : ∀ c, am_F wb tb_f74 5 (am_Call wb d) K R c → R c := hR
  have hn := hJ.1.1.2.2.2.2.2.2.2.1
  have hl0 := hJ.1.1.2.2.2.2.2.2.2.2
  have htc := hJ.2.2.1.1
  have hlt : 0 ≤ M 228 0 0 ∧ M 228 0 0 < 6 := by omega
  have hmk := hJ.1.1.1
  have hdr := hJ.1.1.2.1
  have hpr := hJ.1.1.2.2.1
  have hfu := hJ.1.1.2.2.2.1
  show R (0, [some (aR 7 0), some (aI h), some (aI e), some (aI q), none], [], M)
  refine hR _ (hR _ (?_))
  show R (2, [some (aR 7 0), some (aI h), some (aI e), some (aI q), none], [aI h, aR 7 0], M)
  refine hR _ (sp_handAt (by omega) hn (by omega) (fun k hhk hk5 => ?_) (fun hno => ?_))
  · replace hk5 : (k : Int) < M 227 0 0 := hk5
    have hkw := hJ.wk (k := k) (by omega)
    have hok := hJ.px (k := k) (by omega)
    show R (5, [some (aR 7 0), some (aI h), some (aI e), some (aI q), none], [aR 1 k], M)
    refine hR _ (hR _ (hR _ (hR _ (hR _ (hR _ (?_))))))
    show R (17, [some (aR 7 0), some (aI h), some (aI e), some (aI q), some (aR 1 k)], [aI 5000, aI 0, aI e], M)
    refine hR _ (sp_within (by omega) (by omega) (fun h17 => ?_) (fun h17 => ?_))
    · show R (20, [some (aR 7 0), some (aI h), some (aI e), some (aI q), some (aR 1 k)], [aI 1], M)
      refine hR _ (am_brt (rg := am_in 1) (P := (1 : Int) ≠ 0) (A := R (27, [some (aR 7 0), some (aI h), some (aI e), some (aI q), some (aR 1 k)], [], M)) (B := R (23, [some (aR 7 0), some (aI h), some (aI e), some (aI q), some (aR 1 k)], [], M)) (by omega) (by omega) ?_)
      show R (27, [some (aR 7 0), some (aI h), some (aI e), some (aI q), some (aR 1 k)], [], M)
      refine hR _ (hR _ (?_))
      show R (30, [some (aR 7 0), some (aI h), some (aI e), some (aI q), some (aR 1 k)], [aR 1 k, aR 7 0], M)
      refine hR _ (sp_Xthink (by omega) hkw hlt hok (fun g61 hth => ?_))
      obtain ⟨p, hp⟩ : ∃ p, p = jf_px M k := ⟨_, rfl⟩
      replace hth : jf_th (am_mix [12, 13, 14, 263, 264, 265, 266, 346, 17, 19] g61 M) (jf_px M k) := hth
      rw [← hp] at hth hok
      have hthA : g61 263 0 0 = jf_A p := hth.2.1
      have hthN : g61 264 0 0 = (jf_P p).2.2 := hth.2.2
      have hA := jf_A_b hok
      have hPb := jf_P_b hok
      show R (33, [some (aR 7 0), some (aI h), some (aI e), some (aI q), some (aR 1 k)], [], am_mix [12, 13, 14, 263, 264, 265, 266, 346, 17, 19] g61 M)
      refine hR _ (hR _ (hR _ (?_)))
      show R (38, [some (aR 7 0), some (aI h), some (aI e), some (aI q), some (aR 1 k)], [aI e, aR 4 0], am_mix [12, 13, 14, 263, 264, 265, 266, 346, 17, 19] g61 M)
      refine hR _ (sp_oftenAt (by omega) hok hth (by omega) ?_)
      have hat38 := jf_at_b hok (e)
      show R (41, [some (aR 7 0), some (aI h), some (aI e), some (aI q), some (aR 1 k)], [aL (jf_at p e)], am_mix [12, 13, 14, 263, 264, 265, 266, 346, 17, 19] g61 M)
      refine hR _ (hR _ (hR _ (?_)))
      show R (48, [some (aR 7 0), some (aI h), some (aI e), some (aI q), some (aR 1 k)], [aI (g61 263 0 0), aL (jf_at p e)], am_mix [12, 13, 14, 263, 264, 265, 266, 346, 17, 19] g61 M)
      rw [hthA]
      show R (48, [some (aR 7 0), some (aI h), some (aI e), some (aI q), some (aR 1 k)], [aI (jf_A p), aL (jf_at p e)], am_mix [12, 13, 14, 263, 264, 265, 266, 346, 17, 19] g61 M)
      refine hR _ ⟨(by omega), ?_⟩
      show R (49, [some (aR 7 0), some (aI h), some (aI e), some (aI q), some (aR 1 k)], [aL (jf_A p), aL (jf_at p e)], am_mix [12, 13, 14, 263, 264, 265, 266, 346, 17, 19] g61 M)
      refine hR _ (?_)
      show R (50, [some (aR 7 0), some (aI h), some (aI e), some (aI q), some (aR 1 k)], [aI q, aL (jf_A p), aL (jf_at p e)], am_mix [12, 13, 14, 263, 264, 265, 266, 346, 17, 19] g61 M)
      refine hR _ (sp_il (by omega) (by omega) (by omega) (by omega) ?_)
      show R (53, [some (aR 7 0), some (aI h), some (aI e), some (aI q), some (aR 1 k)], [aL (jf_il (jf_at p e) (jf_A p) q)], am_mix [12, 13, 14, 263, 264, 265, 266, 346, 17, 19] g61 M)
      refine hR _ (show K (some (aL (jf_il (jf_at p e) (jf_A p) q))) (am_mix [12, 13, 14, 263, 264, 265, 266, 346, 17, 19] g61 M) from ?_)
      have hres : jx_at M h e q = (jf_il (jf_at p e) (jf_A p) q) := by
        subst hhk
        subst hp
        unfold jx_at
        repeat' split
        all_goals first | omega | rfl
      rw [hres] at hK
      have e9 : am_ag [12, 13, 14, 263, 264, 265, 266, 346, 17, 19, 100, 101, 102] M (am_mix [12, 13, 14, 263, 264, 265, 266, 346, 17, 19] g61 M) := (am_ag.rf).mix rfl
      rw [e9.eq]
      exact hK _
    · show R (20, [some (aR 7 0), some (aI h), some (aI e), some (aI q), some (aR 1 k)], [aI 0], M)
      refine hR _ (am_brf (rg := am_in 0) (P := (0 : Int) ≠ 0) (A := R (27, [some (aR 7 0), some (aI h), some (aI e), some (aI q), some (aR 1 k)], [], M)) (B := R (23, [some (aR 7 0), some (aI h), some (aI e), some (aI q), some (aR 1 k)], [], M)) (by omega) (by omega) ?_)
      show R (23, [some (aR 7 0), some (aI h), some (aI e), some (aI q), some (aR 1 k)], [], M)
      refine hR _ (?_)
      show R (26, [some (aR 7 0), some (aI h), some (aI e), some (aI q), some (aR 1 k)], [aL (-4611686018427387904)], M)
      refine hR _ (show K (some (aL (-4611686018427387904))) M from ?_)
      have hres : jx_at M h e q = (-4611686018427387904) := by
        unfold jx_at
        repeat' split
        all_goals first | omega | rfl
      rw [hres] at hK
      have e9 : am_ag [12, 13, 14, 263, 264, 265, 266, 346, 17, 19, 100, 101, 102] M M := am_ag.rf
      rw [e9.eq]
      exact hK _
  · replace hno : ¬ (0 ≤ h ∧ h < M 227 0 0) := hno
    show R (5, [some (aR 7 0), some (aI h), some (aI e), some (aI q), none], [aN], M)
    refine hR _ (hR _ (hR _ (hR _ (?_))))
    show R (26, [some (aR 7 0), some (aI h), some (aI e), some (aI q), some (aN)], [aL (-4611686018427387904)], M)
    refine hR _ (show K (some (aL (-4611686018427387904))) M from ?_)
    have hres : jx_at M h e q = (-4611686018427387904) := by
      unfold jx_at
      repeat' split
      all_goals first | omega | rfl
    rw [hres] at hK
    have e9 : am_ag [12, 13, 14, 263, 264, 265, 266, 346, 17, 19, 100, 101, 102] M M := am_ag.rf
    rw [e9.eq]
    exact hK _

set_option maxHeartbeats 1000000 in
theorem sq_full {d : Nat} (hd : 8 ≤ d) {h s q : Int} {M : am_M} {K : am_K} (hJ : jf_J M) (ha_h : am_in h) (ha_s : am_in s) (ha_q : am_in q) (hK : ∀ g, K (some (aL (jx_full M h s q))) (am_mix [12, 13, 14, 263, 264, 265, 266, 346, 17, 19, 100, 101, 102] g M)) : am_Call wb d 85 [aR 7 0, aI h, aI s, aI q] M K := by
  obtain ⟨d, rfl⟩ : ∃ e, d = e + 1 := ⟨d - 1, by omega⟩
  refine ⟨rfl, fun R hR hC => ?_⟩
  replace hR : ∀ c, am_F wb tb_f85 5 (am_Call wb d) K R c → R c := hR
  have hn := hJ.1.1.2.2.2.2.2.2.2.1
  have hl0 := hJ.1.1.2.2.2.2.2.2.2.2
  have htc := hJ.2.2.1.1
  have hlt : 0 ≤ M 228 0 0 ∧ M 228 0 0 < 6 := by omega
  have hmk := hJ.1.1.1
  have hdr := hJ.1.1.2.1
  have hpr := hJ.1.1.2.2.1
  have hfu := hJ.1.1.2.2.2.1
  show R (0, [some (aR 7 0), some (aI h), some (aI s), some (aI q), none, none], [], M)
  refine hR _ (hR _ (?_))
  show R (2, [some (aR 7 0), some (aI h), some (aI s), some (aI q), none, none], [aI h, aR 7 0], M)
  refine hR _ (sp_handAt (by omega) hn (by omega) (fun k hhk hk5 => ?_) (fun hno => ?_))
  · replace hk5 : (k : Int) < M 227 0 0 := hk5
    have hkw := hJ.wk (k := k) (by omega)
    have hok := hJ.px (k := k) (by omega)
    show R (5, [some (aR 7 0), some (aI h), some (aI s), some (aI q), none, none], [aR 1 k], M)
    refine hR _ (hR _ (hR _ (hR _ (hR _ (hR _ (?_))))))
    show R (15, [some (aR 7 0), some (aI h), some (aI s), some (aI q), some (aR 1 k), none], [aI 1, aI 0, aI s], M)
    refine hR _ (sp_within (by omega) (by omega) (fun h15 => ?_) (fun h15 => ?_))
    · show R (18, [some (aR 7 0), some (aI h), some (aI s), some (aI q), some (aR 1 k), none], [aI 1], M)
      refine hR _ (am_brt (rg := am_in 1) (P := (1 : Int) ≠ 0) (A := R (25, [some (aR 7 0), some (aI h), some (aI s), some (aI q), some (aR 1 k), none], [], M)) (B := R (21, [some (aR 7 0), some (aI h), some (aI s), some (aI q), some (aR 1 k), none], [], M)) (by omega) (by omega) ?_)
      show R (25, [some (aR 7 0), some (aI h), some (aI s), some (aI q), some (aR 1 k), none], [], M)
      refine hR _ (hR _ (?_))
      show R (28, [some (aR 7 0), some (aI h), some (aI s), some (aI q), some (aR 1 k), none], [aR 1 k, aR 7 0], M)
      refine hR _ (sp_Xthink (by omega) hkw hlt hok (fun g62 hth => ?_))
      obtain ⟨p, hp⟩ : ∃ p, p = jf_px M k := ⟨_, rfl⟩
      replace hth : jf_th (am_mix [12, 13, 14, 263, 264, 265, 266, 346, 17, 19] g62 M) (jf_px M k) := hth
      rw [← hp] at hth hok
      have hthA : g62 263 0 0 = jf_A p := hth.2.1
      have hthN : g62 264 0 0 = (jf_P p).2.2 := hth.2.2
      have hA := jf_A_b hok
      have hPb := jf_P_b hok
      show R (31, [some (aR 7 0), some (aI h), some (aI s), some (aI q), some (aR 1 k), none], [], am_mix [12, 13, 14, 263, 264, 265, 266, 346, 17, 19] g62 M)
      refine hR _ (hR _ (hR _ (hR _ (hR _ (hR _ (hR _ (am_brc (rg := am_in (M 223 0 0) ∧ am_in (M 220 0 0)) (P := M 220 0 0 ≤ M 223 0 0) (A := R (52, [some (aR 7 0), some (aI h), some (aI s), some (aI q), some (aR 1 k), none], [], am_mix [12, 13, 14, 263, 264, 265, 266, 346, 17, 19] g62 M)) (B := R (48, [some (aR 7 0), some (aI h), some (aI s), some (aI q), some (aR 1 k), none], [], am_mix [12, 13, 14, 263, 264, 265, 266, 346, 17, 19] g62 M)) (by omega) (fun c45 => ?_) (fun c45 => ?_))))))))
      · refine hR _ (hR _ (hR _ (am_brc (rg := am_in s) (P := s ≠ 0) (A := R (61, [some (aR 7 0), some (aI h), some (aI s), some (aI q), some (aR 1 k), none], [aI 0], am_mix [12, 13, 14, 263, 264, 265, 266, 346, 17, 19] g62 M)) (B := R (57, [some (aR 7 0), some (aI h), some (aI s), some (aI q), some (aR 1 k), none], [aI 0], am_mix [12, 13, 14, 263, 264, 265, 266, 346, 17, 19] g62 M)) (by omega) (fun c54 => ?_) (fun c54 => ?_))))
        · refine hR _ (hR _ (am_brf (rg := am_in 0 ∧ am_in 0) (P := (0 : Int) ≠ 0) (A := R (69, [some (aR 7 0), some (aI h), some (aI s), some (aI q), some (aR 1 k), none], [], am_mix [12, 13, 14, 263, 264, 265, 266, 346, 17, 19] g62 M)) (B := R (65, [some (aR 7 0), some (aI h), some (aI s), some (aI q), some (aR 1 k), none], [], am_mix [12, 13, 14, 263, 264, 265, 266, 346, 17, 19] g62 M)) (by omega) (by omega) ?_))
          show R (65, [some (aR 7 0), some (aI h), some (aI s), some (aI q), some (aR 1 k), none], [], am_mix [12, 13, 14, 263, 264, 265, 266, 346, 17, 19] g62 M)
          refine hR _ (hR _ (hR _ (hR _ (hR _ (am_brf (rg := am_in 1) (P := (1 : Int) = 0) (A := R (94, [some (aR 7 0), some (aI h), some (aI s), some (aI q), some (aR 1 k), some (aI 1)], [], am_mix [12, 13, 14, 263, 264, 265, 266, 346, 17, 19] g62 M)) (B := R (77, [some (aR 7 0), some (aI h), some (aI s), some (aI q), some (aR 1 k), some (aI 1)], [], am_mix [12, 13, 14, 263, 264, 265, 266, 346, 17, 19] g62 M)) (by omega) (by omega) ?_)))))
          show R (77, [some (aR 7 0), some (aI h), some (aI s), some (aI q), some (aR 1 k), some (aI 1)], [], am_mix [12, 13, 14, 263, 264, 265, 266, 346, 17, 19] g62 M)
          refine hR _ (hR _ (hR _ (hR _ (hR _ (?_)))))
          show R (88, [some (aR 7 0), some (aI h), some (aI s), some (aI q), some (aR 1 k), some (aI 1)], [aI (M 223 0 0), aR 4 0], am_mix [12, 13, 14, 263, 264, 265, 266, 346, 17, 19] g62 M)
          refine hR _ (sp_oftenAt (by omega) hok hth (by omega) ?_)
          have hat88 := jf_at_b hok (M 223 0 0)
          show R (91, [some (aR 7 0), some (aI h), some (aI s), some (aI q), some (aR 1 k), some (aI 1)], [aL (jf_at p (M 223 0 0))], am_mix [12, 13, 14, 263, 264, 265, 266, 346, 17, 19] g62 M)
          refine hR _ (hR _ (hR _ (hR _ (?_))))
          show R (102, [some (aR 7 0), some (aI h), some (aI s), some (aI q), some (aR 1 k), some (aI 1)], [aI (g62 263 0 0), aL (jf_at p (M 223 0 0))], am_mix [12, 13, 14, 263, 264, 265, 266, 346, 17, 19] g62 M)
          rw [hthA]
          show R (102, [some (aR 7 0), some (aI h), some (aI s), some (aI q), some (aR 1 k), some (aI 1)], [aI (jf_A p), aL (jf_at p (M 223 0 0))], am_mix [12, 13, 14, 263, 264, 265, 266, 346, 17, 19] g62 M)
          refine hR _ ⟨(by omega), ?_⟩
          show R (103, [some (aR 7 0), some (aI h), some (aI s), some (aI q), some (aR 1 k), some (aI 1)], [aL (jf_A p), aL (jf_at p (M 223 0 0))], am_mix [12, 13, 14, 263, 264, 265, 266, 346, 17, 19] g62 M)
          refine hR _ (?_)
          show R (104, [some (aR 7 0), some (aI h), some (aI s), some (aI q), some (aR 1 k), some (aI 1)], [aI q, aL (jf_A p), aL (jf_at p (M 223 0 0))], am_mix [12, 13, 14, 263, 264, 265, 266, 346, 17, 19] g62 M)
          refine hR _ (sp_il (by omega) (by omega) (by omega) (by omega) ?_)
          show R (107, [some (aR 7 0), some (aI h), some (aI s), some (aI q), some (aR 1 k), some (aI 1)], [aL (jf_il (jf_at p (M 223 0 0)) (jf_A p) q)], am_mix [12, 13, 14, 263, 264, 265, 266, 346, 17, 19] g62 M)
          refine hR _ (show K (some (aL (jf_il (jf_at p (M 223 0 0)) (jf_A p) q))) (am_mix [12, 13, 14, 263, 264, 265, 266, 346, 17, 19] g62 M) from ?_)
          have hres : jx_full M h s q = (jf_il (jf_at p (M 223 0 0)) (jf_A p) q) := by
            subst hhk
            subst hp
            unfold jx_full
            repeat' split
            all_goals first | omega | rfl
          rw [hres] at hK
          have e9 : am_ag [12, 13, 14, 263, 264, 265, 266, 346, 17, 19, 100, 101, 102] M (am_mix [12, 13, 14, 263, 264, 265, 266, 346, 17, 19] g62 M) := (am_ag.rf).mix rfl
          rw [e9.eq]
          exact hK _
        · refine hR _ (hR _ (hR _ (am_brt (rg := am_in 0 ∧ am_in 1) (P := (0 : Int) ≠ 1) (A := R (69, [some (aR 7 0), some (aI h), some (aI s), some (aI q), some (aR 1 k), none], [], am_mix [12, 13, 14, 263, 264, 265, 266, 346, 17, 19] g62 M)) (B := R (65, [some (aR 7 0), some (aI h), some (aI s), some (aI q), some (aR 1 k), none], [], am_mix [12, 13, 14, 263, 264, 265, 266, 346, 17, 19] g62 M)) (by omega) (by omega) ?_)))
          show R (69, [some (aR 7 0), some (aI h), some (aI s), some (aI q), some (aR 1 k), none], [], am_mix [12, 13, 14, 263, 264, 265, 266, 346, 17, 19] g62 M)
          refine hR _ (hR _ (hR _ (hR _ (am_brt (rg := am_in 0) (P := (0 : Int) = 0) (A := R (94, [some (aR 7 0), some (aI h), some (aI s), some (aI q), some (aR 1 k), some (aI 0)], [], am_mix [12, 13, 14, 263, 264, 265, 266, 346, 17, 19] g62 M)) (B := R (77, [some (aR 7 0), some (aI h), some (aI s), some (aI q), some (aR 1 k), some (aI 0)], [], am_mix [12, 13, 14, 263, 264, 265, 266, 346, 17, 19] g62 M)) (by omega) (by omega) ?_))))
          show R (94, [some (aR 7 0), some (aI h), some (aI s), some (aI q), some (aR 1 k), some (aI 0)], [], am_mix [12, 13, 14, 263, 264, 265, 266, 346, 17, 19] g62 M)
          refine hR _ (hR _ (hR _ (hR _ (?_))))
          show R (102, [some (aR 7 0), some (aI h), some (aI s), some (aI q), some (aR 1 k), some (aI 0)], [aI (g62 263 0 0), aL 0], am_mix [12, 13, 14, 263, 264, 265, 266, 346, 17, 19] g62 M)
          rw [hthA]
          show R (102, [some (aR 7 0), some (aI h), some (aI s), some (aI q), some (aR 1 k), some (aI 0)], [aI (jf_A p), aL 0], am_mix [12, 13, 14, 263, 264, 265, 266, 346, 17, 19] g62 M)
          refine hR _ ⟨(by omega), ?_⟩
          show R (103, [some (aR 7 0), some (aI h), some (aI s), some (aI q), some (aR 1 k), some (aI 0)], [aL (jf_A p), aL 0], am_mix [12, 13, 14, 263, 264, 265, 266, 346, 17, 19] g62 M)
          refine hR _ (?_)
          show R (104, [some (aR 7 0), some (aI h), some (aI s), some (aI q), some (aR 1 k), some (aI 0)], [aI q, aL (jf_A p), aL 0], am_mix [12, 13, 14, 263, 264, 265, 266, 346, 17, 19] g62 M)
          refine hR _ (sp_il (by omega) (by omega) (by omega) (by omega) ?_)
          show R (107, [some (aR 7 0), some (aI h), some (aI s), some (aI q), some (aR 1 k), some (aI 0)], [aL (jf_il 0 (jf_A p) q)], am_mix [12, 13, 14, 263, 264, 265, 266, 346, 17, 19] g62 M)
          refine hR _ (show K (some (aL (jf_il 0 (jf_A p) q))) (am_mix [12, 13, 14, 263, 264, 265, 266, 346, 17, 19] g62 M) from ?_)
          have hres : jx_full M h s q = (jf_il 0 (jf_A p) q) := by
            subst hhk
            subst hp
            unfold jx_full
            repeat' split
            all_goals first | omega | rfl
          rw [hres] at hK
          have e9 : am_ag [12, 13, 14, 263, 264, 265, 266, 346, 17, 19, 100, 101, 102] M (am_mix [12, 13, 14, 263, 264, 265, 266, 346, 17, 19] g62 M) := (am_ag.rf).mix rfl
          rw [e9.eq]
          exact hK _
      · refine hR _ (hR _ (hR _ (hR _ (am_brc (rg := am_in s) (P := s ≠ 0) (A := R (61, [some (aR 7 0), some (aI h), some (aI s), some (aI q), some (aR 1 k), none], [aI 1], am_mix [12, 13, 14, 263, 264, 265, 266, 346, 17, 19] g62 M)) (B := R (57, [some (aR 7 0), some (aI h), some (aI s), some (aI q), some (aR 1 k), none], [aI 1], am_mix [12, 13, 14, 263, 264, 265, 266, 346, 17, 19] g62 M)) (by omega) (fun c54 => ?_) (fun c54 => ?_)))))
        · refine hR _ (hR _ (am_brt (rg := am_in 1 ∧ am_in 0) (P := (1 : Int) ≠ 0) (A := R (69, [some (aR 7 0), some (aI h), some (aI s), some (aI q), some (aR 1 k), none], [], am_mix [12, 13, 14, 263, 264, 265, 266, 346, 17, 19] g62 M)) (B := R (65, [some (aR 7 0), some (aI h), some (aI s), some (aI q), some (aR 1 k), none], [], am_mix [12, 13, 14, 263, 264, 265, 266, 346, 17, 19] g62 M)) (by omega) (by omega) ?_))
          show R (69, [some (aR 7 0), some (aI h), some (aI s), some (aI q), some (aR 1 k), none], [], am_mix [12, 13, 14, 263, 264, 265, 266, 346, 17, 19] g62 M)
          refine hR _ (hR _ (hR _ (hR _ (am_brt (rg := am_in 0) (P := (0 : Int) = 0) (A := R (94, [some (aR 7 0), some (aI h), some (aI s), some (aI q), some (aR 1 k), some (aI 0)], [], am_mix [12, 13, 14, 263, 264, 265, 266, 346, 17, 19] g62 M)) (B := R (77, [some (aR 7 0), some (aI h), some (aI s), some (aI q), some (aR 1 k), some (aI 0)], [], am_mix [12, 13, 14, 263, 264, 265, 266, 346, 17, 19] g62 M)) (by omega) (by omega) ?_))))
          show R (94, [some (aR 7 0), some (aI h), some (aI s), some (aI q), some (aR 1 k), some (aI 0)], [], am_mix [12, 13, 14, 263, 264, 265, 266, 346, 17, 19] g62 M)
          refine hR _ (hR _ (hR _ (hR _ (?_))))
          show R (102, [some (aR 7 0), some (aI h), some (aI s), some (aI q), some (aR 1 k), some (aI 0)], [aI (g62 263 0 0), aL 0], am_mix [12, 13, 14, 263, 264, 265, 266, 346, 17, 19] g62 M)
          rw [hthA]
          show R (102, [some (aR 7 0), some (aI h), some (aI s), some (aI q), some (aR 1 k), some (aI 0)], [aI (jf_A p), aL 0], am_mix [12, 13, 14, 263, 264, 265, 266, 346, 17, 19] g62 M)
          refine hR _ ⟨(by omega), ?_⟩
          show R (103, [some (aR 7 0), some (aI h), some (aI s), some (aI q), some (aR 1 k), some (aI 0)], [aL (jf_A p), aL 0], am_mix [12, 13, 14, 263, 264, 265, 266, 346, 17, 19] g62 M)
          refine hR _ (?_)
          show R (104, [some (aR 7 0), some (aI h), some (aI s), some (aI q), some (aR 1 k), some (aI 0)], [aI q, aL (jf_A p), aL 0], am_mix [12, 13, 14, 263, 264, 265, 266, 346, 17, 19] g62 M)
          refine hR _ (sp_il (by omega) (by omega) (by omega) (by omega) ?_)
          show R (107, [some (aR 7 0), some (aI h), some (aI s), some (aI q), some (aR 1 k), some (aI 0)], [aL (jf_il 0 (jf_A p) q)], am_mix [12, 13, 14, 263, 264, 265, 266, 346, 17, 19] g62 M)
          refine hR _ (show K (some (aL (jf_il 0 (jf_A p) q))) (am_mix [12, 13, 14, 263, 264, 265, 266, 346, 17, 19] g62 M) from ?_)
          have hres : jx_full M h s q = (jf_il 0 (jf_A p) q) := by
            subst hhk
            subst hp
            unfold jx_full
            repeat' split
            all_goals first | omega | rfl
          rw [hres] at hK
          have e9 : am_ag [12, 13, 14, 263, 264, 265, 266, 346, 17, 19, 100, 101, 102] M (am_mix [12, 13, 14, 263, 264, 265, 266, 346, 17, 19] g62 M) := (am_ag.rf).mix rfl
          rw [e9.eq]
          exact hK _
        · refine hR _ (hR _ (hR _ (am_brf (rg := am_in 1 ∧ am_in 1) (P := (1 : Int) ≠ 1) (A := R (69, [some (aR 7 0), some (aI h), some (aI s), some (aI q), some (aR 1 k), none], [], am_mix [12, 13, 14, 263, 264, 265, 266, 346, 17, 19] g62 M)) (B := R (65, [some (aR 7 0), some (aI h), some (aI s), some (aI q), some (aR 1 k), none], [], am_mix [12, 13, 14, 263, 264, 265, 266, 346, 17, 19] g62 M)) (by omega) (by omega) ?_)))
          show R (65, [some (aR 7 0), some (aI h), some (aI s), some (aI q), some (aR 1 k), none], [], am_mix [12, 13, 14, 263, 264, 265, 266, 346, 17, 19] g62 M)
          refine hR _ (hR _ (hR _ (hR _ (hR _ (am_brf (rg := am_in 1) (P := (1 : Int) = 0) (A := R (94, [some (aR 7 0), some (aI h), some (aI s), some (aI q), some (aR 1 k), some (aI 1)], [], am_mix [12, 13, 14, 263, 264, 265, 266, 346, 17, 19] g62 M)) (B := R (77, [some (aR 7 0), some (aI h), some (aI s), some (aI q), some (aR 1 k), some (aI 1)], [], am_mix [12, 13, 14, 263, 264, 265, 266, 346, 17, 19] g62 M)) (by omega) (by omega) ?_)))))
          show R (77, [some (aR 7 0), some (aI h), some (aI s), some (aI q), some (aR 1 k), some (aI 1)], [], am_mix [12, 13, 14, 263, 264, 265, 266, 346, 17, 19] g62 M)
          refine hR _ (hR _ (hR _ (hR _ (hR _ (?_)))))
          show R (88, [some (aR 7 0), some (aI h), some (aI s), some (aI q), some (aR 1 k), some (aI 1)], [aI (M 223 0 0), aR 4 0], am_mix [12, 13, 14, 263, 264, 265, 266, 346, 17, 19] g62 M)
          refine hR _ (sp_oftenAt (by omega) hok hth (by omega) ?_)
          have hat88 := jf_at_b hok (M 223 0 0)
          show R (91, [some (aR 7 0), some (aI h), some (aI s), some (aI q), some (aR 1 k), some (aI 1)], [aL (jf_at p (M 223 0 0))], am_mix [12, 13, 14, 263, 264, 265, 266, 346, 17, 19] g62 M)
          refine hR _ (hR _ (hR _ (hR _ (?_))))
          show R (102, [some (aR 7 0), some (aI h), some (aI s), some (aI q), some (aR 1 k), some (aI 1)], [aI (g62 263 0 0), aL (jf_at p (M 223 0 0))], am_mix [12, 13, 14, 263, 264, 265, 266, 346, 17, 19] g62 M)
          rw [hthA]
          show R (102, [some (aR 7 0), some (aI h), some (aI s), some (aI q), some (aR 1 k), some (aI 1)], [aI (jf_A p), aL (jf_at p (M 223 0 0))], am_mix [12, 13, 14, 263, 264, 265, 266, 346, 17, 19] g62 M)
          refine hR _ ⟨(by omega), ?_⟩
          show R (103, [some (aR 7 0), some (aI h), some (aI s), some (aI q), some (aR 1 k), some (aI 1)], [aL (jf_A p), aL (jf_at p (M 223 0 0))], am_mix [12, 13, 14, 263, 264, 265, 266, 346, 17, 19] g62 M)
          refine hR _ (?_)
          show R (104, [some (aR 7 0), some (aI h), some (aI s), some (aI q), some (aR 1 k), some (aI 1)], [aI q, aL (jf_A p), aL (jf_at p (M 223 0 0))], am_mix [12, 13, 14, 263, 264, 265, 266, 346, 17, 19] g62 M)
          refine hR _ (sp_il (by omega) (by omega) (by omega) (by omega) ?_)
          show R (107, [some (aR 7 0), some (aI h), some (aI s), some (aI q), some (aR 1 k), some (aI 1)], [aL (jf_il (jf_at p (M 223 0 0)) (jf_A p) q)], am_mix [12, 13, 14, 263, 264, 265, 266, 346, 17, 19] g62 M)
          refine hR _ (show K (some (aL (jf_il (jf_at p (M 223 0 0)) (jf_A p) q))) (am_mix [12, 13, 14, 263, 264, 265, 266, 346, 17, 19] g62 M) from ?_)
          have hres : jx_full M h s q = (jf_il (jf_at p (M 223 0 0)) (jf_A p) q) := by
            subst hhk
            subst hp
            unfold jx_full
            repeat' split
            all_goals first | omega | rfl
          rw [hres] at hK
          have e9 : am_ag [12, 13, 14, 263, 264, 265, 266, 346, 17, 19, 100, 101, 102] M (am_mix [12, 13, 14, 263, 264, 265, 266, 346, 17, 19] g62 M) := (am_ag.rf).mix rfl
          rw [e9.eq]
          exact hK _
    · show R (18, [some (aR 7 0), some (aI h), some (aI s), some (aI q), some (aR 1 k), none], [aI 0], M)
      refine hR _ (am_brf (rg := am_in 0) (P := (0 : Int) ≠ 0) (A := R (25, [some (aR 7 0), some (aI h), some (aI s), some (aI q), some (aR 1 k), none], [], M)) (B := R (21, [some (aR 7 0), some (aI h), some (aI s), some (aI q), some (aR 1 k), none], [], M)) (by omega) (by omega) ?_)
      show R (21, [some (aR 7 0), some (aI h), some (aI s), some (aI q), some (aR 1 k), none], [], M)
      refine hR _ (?_)
      show R (24, [some (aR 7 0), some (aI h), some (aI s), some (aI q), some (aR 1 k), none], [aL (-4611686018427387904)], M)
      refine hR _ (show K (some (aL (-4611686018427387904))) M from ?_)
      have hres : jx_full M h s q = (-4611686018427387904) := by
        unfold jx_full
        repeat' split
        all_goals first | omega | rfl
      rw [hres] at hK
      have e9 : am_ag [12, 13, 14, 263, 264, 265, 266, 346, 17, 19, 100, 101, 102] M M := am_ag.rf
      rw [e9.eq]
      exact hK _
  · replace hno : ¬ (0 ≤ h ∧ h < M 227 0 0) := hno
    show R (5, [some (aR 7 0), some (aI h), some (aI s), some (aI q), none, none], [aN], M)
    refine hR _ (hR _ (hR _ (hR _ (?_))))
    show R (24, [some (aR 7 0), some (aI h), some (aI s), some (aI q), some (aN), none], [aL (-4611686018427387904)], M)
    refine hR _ (show K (some (aL (-4611686018427387904))) M from ?_)
    have hres : jx_full M h s q = (-4611686018427387904) := by
      unfold jx_full
      repeat' split
      all_goals first | omega | rfl
    rw [hres] at hK
    have e9 : am_ag [12, 13, 14, 263, 264, 265, 266, 346, 17, 19, 100, 101, 102] M M := am_ag.rf
    rw [e9.eq]
    exact hK _

set_option maxHeartbeats 1000000 in
theorem sq_spread {d : Nat} (hd : 8 ≤ d) {h : Int} {M : am_M} {K : am_K} (hJ : jf_J M) (ha_h : am_in h) (hK : ∀ g, K (some (aI (jx_spread M h))) (am_mix [12, 13, 14, 263, 264, 265, 266, 346, 17, 19, 100, 101, 102] g M)) : am_Call wb d 86 [aR 7 0, aI h] M K := by
  obtain ⟨d, rfl⟩ : ∃ e, d = e + 1 := ⟨d - 1, by omega⟩
  refine ⟨rfl, fun R hR hC => ?_⟩
  replace hR : ∀ c, am_F wb tb_f86 1 (am_Call wb d) K R c → R c := hR
  have hn := hJ.1.1.2.2.2.2.2.2.2.1
  have hl0 := hJ.1.1.2.2.2.2.2.2.2.2
  have htc := hJ.2.2.1.1
  have hlt : 0 ≤ M 228 0 0 ∧ M 228 0 0 < 6 := by omega
  have hmk := hJ.1.1.1
  have hdr := hJ.1.1.2.1
  have hpr := hJ.1.1.2.2.1
  have hfu := hJ.1.1.2.2.2.1
  show R (0, [some (aR 7 0), some (aI h), none], [], M)
  refine hR _ (hR _ (?_))
  show R (2, [some (aR 7 0), some (aI h), none], [aI h, aR 7 0], M)
  refine hR _ (sp_handAt (by omega) hn (by omega) (fun k hhk hk5 => ?_) (fun hno => ?_))
  · replace hk5 : (k : Int) < M 227 0 0 := hk5
    have hkw := hJ.wk (k := k) (by omega)
    have hok := hJ.px (k := k) (by omega)
    show R (5, [some (aR 7 0), some (aI h), none], [aR 1 k], M)
    refine hR _ (hR _ (hR _ (hR _ (hR _ (?_)))))
    show R (15, [some (aR 7 0), some (aI h), some (aR 1 k)], [aR 1 k, aR 7 0], M)
    refine hR _ (sp_Xthink (by omega) hkw hlt hok (fun g63 hth => ?_))
    obtain ⟨p, hp⟩ : ∃ p, p = jf_px M k := ⟨_, rfl⟩
    replace hth : jf_th (am_mix [12, 13, 14, 263, 264, 265, 266, 346, 17, 19] g63 M) (jf_px M k) := hth
    rw [← hp] at hth hok
    have hthA : g63 263 0 0 = jf_A p := hth.2.1
    have hthN : g63 264 0 0 = (jf_P p).2.2 := hth.2.2
    have hA := jf_A_b hok
    have hPb := jf_P_b hok
    show R (18, [some (aR 7 0), some (aI h), some (aR 1 k)], [], am_mix [12, 13, 14, 263, 264, 265, 266, 346, 17, 19] g63 M)
    refine hR _ (hR _ (?_))
    show R (22, [some (aR 7 0), some (aI h), some (aR 1 k)], [aR 4 0], am_mix [12, 13, 14, 263, 264, 265, 266, 346, 17, 19] g63 M)
    refine hR _ (sp_mostLessLeast (by omega) hok hth ?_)
    show R (25, [some (aR 7 0), some (aI h), some (aR 1 k)], [aI (jf_ms p 5 - jf_ls p 5)], am_mix [12, 13, 14, 263, 264, 265, 266, 346, 17, 19] g63 M)
    refine hR _ (show K (some (aI (jf_ms p 5 - jf_ls p 5))) (am_mix [12, 13, 14, 263, 264, 265, 266, 346, 17, 19] g63 M) from ?_)
    have hres : jx_spread M h = (jf_ms p 5 - jf_ls p 5) := by
      subst hhk
      subst hp
      unfold jx_spread
      repeat' split
      all_goals first | omega | rfl
    rw [hres] at hK
    have e9 : am_ag [12, 13, 14, 263, 264, 265, 266, 346, 17, 19, 100, 101, 102] M (am_mix [12, 13, 14, 263, 264, 265, 266, 346, 17, 19] g63 M) := (am_ag.rf).mix rfl
    rw [e9.eq]
    exact hK _
  · replace hno : ¬ (0 ≤ h ∧ h < M 227 0 0) := hno
    show R (5, [some (aR 7 0), some (aI h), none], [aN], M)
    refine hR _ (hR _ (hR _ (hR _ (?_))))
    show R (12, [some (aR 7 0), some (aI h), some (aN)], [aI (-5)], M)
    refine hR _ (show K (some (aI (-5))) M from ?_)
    have hres : jx_spread M h = (-5) := by
      unfold jx_spread
      repeat' split
      all_goals first | omega | rfl
    rw [hres] at hK
    have e9 : am_ag [12, 13, 14, 263, 264, 265, 266, 346, 17, 19, 100, 101, 102] M M := am_ag.rf
    rw [e9.eq]
    exact hK _

set_option maxHeartbeats 1000000 in
theorem sq_alike {d : Nat} (hd : 8 ≤ d) {h n q : Int} {M : am_M} {K : am_K} (hJ : jf_J M) (ha_h : am_in h) (ha_n : am_in n) (ha_q : am_in q) (hK : ∀ g, K (some (aL (jx_alike M h n q))) (am_mix [12, 13, 14, 263, 264, 265, 266, 346, 17, 19, 100, 101, 102] g M)) : am_Call wb d 88 [aR 7 0, aI h, aI n, aI q] M K := by
  obtain ⟨d, rfl⟩ : ∃ e, d = e + 1 := ⟨d - 1, by omega⟩
  refine ⟨rfl, fun R hR hC => ?_⟩
  replace hR : ∀ c, am_F wb tb_f88 5 (am_Call wb d) K R c → R c := hR
  have hn := hJ.1.1.2.2.2.2.2.2.2.1
  have hl0 := hJ.1.1.2.2.2.2.2.2.2.2
  have htc := hJ.2.2.1.1
  have hlt : 0 ≤ M 228 0 0 ∧ M 228 0 0 < 6 := by omega
  have hmk := hJ.1.1.1
  have hdr := hJ.1.1.2.1
  have hpr := hJ.1.1.2.2.1
  have hfu := hJ.1.1.2.2.2.1
  show R (0, [some (aR 7 0), some (aI h), some (aI n), some (aI q), none], [], M)
  refine hR _ (hR _ (?_))
  show R (2, [some (aR 7 0), some (aI h), some (aI n), some (aI q), none], [aI h, aR 7 0], M)
  refine hR _ (sp_handAt (by omega) hn (by omega) (fun k hhk hk5 => ?_) (fun hno => ?_))
  · replace hk5 : (k : Int) < M 227 0 0 := hk5
    have hkw := hJ.wk (k := k) (by omega)
    have hok := hJ.px (k := k) (by omega)
    show R (5, [some (aR 7 0), some (aI h), some (aI n), some (aI q), none], [aR 1 k], M)
    refine hR _ (hR _ (hR _ (hR _ (hR _ (hR _ (?_))))))
    show R (15, [some (aR 7 0), some (aI h), some (aI n), some (aI q), some (aR 1 k)], [aI 4, aI 1, aI n], M)
    refine hR _ (sp_within (by omega) (by omega) (fun h15 => ?_) (fun h15 => ?_))
    · show R (18, [some (aR 7 0), some (aI h), some (aI n), some (aI q), some (aR 1 k)], [aI 1], M)
      refine hR _ (am_brt (rg := am_in 1) (P := (1 : Int) ≠ 0) (A := R (25, [some (aR 7 0), some (aI h), some (aI n), some (aI q), some (aR 1 k)], [], M)) (B := R (21, [some (aR 7 0), some (aI h), some (aI n), some (aI q), some (aR 1 k)], [], M)) (by omega) (by omega) ?_)
      show R (25, [some (aR 7 0), some (aI h), some (aI n), some (aI q), some (aR 1 k)], [], M)
      refine hR _ (hR _ (?_))
      show R (28, [some (aR 7 0), some (aI h), some (aI n), some (aI q), some (aR 1 k)], [aR 1 k, aR 7 0], M)
      refine hR _ (sp_Xthink (by omega) hkw hlt hok (fun g64 hth => ?_))
      obtain ⟨p, hp⟩ : ∃ p, p = jf_px M k := ⟨_, rfl⟩
      replace hth : jf_th (am_mix [12, 13, 14, 263, 264, 265, 266, 346, 17, 19] g64 M) (jf_px M k) := hth
      rw [← hp] at hth hok
      have hthA : g64 263 0 0 = jf_A p := hth.2.1
      have hthN : g64 264 0 0 = (jf_P p).2.2 := hth.2.2
      have hA := jf_A_b hok
      have hPb := jf_P_b hok
      show R (31, [some (aR 7 0), some (aI h), some (aI n), some (aI q), some (aR 1 k)], [], am_mix [12, 13, 14, 263, 264, 265, 266, 346, 17, 19] g64 M)
      refine hR _ (hR _ (hR _ (?_)))
      show R (36, [some (aR 7 0), some (aI h), some (aI n), some (aI q), some (aR 1 k)], [aI n, aR 4 0], am_mix [12, 13, 14, 263, 264, 265, 266, 346, 17, 19] g64 M)
      refine hR _ (sp_oftenAlike (by omega) hok hth (by omega) ?_)
      have hal36 := jf_al_b hok (n := (n).toNat) (by omega)
      show R (39, [some (aR 7 0), some (aI h), some (aI n), some (aI q), some (aR 1 k)], [aL (jf_al p (n).toNat)], am_mix [12, 13, 14, 263, 264, 265, 266, 346, 17, 19] g64 M)
      refine hR _ (hR _ (hR _ (?_)))
      show R (46, [some (aR 7 0), some (aI h), some (aI n), some (aI q), some (aR 1 k)], [aI (g64 263 0 0), aL (jf_al p (n).toNat)], am_mix [12, 13, 14, 263, 264, 265, 266, 346, 17, 19] g64 M)
      rw [hthA]
      show R (46, [some (aR 7 0), some (aI h), some (aI n), some (aI q), some (aR 1 k)], [aI (jf_A p), aL (jf_al p (n).toNat)], am_mix [12, 13, 14, 263, 264, 265, 266, 346, 17, 19] g64 M)
      refine hR _ ⟨(by omega), ?_⟩
      show R (47, [some (aR 7 0), some (aI h), some (aI n), some (aI q), some (aR 1 k)], [aL (jf_A p), aL (jf_al p (n).toNat)], am_mix [12, 13, 14, 263, 264, 265, 266, 346, 17, 19] g64 M)
      refine hR _ (?_)
      show R (48, [some (aR 7 0), some (aI h), some (aI n), some (aI q), some (aR 1 k)], [aI n, aL (jf_A p), aL (jf_al p (n).toNat)], am_mix [12, 13, 14, 263, 264, 265, 266, 346, 17, 19] g64 M)
      refine hR _ (sp_power (by omega) (by omega) ?_)
      have hpw48 := jf_pw_m (v := (jf_A p)) (by omega) (n).toNat (by omega)
      show R (51, [some (aR 7 0), some (aI h), some (aI n), some (aI q), some (aR 1 k)], [aL (jf_pw (jf_A p) (n).toNat), aL (jf_al p (n).toNat)], am_mix [12, 13, 14, 263, 264, 265, 266, 346, 17, 19] g64 M)
      refine hR _ (?_)
      show R (52, [some (aR 7 0), some (aI h), some (aI n), some (aI q), some (aR 1 k)], [aI q, aL (jf_pw (jf_A p) (n).toNat), aL (jf_al p (n).toNat)], am_mix [12, 13, 14, 263, 264, 265, 266, 346, 17, 19] g64 M)
      refine hR _ (sp_il (by omega) (by omega) (by omega) (by omega) ?_)
      show R (55, [some (aR 7 0), some (aI h), some (aI n), some (aI q), some (aR 1 k)], [aL (jf_il (jf_al p (n).toNat) (jf_pw (jf_A p) (n).toNat) q)], am_mix [12, 13, 14, 263, 264, 265, 266, 346, 17, 19] g64 M)
      refine hR _ (show K (some (aL (jf_il (jf_al p (n).toNat) (jf_pw (jf_A p) (n).toNat) q))) (am_mix [12, 13, 14, 263, 264, 265, 266, 346, 17, 19] g64 M) from ?_)
      have hres : jx_alike M h n q = (jf_il (jf_al p (n).toNat) (jf_pw (jf_A p) (n).toNat) q) := by
        subst hhk
        subst hp
        unfold jx_alike
        repeat' split
        all_goals first | omega | rfl
      rw [hres] at hK
      have e9 : am_ag [12, 13, 14, 263, 264, 265, 266, 346, 17, 19, 100, 101, 102] M (am_mix [12, 13, 14, 263, 264, 265, 266, 346, 17, 19] g64 M) := (am_ag.rf).mix rfl
      rw [e9.eq]
      exact hK _
    · show R (18, [some (aR 7 0), some (aI h), some (aI n), some (aI q), some (aR 1 k)], [aI 0], M)
      refine hR _ (am_brf (rg := am_in 0) (P := (0 : Int) ≠ 0) (A := R (25, [some (aR 7 0), some (aI h), some (aI n), some (aI q), some (aR 1 k)], [], M)) (B := R (21, [some (aR 7 0), some (aI h), some (aI n), some (aI q), some (aR 1 k)], [], M)) (by omega) (by omega) ?_)
      show R (21, [some (aR 7 0), some (aI h), some (aI n), some (aI q), some (aR 1 k)], [], M)
      refine hR _ (?_)
      show R (24, [some (aR 7 0), some (aI h), some (aI n), some (aI q), some (aR 1 k)], [aL (-4611686018427387904)], M)
      refine hR _ (show K (some (aL (-4611686018427387904))) M from ?_)
      have hres : jx_alike M h n q = (-4611686018427387904) := by
        unfold jx_alike
        repeat' split
        all_goals first | omega | rfl
      rw [hres] at hK
      have e9 : am_ag [12, 13, 14, 263, 264, 265, 266, 346, 17, 19, 100, 101, 102] M M := am_ag.rf
      rw [e9.eq]
      exact hK _
  · replace hno : ¬ (0 ≤ h ∧ h < M 227 0 0) := hno
    show R (5, [some (aR 7 0), some (aI h), some (aI n), some (aI q), none], [aN], M)
    refine hR _ (hR _ (hR _ (hR _ (?_))))
    show R (24, [some (aR 7 0), some (aI h), some (aI n), some (aI q), some (aN)], [aL (-4611686018427387904)], M)
    refine hR _ (show K (some (aL (-4611686018427387904))) M from ?_)
    have hres : jx_alike M h n q = (-4611686018427387904) := by
      unfold jx_alike
      repeat' split
      all_goals first | omega | rfl
    rw [hres] at hK
    have e9 : am_ag [12, 13, 14, 263, 264, 265, 266, 346, 17, 19, 100, 101, 102] M M := am_ag.rf
    rw [e9.eq]
    exact hK _

set_option maxHeartbeats 1000000 in
theorem sq_drawn {d : Nat} (hd : 8 ≤ d) {sd h w : Int} {M : am_M} {K : am_K} (hJ : jf_J M) (ha_sd : am_in sd) (ha_h : am_in h) (ha_w : am_in w) (hK : ∀ g, K (some (aI (jx_drawn M sd h w))) (am_mix [12, 13, 14, 263, 264, 265, 266, 346, 17, 19, 100, 101, 102] g M)) : am_Call wb d 106 [aR 7 0, aI sd, aI h, aI w] M K := by
  obtain ⟨d, rfl⟩ : ∃ e, d = e + 1 := ⟨d - 1, by omega⟩
  refine ⟨rfl, fun R hR hC => ?_⟩
  replace hR : ∀ c, am_F wb tb_f106 1 (am_Call wb d) K R c → R c := hR
  have hn := hJ.1.1.2.2.2.2.2.2.2.1
  have hl0 := hJ.1.1.2.2.2.2.2.2.2.2
  have htc := hJ.2.2.1.1
  have hlt : 0 ≤ M 228 0 0 ∧ M 228 0 0 < 6 := by omega
  have hmk := hJ.1.1.1
  have hdr := hJ.1.1.2.1
  have hpr := hJ.1.1.2.2.1
  have hfu := hJ.1.1.2.2.2.1
  show R (0, [some (aR 7 0), some (aI sd), some (aI h), some (aI w), none, none], [], M)
  refine hR _ (hR _ (?_))
  show R (2, [some (aR 7 0), some (aI sd), some (aI h), some (aI w), none, none], [aI h, aR 7 0], M)
  refine hR _ (sp_handAt (by omega) hn (by omega) (fun k hhk hk5 => ?_) (fun hno => ?_))
  · replace hk5 : (k : Int) < M 227 0 0 := hk5
    have hkw := hJ.wk (k := k) (by omega)
    have hok := hJ.px (k := k) (by omega)
    show R (5, [some (aR 7 0), some (aI sd), some (aI h), some (aI w), none, none], [aR 1 k], M)
    refine hR _ (hR _ (hR _ (hR _ (hR _ (hR _ (?_))))))
    show R (20, [some (aR 7 0), some (aI sd), some (aI h), some (aI w), some (aR 1 k), none], [aI 99999, aI 0, aI sd], M)
    refine hR _ (sp_within (by omega) (by omega) (fun h20 => ?_) (fun h20 => ?_))
    · show R (23, [some (aR 7 0), some (aI sd), some (aI h), some (aI w), some (aR 1 k), none], [aI 1], M)
      refine hR _ (am_brf (rg := am_in 1) (P := (1 : Int) = 0) (A := R (35, [some (aR 7 0), some (aI sd), some (aI h), some (aI w), some (aR 1 k), none], [], M)) (B := R (26, [some (aR 7 0), some (aI sd), some (aI h), some (aI w), some (aR 1 k), none], [], M)) (by omega) (by omega) ?_)
      show R (26, [some (aR 7 0), some (aI sd), some (aI h), some (aI w), some (aR 1 k), none], [], M)
      refine hR _ (hR _ (hR _ (?_)))
      show R (29, [some (aR 7 0), some (aI sd), some (aI h), some (aI w), some (aR 1 k), none], [aI 1, aI 0, aI w], M)
      refine hR _ (sp_within (by omega) (by omega) (fun h29 => ?_) (fun h29 => ?_))
      · show R (32, [some (aR 7 0), some (aI sd), some (aI h), some (aI w), some (aR 1 k), none], [aI 1], M)
        refine hR _ (am_brt (rg := am_in 1) (P := (1 : Int) ≠ 0) (A := R (38, [some (aR 7 0), some (aI sd), some (aI h), some (aI w), some (aR 1 k), none], [], M)) (B := R (35, [some (aR 7 0), some (aI sd), some (aI h), some (aI w), some (aR 1 k), none], [], M)) (by omega) (by omega) ?_)
        show R (38, [some (aR 7 0), some (aI sd), some (aI h), some (aI w), some (aR 1 k), none], [], M)
        refine hR _ (hR _ (?_))
        show R (41, [some (aR 7 0), some (aI sd), some (aI h), some (aI w), some (aR 1 k), none], [aR 1 k, aR 7 0], M)
        refine hR _ (sp_Xthink (by omega) hkw hlt hok (fun g65 hth => ?_))
        obtain ⟨p, hp⟩ : ∃ p, p = jf_px M k := ⟨_, rfl⟩
        replace hth : jf_th (am_mix [12, 13, 14, 263, 264, 265, 266, 346, 17, 19] g65 M) (jf_px M k) := hth
        rw [← hp] at hth hok
        have hthA : g65 263 0 0 = jf_A p := hth.2.1
        have hthN : g65 264 0 0 = (jf_P p).2.2 := hth.2.2
        have hA := jf_A_b hok
        have hPb := jf_P_b hok
        show R (44, [some (aR 7 0), some (aI sd), some (aI h), some (aI w), some (aR 1 k), none], [], am_mix [12, 13, 14, 263, 264, 265, 266, 346, 17, 19] g65 M)
        refine hR _ (hR _ (hR _ (?_)))
        show R (49, [some (aR 7 0), some (aI sd), some (aI h), some (aI w), some (aR 1 k), none], [aI sd, aR 4 0], am_mix [12, 13, 14, 263, 264, 265, 266, 346, 17, 19] g65 M)
        refine hR _ (sp_lateBy (by omega) hok hth (by omega) ?_)
        have hlb49 := jf_lb_b p (sd)
        show R (52, [some (aR 7 0), some (aI sd), some (aI h), some (aI w), some (aR 1 k), none], [aI ((jf_lb p sd : Nat) : Int)], am_mix [12, 13, 14, 263, 264, 265, 266, 346, 17, 19] g65 M)
        refine hR _ (hR _ (hR _ (am_brc (rg := am_in w) (P := w ≠ 0) (A := R (70, [some (aR 7 0), some (aI sd), some (aI h), some (aI w), some (aR 1 k), some (aI ((jf_lb p sd : Nat) : Int))], [], am_mix [12, 13, 14, 263, 264, 265, 266, 346, 17, 19] g65 M)) (B := R (58, [some (aR 7 0), some (aI sd), some (aI h), some (aI w), some (aR 1 k), some (aI ((jf_lb p sd : Nat) : Int))], [], am_mix [12, 13, 14, 263, 264, 265, 266, 346, 17, 19] g65 M)) (by omega) (fun c55 => ?_) (fun c55 => ?_))))
        · refine hR _ (?_)
          show R (72, [some (aR 7 0), some (aI sd), some (aI h), some (aI w), some (aR 1 k), some (aI ((jf_lb p sd : Nat) : Int))], [aI ((jf_lb p sd : Nat) : Int)], am_mix [12, 13, 14, 263, 264, 265, 266, 346, 17, 19] g65 M)
          refine hR _ (show K (some (aI ((jf_lb p sd : Nat) : Int))) (am_mix [12, 13, 14, 263, 264, 265, 266, 346, 17, 19] g65 M) from ?_)
          have hres : jx_drawn M sd h w = ((jf_lb p sd : Nat) : Int) := by
            subst hhk
            subst hp
            unfold jx_drawn
            repeat' split
            all_goals first | omega | rfl
          rw [hres] at hK
          have e9 : am_ag [12, 13, 14, 263, 264, 265, 266, 346, 17, 19, 100, 101, 102] M (am_mix [12, 13, 14, 263, 264, 265, 266, 346, 17, 19] g65 M) := (am_ag.rf).mix rfl
          rw [e9.eq]
          exact hK _
        · refine hR _ (hR _ (hR _ (?_)))
          show R (64, [some (aR 7 0), some (aI sd), some (aI h), some (aI w), some (aR 1 k), some (aI ((jf_lb p sd : Nat) : Int))], [aI ((jf_lb p sd : Nat) : Int), aR 4 0], am_mix [12, 13, 14, 263, 264, 265, 266, 346, 17, 19] g65 M)
          refine hR _ (sp_endOf (by omega) hok hth (by omega) ?_)
          have hx64 := jf_E_b hok (a := (jf_lb p sd)) (by omega)
          show R (67, [some (aR 7 0), some (aI sd), some (aI h), some (aI w), some (aR 1 k), some (aI ((jf_lb p sd : Nat) : Int))], [aI (jf_E p (jf_lb p sd))], am_mix [12, 13, 14, 263, 264, 265, 266, 346, 17, 19] g65 M)
          refine hR _ (?_)
          show R (72, [some (aR 7 0), some (aI sd), some (aI h), some (aI w), some (aR 1 k), some (aI ((jf_lb p sd : Nat) : Int))], [aI (jf_E p (jf_lb p sd))], am_mix [12, 13, 14, 263, 264, 265, 266, 346, 17, 19] g65 M)
          refine hR _ (show K (some (aI (jf_E p (jf_lb p sd)))) (am_mix [12, 13, 14, 263, 264, 265, 266, 346, 17, 19] g65 M) from ?_)
          have hres : jx_drawn M sd h w = (jf_E p (jf_lb p sd)) := by
            subst hhk
            subst hp
            unfold jx_drawn
            repeat' split
            all_goals first | omega | rfl
          rw [hres] at hK
          have e9 : am_ag [12, 13, 14, 263, 264, 265, 266, 346, 17, 19, 100, 101, 102] M (am_mix [12, 13, 14, 263, 264, 265, 266, 346, 17, 19] g65 M) := (am_ag.rf).mix rfl
          rw [e9.eq]
          exact hK _
      · show R (32, [some (aR 7 0), some (aI sd), some (aI h), some (aI w), some (aR 1 k), none], [aI 0], M)
        refine hR _ (am_brf (rg := am_in 0) (P := (0 : Int) ≠ 0) (A := R (38, [some (aR 7 0), some (aI sd), some (aI h), some (aI w), some (aR 1 k), none], [], M)) (B := R (35, [some (aR 7 0), some (aI sd), some (aI h), some (aI w), some (aR 1 k), none], [], M)) (by omega) (by omega) ?_)
        show R (35, [some (aR 7 0), some (aI sd), some (aI h), some (aI w), some (aR 1 k), none], [], M)
        refine hR _ (?_)
        show R (37, [some (aR 7 0), some (aI sd), some (aI h), some (aI w), some (aR 1 k), none], [aI (-7)], M)
        refine hR _ (show K (some (aI (-7))) M from ?_)
        have hres : jx_drawn M sd h w = (-7) := by
          unfold jx_drawn
          repeat' split
          all_goals first | omega | rfl
        rw [hres] at hK
        have e9 : am_ag [12, 13, 14, 263, 264, 265, 266, 346, 17, 19, 100, 101, 102] M M := am_ag.rf
        rw [e9.eq]
        exact hK _
    · show R (23, [some (aR 7 0), some (aI sd), some (aI h), some (aI w), some (aR 1 k), none], [aI 0], M)
      refine hR _ (am_brt (rg := am_in 0) (P := (0 : Int) = 0) (A := R (35, [some (aR 7 0), some (aI sd), some (aI h), some (aI w), some (aR 1 k), none], [], M)) (B := R (26, [some (aR 7 0), some (aI sd), some (aI h), some (aI w), some (aR 1 k), none], [], M)) (by omega) (by omega) ?_)
      show R (35, [some (aR 7 0), some (aI sd), some (aI h), some (aI w), some (aR 1 k), none], [], M)
      refine hR _ (?_)
      show R (37, [some (aR 7 0), some (aI sd), some (aI h), some (aI w), some (aR 1 k), none], [aI (-7)], M)
      refine hR _ (show K (some (aI (-7))) M from ?_)
      have hres : jx_drawn M sd h w = (-7) := by
        unfold jx_drawn
        repeat' split
        all_goals first | omega | rfl
      rw [hres] at hK
      have e9 : am_ag [12, 13, 14, 263, 264, 265, 266, 346, 17, 19, 100, 101, 102] M M := am_ag.rf
      rw [e9.eq]
      exact hK _
  · replace hno : ¬ (0 ≤ h ∧ h < M 227 0 0) := hno
    show R (5, [some (aR 7 0), some (aI sd), some (aI h), some (aI w), none, none], [aN], M)
    refine hR _ (hR _ (hR _ (hR _ (?_))))
    show R (14, [some (aR 7 0), some (aI sd), some (aI h), some (aI w), some (aN), none], [aI (-5)], M)
    refine hR _ (show K (some (aI (-5))) M from ?_)
    have hres : jx_drawn M sd h w = (-5) := by
      unfold jx_drawn
      repeat' split
      all_goals first | omega | rfl
    rw [hres] at hK
    have e9 : am_ag [12, 13, 14, 263, 264, 265, 266, 346, 17, 19, 100, 101, 102] M M := am_ag.rf
    rw [e9.eq]
    exact hK _
