/-! wb -/
variable {wb : Bool}
/-! What a STOP tells -/
def jf_su (f : Nat → Int) : Int := 0 + f 0 + f 1 + f 2 + f 3 + f 4
def jf_at (p : jf_par) (e : Int) : Int := jf_su fun a => if jf_E p a = e then jf_O p a else 0
def jf_ab (p : jf_par) (e : Int) : Int := jf_su fun a => if e < jf_E p a then jf_O p a else 0
def jf_tt (p : jf_par) : Int := jf_su fun a => jf_O p a * jf_T p a
def jf_pw (v : Int) : Nat → Int
  | 0 => 1
  | n + 1 => jf_pw v n * v
def jf_fi (p : jf_par) (a : Nat) : Nat → Int
  | 0 => 1
  | b + 1 => if jf_fi p a b = 0 then 0 else if jf_E p b = jf_E p a then 0 else 1
def jf_al (p : jf_par) (n : Nat) : Int := jf_su fun a => if jf_fi p a a = 0 then 0 else jf_pw (jf_at p (jf_E p a)) n
def jf_ls (p : jf_par) : Nat → Int
  | 0 => 5000
  | a + 1 => if jf_O p a ≤ 0 then jf_ls p a else min (jf_ls p a) (jf_E p a)
def jf_ms (p : jf_par) : Nat → Int
  | 0 => 0
  | a + 1 => if jf_O p a ≤ 0 then jf_ms p a else max (jf_ms p a) (jf_E p a)
def jf_lot (p : jf_par) (seed : Int) : Int := Int.tmod (Int.tmod ((seed + 1) * 48271) 2147483647) (jf_A p)
def jf_lb (p : jf_par) (seed : Int) : Nat := if jf_lot p seed < 0 + jf_O p 0 then 0 else if jf_lot p seed < 0 + jf_O p 0 + jf_O p 1 then 1 else if jf_lot p seed < 0 + jf_O p 0 + jf_O p 1 + jf_O p 2 then 2 else if jf_lot p seed < 0 + jf_O p 0 + jf_O p 1 + jf_O p 2 + jf_O p 3 then 3 else 4
theorem jf_E_b {p : jf_par} (hp : jf_ok p) {a : Nat} (ha : a < 5) : 0 ≤ jf_E p a ∧ jf_E p a ≤ 5000 := by
  have h := jf_EN_b hp (a := a) (by omega)
  have h2 := hp.2.2.2.2.2.2.1.2
  unfold jf_E
  omega
theorem jf_T_b {p : jf_par} (hp : jf_ok p) {a : Nat} (ha : a < 5) : 0 ≤ jf_T p a ∧ jf_T p a ≤ 2154 := by
  have h := jf_EN_b hp (a := a) (by omega)
  unfold jf_T
  omega
theorem jf_su_b {f : Nat → Int} {n : Int} (h : ∀ a, a < 5 → 0 ≤ f a ∧ f a ≤ n) : 0 ≤ jf_su f ∧ jf_su f ≤ 5 * n := by
  have h0 := h 0 (by omega)
  have h1 := h 1 (by omega)
  have h2 := h 2 (by omega)
  have h3 := h 3 (by omega)
  have h4 := h 4 (by omega)
  unfold jf_su
  omega
theorem jf_at_b {p : jf_par} (hp : jf_ok p) (e : Int) : 0 ≤ jf_at p e ∧ jf_at p e ≤ 65 := jf_su_b (n := 13) fun a ha => by
  have := jf_O_b hp ha
  split <;> omega
theorem jf_ab_b {p : jf_par} (hp : jf_ok p) (e : Int) : 0 ≤ jf_ab p e ∧ jf_ab p e ≤ 65 := jf_su_b (n := 13) fun a ha => by
  have := jf_O_b hp ha
  split <;> omega
theorem jf_tt_b {p : jf_par} (hp : jf_ok p) : 0 ≤ jf_tt p ∧ jf_tt p ≤ 140010 := jf_su_b (n := 28002) fun a ha => by
  have h1 := jf_O_b hp ha
  have h2 := jf_T_b hp ha
  have h3 : 0 ≤ jf_O p a * jf_T p a := Int.mul_nonneg (by omega) (by omega)
  have h4 : jf_O p a * jf_T p a ≤ 13 * 2154 := Int.mul_le_mul (by omega) (by omega) (by omega) (by omega)
  omega
theorem jf_pw_b {v m : Int} (hv : 0 ≤ v ∧ v ≤ m) : ∀ n, 0 ≤ jf_pw v n ∧ jf_pw v n ≤ jf_pw m n
  | 0 => by simp [jf_pw]
  | n + 1 => by
    have ih := jf_pw_b hv n
    exact ⟨Int.mul_nonneg ih.1 hv.1, Int.mul_le_mul ih.2 hv.2 hv.1 (by omega)⟩
theorem jf_lot_b {p : jf_par} (hp : jf_ok p) {seed : Int} (hs : 0 ≤ seed ∧ seed ≤ 200000) : 0 ≤ jf_lot p seed ∧ jf_lot p seed < jf_A p := by
  have ha := jf_A_b hp
  unfold jf_lot
  rw [jf_tm ((seed + 1) * 48271) _ (by omega), jf_tm _ _ (Int.emod_nonneg _ (by omega))]
  exact ⟨Int.emod_nonneg _ (by omega), Int.emod_lt_of_pos _ (by omega)⟩
theorem jf_lb_b (p : jf_par) (seed : Int) : jf_lb p seed < 5 := by
  unfold jf_lb
  repeat' split
  all_goals omega

theorem sp_endOf {d : Nat} (hd : 2 ≤ d) {p : jf_par} {a : Int} {M : am_M} {K : am_K} (hok : jf_ok p) (hth : jf_th M p) (ha : 0 ≤ a ∧ a ≤ 4) (h : K (some (aI (jf_E p a.toNat))) M) : am_Call wb d 61 [aR 4 0, aI a] M K := by
  obtain ⟨d, rfl⟩ : ∃ e, d = e + 1 := ⟨d - 1, by omega⟩
  refine ⟨rfl, fun R hR hC => ?_⟩
  replace hR : ∀ c, am_F wb tb_f61 1 (am_Call wb d) K R c → R c := hR
  obtain ⟨hthr, hthA, hthN⟩ := hth
  show R (0, [some (aR 4 0), some (aI a)], [], M)
  refine hR _ (hR _ (hR _ (?_)))
  show R (3, [some (aR 4 0), some (aI a)], [aI 4, aI 0, aI a], M)
  refine hR _ (sp_within (by omega) (by omega) (fun h3 => ?_) (fun h3 => ?_))
  · show R (6, [some (aR 4 0), some (aI a)], [aI 1], M)
    refine hR _ (am_brf (rg := am_in 1) (P := (1 : Int) = 0) (A := R (18, [some (aR 4 0), some (aI a)], [], M)) (B := R (9, [some (aR 4 0), some (aI a)], [], M)) (by omega) (by omega) ?_)
    show R (9, [some (aR 4 0), some (aI a)], [], M)
    refine hR _ (hR _ (hR _ (?_)))
    show R (14, [some (aR 4 0), some (aI a)], [aI a, aR 12 0], M)
    refine hR _ ⟨(show 0 ≤ (a : Int) ∧ (a : Int) < 5 from (by omega)), ?_⟩
    show R (15, [some (aR 4 0), some (aI a)], [aI (M 12 0 ((a).toNat))], M)
    rw [(hthr ((a).toNat) (by omega)).1]
    show R (15, [some (aR 4 0), some (aI a)], [aI (jf_E p ((a).toNat))], M)
    refine hR _ (?_)
    show R (19, [some (aR 4 0), some (aI a)], [aI (jf_E p ((a).toNat))], M)
    refine hR _ (show K (some (aI (jf_E p ((a).toNat)))) M from ?_)
    exact h
  · show R (6, [some (aR 4 0), some (aI a)], [aI 0], M)
    refine hR _ (am_brt (rg := am_in 0) (P := (0 : Int) = 0) (A := R (18, [some (aR 4 0), some (aI a)], [], M)) (B := R (9, [some (aR 4 0), some (aI a)], [], M)) (by omega) (by omega) ?_)
    show R (18, [some (aR 4 0), some (aI a)], [], M)
    refine hR _ (?_)
    show R (19, [some (aR 4 0), some (aI a)], [aI 0], M)
    refine hR _ (show K (some (aI 0)) M from ?_)
    exact absurd ha h3

theorem sp_tenthsOf {d : Nat} (hd : 2 ≤ d) {p : jf_par} {a : Int} {M : am_M} {K : am_K} (hok : jf_ok p) (hth : jf_th M p) (ha : 0 ≤ a ∧ a ≤ 4) (h : K (some (aI (jf_T p a.toNat))) M) : am_Call wb d 62 [aR 4 0, aI a] M K := by
  obtain ⟨d, rfl⟩ : ∃ e, d = e + 1 := ⟨d - 1, by omega⟩
  refine ⟨rfl, fun R hR hC => ?_⟩
  replace hR : ∀ c, am_F wb tb_f62 1 (am_Call wb d) K R c → R c := hR
  obtain ⟨hthr, hthA, hthN⟩ := hth
  show R (0, [some (aR 4 0), some (aI a)], [], M)
  refine hR _ (hR _ (hR _ (?_)))
  show R (3, [some (aR 4 0), some (aI a)], [aI 4, aI 0, aI a], M)
  refine hR _ (sp_within (by omega) (by omega) (fun h3 => ?_) (fun h3 => ?_))
  · show R (6, [some (aR 4 0), some (aI a)], [aI 1], M)
    refine hR _ (am_brf (rg := am_in 1) (P := (1 : Int) = 0) (A := R (18, [some (aR 4 0), some (aI a)], [], M)) (B := R (9, [some (aR 4 0), some (aI a)], [], M)) (by omega) (by omega) ?_)
    show R (9, [some (aR 4 0), some (aI a)], [], M)
    refine hR _ (hR _ (hR _ (?_)))
    show R (14, [some (aR 4 0), some (aI a)], [aI a, aR 13 0], M)
    refine hR _ ⟨(show 0 ≤ (a : Int) ∧ (a : Int) < 5 from (by omega)), ?_⟩
    show R (15, [some (aR 4 0), some (aI a)], [aI (M 13 0 ((a).toNat))], M)
    rw [(hthr ((a).toNat) (by omega)).2.1]
    show R (15, [some (aR 4 0), some (aI a)], [aI (jf_T p ((a).toNat))], M)
    refine hR _ (?_)
    show R (19, [some (aR 4 0), some (aI a)], [aI (jf_T p ((a).toNat))], M)
    refine hR _ (show K (some (aI (jf_T p ((a).toNat)))) M from ?_)
    exact h
  · show R (6, [some (aR 4 0), some (aI a)], [aI 0], M)
    refine hR _ (am_brt (rg := am_in 0) (P := (0 : Int) = 0) (A := R (18, [some (aR 4 0), some (aI a)], [], M)) (B := R (9, [some (aR 4 0), some (aI a)], [], M)) (by omega) (by omega) ?_)
    show R (18, [some (aR 4 0), some (aI a)], [], M)
    refine hR _ (?_)
    show R (19, [some (aR 4 0), some (aI a)], [aI 0], M)
    refine hR _ (show K (some (aI 0)) M from ?_)
    exact absurd ha h3

theorem sp_oftenOf {d : Nat} (hd : 2 ≤ d) {p : jf_par} {a : Int} {M : am_M} {K : am_K} (hok : jf_ok p) (hth : jf_th M p) (ha : 0 ≤ a ∧ a ≤ 4) (h : K (some (aI (jf_O p a.toNat))) M) : am_Call wb d 63 [aR 4 0, aI a] M K := by
  obtain ⟨d, rfl⟩ : ∃ e, d = e + 1 := ⟨d - 1, by omega⟩
  refine ⟨rfl, fun R hR hC => ?_⟩
  replace hR : ∀ c, am_F wb tb_f63 1 (am_Call wb d) K R c → R c := hR
  obtain ⟨hthr, hthA, hthN⟩ := hth
  show R (0, [some (aR 4 0), some (aI a)], [], M)
  refine hR _ (hR _ (hR _ (?_)))
  show R (3, [some (aR 4 0), some (aI a)], [aI 4, aI 0, aI a], M)
  refine hR _ (sp_within (by omega) (by omega) (fun h3 => ?_) (fun h3 => ?_))
  · show R (6, [some (aR 4 0), some (aI a)], [aI 1], M)
    refine hR _ (am_brf (rg := am_in 1) (P := (1 : Int) = 0) (A := R (18, [some (aR 4 0), some (aI a)], [], M)) (B := R (9, [some (aR 4 0), some (aI a)], [], M)) (by omega) (by omega) ?_)
    show R (9, [some (aR 4 0), some (aI a)], [], M)
    refine hR _ (hR _ (hR _ (?_)))
    show R (14, [some (aR 4 0), some (aI a)], [aI a, aR 14 0], M)
    refine hR _ ⟨(show 0 ≤ (a : Int) ∧ (a : Int) < 5 from (by omega)), ?_⟩
    show R (15, [some (aR 4 0), some (aI a)], [aI (M 14 0 ((a).toNat))], M)
    rw [(hthr ((a).toNat) (by omega)).2.2]
    show R (15, [some (aR 4 0), some (aI a)], [aI (jf_O p ((a).toNat))], M)
    refine hR _ (?_)
    show R (19, [some (aR 4 0), some (aI a)], [aI (jf_O p ((a).toNat))], M)
    refine hR _ (show K (some (aI (jf_O p ((a).toNat)))) M from ?_)
    exact h
  · show R (6, [some (aR 4 0), some (aI a)], [aI 0], M)
    refine hR _ (am_brt (rg := am_in 0) (P := (0 : Int) = 0) (A := R (18, [some (aR 4 0), some (aI a)], [], M)) (B := R (9, [some (aR 4 0), some (aI a)], [], M)) (by omega) (by omega) ?_)
    show R (18, [some (aR 4 0), some (aI a)], [], M)
    refine hR _ (?_)
    show R (19, [some (aR 4 0), some (aI a)], [aI 0], M)
    refine hR _ (show K (some (aI 0)) M from ?_)
    exact absurd ha h3

theorem sp_oftenAt {d : Nat} (hd : 1 ≤ d) {p : jf_par} {e : Int} {M : am_M} {K : am_K} (hok : jf_ok p) (hth : jf_th M p) (he : am_in e) (h : K (some (aL (jf_at p e))) M) : am_Call wb d 65 [aR 4 0, aI e] M K := by
  obtain ⟨d, rfl⟩ : ∃ e, d = e + 1 := ⟨d - 1, by omega⟩
  refine ⟨rfl, fun R hR hC => ?_⟩
  replace hR : ∀ c, am_F wb tb_f65 5 (am_Call wb d) K R c → R c := hR
  obtain ⟨hthr, hthA, hthN⟩ := hth
  have hO0 := jf_O_b hok (a := 0) (by omega)
  have hO1 := jf_O_b hok (a := 1) (by omega)
  have hO2 := jf_O_b hok (a := 2) (by omega)
  have hO3 := jf_O_b hok (a := 3) (by omega)
  have hO4 := jf_O_b hok (a := 4) (by omega)
  have hE0 := jf_E_b hok (a := 0) (by omega)
  have hE1 := jf_E_b hok (a := 1) (by omega)
  have hE2 := jf_E_b hok (a := 2) (by omega)
  have hE3 := jf_E_b hok (a := 3) (by omega)
  have hE4 := jf_E_b hok (a := 4) (by omega)
  have hT0 := jf_T_b hok (a := 0) (by omega)
  have hT1 := jf_T_b hok (a := 1) (by omega)
  have hT2 := jf_T_b hok (a := 2) (by omega)
  have hT3 := jf_T_b hok (a := 3) (by omega)
  have hT4 := jf_T_b hok (a := 4) (by omega)
  show R (0, [some (aR 4 0), some (aI e), none, none, none], [], M)
  refine hR _ (hR _ (hR _ (hR _ (hR _ (hR _ (hR _ (am_brf (rg := am_in 0 ∧ am_in 5) (P := 5 ≤ 0) (A := R (39, [some (aR 4 0), some (aI e), some (aL 0), none, some (aI 0)], [], M)) (B := R (11, [some (aR 4 0), some (aI e), some (aL 0), none, some (aI 0)], [], M)) (by omega) (by omega) ?_)))))))
  show R (11, [some (aR 4 0), some (aI e), some (aL 0), none, some (aI 0)], [], M)
  refine hR _ (hR _ (hR _ (?_)))
  show R (17, [some (aR 4 0), some (aI e), some (aL 0), none, some (aI 0)], [aI 0, aR 12 0], M)
  refine hR _ ⟨(show 0 ≤ (0 : Int) ∧ (0 : Int) < 5 from (by omega)), ?_⟩
  show R (18, [some (aR 4 0), some (aI e), some (aL 0), none, some (aI 0)], [aI (M 12 0 0)], M)
  rw [(hthr 0 (by omega)).1]
  show R (18, [some (aR 4 0), some (aI e), some (aL 0), none, some (aI 0)], [aI (jf_E p 0)], M)
  refine hR _ (?_)
  show R (19, [some (aR 4 0), some (aI e), some (aL 0), none, some (aI 0)], [aI e, aI (jf_E p 0)], M)
  suffices hJ : R (33, [some (aR 4 0), some (aI e), some (aL (0 + (if (jf_E p 0) = e then (jf_O p 0) else 0))), none, some (aI 0)], [], M) by
    refine hR _ (am_brc (rg := am_in (jf_E p 0) ∧ am_in e) (P := (jf_E p 0) ≠ e) (A := R (33, [some (aR 4 0), some (aI e), some (aL 0), none, some (aI 0)], [], M)) (B := R (22, [some (aR 4 0), some (aI e), some (aL 0), none, some (aI 0)], [], M)) (by omega) (fun c19 => ?_) (fun c19 => ?_))
    · rw [if_neg (show ¬ ((jf_E p 0) = e) by omega), Int.add_zero] at hJ
      exact hJ
    · refine hR _ (hR _ (hR _ (hR _ (?_))))
      show R (29, [some (aR 4 0), some (aI e), some (aL 0), none, some (aI 0)], [aI 0, aR 14 0, aL 0], M)
      refine hR _ ⟨(show 0 ≤ (0 : Int) ∧ (0 : Int) < 5 from (by omega)), ?_⟩
      show R (30, [some (aR 4 0), some (aI e), some (aL 0), none, some (aI 0)], [aI (M 14 0 0), aL 0], M)
      rw [(hthr 0 (by omega)).2.2]
      show R (30, [some (aR 4 0), some (aI e), some (aL 0), none, some (aI 0)], [aI (jf_O p 0), aL 0], M)
      refine hR _ ⟨(by omega), ?_⟩
      show R (31, [some (aR 4 0), some (aI e), some (aL 0), none, some (aI 0)], [aL (jf_O p 0), aL 0], M)
      refine hR _ (hR _ (?_))
      show R (33, [some (aR 4 0), some (aI e), some (aL (0 + (jf_O p 0))), none, some (aI 0)], [], M)
      rw [if_pos (show (jf_E p 0) = e by omega)] at hJ
      exact hJ
  show R (33, [some (aR 4 0), some (aI e), some (aL (0 + (if (jf_E p 0) = e then (jf_O p 0) else 0))), none, some (aI 0)], [], M)
  refine hR _ (hR _ (hR _ (hR _ (hR _ (am_brf (rg := am_in 1 ∧ am_in 5) (P := 5 ≤ 1) (A := R (39, [some (aR 4 0), some (aI e), some (aL (0 + (if (jf_E p 0) = e then (jf_O p 0) else 0))), none, some (aI 1)], [], M)) (B := R (11, [some (aR 4 0), some (aI e), some (aL (0 + (if (jf_E p 0) = e then (jf_O p 0) else 0))), none, some (aI 1)], [], M)) (by omega) (by omega) ?_)))))
  show R (11, [some (aR 4 0), some (aI e), some (aL (0 + (if (jf_E p 0) = e then (jf_O p 0) else 0))), none, some (aI 1)], [], M)
  refine hR _ (hR _ (hR _ (?_)))
  show R (17, [some (aR 4 0), some (aI e), some (aL (0 + (if (jf_E p 0) = e then (jf_O p 0) else 0))), none, some (aI 1)], [aI 1, aR 12 0], M)
  refine hR _ ⟨(show 0 ≤ (1 : Int) ∧ (1 : Int) < 5 from (by omega)), ?_⟩
  show R (18, [some (aR 4 0), some (aI e), some (aL (0 + (if (jf_E p 0) = e then (jf_O p 0) else 0))), none, some (aI 1)], [aI (M 12 0 1)], M)
  rw [(hthr 1 (by omega)).1]
  show R (18, [some (aR 4 0), some (aI e), some (aL (0 + (if (jf_E p 0) = e then (jf_O p 0) else 0))), none, some (aI 1)], [aI (jf_E p 1)], M)
  refine hR _ (?_)
  show R (19, [some (aR 4 0), some (aI e), some (aL (0 + (if (jf_E p 0) = e then (jf_O p 0) else 0))), none, some (aI 1)], [aI e, aI (jf_E p 1)], M)
  suffices hJ : R (33, [some (aR 4 0), some (aI e), some (aL ((0 + (if (jf_E p 0) = e then (jf_O p 0) else 0)) + (if (jf_E p 1) = e then (jf_O p 1) else 0))), none, some (aI 1)], [], M) by
    refine hR _ (am_brc (rg := am_in (jf_E p 1) ∧ am_in e) (P := (jf_E p 1) ≠ e) (A := R (33, [some (aR 4 0), some (aI e), some (aL (0 + (if (jf_E p 0) = e then (jf_O p 0) else 0))), none, some (aI 1)], [], M)) (B := R (22, [some (aR 4 0), some (aI e), some (aL (0 + (if (jf_E p 0) = e then (jf_O p 0) else 0))), none, some (aI 1)], [], M)) (by omega) (fun c19 => ?_) (fun c19 => ?_))
    · rw [if_neg (show ¬ ((jf_E p 1) = e) by omega), Int.add_zero] at hJ
      exact hJ
    · refine hR _ (hR _ (hR _ (hR _ (?_))))
      show R (29, [some (aR 4 0), some (aI e), some (aL (0 + (if (jf_E p 0) = e then (jf_O p 0) else 0))), none, some (aI 1)], [aI 1, aR 14 0, aL (0 + (if (jf_E p 0) = e then (jf_O p 0) else 0))], M)
      refine hR _ ⟨(show 0 ≤ (1 : Int) ∧ (1 : Int) < 5 from (by omega)), ?_⟩
      show R (30, [some (aR 4 0), some (aI e), some (aL (0 + (if (jf_E p 0) = e then (jf_O p 0) else 0))), none, some (aI 1)], [aI (M 14 0 1), aL (0 + (if (jf_E p 0) = e then (jf_O p 0) else 0))], M)
      rw [(hthr 1 (by omega)).2.2]
      show R (30, [some (aR 4 0), some (aI e), some (aL (0 + (if (jf_E p 0) = e then (jf_O p 0) else 0))), none, some (aI 1)], [aI (jf_O p 1), aL (0 + (if (jf_E p 0) = e then (jf_O p 0) else 0))], M)
      refine hR _ ⟨(by omega), ?_⟩
      show R (31, [some (aR 4 0), some (aI e), some (aL (0 + (if (jf_E p 0) = e then (jf_O p 0) else 0))), none, some (aI 1)], [aL (jf_O p 1), aL (0 + (if (jf_E p 0) = e then (jf_O p 0) else 0))], M)
      refine hR _ (hR _ (?_))
      show R (33, [some (aR 4 0), some (aI e), some (aL ((0 + (if (jf_E p 0) = e then (jf_O p 0) else 0)) + (jf_O p 1))), none, some (aI 1)], [], M)
      rw [if_pos (show (jf_E p 1) = e by omega)] at hJ
      exact hJ
  show R (33, [some (aR 4 0), some (aI e), some (aL ((0 + (if (jf_E p 0) = e then (jf_O p 0) else 0)) + (if (jf_E p 1) = e then (jf_O p 1) else 0))), none, some (aI 1)], [], M)
  refine hR _ (hR _ (hR _ (hR _ (hR _ (am_brf (rg := am_in 2 ∧ am_in 5) (P := 5 ≤ 2) (A := R (39, [some (aR 4 0), some (aI e), some (aL ((0 + (if (jf_E p 0) = e then (jf_O p 0) else 0)) + (if (jf_E p 1) = e then (jf_O p 1) else 0))), none, some (aI 2)], [], M)) (B := R (11, [some (aR 4 0), some (aI e), some (aL ((0 + (if (jf_E p 0) = e then (jf_O p 0) else 0)) + (if (jf_E p 1) = e then (jf_O p 1) else 0))), none, some (aI 2)], [], M)) (by omega) (by omega) ?_)))))
  show R (11, [some (aR 4 0), some (aI e), some (aL ((0 + (if (jf_E p 0) = e then (jf_O p 0) else 0)) + (if (jf_E p 1) = e then (jf_O p 1) else 0))), none, some (aI 2)], [], M)
  refine hR _ (hR _ (hR _ (?_)))
  show R (17, [some (aR 4 0), some (aI e), some (aL ((0 + (if (jf_E p 0) = e then (jf_O p 0) else 0)) + (if (jf_E p 1) = e then (jf_O p 1) else 0))), none, some (aI 2)], [aI 2, aR 12 0], M)
  refine hR _ ⟨(show 0 ≤ (2 : Int) ∧ (2 : Int) < 5 from (by omega)), ?_⟩
  show R (18, [some (aR 4 0), some (aI e), some (aL ((0 + (if (jf_E p 0) = e then (jf_O p 0) else 0)) + (if (jf_E p 1) = e then (jf_O p 1) else 0))), none, some (aI 2)], [aI (M 12 0 2)], M)
  rw [(hthr 2 (by omega)).1]
  show R (18, [some (aR 4 0), some (aI e), some (aL ((0 + (if (jf_E p 0) = e then (jf_O p 0) else 0)) + (if (jf_E p 1) = e then (jf_O p 1) else 0))), none, some (aI 2)], [aI (jf_E p 2)], M)
  refine hR _ (?_)
  show R (19, [some (aR 4 0), some (aI e), some (aL ((0 + (if (jf_E p 0) = e then (jf_O p 0) else 0)) + (if (jf_E p 1) = e then (jf_O p 1) else 0))), none, some (aI 2)], [aI e, aI (jf_E p 2)], M)
  suffices hJ : R (33, [some (aR 4 0), some (aI e), some (aL (((0 + (if (jf_E p 0) = e then (jf_O p 0) else 0)) + (if (jf_E p 1) = e then (jf_O p 1) else 0)) + (if (jf_E p 2) = e then (jf_O p 2) else 0))), none, some (aI 2)], [], M) by
    refine hR _ (am_brc (rg := am_in (jf_E p 2) ∧ am_in e) (P := (jf_E p 2) ≠ e) (A := R (33, [some (aR 4 0), some (aI e), some (aL ((0 + (if (jf_E p 0) = e then (jf_O p 0) else 0)) + (if (jf_E p 1) = e then (jf_O p 1) else 0))), none, some (aI 2)], [], M)) (B := R (22, [some (aR 4 0), some (aI e), some (aL ((0 + (if (jf_E p 0) = e then (jf_O p 0) else 0)) + (if (jf_E p 1) = e then (jf_O p 1) else 0))), none, some (aI 2)], [], M)) (by omega) (fun c19 => ?_) (fun c19 => ?_))
    · rw [if_neg (show ¬ ((jf_E p 2) = e) by omega), Int.add_zero] at hJ
      exact hJ
    · refine hR _ (hR _ (hR _ (hR _ (?_))))
      show R (29, [some (aR 4 0), some (aI e), some (aL ((0 + (if (jf_E p 0) = e then (jf_O p 0) else 0)) + (if (jf_E p 1) = e then (jf_O p 1) else 0))), none, some (aI 2)], [aI 2, aR 14 0, aL ((0 + (if (jf_E p 0) = e then (jf_O p 0) else 0)) + (if (jf_E p 1) = e then (jf_O p 1) else 0))], M)
      refine hR _ ⟨(show 0 ≤ (2 : Int) ∧ (2 : Int) < 5 from (by omega)), ?_⟩
      show R (30, [some (aR 4 0), some (aI e), some (aL ((0 + (if (jf_E p 0) = e then (jf_O p 0) else 0)) + (if (jf_E p 1) = e then (jf_O p 1) else 0))), none, some (aI 2)], [aI (M 14 0 2), aL ((0 + (if (jf_E p 0) = e then (jf_O p 0) else 0)) + (if (jf_E p 1) = e then (jf_O p 1) else 0))], M)
      rw [(hthr 2 (by omega)).2.2]
      show R (30, [some (aR 4 0), some (aI e), some (aL ((0 + (if (jf_E p 0) = e then (jf_O p 0) else 0)) + (if (jf_E p 1) = e then (jf_O p 1) else 0))), none, some (aI 2)], [aI (jf_O p 2), aL ((0 + (if (jf_E p 0) = e then (jf_O p 0) else 0)) + (if (jf_E p 1) = e then (jf_O p 1) else 0))], M)
      refine hR _ ⟨(by omega), ?_⟩
      show R (31, [some (aR 4 0), some (aI e), some (aL ((0 + (if (jf_E p 0) = e then (jf_O p 0) else 0)) + (if (jf_E p 1) = e then (jf_O p 1) else 0))), none, some (aI 2)], [aL (jf_O p 2), aL ((0 + (if (jf_E p 0) = e then (jf_O p 0) else 0)) + (if (jf_E p 1) = e then (jf_O p 1) else 0))], M)
      refine hR _ (hR _ (?_))
      show R (33, [some (aR 4 0), some (aI e), some (aL (((0 + (if (jf_E p 0) = e then (jf_O p 0) else 0)) + (if (jf_E p 1) = e then (jf_O p 1) else 0)) + (jf_O p 2))), none, some (aI 2)], [], M)
      rw [if_pos (show (jf_E p 2) = e by omega)] at hJ
      exact hJ
  show R (33, [some (aR 4 0), some (aI e), some (aL (((0 + (if (jf_E p 0) = e then (jf_O p 0) else 0)) + (if (jf_E p 1) = e then (jf_O p 1) else 0)) + (if (jf_E p 2) = e then (jf_O p 2) else 0))), none, some (aI 2)], [], M)
  refine hR _ (hR _ (hR _ (hR _ (hR _ (am_brf (rg := am_in 3 ∧ am_in 5) (P := 5 ≤ 3) (A := R (39, [some (aR 4 0), some (aI e), some (aL (((0 + (if (jf_E p 0) = e then (jf_O p 0) else 0)) + (if (jf_E p 1) = e then (jf_O p 1) else 0)) + (if (jf_E p 2) = e then (jf_O p 2) else 0))), none, some (aI 3)], [], M)) (B := R (11, [some (aR 4 0), some (aI e), some (aL (((0 + (if (jf_E p 0) = e then (jf_O p 0) else 0)) + (if (jf_E p 1) = e then (jf_O p 1) else 0)) + (if (jf_E p 2) = e then (jf_O p 2) else 0))), none, some (aI 3)], [], M)) (by omega) (by omega) ?_)))))
  show R (11, [some (aR 4 0), some (aI e), some (aL (((0 + (if (jf_E p 0) = e then (jf_O p 0) else 0)) + (if (jf_E p 1) = e then (jf_O p 1) else 0)) + (if (jf_E p 2) = e then (jf_O p 2) else 0))), none, some (aI 3)], [], M)
  refine hR _ (hR _ (hR _ (?_)))
  show R (17, [some (aR 4 0), some (aI e), some (aL (((0 + (if (jf_E p 0) = e then (jf_O p 0) else 0)) + (if (jf_E p 1) = e then (jf_O p 1) else 0)) + (if (jf_E p 2) = e then (jf_O p 2) else 0))), none, some (aI 3)], [aI 3, aR 12 0], M)
  refine hR _ ⟨(show 0 ≤ (3 : Int) ∧ (3 : Int) < 5 from (by omega)), ?_⟩
  show R (18, [some (aR 4 0), some (aI e), some (aL (((0 + (if (jf_E p 0) = e then (jf_O p 0) else 0)) + (if (jf_E p 1) = e then (jf_O p 1) else 0)) + (if (jf_E p 2) = e then (jf_O p 2) else 0))), none, some (aI 3)], [aI (M 12 0 3)], M)
  rw [(hthr 3 (by omega)).1]
  show R (18, [some (aR 4 0), some (aI e), some (aL (((0 + (if (jf_E p 0) = e then (jf_O p 0) else 0)) + (if (jf_E p 1) = e then (jf_O p 1) else 0)) + (if (jf_E p 2) = e then (jf_O p 2) else 0))), none, some (aI 3)], [aI (jf_E p 3)], M)
  refine hR _ (?_)
  show R (19, [some (aR 4 0), some (aI e), some (aL (((0 + (if (jf_E p 0) = e then (jf_O p 0) else 0)) + (if (jf_E p 1) = e then (jf_O p 1) else 0)) + (if (jf_E p 2) = e then (jf_O p 2) else 0))), none, some (aI 3)], [aI e, aI (jf_E p 3)], M)
  suffices hJ : R (33, [some (aR 4 0), some (aI e), some (aL ((((0 + (if (jf_E p 0) = e then (jf_O p 0) else 0)) + (if (jf_E p 1) = e then (jf_O p 1) else 0)) + (if (jf_E p 2) = e then (jf_O p 2) else 0)) + (if (jf_E p 3) = e then (jf_O p 3) else 0))), none, some (aI 3)], [], M) by
    refine hR _ (am_brc (rg := am_in (jf_E p 3) ∧ am_in e) (P := (jf_E p 3) ≠ e) (A := R (33, [some (aR 4 0), some (aI e), some (aL (((0 + (if (jf_E p 0) = e then (jf_O p 0) else 0)) + (if (jf_E p 1) = e then (jf_O p 1) else 0)) + (if (jf_E p 2) = e then (jf_O p 2) else 0))), none, some (aI 3)], [], M)) (B := R (22, [some (aR 4 0), some (aI e), some (aL (((0 + (if (jf_E p 0) = e then (jf_O p 0) else 0)) + (if (jf_E p 1) = e then (jf_O p 1) else 0)) + (if (jf_E p 2) = e then (jf_O p 2) else 0))), none, some (aI 3)], [], M)) (by omega) (fun c19 => ?_) (fun c19 => ?_))
    · rw [if_neg (show ¬ ((jf_E p 3) = e) by omega), Int.add_zero] at hJ
      exact hJ
    · refine hR _ (hR _ (hR _ (hR _ (?_))))
      show R (29, [some (aR 4 0), some (aI e), some (aL (((0 + (if (jf_E p 0) = e then (jf_O p 0) else 0)) + (if (jf_E p 1) = e then (jf_O p 1) else 0)) + (if (jf_E p 2) = e then (jf_O p 2) else 0))), none, some (aI 3)], [aI 3, aR 14 0, aL (((0 + (if (jf_E p 0) = e then (jf_O p 0) else 0)) + (if (jf_E p 1) = e then (jf_O p 1) else 0)) + (if (jf_E p 2) = e then (jf_O p 2) else 0))], M)
      refine hR _ ⟨(show 0 ≤ (3 : Int) ∧ (3 : Int) < 5 from (by omega)), ?_⟩
      show R (30, [some (aR 4 0), some (aI e), some (aL (((0 + (if (jf_E p 0) = e then (jf_O p 0) else 0)) + (if (jf_E p 1) = e then (jf_O p 1) else 0)) + (if (jf_E p 2) = e then (jf_O p 2) else 0))), none, some (aI 3)], [aI (M 14 0 3), aL (((0 + (if (jf_E p 0) = e then (jf_O p 0) else 0)) + (if (jf_E p 1) = e then (jf_O p 1) else 0)) + (if (jf_E p 2) = e then (jf_O p 2) else 0))], M)
      rw [(hthr 3 (by omega)).2.2]
      show R (30, [some (aR 4 0), some (aI e), some (aL (((0 + (if (jf_E p 0) = e then (jf_O p 0) else 0)) + (if (jf_E p 1) = e then (jf_O p 1) else 0)) + (if (jf_E p 2) = e then (jf_O p 2) else 0))), none, some (aI 3)], [aI (jf_O p 3), aL (((0 + (if (jf_E p 0) = e then (jf_O p 0) else 0)) + (if (jf_E p 1) = e then (jf_O p 1) else 0)) + (if (jf_E p 2) = e then (jf_O p 2) else 0))], M)
      refine hR _ ⟨(by omega), ?_⟩
      show R (31, [some (aR 4 0), some (aI e), some (aL (((0 + (if (jf_E p 0) = e then (jf_O p 0) else 0)) + (if (jf_E p 1) = e then (jf_O p 1) else 0)) + (if (jf_E p 2) = e then (jf_O p 2) else 0))), none, some (aI 3)], [aL (jf_O p 3), aL (((0 + (if (jf_E p 0) = e then (jf_O p 0) else 0)) + (if (jf_E p 1) = e then (jf_O p 1) else 0)) + (if (jf_E p 2) = e then (jf_O p 2) else 0))], M)
      refine hR _ (hR _ (?_))
      show R (33, [some (aR 4 0), some (aI e), some (aL ((((0 + (if (jf_E p 0) = e then (jf_O p 0) else 0)) + (if (jf_E p 1) = e then (jf_O p 1) else 0)) + (if (jf_E p 2) = e then (jf_O p 2) else 0)) + (jf_O p 3))), none, some (aI 3)], [], M)
      rw [if_pos (show (jf_E p 3) = e by omega)] at hJ
      exact hJ
  show R (33, [some (aR 4 0), some (aI e), some (aL ((((0 + (if (jf_E p 0) = e then (jf_O p 0) else 0)) + (if (jf_E p 1) = e then (jf_O p 1) else 0)) + (if (jf_E p 2) = e then (jf_O p 2) else 0)) + (if (jf_E p 3) = e then (jf_O p 3) else 0))), none, some (aI 3)], [], M)
  refine hR _ (hR _ (hR _ (hR _ (hR _ (am_brf (rg := am_in 4 ∧ am_in 5) (P := 5 ≤ 4) (A := R (39, [some (aR 4 0), some (aI e), some (aL ((((0 + (if (jf_E p 0) = e then (jf_O p 0) else 0)) + (if (jf_E p 1) = e then (jf_O p 1) else 0)) + (if (jf_E p 2) = e then (jf_O p 2) else 0)) + (if (jf_E p 3) = e then (jf_O p 3) else 0))), none, some (aI 4)], [], M)) (B := R (11, [some (aR 4 0), some (aI e), some (aL ((((0 + (if (jf_E p 0) = e then (jf_O p 0) else 0)) + (if (jf_E p 1) = e then (jf_O p 1) else 0)) + (if (jf_E p 2) = e then (jf_O p 2) else 0)) + (if (jf_E p 3) = e then (jf_O p 3) else 0))), none, some (aI 4)], [], M)) (by omega) (by omega) ?_)))))
  show R (11, [some (aR 4 0), some (aI e), some (aL ((((0 + (if (jf_E p 0) = e then (jf_O p 0) else 0)) + (if (jf_E p 1) = e then (jf_O p 1) else 0)) + (if (jf_E p 2) = e then (jf_O p 2) else 0)) + (if (jf_E p 3) = e then (jf_O p 3) else 0))), none, some (aI 4)], [], M)
  refine hR _ (hR _ (hR _ (?_)))
  show R (17, [some (aR 4 0), some (aI e), some (aL ((((0 + (if (jf_E p 0) = e then (jf_O p 0) else 0)) + (if (jf_E p 1) = e then (jf_O p 1) else 0)) + (if (jf_E p 2) = e then (jf_O p 2) else 0)) + (if (jf_E p 3) = e then (jf_O p 3) else 0))), none, some (aI 4)], [aI 4, aR 12 0], M)
  refine hR _ ⟨(show 0 ≤ (4 : Int) ∧ (4 : Int) < 5 from (by omega)), ?_⟩
  show R (18, [some (aR 4 0), some (aI e), some (aL ((((0 + (if (jf_E p 0) = e then (jf_O p 0) else 0)) + (if (jf_E p 1) = e then (jf_O p 1) else 0)) + (if (jf_E p 2) = e then (jf_O p 2) else 0)) + (if (jf_E p 3) = e then (jf_O p 3) else 0))), none, some (aI 4)], [aI (M 12 0 4)], M)
  rw [(hthr 4 (by omega)).1]
  show R (18, [some (aR 4 0), some (aI e), some (aL ((((0 + (if (jf_E p 0) = e then (jf_O p 0) else 0)) + (if (jf_E p 1) = e then (jf_O p 1) else 0)) + (if (jf_E p 2) = e then (jf_O p 2) else 0)) + (if (jf_E p 3) = e then (jf_O p 3) else 0))), none, some (aI 4)], [aI (jf_E p 4)], M)
  refine hR _ (?_)
  show R (19, [some (aR 4 0), some (aI e), some (aL ((((0 + (if (jf_E p 0) = e then (jf_O p 0) else 0)) + (if (jf_E p 1) = e then (jf_O p 1) else 0)) + (if (jf_E p 2) = e then (jf_O p 2) else 0)) + (if (jf_E p 3) = e then (jf_O p 3) else 0))), none, some (aI 4)], [aI e, aI (jf_E p 4)], M)
  suffices hJ : R (33, [some (aR 4 0), some (aI e), some (aL (((((0 + (if (jf_E p 0) = e then (jf_O p 0) else 0)) + (if (jf_E p 1) = e then (jf_O p 1) else 0)) + (if (jf_E p 2) = e then (jf_O p 2) else 0)) + (if (jf_E p 3) = e then (jf_O p 3) else 0)) + (if (jf_E p 4) = e then (jf_O p 4) else 0))), none, some (aI 4)], [], M) by
    refine hR _ (am_brc (rg := am_in (jf_E p 4) ∧ am_in e) (P := (jf_E p 4) ≠ e) (A := R (33, [some (aR 4 0), some (aI e), some (aL ((((0 + (if (jf_E p 0) = e then (jf_O p 0) else 0)) + (if (jf_E p 1) = e then (jf_O p 1) else 0)) + (if (jf_E p 2) = e then (jf_O p 2) else 0)) + (if (jf_E p 3) = e then (jf_O p 3) else 0))), none, some (aI 4)], [], M)) (B := R (22, [some (aR 4 0), some (aI e), some (aL ((((0 + (if (jf_E p 0) = e then (jf_O p 0) else 0)) + (if (jf_E p 1) = e then (jf_O p 1) else 0)) + (if (jf_E p 2) = e then (jf_O p 2) else 0)) + (if (jf_E p 3) = e then (jf_O p 3) else 0))), none, some (aI 4)], [], M)) (by omega) (fun c19 => ?_) (fun c19 => ?_))
    · rw [if_neg (show ¬ ((jf_E p 4) = e) by omega), Int.add_zero] at hJ
      exact hJ
    · refine hR _ (hR _ (hR _ (hR _ (?_))))
      show R (29, [some (aR 4 0), some (aI e), some (aL ((((0 + (if (jf_E p 0) = e then (jf_O p 0) else 0)) + (if (jf_E p 1) = e then (jf_O p 1) else 0)) + (if (jf_E p 2) = e then (jf_O p 2) else 0)) + (if (jf_E p 3) = e then (jf_O p 3) else 0))), none, some (aI 4)], [aI 4, aR 14 0, aL ((((0 + (if (jf_E p 0) = e then (jf_O p 0) else 0)) + (if (jf_E p 1) = e then (jf_O p 1) else 0)) + (if (jf_E p 2) = e then (jf_O p 2) else 0)) + (if (jf_E p 3) = e then (jf_O p 3) else 0))], M)
      refine hR _ ⟨(show 0 ≤ (4 : Int) ∧ (4 : Int) < 5 from (by omega)), ?_⟩
      show R (30, [some (aR 4 0), some (aI e), some (aL ((((0 + (if (jf_E p 0) = e then (jf_O p 0) else 0)) + (if (jf_E p 1) = e then (jf_O p 1) else 0)) + (if (jf_E p 2) = e then (jf_O p 2) else 0)) + (if (jf_E p 3) = e then (jf_O p 3) else 0))), none, some (aI 4)], [aI (M 14 0 4), aL ((((0 + (if (jf_E p 0) = e then (jf_O p 0) else 0)) + (if (jf_E p 1) = e then (jf_O p 1) else 0)) + (if (jf_E p 2) = e then (jf_O p 2) else 0)) + (if (jf_E p 3) = e then (jf_O p 3) else 0))], M)
      rw [(hthr 4 (by omega)).2.2]
      show R (30, [some (aR 4 0), some (aI e), some (aL ((((0 + (if (jf_E p 0) = e then (jf_O p 0) else 0)) + (if (jf_E p 1) = e then (jf_O p 1) else 0)) + (if (jf_E p 2) = e then (jf_O p 2) else 0)) + (if (jf_E p 3) = e then (jf_O p 3) else 0))), none, some (aI 4)], [aI (jf_O p 4), aL ((((0 + (if (jf_E p 0) = e then (jf_O p 0) else 0)) + (if (jf_E p 1) = e then (jf_O p 1) else 0)) + (if (jf_E p 2) = e then (jf_O p 2) else 0)) + (if (jf_E p 3) = e then (jf_O p 3) else 0))], M)
      refine hR _ ⟨(by omega), ?_⟩
      show R (31, [some (aR 4 0), some (aI e), some (aL ((((0 + (if (jf_E p 0) = e then (jf_O p 0) else 0)) + (if (jf_E p 1) = e then (jf_O p 1) else 0)) + (if (jf_E p 2) = e then (jf_O p 2) else 0)) + (if (jf_E p 3) = e then (jf_O p 3) else 0))), none, some (aI 4)], [aL (jf_O p 4), aL ((((0 + (if (jf_E p 0) = e then (jf_O p 0) else 0)) + (if (jf_E p 1) = e then (jf_O p 1) else 0)) + (if (jf_E p 2) = e then (jf_O p 2) else 0)) + (if (jf_E p 3) = e then (jf_O p 3) else 0))], M)
      refine hR _ (hR _ (?_))
      show R (33, [some (aR 4 0), some (aI e), some (aL (((((0 + (if (jf_E p 0) = e then (jf_O p 0) else 0)) + (if (jf_E p 1) = e then (jf_O p 1) else 0)) + (if (jf_E p 2) = e then (jf_O p 2) else 0)) + (if (jf_E p 3) = e then (jf_O p 3) else 0)) + (jf_O p 4))), none, some (aI 4)], [], M)
      rw [if_pos (show (jf_E p 4) = e by omega)] at hJ
      exact hJ
  show R (33, [some (aR 4 0), some (aI e), some (aL (((((0 + (if (jf_E p 0) = e then (jf_O p 0) else 0)) + (if (jf_E p 1) = e then (jf_O p 1) else 0)) + (if (jf_E p 2) = e then (jf_O p 2) else 0)) + (if (jf_E p 3) = e then (jf_O p 3) else 0)) + (if (jf_E p 4) = e then (jf_O p 4) else 0))), none, some (aI 4)], [], M)
  refine hR _ (hR _ (hR _ (hR _ (hR _ (am_brt (rg := am_in 5 ∧ am_in 5) (P := (5 : Int) ≤ 5) (A := R (39, [some (aR 4 0), some (aI e), some (aL (((((0 + (if (jf_E p 0) = e then (jf_O p 0) else 0)) + (if (jf_E p 1) = e then (jf_O p 1) else 0)) + (if (jf_E p 2) = e then (jf_O p 2) else 0)) + (if (jf_E p 3) = e then (jf_O p 3) else 0)) + (if (jf_E p 4) = e then (jf_O p 4) else 0))), none, some (aI 5)], [], M)) (B := R (11, [some (aR 4 0), some (aI e), some (aL (((((0 + (if (jf_E p 0) = e then (jf_O p 0) else 0)) + (if (jf_E p 1) = e then (jf_O p 1) else 0)) + (if (jf_E p 2) = e then (jf_O p 2) else 0)) + (if (jf_E p 3) = e then (jf_O p 3) else 0)) + (if (jf_E p 4) = e then (jf_O p 4) else 0))), none, some (aI 5)], [], M)) (by omega) (by omega) ?_)))))
  show R (39, [some (aR 4 0), some (aI e), some (aL (((((0 + (if (jf_E p 0) = e then (jf_O p 0) else 0)) + (if (jf_E p 1) = e then (jf_O p 1) else 0)) + (if (jf_E p 2) = e then (jf_O p 2) else 0)) + (if (jf_E p 3) = e then (jf_O p 3) else 0)) + (if (jf_E p 4) = e then (jf_O p 4) else 0))), none, some (aI 5)], [], M)
  refine hR _ (?_)
  show R (40, [some (aR 4 0), some (aI e), some (aL (((((0 + (if (jf_E p 0) = e then (jf_O p 0) else 0)) + (if (jf_E p 1) = e then (jf_O p 1) else 0)) + (if (jf_E p 2) = e then (jf_O p 2) else 0)) + (if (jf_E p 3) = e then (jf_O p 3) else 0)) + (if (jf_E p 4) = e then (jf_O p 4) else 0))), none, some (aI 5)], [aL (((((0 + (if (jf_E p 0) = e then (jf_O p 0) else 0)) + (if (jf_E p 1) = e then (jf_O p 1) else 0)) + (if (jf_E p 2) = e then (jf_O p 2) else 0)) + (if (jf_E p 3) = e then (jf_O p 3) else 0)) + (if (jf_E p 4) = e then (jf_O p 4) else 0))], M)
  refine hR _ (show K (some (aL (((((0 + (if (jf_E p 0) = e then (jf_O p 0) else 0)) + (if (jf_E p 1) = e then (jf_O p 1) else 0)) + (if (jf_E p 2) = e then (jf_O p 2) else 0)) + (if (jf_E p 3) = e then (jf_O p 3) else 0)) + (if (jf_E p 4) = e then (jf_O p 4) else 0)))) M from ?_)
  exact h

theorem sp_oftenAbove {d : Nat} (hd : 1 ≤ d) {p : jf_par} {e : Int} {M : am_M} {K : am_K} (hok : jf_ok p) (hth : jf_th M p) (he : am_in e) (h : K (some (aL (jf_ab p e))) M) : am_Call wb d 66 [aR 4 0, aI e] M K := by
  obtain ⟨d, rfl⟩ : ∃ e, d = e + 1 := ⟨d - 1, by omega⟩
  refine ⟨rfl, fun R hR hC => ?_⟩
  replace hR : ∀ c, am_F wb tb_f66 5 (am_Call wb d) K R c → R c := hR
  obtain ⟨hthr, hthA, hthN⟩ := hth
  have hO0 := jf_O_b hok (a := 0) (by omega)
  have hO1 := jf_O_b hok (a := 1) (by omega)
  have hO2 := jf_O_b hok (a := 2) (by omega)
  have hO3 := jf_O_b hok (a := 3) (by omega)
  have hO4 := jf_O_b hok (a := 4) (by omega)
  have hE0 := jf_E_b hok (a := 0) (by omega)
  have hE1 := jf_E_b hok (a := 1) (by omega)
  have hE2 := jf_E_b hok (a := 2) (by omega)
  have hE3 := jf_E_b hok (a := 3) (by omega)
  have hE4 := jf_E_b hok (a := 4) (by omega)
  have hT0 := jf_T_b hok (a := 0) (by omega)
  have hT1 := jf_T_b hok (a := 1) (by omega)
  have hT2 := jf_T_b hok (a := 2) (by omega)
  have hT3 := jf_T_b hok (a := 3) (by omega)
  have hT4 := jf_T_b hok (a := 4) (by omega)
  show R (0, [some (aR 4 0), some (aI e), none, none, none], [], M)
  refine hR _ (hR _ (hR _ (hR _ (hR _ (hR _ (hR _ (am_brf (rg := am_in 0 ∧ am_in 5) (P := 5 ≤ 0) (A := R (39, [some (aR 4 0), some (aI e), some (aL 0), none, some (aI 0)], [], M)) (B := R (11, [some (aR 4 0), some (aI e), some (aL 0), none, some (aI 0)], [], M)) (by omega) (by omega) ?_)))))))
  show R (11, [some (aR 4 0), some (aI e), some (aL 0), none, some (aI 0)], [], M)
  refine hR _ (hR _ (hR _ (?_)))
  show R (17, [some (aR 4 0), some (aI e), some (aL 0), none, some (aI 0)], [aI 0, aR 12 0], M)
  refine hR _ ⟨(show 0 ≤ (0 : Int) ∧ (0 : Int) < 5 from (by omega)), ?_⟩
  show R (18, [some (aR 4 0), some (aI e), some (aL 0), none, some (aI 0)], [aI (M 12 0 0)], M)
  rw [(hthr 0 (by omega)).1]
  show R (18, [some (aR 4 0), some (aI e), some (aL 0), none, some (aI 0)], [aI (jf_E p 0)], M)
  refine hR _ (?_)
  show R (19, [some (aR 4 0), some (aI e), some (aL 0), none, some (aI 0)], [aI e, aI (jf_E p 0)], M)
  suffices hJ : R (33, [some (aR 4 0), some (aI e), some (aL (0 + (if e < (jf_E p 0) then (jf_O p 0) else 0))), none, some (aI 0)], [], M) by
    refine hR _ (am_brc (rg := am_in (jf_E p 0) ∧ am_in e) (P := (jf_E p 0) ≤ e) (A := R (33, [some (aR 4 0), some (aI e), some (aL 0), none, some (aI 0)], [], M)) (B := R (22, [some (aR 4 0), some (aI e), some (aL 0), none, some (aI 0)], [], M)) (by omega) (fun c19 => ?_) (fun c19 => ?_))
    · rw [if_neg (show ¬ (e < (jf_E p 0)) by omega), Int.add_zero] at hJ
      exact hJ
    · refine hR _ (hR _ (hR _ (hR _ (?_))))
      show R (29, [some (aR 4 0), some (aI e), some (aL 0), none, some (aI 0)], [aI 0, aR 14 0, aL 0], M)
      refine hR _ ⟨(show 0 ≤ (0 : Int) ∧ (0 : Int) < 5 from (by omega)), ?_⟩
      show R (30, [some (aR 4 0), some (aI e), some (aL 0), none, some (aI 0)], [aI (M 14 0 0), aL 0], M)
      rw [(hthr 0 (by omega)).2.2]
      show R (30, [some (aR 4 0), some (aI e), some (aL 0), none, some (aI 0)], [aI (jf_O p 0), aL 0], M)
      refine hR _ ⟨(by omega), ?_⟩
      show R (31, [some (aR 4 0), some (aI e), some (aL 0), none, some (aI 0)], [aL (jf_O p 0), aL 0], M)
      refine hR _ (hR _ (?_))
      show R (33, [some (aR 4 0), some (aI e), some (aL (0 + (jf_O p 0))), none, some (aI 0)], [], M)
      rw [if_pos (show e < (jf_E p 0) by omega)] at hJ
      exact hJ
  show R (33, [some (aR 4 0), some (aI e), some (aL (0 + (if e < (jf_E p 0) then (jf_O p 0) else 0))), none, some (aI 0)], [], M)
  refine hR _ (hR _ (hR _ (hR _ (hR _ (am_brf (rg := am_in 1 ∧ am_in 5) (P := 5 ≤ 1) (A := R (39, [some (aR 4 0), some (aI e), some (aL (0 + (if e < (jf_E p 0) then (jf_O p 0) else 0))), none, some (aI 1)], [], M)) (B := R (11, [some (aR 4 0), some (aI e), some (aL (0 + (if e < (jf_E p 0) then (jf_O p 0) else 0))), none, some (aI 1)], [], M)) (by omega) (by omega) ?_)))))
  show R (11, [some (aR 4 0), some (aI e), some (aL (0 + (if e < (jf_E p 0) then (jf_O p 0) else 0))), none, some (aI 1)], [], M)
  refine hR _ (hR _ (hR _ (?_)))
  show R (17, [some (aR 4 0), some (aI e), some (aL (0 + (if e < (jf_E p 0) then (jf_O p 0) else 0))), none, some (aI 1)], [aI 1, aR 12 0], M)
  refine hR _ ⟨(show 0 ≤ (1 : Int) ∧ (1 : Int) < 5 from (by omega)), ?_⟩
  show R (18, [some (aR 4 0), some (aI e), some (aL (0 + (if e < (jf_E p 0) then (jf_O p 0) else 0))), none, some (aI 1)], [aI (M 12 0 1)], M)
  rw [(hthr 1 (by omega)).1]
  show R (18, [some (aR 4 0), some (aI e), some (aL (0 + (if e < (jf_E p 0) then (jf_O p 0) else 0))), none, some (aI 1)], [aI (jf_E p 1)], M)
  refine hR _ (?_)
  show R (19, [some (aR 4 0), some (aI e), some (aL (0 + (if e < (jf_E p 0) then (jf_O p 0) else 0))), none, some (aI 1)], [aI e, aI (jf_E p 1)], M)
  suffices hJ : R (33, [some (aR 4 0), some (aI e), some (aL ((0 + (if e < (jf_E p 0) then (jf_O p 0) else 0)) + (if e < (jf_E p 1) then (jf_O p 1) else 0))), none, some (aI 1)], [], M) by
    refine hR _ (am_brc (rg := am_in (jf_E p 1) ∧ am_in e) (P := (jf_E p 1) ≤ e) (A := R (33, [some (aR 4 0), some (aI e), some (aL (0 + (if e < (jf_E p 0) then (jf_O p 0) else 0))), none, some (aI 1)], [], M)) (B := R (22, [some (aR 4 0), some (aI e), some (aL (0 + (if e < (jf_E p 0) then (jf_O p 0) else 0))), none, some (aI 1)], [], M)) (by omega) (fun c19 => ?_) (fun c19 => ?_))
    · rw [if_neg (show ¬ (e < (jf_E p 1)) by omega), Int.add_zero] at hJ
      exact hJ
    · refine hR _ (hR _ (hR _ (hR _ (?_))))
      show R (29, [some (aR 4 0), some (aI e), some (aL (0 + (if e < (jf_E p 0) then (jf_O p 0) else 0))), none, some (aI 1)], [aI 1, aR 14 0, aL (0 + (if e < (jf_E p 0) then (jf_O p 0) else 0))], M)
      refine hR _ ⟨(show 0 ≤ (1 : Int) ∧ (1 : Int) < 5 from (by omega)), ?_⟩
      show R (30, [some (aR 4 0), some (aI e), some (aL (0 + (if e < (jf_E p 0) then (jf_O p 0) else 0))), none, some (aI 1)], [aI (M 14 0 1), aL (0 + (if e < (jf_E p 0) then (jf_O p 0) else 0))], M)
      rw [(hthr 1 (by omega)).2.2]
      show R (30, [some (aR 4 0), some (aI e), some (aL (0 + (if e < (jf_E p 0) then (jf_O p 0) else 0))), none, some (aI 1)], [aI (jf_O p 1), aL (0 + (if e < (jf_E p 0) then (jf_O p 0) else 0))], M)
      refine hR _ ⟨(by omega), ?_⟩
      show R (31, [some (aR 4 0), some (aI e), some (aL (0 + (if e < (jf_E p 0) then (jf_O p 0) else 0))), none, some (aI 1)], [aL (jf_O p 1), aL (0 + (if e < (jf_E p 0) then (jf_O p 0) else 0))], M)
      refine hR _ (hR _ (?_))
      show R (33, [some (aR 4 0), some (aI e), some (aL ((0 + (if e < (jf_E p 0) then (jf_O p 0) else 0)) + (jf_O p 1))), none, some (aI 1)], [], M)
      rw [if_pos (show e < (jf_E p 1) by omega)] at hJ
      exact hJ
  show R (33, [some (aR 4 0), some (aI e), some (aL ((0 + (if e < (jf_E p 0) then (jf_O p 0) else 0)) + (if e < (jf_E p 1) then (jf_O p 1) else 0))), none, some (aI 1)], [], M)
  refine hR _ (hR _ (hR _ (hR _ (hR _ (am_brf (rg := am_in 2 ∧ am_in 5) (P := 5 ≤ 2) (A := R (39, [some (aR 4 0), some (aI e), some (aL ((0 + (if e < (jf_E p 0) then (jf_O p 0) else 0)) + (if e < (jf_E p 1) then (jf_O p 1) else 0))), none, some (aI 2)], [], M)) (B := R (11, [some (aR 4 0), some (aI e), some (aL ((0 + (if e < (jf_E p 0) then (jf_O p 0) else 0)) + (if e < (jf_E p 1) then (jf_O p 1) else 0))), none, some (aI 2)], [], M)) (by omega) (by omega) ?_)))))
  show R (11, [some (aR 4 0), some (aI e), some (aL ((0 + (if e < (jf_E p 0) then (jf_O p 0) else 0)) + (if e < (jf_E p 1) then (jf_O p 1) else 0))), none, some (aI 2)], [], M)
  refine hR _ (hR _ (hR _ (?_)))
  show R (17, [some (aR 4 0), some (aI e), some (aL ((0 + (if e < (jf_E p 0) then (jf_O p 0) else 0)) + (if e < (jf_E p 1) then (jf_O p 1) else 0))), none, some (aI 2)], [aI 2, aR 12 0], M)
  refine hR _ ⟨(show 0 ≤ (2 : Int) ∧ (2 : Int) < 5 from (by omega)), ?_⟩
  show R (18, [some (aR 4 0), some (aI e), some (aL ((0 + (if e < (jf_E p 0) then (jf_O p 0) else 0)) + (if e < (jf_E p 1) then (jf_O p 1) else 0))), none, some (aI 2)], [aI (M 12 0 2)], M)
  rw [(hthr 2 (by omega)).1]
  show R (18, [some (aR 4 0), some (aI e), some (aL ((0 + (if e < (jf_E p 0) then (jf_O p 0) else 0)) + (if e < (jf_E p 1) then (jf_O p 1) else 0))), none, some (aI 2)], [aI (jf_E p 2)], M)
  refine hR _ (?_)
  show R (19, [some (aR 4 0), some (aI e), some (aL ((0 + (if e < (jf_E p 0) then (jf_O p 0) else 0)) + (if e < (jf_E p 1) then (jf_O p 1) else 0))), none, some (aI 2)], [aI e, aI (jf_E p 2)], M)
  suffices hJ : R (33, [some (aR 4 0), some (aI e), some (aL (((0 + (if e < (jf_E p 0) then (jf_O p 0) else 0)) + (if e < (jf_E p 1) then (jf_O p 1) else 0)) + (if e < (jf_E p 2) then (jf_O p 2) else 0))), none, some (aI 2)], [], M) by
    refine hR _ (am_brc (rg := am_in (jf_E p 2) ∧ am_in e) (P := (jf_E p 2) ≤ e) (A := R (33, [some (aR 4 0), some (aI e), some (aL ((0 + (if e < (jf_E p 0) then (jf_O p 0) else 0)) + (if e < (jf_E p 1) then (jf_O p 1) else 0))), none, some (aI 2)], [], M)) (B := R (22, [some (aR 4 0), some (aI e), some (aL ((0 + (if e < (jf_E p 0) then (jf_O p 0) else 0)) + (if e < (jf_E p 1) then (jf_O p 1) else 0))), none, some (aI 2)], [], M)) (by omega) (fun c19 => ?_) (fun c19 => ?_))
    · rw [if_neg (show ¬ (e < (jf_E p 2)) by omega), Int.add_zero] at hJ
      exact hJ
    · refine hR _ (hR _ (hR _ (hR _ (?_))))
      show R (29, [some (aR 4 0), some (aI e), some (aL ((0 + (if e < (jf_E p 0) then (jf_O p 0) else 0)) + (if e < (jf_E p 1) then (jf_O p 1) else 0))), none, some (aI 2)], [aI 2, aR 14 0, aL ((0 + (if e < (jf_E p 0) then (jf_O p 0) else 0)) + (if e < (jf_E p 1) then (jf_O p 1) else 0))], M)
      refine hR _ ⟨(show 0 ≤ (2 : Int) ∧ (2 : Int) < 5 from (by omega)), ?_⟩
      show R (30, [some (aR 4 0), some (aI e), some (aL ((0 + (if e < (jf_E p 0) then (jf_O p 0) else 0)) + (if e < (jf_E p 1) then (jf_O p 1) else 0))), none, some (aI 2)], [aI (M 14 0 2), aL ((0 + (if e < (jf_E p 0) then (jf_O p 0) else 0)) + (if e < (jf_E p 1) then (jf_O p 1) else 0))], M)
      rw [(hthr 2 (by omega)).2.2]
      show R (30, [some (aR 4 0), some (aI e), some (aL ((0 + (if e < (jf_E p 0) then (jf_O p 0) else 0)) + (if e < (jf_E p 1) then (jf_O p 1) else 0))), none, some (aI 2)], [aI (jf_O p 2), aL ((0 + (if e < (jf_E p 0) then (jf_O p 0) else 0)) + (if e < (jf_E p 1) then (jf_O p 1) else 0))], M)
      refine hR _ ⟨(by omega), ?_⟩
      show R (31, [some (aR 4 0), some (aI e), some (aL ((0 + (if e < (jf_E p 0) then (jf_O p 0) else 0)) + (if e < (jf_E p 1) then (jf_O p 1) else 0))), none, some (aI 2)], [aL (jf_O p 2), aL ((0 + (if e < (jf_E p 0) then (jf_O p 0) else 0)) + (if e < (jf_E p 1) then (jf_O p 1) else 0))], M)
      refine hR _ (hR _ (?_))
      show R (33, [some (aR 4 0), some (aI e), some (aL (((0 + (if e < (jf_E p 0) then (jf_O p 0) else 0)) + (if e < (jf_E p 1) then (jf_O p 1) else 0)) + (jf_O p 2))), none, some (aI 2)], [], M)
      rw [if_pos (show e < (jf_E p 2) by omega)] at hJ
      exact hJ
  show R (33, [some (aR 4 0), some (aI e), some (aL (((0 + (if e < (jf_E p 0) then (jf_O p 0) else 0)) + (if e < (jf_E p 1) then (jf_O p 1) else 0)) + (if e < (jf_E p 2) then (jf_O p 2) else 0))), none, some (aI 2)], [], M)
  refine hR _ (hR _ (hR _ (hR _ (hR _ (am_brf (rg := am_in 3 ∧ am_in 5) (P := 5 ≤ 3) (A := R (39, [some (aR 4 0), some (aI e), some (aL (((0 + (if e < (jf_E p 0) then (jf_O p 0) else 0)) + (if e < (jf_E p 1) then (jf_O p 1) else 0)) + (if e < (jf_E p 2) then (jf_O p 2) else 0))), none, some (aI 3)], [], M)) (B := R (11, [some (aR 4 0), some (aI e), some (aL (((0 + (if e < (jf_E p 0) then (jf_O p 0) else 0)) + (if e < (jf_E p 1) then (jf_O p 1) else 0)) + (if e < (jf_E p 2) then (jf_O p 2) else 0))), none, some (aI 3)], [], M)) (by omega) (by omega) ?_)))))
  show R (11, [some (aR 4 0), some (aI e), some (aL (((0 + (if e < (jf_E p 0) then (jf_O p 0) else 0)) + (if e < (jf_E p 1) then (jf_O p 1) else 0)) + (if e < (jf_E p 2) then (jf_O p 2) else 0))), none, some (aI 3)], [], M)
  refine hR _ (hR _ (hR _ (?_)))
  show R (17, [some (aR 4 0), some (aI e), some (aL (((0 + (if e < (jf_E p 0) then (jf_O p 0) else 0)) + (if e < (jf_E p 1) then (jf_O p 1) else 0)) + (if e < (jf_E p 2) then (jf_O p 2) else 0))), none, some (aI 3)], [aI 3, aR 12 0], M)
  refine hR _ ⟨(show 0 ≤ (3 : Int) ∧ (3 : Int) < 5 from (by omega)), ?_⟩
  show R (18, [some (aR 4 0), some (aI e), some (aL (((0 + (if e < (jf_E p 0) then (jf_O p 0) else 0)) + (if e < (jf_E p 1) then (jf_O p 1) else 0)) + (if e < (jf_E p 2) then (jf_O p 2) else 0))), none, some (aI 3)], [aI (M 12 0 3)], M)
  rw [(hthr 3 (by omega)).1]
  show R (18, [some (aR 4 0), some (aI e), some (aL (((0 + (if e < (jf_E p 0) then (jf_O p 0) else 0)) + (if e < (jf_E p 1) then (jf_O p 1) else 0)) + (if e < (jf_E p 2) then (jf_O p 2) else 0))), none, some (aI 3)], [aI (jf_E p 3)], M)
  refine hR _ (?_)
  show R (19, [some (aR 4 0), some (aI e), some (aL (((0 + (if e < (jf_E p 0) then (jf_O p 0) else 0)) + (if e < (jf_E p 1) then (jf_O p 1) else 0)) + (if e < (jf_E p 2) then (jf_O p 2) else 0))), none, some (aI 3)], [aI e, aI (jf_E p 3)], M)
  suffices hJ : R (33, [some (aR 4 0), some (aI e), some (aL ((((0 + (if e < (jf_E p 0) then (jf_O p 0) else 0)) + (if e < (jf_E p 1) then (jf_O p 1) else 0)) + (if e < (jf_E p 2) then (jf_O p 2) else 0)) + (if e < (jf_E p 3) then (jf_O p 3) else 0))), none, some (aI 3)], [], M) by
    refine hR _ (am_brc (rg := am_in (jf_E p 3) ∧ am_in e) (P := (jf_E p 3) ≤ e) (A := R (33, [some (aR 4 0), some (aI e), some (aL (((0 + (if e < (jf_E p 0) then (jf_O p 0) else 0)) + (if e < (jf_E p 1) then (jf_O p 1) else 0)) + (if e < (jf_E p 2) then (jf_O p 2) else 0))), none, some (aI 3)], [], M)) (B := R (22, [some (aR 4 0), some (aI e), some (aL (((0 + (if e < (jf_E p 0) then (jf_O p 0) else 0)) + (if e < (jf_E p 1) then (jf_O p 1) else 0)) + (if e < (jf_E p 2) then (jf_O p 2) else 0))), none, some (aI 3)], [], M)) (by omega) (fun c19 => ?_) (fun c19 => ?_))
    · rw [if_neg (show ¬ (e < (jf_E p 3)) by omega), Int.add_zero] at hJ
      exact hJ
    · refine hR _ (hR _ (hR _ (hR _ (?_))))
      show R (29, [some (aR 4 0), some (aI e), some (aL (((0 + (if e < (jf_E p 0) then (jf_O p 0) else 0)) + (if e < (jf_E p 1) then (jf_O p 1) else 0)) + (if e < (jf_E p 2) then (jf_O p 2) else 0))), none, some (aI 3)], [aI 3, aR 14 0, aL (((0 + (if e < (jf_E p 0) then (jf_O p 0) else 0)) + (if e < (jf_E p 1) then (jf_O p 1) else 0)) + (if e < (jf_E p 2) then (jf_O p 2) else 0))], M)
      refine hR _ ⟨(show 0 ≤ (3 : Int) ∧ (3 : Int) < 5 from (by omega)), ?_⟩
      show R (30, [some (aR 4 0), some (aI e), some (aL (((0 + (if e < (jf_E p 0) then (jf_O p 0) else 0)) + (if e < (jf_E p 1) then (jf_O p 1) else 0)) + (if e < (jf_E p 2) then (jf_O p 2) else 0))), none, some (aI 3)], [aI (M 14 0 3), aL (((0 + (if e < (jf_E p 0) then (jf_O p 0) else 0)) + (if e < (jf_E p 1) then (jf_O p 1) else 0)) + (if e < (jf_E p 2) then (jf_O p 2) else 0))], M)
      rw [(hthr 3 (by omega)).2.2]
      show R (30, [some (aR 4 0), some (aI e), some (aL (((0 + (if e < (jf_E p 0) then (jf_O p 0) else 0)) + (if e < (jf_E p 1) then (jf_O p 1) else 0)) + (if e < (jf_E p 2) then (jf_O p 2) else 0))), none, some (aI 3)], [aI (jf_O p 3), aL (((0 + (if e < (jf_E p 0) then (jf_O p 0) else 0)) + (if e < (jf_E p 1) then (jf_O p 1) else 0)) + (if e < (jf_E p 2) then (jf_O p 2) else 0))], M)
      refine hR _ ⟨(by omega), ?_⟩
      show R (31, [some (aR 4 0), some (aI e), some (aL (((0 + (if e < (jf_E p 0) then (jf_O p 0) else 0)) + (if e < (jf_E p 1) then (jf_O p 1) else 0)) + (if e < (jf_E p 2) then (jf_O p 2) else 0))), none, some (aI 3)], [aL (jf_O p 3), aL (((0 + (if e < (jf_E p 0) then (jf_O p 0) else 0)) + (if e < (jf_E p 1) then (jf_O p 1) else 0)) + (if e < (jf_E p 2) then (jf_O p 2) else 0))], M)
      refine hR _ (hR _ (?_))
      show R (33, [some (aR 4 0), some (aI e), some (aL ((((0 + (if e < (jf_E p 0) then (jf_O p 0) else 0)) + (if e < (jf_E p 1) then (jf_O p 1) else 0)) + (if e < (jf_E p 2) then (jf_O p 2) else 0)) + (jf_O p 3))), none, some (aI 3)], [], M)
      rw [if_pos (show e < (jf_E p 3) by omega)] at hJ
      exact hJ
  show R (33, [some (aR 4 0), some (aI e), some (aL ((((0 + (if e < (jf_E p 0) then (jf_O p 0) else 0)) + (if e < (jf_E p 1) then (jf_O p 1) else 0)) + (if e < (jf_E p 2) then (jf_O p 2) else 0)) + (if e < (jf_E p 3) then (jf_O p 3) else 0))), none, some (aI 3)], [], M)
  refine hR _ (hR _ (hR _ (hR _ (hR _ (am_brf (rg := am_in 4 ∧ am_in 5) (P := 5 ≤ 4) (A := R (39, [some (aR 4 0), some (aI e), some (aL ((((0 + (if e < (jf_E p 0) then (jf_O p 0) else 0)) + (if e < (jf_E p 1) then (jf_O p 1) else 0)) + (if e < (jf_E p 2) then (jf_O p 2) else 0)) + (if e < (jf_E p 3) then (jf_O p 3) else 0))), none, some (aI 4)], [], M)) (B := R (11, [some (aR 4 0), some (aI e), some (aL ((((0 + (if e < (jf_E p 0) then (jf_O p 0) else 0)) + (if e < (jf_E p 1) then (jf_O p 1) else 0)) + (if e < (jf_E p 2) then (jf_O p 2) else 0)) + (if e < (jf_E p 3) then (jf_O p 3) else 0))), none, some (aI 4)], [], M)) (by omega) (by omega) ?_)))))
  show R (11, [some (aR 4 0), some (aI e), some (aL ((((0 + (if e < (jf_E p 0) then (jf_O p 0) else 0)) + (if e < (jf_E p 1) then (jf_O p 1) else 0)) + (if e < (jf_E p 2) then (jf_O p 2) else 0)) + (if e < (jf_E p 3) then (jf_O p 3) else 0))), none, some (aI 4)], [], M)
  refine hR _ (hR _ (hR _ (?_)))
  show R (17, [some (aR 4 0), some (aI e), some (aL ((((0 + (if e < (jf_E p 0) then (jf_O p 0) else 0)) + (if e < (jf_E p 1) then (jf_O p 1) else 0)) + (if e < (jf_E p 2) then (jf_O p 2) else 0)) + (if e < (jf_E p 3) then (jf_O p 3) else 0))), none, some (aI 4)], [aI 4, aR 12 0], M)
  refine hR _ ⟨(show 0 ≤ (4 : Int) ∧ (4 : Int) < 5 from (by omega)), ?_⟩
  show R (18, [some (aR 4 0), some (aI e), some (aL ((((0 + (if e < (jf_E p 0) then (jf_O p 0) else 0)) + (if e < (jf_E p 1) then (jf_O p 1) else 0)) + (if e < (jf_E p 2) then (jf_O p 2) else 0)) + (if e < (jf_E p 3) then (jf_O p 3) else 0))), none, some (aI 4)], [aI (M 12 0 4)], M)
  rw [(hthr 4 (by omega)).1]
  show R (18, [some (aR 4 0), some (aI e), some (aL ((((0 + (if e < (jf_E p 0) then (jf_O p 0) else 0)) + (if e < (jf_E p 1) then (jf_O p 1) else 0)) + (if e < (jf_E p 2) then (jf_O p 2) else 0)) + (if e < (jf_E p 3) then (jf_O p 3) else 0))), none, some (aI 4)], [aI (jf_E p 4)], M)
  refine hR _ (?_)
  show R (19, [some (aR 4 0), some (aI e), some (aL ((((0 + (if e < (jf_E p 0) then (jf_O p 0) else 0)) + (if e < (jf_E p 1) then (jf_O p 1) else 0)) + (if e < (jf_E p 2) then (jf_O p 2) else 0)) + (if e < (jf_E p 3) then (jf_O p 3) else 0))), none, some (aI 4)], [aI e, aI (jf_E p 4)], M)
  suffices hJ : R (33, [some (aR 4 0), some (aI e), some (aL (((((0 + (if e < (jf_E p 0) then (jf_O p 0) else 0)) + (if e < (jf_E p 1) then (jf_O p 1) else 0)) + (if e < (jf_E p 2) then (jf_O p 2) else 0)) + (if e < (jf_E p 3) then (jf_O p 3) else 0)) + (if e < (jf_E p 4) then (jf_O p 4) else 0))), none, some (aI 4)], [], M) by
    refine hR _ (am_brc (rg := am_in (jf_E p 4) ∧ am_in e) (P := (jf_E p 4) ≤ e) (A := R (33, [some (aR 4 0), some (aI e), some (aL ((((0 + (if e < (jf_E p 0) then (jf_O p 0) else 0)) + (if e < (jf_E p 1) then (jf_O p 1) else 0)) + (if e < (jf_E p 2) then (jf_O p 2) else 0)) + (if e < (jf_E p 3) then (jf_O p 3) else 0))), none, some (aI 4)], [], M)) (B := R (22, [some (aR 4 0), some (aI e), some (aL ((((0 + (if e < (jf_E p 0) then (jf_O p 0) else 0)) + (if e < (jf_E p 1) then (jf_O p 1) else 0)) + (if e < (jf_E p 2) then (jf_O p 2) else 0)) + (if e < (jf_E p 3) then (jf_O p 3) else 0))), none, some (aI 4)], [], M)) (by omega) (fun c19 => ?_) (fun c19 => ?_))
    · rw [if_neg (show ¬ (e < (jf_E p 4)) by omega), Int.add_zero] at hJ
      exact hJ
    · refine hR _ (hR _ (hR _ (hR _ (?_))))
      show R (29, [some (aR 4 0), some (aI e), some (aL ((((0 + (if e < (jf_E p 0) then (jf_O p 0) else 0)) + (if e < (jf_E p 1) then (jf_O p 1) else 0)) + (if e < (jf_E p 2) then (jf_O p 2) else 0)) + (if e < (jf_E p 3) then (jf_O p 3) else 0))), none, some (aI 4)], [aI 4, aR 14 0, aL ((((0 + (if e < (jf_E p 0) then (jf_O p 0) else 0)) + (if e < (jf_E p 1) then (jf_O p 1) else 0)) + (if e < (jf_E p 2) then (jf_O p 2) else 0)) + (if e < (jf_E p 3) then (jf_O p 3) else 0))], M)
      refine hR _ ⟨(show 0 ≤ (4 : Int) ∧ (4 : Int) < 5 from (by omega)), ?_⟩
      show R (30, [some (aR 4 0), some (aI e), some (aL ((((0 + (if e < (jf_E p 0) then (jf_O p 0) else 0)) + (if e < (jf_E p 1) then (jf_O p 1) else 0)) + (if e < (jf_E p 2) then (jf_O p 2) else 0)) + (if e < (jf_E p 3) then (jf_O p 3) else 0))), none, some (aI 4)], [aI (M 14 0 4), aL ((((0 + (if e < (jf_E p 0) then (jf_O p 0) else 0)) + (if e < (jf_E p 1) then (jf_O p 1) else 0)) + (if e < (jf_E p 2) then (jf_O p 2) else 0)) + (if e < (jf_E p 3) then (jf_O p 3) else 0))], M)
      rw [(hthr 4 (by omega)).2.2]
      show R (30, [some (aR 4 0), some (aI e), some (aL ((((0 + (if e < (jf_E p 0) then (jf_O p 0) else 0)) + (if e < (jf_E p 1) then (jf_O p 1) else 0)) + (if e < (jf_E p 2) then (jf_O p 2) else 0)) + (if e < (jf_E p 3) then (jf_O p 3) else 0))), none, some (aI 4)], [aI (jf_O p 4), aL ((((0 + (if e < (jf_E p 0) then (jf_O p 0) else 0)) + (if e < (jf_E p 1) then (jf_O p 1) else 0)) + (if e < (jf_E p 2) then (jf_O p 2) else 0)) + (if e < (jf_E p 3) then (jf_O p 3) else 0))], M)
      refine hR _ ⟨(by omega), ?_⟩
      show R (31, [some (aR 4 0), some (aI e), some (aL ((((0 + (if e < (jf_E p 0) then (jf_O p 0) else 0)) + (if e < (jf_E p 1) then (jf_O p 1) else 0)) + (if e < (jf_E p 2) then (jf_O p 2) else 0)) + (if e < (jf_E p 3) then (jf_O p 3) else 0))), none, some (aI 4)], [aL (jf_O p 4), aL ((((0 + (if e < (jf_E p 0) then (jf_O p 0) else 0)) + (if e < (jf_E p 1) then (jf_O p 1) else 0)) + (if e < (jf_E p 2) then (jf_O p 2) else 0)) + (if e < (jf_E p 3) then (jf_O p 3) else 0))], M)
      refine hR _ (hR _ (?_))
      show R (33, [some (aR 4 0), some (aI e), some (aL (((((0 + (if e < (jf_E p 0) then (jf_O p 0) else 0)) + (if e < (jf_E p 1) then (jf_O p 1) else 0)) + (if e < (jf_E p 2) then (jf_O p 2) else 0)) + (if e < (jf_E p 3) then (jf_O p 3) else 0)) + (jf_O p 4))), none, some (aI 4)], [], M)
      rw [if_pos (show e < (jf_E p 4) by omega)] at hJ
      exact hJ
  show R (33, [some (aR 4 0), some (aI e), some (aL (((((0 + (if e < (jf_E p 0) then (jf_O p 0) else 0)) + (if e < (jf_E p 1) then (jf_O p 1) else 0)) + (if e < (jf_E p 2) then (jf_O p 2) else 0)) + (if e < (jf_E p 3) then (jf_O p 3) else 0)) + (if e < (jf_E p 4) then (jf_O p 4) else 0))), none, some (aI 4)], [], M)
  refine hR _ (hR _ (hR _ (hR _ (hR _ (am_brt (rg := am_in 5 ∧ am_in 5) (P := (5 : Int) ≤ 5) (A := R (39, [some (aR 4 0), some (aI e), some (aL (((((0 + (if e < (jf_E p 0) then (jf_O p 0) else 0)) + (if e < (jf_E p 1) then (jf_O p 1) else 0)) + (if e < (jf_E p 2) then (jf_O p 2) else 0)) + (if e < (jf_E p 3) then (jf_O p 3) else 0)) + (if e < (jf_E p 4) then (jf_O p 4) else 0))), none, some (aI 5)], [], M)) (B := R (11, [some (aR 4 0), some (aI e), some (aL (((((0 + (if e < (jf_E p 0) then (jf_O p 0) else 0)) + (if e < (jf_E p 1) then (jf_O p 1) else 0)) + (if e < (jf_E p 2) then (jf_O p 2) else 0)) + (if e < (jf_E p 3) then (jf_O p 3) else 0)) + (if e < (jf_E p 4) then (jf_O p 4) else 0))), none, some (aI 5)], [], M)) (by omega) (by omega) ?_)))))
  show R (39, [some (aR 4 0), some (aI e), some (aL (((((0 + (if e < (jf_E p 0) then (jf_O p 0) else 0)) + (if e < (jf_E p 1) then (jf_O p 1) else 0)) + (if e < (jf_E p 2) then (jf_O p 2) else 0)) + (if e < (jf_E p 3) then (jf_O p 3) else 0)) + (if e < (jf_E p 4) then (jf_O p 4) else 0))), none, some (aI 5)], [], M)
  refine hR _ (?_)
  show R (40, [some (aR 4 0), some (aI e), some (aL (((((0 + (if e < (jf_E p 0) then (jf_O p 0) else 0)) + (if e < (jf_E p 1) then (jf_O p 1) else 0)) + (if e < (jf_E p 2) then (jf_O p 2) else 0)) + (if e < (jf_E p 3) then (jf_O p 3) else 0)) + (if e < (jf_E p 4) then (jf_O p 4) else 0))), none, some (aI 5)], [aL (((((0 + (if e < (jf_E p 0) then (jf_O p 0) else 0)) + (if e < (jf_E p 1) then (jf_O p 1) else 0)) + (if e < (jf_E p 2) then (jf_O p 2) else 0)) + (if e < (jf_E p 3) then (jf_O p 3) else 0)) + (if e < (jf_E p 4) then (jf_O p 4) else 0))], M)
  refine hR _ (show K (some (aL (((((0 + (if e < (jf_E p 0) then (jf_O p 0) else 0)) + (if e < (jf_E p 1) then (jf_O p 1) else 0)) + (if e < (jf_E p 2) then (jf_O p 2) else 0)) + (if e < (jf_E p 3) then (jf_O p 3) else 0)) + (if e < (jf_E p 4) then (jf_O p 4) else 0)))) M from ?_)
  exact h

theorem sp_allTenths {d : Nat} (hd : 1 ≤ d) {p : jf_par} {M : am_M} {K : am_K} (hok : jf_ok p) (hth : jf_th M p) (h : K (some (aL (jf_tt p))) M) : am_Call wb d 73 [aR 4 0] M K := by
  obtain ⟨d, rfl⟩ : ∃ e, d = e + 1 := ⟨d - 1, by omega⟩
  refine ⟨rfl, fun R hR hC => ?_⟩
  replace hR : ∀ c, am_F wb tb_f73 5 (am_Call wb d) K R c → R c := hR
  obtain ⟨hthr, hthA, hthN⟩ := hth
  have hO0 := jf_O_b hok (a := 0) (by omega)
  have hO1 := jf_O_b hok (a := 1) (by omega)
  have hO2 := jf_O_b hok (a := 2) (by omega)
  have hO3 := jf_O_b hok (a := 3) (by omega)
  have hO4 := jf_O_b hok (a := 4) (by omega)
  have hE0 := jf_E_b hok (a := 0) (by omega)
  have hE1 := jf_E_b hok (a := 1) (by omega)
  have hE2 := jf_E_b hok (a := 2) (by omega)
  have hE3 := jf_E_b hok (a := 3) (by omega)
  have hE4 := jf_E_b hok (a := 4) (by omega)
  have hT0 := jf_T_b hok (a := 0) (by omega)
  have hT1 := jf_T_b hok (a := 1) (by omega)
  have hT2 := jf_T_b hok (a := 2) (by omega)
  have hT3 := jf_T_b hok (a := 3) (by omega)
  have hT4 := jf_T_b hok (a := 4) (by omega)
  show R (0, [some (aR 4 0), none, none, none], [], M)
  refine hR _ (hR _ (hR _ (hR _ (hR _ (hR _ (hR _ (am_brf (rg := am_in 0 ∧ am_in 5) (P := 5 ≤ 0) (A := R (33, [some (aR 4 0), some (aL 0), none, some (aI 0)], [], M)) (B := R (9, [some (aR 4 0), some (aL 0), none, some (aI 0)], [], M)) (by omega) (by omega) ?_)))))))
  show R (9, [some (aR 4 0), some (aL 0), none, some (aI 0)], [], M)
  refine hR _ (hR _ (hR _ (hR _ (?_))))
  show R (15, [some (aR 4 0), some (aL 0), none, some (aI 0)], [aI 0, aR 14 0, aL 0], M)
  refine hR _ ⟨(show 0 ≤ (0 : Int) ∧ (0 : Int) < 5 from (by omega)), ?_⟩
  show R (16, [some (aR 4 0), some (aL 0), none, some (aI 0)], [aI (M 14 0 0), aL 0], M)
  rw [(hthr 0 (by omega)).2.2]
  show R (16, [some (aR 4 0), some (aL 0), none, some (aI 0)], [aI (jf_O p 0), aL 0], M)
  refine hR _ ⟨(by omega), ?_⟩
  show R (17, [some (aR 4 0), some (aL 0), none, some (aI 0)], [aL (jf_O p 0), aL 0], M)
  refine hR _ (hR _ (hR _ (?_)))
  show R (22, [some (aR 4 0), some (aL 0), none, some (aI 0)], [aI 0, aR 13 0, aL (jf_O p 0), aL 0], M)
  refine hR _ ⟨(show 0 ≤ (0 : Int) ∧ (0 : Int) < 5 from (by omega)), ?_⟩
  show R (23, [some (aR 4 0), some (aL 0), none, some (aI 0)], [aI (M 13 0 0), aL (jf_O p 0), aL 0], M)
  rw [(hthr 0 (by omega)).2.1]
  show R (23, [some (aR 4 0), some (aL 0), none, some (aI 0)], [aI (jf_T p 0), aL (jf_O p 0), aL 0], M)
  refine hR _ ⟨(by omega), ?_⟩
  show R (24, [some (aR 4 0), some (aL 0), none, some (aI 0)], [aL (jf_T p 0), aL (jf_O p 0), aL 0], M)
  refine hR _ (hR _ (hR _ (hR _ (hR _ (hR _ (hR _ (hR _ (am_brf (rg := am_in 1 ∧ am_in 5) (P := 5 ≤ 1) (A := R (33, [some (aR 4 0), some (aL (0 + ((jf_O p 0) * (jf_T p 0)))), none, some (aI 1)], [], M)) (B := R (9, [some (aR 4 0), some (aL (0 + ((jf_O p 0) * (jf_T p 0)))), none, some (aI 1)], [], M)) (by omega) (by omega) ?_))))))))
  show R (9, [some (aR 4 0), some (aL (0 + ((jf_O p 0) * (jf_T p 0)))), none, some (aI 1)], [], M)
  refine hR _ (hR _ (hR _ (hR _ (?_))))
  show R (15, [some (aR 4 0), some (aL (0 + ((jf_O p 0) * (jf_T p 0)))), none, some (aI 1)], [aI 1, aR 14 0, aL (0 + ((jf_O p 0) * (jf_T p 0)))], M)
  refine hR _ ⟨(show 0 ≤ (1 : Int) ∧ (1 : Int) < 5 from (by omega)), ?_⟩
  show R (16, [some (aR 4 0), some (aL (0 + ((jf_O p 0) * (jf_T p 0)))), none, some (aI 1)], [aI (M 14 0 1), aL (0 + ((jf_O p 0) * (jf_T p 0)))], M)
  rw [(hthr 1 (by omega)).2.2]
  show R (16, [some (aR 4 0), some (aL (0 + ((jf_O p 0) * (jf_T p 0)))), none, some (aI 1)], [aI (jf_O p 1), aL (0 + ((jf_O p 0) * (jf_T p 0)))], M)
  refine hR _ ⟨(by omega), ?_⟩
  show R (17, [some (aR 4 0), some (aL (0 + ((jf_O p 0) * (jf_T p 0)))), none, some (aI 1)], [aL (jf_O p 1), aL (0 + ((jf_O p 0) * (jf_T p 0)))], M)
  refine hR _ (hR _ (hR _ (?_)))
  show R (22, [some (aR 4 0), some (aL (0 + ((jf_O p 0) * (jf_T p 0)))), none, some (aI 1)], [aI 1, aR 13 0, aL (jf_O p 1), aL (0 + ((jf_O p 0) * (jf_T p 0)))], M)
  refine hR _ ⟨(show 0 ≤ (1 : Int) ∧ (1 : Int) < 5 from (by omega)), ?_⟩
  show R (23, [some (aR 4 0), some (aL (0 + ((jf_O p 0) * (jf_T p 0)))), none, some (aI 1)], [aI (M 13 0 1), aL (jf_O p 1), aL (0 + ((jf_O p 0) * (jf_T p 0)))], M)
  rw [(hthr 1 (by omega)).2.1]
  show R (23, [some (aR 4 0), some (aL (0 + ((jf_O p 0) * (jf_T p 0)))), none, some (aI 1)], [aI (jf_T p 1), aL (jf_O p 1), aL (0 + ((jf_O p 0) * (jf_T p 0)))], M)
  refine hR _ ⟨(by omega), ?_⟩
  show R (24, [some (aR 4 0), some (aL (0 + ((jf_O p 0) * (jf_T p 0)))), none, some (aI 1)], [aL (jf_T p 1), aL (jf_O p 1), aL (0 + ((jf_O p 0) * (jf_T p 0)))], M)
  refine hR _ (hR _ (hR _ (hR _ (hR _ (hR _ (hR _ (hR _ (am_brf (rg := am_in 2 ∧ am_in 5) (P := 5 ≤ 2) (A := R (33, [some (aR 4 0), some (aL ((0 + ((jf_O p 0) * (jf_T p 0))) + ((jf_O p 1) * (jf_T p 1)))), none, some (aI 2)], [], M)) (B := R (9, [some (aR 4 0), some (aL ((0 + ((jf_O p 0) * (jf_T p 0))) + ((jf_O p 1) * (jf_T p 1)))), none, some (aI 2)], [], M)) (by omega) (by omega) ?_))))))))
  show R (9, [some (aR 4 0), some (aL ((0 + ((jf_O p 0) * (jf_T p 0))) + ((jf_O p 1) * (jf_T p 1)))), none, some (aI 2)], [], M)
  refine hR _ (hR _ (hR _ (hR _ (?_))))
  show R (15, [some (aR 4 0), some (aL ((0 + ((jf_O p 0) * (jf_T p 0))) + ((jf_O p 1) * (jf_T p 1)))), none, some (aI 2)], [aI 2, aR 14 0, aL ((0 + ((jf_O p 0) * (jf_T p 0))) + ((jf_O p 1) * (jf_T p 1)))], M)
  refine hR _ ⟨(show 0 ≤ (2 : Int) ∧ (2 : Int) < 5 from (by omega)), ?_⟩
  show R (16, [some (aR 4 0), some (aL ((0 + ((jf_O p 0) * (jf_T p 0))) + ((jf_O p 1) * (jf_T p 1)))), none, some (aI 2)], [aI (M 14 0 2), aL ((0 + ((jf_O p 0) * (jf_T p 0))) + ((jf_O p 1) * (jf_T p 1)))], M)
  rw [(hthr 2 (by omega)).2.2]
  show R (16, [some (aR 4 0), some (aL ((0 + ((jf_O p 0) * (jf_T p 0))) + ((jf_O p 1) * (jf_T p 1)))), none, some (aI 2)], [aI (jf_O p 2), aL ((0 + ((jf_O p 0) * (jf_T p 0))) + ((jf_O p 1) * (jf_T p 1)))], M)
  refine hR _ ⟨(by omega), ?_⟩
  show R (17, [some (aR 4 0), some (aL ((0 + ((jf_O p 0) * (jf_T p 0))) + ((jf_O p 1) * (jf_T p 1)))), none, some (aI 2)], [aL (jf_O p 2), aL ((0 + ((jf_O p 0) * (jf_T p 0))) + ((jf_O p 1) * (jf_T p 1)))], M)
  refine hR _ (hR _ (hR _ (?_)))
  show R (22, [some (aR 4 0), some (aL ((0 + ((jf_O p 0) * (jf_T p 0))) + ((jf_O p 1) * (jf_T p 1)))), none, some (aI 2)], [aI 2, aR 13 0, aL (jf_O p 2), aL ((0 + ((jf_O p 0) * (jf_T p 0))) + ((jf_O p 1) * (jf_T p 1)))], M)
  refine hR _ ⟨(show 0 ≤ (2 : Int) ∧ (2 : Int) < 5 from (by omega)), ?_⟩
  show R (23, [some (aR 4 0), some (aL ((0 + ((jf_O p 0) * (jf_T p 0))) + ((jf_O p 1) * (jf_T p 1)))), none, some (aI 2)], [aI (M 13 0 2), aL (jf_O p 2), aL ((0 + ((jf_O p 0) * (jf_T p 0))) + ((jf_O p 1) * (jf_T p 1)))], M)
  rw [(hthr 2 (by omega)).2.1]
  show R (23, [some (aR 4 0), some (aL ((0 + ((jf_O p 0) * (jf_T p 0))) + ((jf_O p 1) * (jf_T p 1)))), none, some (aI 2)], [aI (jf_T p 2), aL (jf_O p 2), aL ((0 + ((jf_O p 0) * (jf_T p 0))) + ((jf_O p 1) * (jf_T p 1)))], M)
  refine hR _ ⟨(by omega), ?_⟩
  show R (24, [some (aR 4 0), some (aL ((0 + ((jf_O p 0) * (jf_T p 0))) + ((jf_O p 1) * (jf_T p 1)))), none, some (aI 2)], [aL (jf_T p 2), aL (jf_O p 2), aL ((0 + ((jf_O p 0) * (jf_T p 0))) + ((jf_O p 1) * (jf_T p 1)))], M)
  refine hR _ (hR _ (hR _ (hR _ (hR _ (hR _ (hR _ (hR _ (am_brf (rg := am_in 3 ∧ am_in 5) (P := 5 ≤ 3) (A := R (33, [some (aR 4 0), some (aL (((0 + ((jf_O p 0) * (jf_T p 0))) + ((jf_O p 1) * (jf_T p 1))) + ((jf_O p 2) * (jf_T p 2)))), none, some (aI 3)], [], M)) (B := R (9, [some (aR 4 0), some (aL (((0 + ((jf_O p 0) * (jf_T p 0))) + ((jf_O p 1) * (jf_T p 1))) + ((jf_O p 2) * (jf_T p 2)))), none, some (aI 3)], [], M)) (by omega) (by omega) ?_))))))))
  show R (9, [some (aR 4 0), some (aL (((0 + ((jf_O p 0) * (jf_T p 0))) + ((jf_O p 1) * (jf_T p 1))) + ((jf_O p 2) * (jf_T p 2)))), none, some (aI 3)], [], M)
  refine hR _ (hR _ (hR _ (hR _ (?_))))
  show R (15, [some (aR 4 0), some (aL (((0 + ((jf_O p 0) * (jf_T p 0))) + ((jf_O p 1) * (jf_T p 1))) + ((jf_O p 2) * (jf_T p 2)))), none, some (aI 3)], [aI 3, aR 14 0, aL (((0 + ((jf_O p 0) * (jf_T p 0))) + ((jf_O p 1) * (jf_T p 1))) + ((jf_O p 2) * (jf_T p 2)))], M)
  refine hR _ ⟨(show 0 ≤ (3 : Int) ∧ (3 : Int) < 5 from (by omega)), ?_⟩
  show R (16, [some (aR 4 0), some (aL (((0 + ((jf_O p 0) * (jf_T p 0))) + ((jf_O p 1) * (jf_T p 1))) + ((jf_O p 2) * (jf_T p 2)))), none, some (aI 3)], [aI (M 14 0 3), aL (((0 + ((jf_O p 0) * (jf_T p 0))) + ((jf_O p 1) * (jf_T p 1))) + ((jf_O p 2) * (jf_T p 2)))], M)
  rw [(hthr 3 (by omega)).2.2]
  show R (16, [some (aR 4 0), some (aL (((0 + ((jf_O p 0) * (jf_T p 0))) + ((jf_O p 1) * (jf_T p 1))) + ((jf_O p 2) * (jf_T p 2)))), none, some (aI 3)], [aI (jf_O p 3), aL (((0 + ((jf_O p 0) * (jf_T p 0))) + ((jf_O p 1) * (jf_T p 1))) + ((jf_O p 2) * (jf_T p 2)))], M)
  refine hR _ ⟨(by omega), ?_⟩
  show R (17, [some (aR 4 0), some (aL (((0 + ((jf_O p 0) * (jf_T p 0))) + ((jf_O p 1) * (jf_T p 1))) + ((jf_O p 2) * (jf_T p 2)))), none, some (aI 3)], [aL (jf_O p 3), aL (((0 + ((jf_O p 0) * (jf_T p 0))) + ((jf_O p 1) * (jf_T p 1))) + ((jf_O p 2) * (jf_T p 2)))], M)
  refine hR _ (hR _ (hR _ (?_)))
  show R (22, [some (aR 4 0), some (aL (((0 + ((jf_O p 0) * (jf_T p 0))) + ((jf_O p 1) * (jf_T p 1))) + ((jf_O p 2) * (jf_T p 2)))), none, some (aI 3)], [aI 3, aR 13 0, aL (jf_O p 3), aL (((0 + ((jf_O p 0) * (jf_T p 0))) + ((jf_O p 1) * (jf_T p 1))) + ((jf_O p 2) * (jf_T p 2)))], M)
  refine hR _ ⟨(show 0 ≤ (3 : Int) ∧ (3 : Int) < 5 from (by omega)), ?_⟩
  show R (23, [some (aR 4 0), some (aL (((0 + ((jf_O p 0) * (jf_T p 0))) + ((jf_O p 1) * (jf_T p 1))) + ((jf_O p 2) * (jf_T p 2)))), none, some (aI 3)], [aI (M 13 0 3), aL (jf_O p 3), aL (((0 + ((jf_O p 0) * (jf_T p 0))) + ((jf_O p 1) * (jf_T p 1))) + ((jf_O p 2) * (jf_T p 2)))], M)
  rw [(hthr 3 (by omega)).2.1]
  show R (23, [some (aR 4 0), some (aL (((0 + ((jf_O p 0) * (jf_T p 0))) + ((jf_O p 1) * (jf_T p 1))) + ((jf_O p 2) * (jf_T p 2)))), none, some (aI 3)], [aI (jf_T p 3), aL (jf_O p 3), aL (((0 + ((jf_O p 0) * (jf_T p 0))) + ((jf_O p 1) * (jf_T p 1))) + ((jf_O p 2) * (jf_T p 2)))], M)
  refine hR _ ⟨(by omega), ?_⟩
  show R (24, [some (aR 4 0), some (aL (((0 + ((jf_O p 0) * (jf_T p 0))) + ((jf_O p 1) * (jf_T p 1))) + ((jf_O p 2) * (jf_T p 2)))), none, some (aI 3)], [aL (jf_T p 3), aL (jf_O p 3), aL (((0 + ((jf_O p 0) * (jf_T p 0))) + ((jf_O p 1) * (jf_T p 1))) + ((jf_O p 2) * (jf_T p 2)))], M)
  refine hR _ (hR _ (hR _ (hR _ (hR _ (hR _ (hR _ (hR _ (am_brf (rg := am_in 4 ∧ am_in 5) (P := 5 ≤ 4) (A := R (33, [some (aR 4 0), some (aL ((((0 + ((jf_O p 0) * (jf_T p 0))) + ((jf_O p 1) * (jf_T p 1))) + ((jf_O p 2) * (jf_T p 2))) + ((jf_O p 3) * (jf_T p 3)))), none, some (aI 4)], [], M)) (B := R (9, [some (aR 4 0), some (aL ((((0 + ((jf_O p 0) * (jf_T p 0))) + ((jf_O p 1) * (jf_T p 1))) + ((jf_O p 2) * (jf_T p 2))) + ((jf_O p 3) * (jf_T p 3)))), none, some (aI 4)], [], M)) (by omega) (by omega) ?_))))))))
  show R (9, [some (aR 4 0), some (aL ((((0 + ((jf_O p 0) * (jf_T p 0))) + ((jf_O p 1) * (jf_T p 1))) + ((jf_O p 2) * (jf_T p 2))) + ((jf_O p 3) * (jf_T p 3)))), none, some (aI 4)], [], M)
  refine hR _ (hR _ (hR _ (hR _ (?_))))
  show R (15, [some (aR 4 0), some (aL ((((0 + ((jf_O p 0) * (jf_T p 0))) + ((jf_O p 1) * (jf_T p 1))) + ((jf_O p 2) * (jf_T p 2))) + ((jf_O p 3) * (jf_T p 3)))), none, some (aI 4)], [aI 4, aR 14 0, aL ((((0 + ((jf_O p 0) * (jf_T p 0))) + ((jf_O p 1) * (jf_T p 1))) + ((jf_O p 2) * (jf_T p 2))) + ((jf_O p 3) * (jf_T p 3)))], M)
  refine hR _ ⟨(show 0 ≤ (4 : Int) ∧ (4 : Int) < 5 from (by omega)), ?_⟩
  show R (16, [some (aR 4 0), some (aL ((((0 + ((jf_O p 0) * (jf_T p 0))) + ((jf_O p 1) * (jf_T p 1))) + ((jf_O p 2) * (jf_T p 2))) + ((jf_O p 3) * (jf_T p 3)))), none, some (aI 4)], [aI (M 14 0 4), aL ((((0 + ((jf_O p 0) * (jf_T p 0))) + ((jf_O p 1) * (jf_T p 1))) + ((jf_O p 2) * (jf_T p 2))) + ((jf_O p 3) * (jf_T p 3)))], M)
  rw [(hthr 4 (by omega)).2.2]
  show R (16, [some (aR 4 0), some (aL ((((0 + ((jf_O p 0) * (jf_T p 0))) + ((jf_O p 1) * (jf_T p 1))) + ((jf_O p 2) * (jf_T p 2))) + ((jf_O p 3) * (jf_T p 3)))), none, some (aI 4)], [aI (jf_O p 4), aL ((((0 + ((jf_O p 0) * (jf_T p 0))) + ((jf_O p 1) * (jf_T p 1))) + ((jf_O p 2) * (jf_T p 2))) + ((jf_O p 3) * (jf_T p 3)))], M)
  refine hR _ ⟨(by omega), ?_⟩
  show R (17, [some (aR 4 0), some (aL ((((0 + ((jf_O p 0) * (jf_T p 0))) + ((jf_O p 1) * (jf_T p 1))) + ((jf_O p 2) * (jf_T p 2))) + ((jf_O p 3) * (jf_T p 3)))), none, some (aI 4)], [aL (jf_O p 4), aL ((((0 + ((jf_O p 0) * (jf_T p 0))) + ((jf_O p 1) * (jf_T p 1))) + ((jf_O p 2) * (jf_T p 2))) + ((jf_O p 3) * (jf_T p 3)))], M)
  refine hR _ (hR _ (hR _ (?_)))
  show R (22, [some (aR 4 0), some (aL ((((0 + ((jf_O p 0) * (jf_T p 0))) + ((jf_O p 1) * (jf_T p 1))) + ((jf_O p 2) * (jf_T p 2))) + ((jf_O p 3) * (jf_T p 3)))), none, some (aI 4)], [aI 4, aR 13 0, aL (jf_O p 4), aL ((((0 + ((jf_O p 0) * (jf_T p 0))) + ((jf_O p 1) * (jf_T p 1))) + ((jf_O p 2) * (jf_T p 2))) + ((jf_O p 3) * (jf_T p 3)))], M)
  refine hR _ ⟨(show 0 ≤ (4 : Int) ∧ (4 : Int) < 5 from (by omega)), ?_⟩
  show R (23, [some (aR 4 0), some (aL ((((0 + ((jf_O p 0) * (jf_T p 0))) + ((jf_O p 1) * (jf_T p 1))) + ((jf_O p 2) * (jf_T p 2))) + ((jf_O p 3) * (jf_T p 3)))), none, some (aI 4)], [aI (M 13 0 4), aL (jf_O p 4), aL ((((0 + ((jf_O p 0) * (jf_T p 0))) + ((jf_O p 1) * (jf_T p 1))) + ((jf_O p 2) * (jf_T p 2))) + ((jf_O p 3) * (jf_T p 3)))], M)
  rw [(hthr 4 (by omega)).2.1]
  show R (23, [some (aR 4 0), some (aL ((((0 + ((jf_O p 0) * (jf_T p 0))) + ((jf_O p 1) * (jf_T p 1))) + ((jf_O p 2) * (jf_T p 2))) + ((jf_O p 3) * (jf_T p 3)))), none, some (aI 4)], [aI (jf_T p 4), aL (jf_O p 4), aL ((((0 + ((jf_O p 0) * (jf_T p 0))) + ((jf_O p 1) * (jf_T p 1))) + ((jf_O p 2) * (jf_T p 2))) + ((jf_O p 3) * (jf_T p 3)))], M)
  refine hR _ ⟨(by omega), ?_⟩
  show R (24, [some (aR 4 0), some (aL ((((0 + ((jf_O p 0) * (jf_T p 0))) + ((jf_O p 1) * (jf_T p 1))) + ((jf_O p 2) * (jf_T p 2))) + ((jf_O p 3) * (jf_T p 3)))), none, some (aI 4)], [aL (jf_T p 4), aL (jf_O p 4), aL ((((0 + ((jf_O p 0) * (jf_T p 0))) + ((jf_O p 1) * (jf_T p 1))) + ((jf_O p 2) * (jf_T p 2))) + ((jf_O p 3) * (jf_T p 3)))], M)
  refine hR _ (hR _ (hR _ (hR _ (hR _ (hR _ (hR _ (hR _ (am_brt (rg := am_in 5 ∧ am_in 5) (P := (5 : Int) ≤ 5) (A := R (33, [some (aR 4 0), some (aL (((((0 + ((jf_O p 0) * (jf_T p 0))) + ((jf_O p 1) * (jf_T p 1))) + ((jf_O p 2) * (jf_T p 2))) + ((jf_O p 3) * (jf_T p 3))) + ((jf_O p 4) * (jf_T p 4)))), none, some (aI 5)], [], M)) (B := R (9, [some (aR 4 0), some (aL (((((0 + ((jf_O p 0) * (jf_T p 0))) + ((jf_O p 1) * (jf_T p 1))) + ((jf_O p 2) * (jf_T p 2))) + ((jf_O p 3) * (jf_T p 3))) + ((jf_O p 4) * (jf_T p 4)))), none, some (aI 5)], [], M)) (by omega) (by omega) ?_))))))))
  show R (33, [some (aR 4 0), some (aL (((((0 + ((jf_O p 0) * (jf_T p 0))) + ((jf_O p 1) * (jf_T p 1))) + ((jf_O p 2) * (jf_T p 2))) + ((jf_O p 3) * (jf_T p 3))) + ((jf_O p 4) * (jf_T p 4)))), none, some (aI 5)], [], M)
  refine hR _ (?_)
  show R (34, [some (aR 4 0), some (aL (((((0 + ((jf_O p 0) * (jf_T p 0))) + ((jf_O p 1) * (jf_T p 1))) + ((jf_O p 2) * (jf_T p 2))) + ((jf_O p 3) * (jf_T p 3))) + ((jf_O p 4) * (jf_T p 4)))), none, some (aI 5)], [aL (((((0 + ((jf_O p 0) * (jf_T p 0))) + ((jf_O p 1) * (jf_T p 1))) + ((jf_O p 2) * (jf_T p 2))) + ((jf_O p 3) * (jf_T p 3))) + ((jf_O p 4) * (jf_T p 4)))], M)
  refine hR _ (show K (some (aL (((((0 + ((jf_O p 0) * (jf_T p 0))) + ((jf_O p 1) * (jf_T p 1))) + ((jf_O p 2) * (jf_T p 2))) + ((jf_O p 3) * (jf_T p 3))) + ((jf_O p 4) * (jf_T p 4))))) M from ?_)
  exact h

theorem jf_ls_b {p : jf_par} (hp : jf_ok p) : ∀ a, a ≤ 5 → (0 ≤ jf_ls p a ∧ jf_ls p a ≤ 5000) ∧ 0 ≤ jf_ms p a ∧ jf_ms p a ≤ 5000
  | 0, _ => by
    unfold jf_ls jf_ms
    omega
  | a + 1, h => by
    have ih := jf_ls_b hp a (by omega)
    have he := jf_E_b hp (a := a) (by omega)
    unfold jf_ls jf_ms
    split <;> omega

theorem sp_mostLessLeast {d : Nat} (hd : 1 ≤ d) {p : jf_par} {M : am_M} {K : am_K} (hok : jf_ok p) (hth : jf_th M p) (h : K (some (aI (jf_ms p 5 - jf_ls p 5))) M) : am_Call wb d 87 [aR 4 0] M K := by
  obtain ⟨d, rfl⟩ : ∃ e, d = e + 1 := ⟨d - 1, by omega⟩
  refine ⟨rfl, fun R hR hC => ?_⟩
  replace hR : ∀ c, am_F wb tb_f87 1 (am_Call wb d) K R c → R c := hR
  obtain ⟨hthr, hthA, hthN⟩ := hth
  have hO0 := jf_O_b hok (a := 0) (by omega)
  have hO1 := jf_O_b hok (a := 1) (by omega)
  have hO2 := jf_O_b hok (a := 2) (by omega)
  have hO3 := jf_O_b hok (a := 3) (by omega)
  have hO4 := jf_O_b hok (a := 4) (by omega)
  have hE0 := jf_E_b hok (a := 0) (by omega)
  have hE1 := jf_E_b hok (a := 1) (by omega)
  have hE2 := jf_E_b hok (a := 2) (by omega)
  have hE3 := jf_E_b hok (a := 3) (by omega)
  have hE4 := jf_E_b hok (a := 4) (by omega)
  have hT0 := jf_T_b hok (a := 0) (by omega)
  have hT1 := jf_T_b hok (a := 1) (by omega)
  have hT2 := jf_T_b hok (a := 2) (by omega)
  have hT3 := jf_T_b hok (a := 3) (by omega)
  have hT4 := jf_T_b hok (a := 4) (by omega)
  have hl0 := jf_ls_b hok 0 (by omega)
  have hl1 := jf_ls_b hok 1 (by omega)
  have hl2 := jf_ls_b hok 2 (by omega)
  have hl3 := jf_ls_b hok 3 (by omega)
  have hl4 := jf_ls_b hok 4 (by omega)
  have hl5 := jf_ls_b hok 5 (by omega)
  show R (0, [some (aR 4 0), none, none, none], [], M)
  refine hR _ (hR _ (hR _ (hR _ (hR _ (hR _ (hR _ (hR _ (hR _ (am_brf (rg := am_in 0 ∧ am_in 5) (P := 5 ≤ 0) (A := R (53, [some (aR 4 0), some (aI 5000), some (aI 0), some (aI 0)], [], M)) (B := R (13, [some (aR 4 0), some (aI 5000), some (aI 0), some (aI 0)], [], M)) (by omega) (by omega) ?_)))))))))
  show R (13, [some (aR 4 0), some (aI 5000), some (aI 0), some (aI 0)], [], M)
  refine hR _ (hR _ (hR _ (?_)))
  show R (18, [some (aR 4 0), some (aI 5000), some (aI 0), some (aI 0)], [aI 0, aR 14 0], M)
  refine hR _ ⟨(show 0 ≤ (0 : Int) ∧ (0 : Int) < 5 from (by omega)), ?_⟩
  show R (19, [some (aR 4 0), some (aI 5000), some (aI 0), some (aI 0)], [aI (M 14 0 0)], M)
  rw [(hthr 0 (by omega)).2.2]
  show R (19, [some (aR 4 0), some (aI 5000), some (aI 0), some (aI 0)], [aI (jf_O p 0)], M)
  suffices hJ : R (47, [some (aR 4 0), some (aI (if (jf_O p 0) ≤ 0 then 5000 else (min 5000 (jf_E p 0)))), some (aI (if (jf_O p 0) ≤ 0 then 0 else (max 0 (jf_E p 0)))), some (aI 0)], [], M) by
    refine hR _ (am_brc (rg := am_in (jf_O p 0)) (P := 0 < (jf_O p 0)) (A := R (25, [some (aR 4 0), some (aI 5000), some (aI 0), some (aI 0)], [], M)) (B := R (22, [some (aR 4 0), some (aI 5000), some (aI 0), some (aI 0)], [], M)) (by omega) (fun c19 => ?_) (fun c19 => ?_))
    · refine hR _ (hR _ (hR _ (hR _ (?_))))
      show R (31, [some (aR 4 0), some (aI 5000), some (aI 0), some (aI 0)], [aI 0, aR 12 0, aI 5000], M)
      refine hR _ ⟨(show 0 ≤ (0 : Int) ∧ (0 : Int) < 5 from (by omega)), ?_⟩
      show R (32, [some (aR 4 0), some (aI 5000), some (aI 0), some (aI 0)], [aI (M 12 0 0), aI 5000], M)
      rw [(hthr 0 (by omega)).1]
      show R (32, [some (aR 4 0), some (aI 5000), some (aI 0), some (aI 0)], [aI (jf_E p 0), aI 5000], M)
      refine hR _ ⟨(by omega), ?_⟩
      show R (35, [some (aR 4 0), some (aI 5000), some (aI 0), some (aI 0)], [aI (min 5000 (jf_E p 0))], M)
      refine hR _ (hR _ (hR _ (hR _ (hR _ (?_)))))
      show R (42, [some (aR 4 0), some (aI (min 5000 (jf_E p 0))), some (aI 0), some (aI 0)], [aI 0, aR 12 0, aI 0], M)
      refine hR _ ⟨(show 0 ≤ (0 : Int) ∧ (0 : Int) < 5 from (by omega)), ?_⟩
      show R (43, [some (aR 4 0), some (aI (min 5000 (jf_E p 0))), some (aI 0), some (aI 0)], [aI (M 12 0 0), aI 0], M)
      rw [(hthr 0 (by omega)).1]
      show R (43, [some (aR 4 0), some (aI (min 5000 (jf_E p 0))), some (aI 0), some (aI 0)], [aI (jf_E p 0), aI 0], M)
      refine hR _ ⟨(by omega), ?_⟩
      show R (46, [some (aR 4 0), some (aI (min 5000 (jf_E p 0))), some (aI 0), some (aI 0)], [aI (max 0 (jf_E p 0))], M)
      refine hR _ (?_)
      show R (47, [some (aR 4 0), some (aI (min 5000 (jf_E p 0))), some (aI (max 0 (jf_E p 0))), some (aI 0)], [], M)
      rw [if_neg (show ¬ ((jf_O p 0) ≤ 0) by omega)] at hJ
      rw [if_neg (show ¬ ((jf_O p 0) ≤ 0) by omega)] at hJ
      exact hJ
    · refine hR _ (?_)
      show R (47, [some (aR 4 0), some (aI 5000), some (aI 0), some (aI 0)], [], M)
      rw [if_pos (show (jf_O p 0) ≤ 0 by omega)] at hJ
      rw [if_pos (show (jf_O p 0) ≤ 0 by omega)] at hJ
      exact hJ
  show R (47, [some (aR 4 0), some (aI (if (jf_O p 0) ≤ 0 then 5000 else (min 5000 (jf_E p 0)))), some (aI (if (jf_O p 0) ≤ 0 then 0 else (max 0 (jf_E p 0)))), some (aI 0)], [], M)
  show R (47, [some (aR 4 0), some (aI (jf_ls p 1)), some (aI (jf_ms p 1)), some (aI 0)], [], M)
  refine hR _ (hR _ (hR _ (hR _ (hR _ (am_brf (rg := am_in 1 ∧ am_in 5) (P := 5 ≤ 1) (A := R (53, [some (aR 4 0), some (aI (jf_ls p 1)), some (aI (jf_ms p 1)), some (aI 1)], [], M)) (B := R (13, [some (aR 4 0), some (aI (jf_ls p 1)), some (aI (jf_ms p 1)), some (aI 1)], [], M)) (by omega) (by omega) ?_)))))
  show R (13, [some (aR 4 0), some (aI (jf_ls p 1)), some (aI (jf_ms p 1)), some (aI 1)], [], M)
  refine hR _ (hR _ (hR _ (?_)))
  show R (18, [some (aR 4 0), some (aI (jf_ls p 1)), some (aI (jf_ms p 1)), some (aI 1)], [aI 1, aR 14 0], M)
  refine hR _ ⟨(show 0 ≤ (1 : Int) ∧ (1 : Int) < 5 from (by omega)), ?_⟩
  show R (19, [some (aR 4 0), some (aI (jf_ls p 1)), some (aI (jf_ms p 1)), some (aI 1)], [aI (M 14 0 1)], M)
  rw [(hthr 1 (by omega)).2.2]
  show R (19, [some (aR 4 0), some (aI (jf_ls p 1)), some (aI (jf_ms p 1)), some (aI 1)], [aI (jf_O p 1)], M)
  suffices hJ : R (47, [some (aR 4 0), some (aI (if (jf_O p 1) ≤ 0 then (jf_ls p 1) else (min (jf_ls p 1) (jf_E p 1)))), some (aI (if (jf_O p 1) ≤ 0 then (jf_ms p 1) else (max (jf_ms p 1) (jf_E p 1)))), some (aI 1)], [], M) by
    refine hR _ (am_brc (rg := am_in (jf_O p 1)) (P := 0 < (jf_O p 1)) (A := R (25, [some (aR 4 0), some (aI (jf_ls p 1)), some (aI (jf_ms p 1)), some (aI 1)], [], M)) (B := R (22, [some (aR 4 0), some (aI (jf_ls p 1)), some (aI (jf_ms p 1)), some (aI 1)], [], M)) (by omega) (fun c19 => ?_) (fun c19 => ?_))
    · refine hR _ (hR _ (hR _ (hR _ (?_))))
      show R (31, [some (aR 4 0), some (aI (jf_ls p 1)), some (aI (jf_ms p 1)), some (aI 1)], [aI 1, aR 12 0, aI (jf_ls p 1)], M)
      refine hR _ ⟨(show 0 ≤ (1 : Int) ∧ (1 : Int) < 5 from (by omega)), ?_⟩
      show R (32, [some (aR 4 0), some (aI (jf_ls p 1)), some (aI (jf_ms p 1)), some (aI 1)], [aI (M 12 0 1), aI (jf_ls p 1)], M)
      rw [(hthr 1 (by omega)).1]
      show R (32, [some (aR 4 0), some (aI (jf_ls p 1)), some (aI (jf_ms p 1)), some (aI 1)], [aI (jf_E p 1), aI (jf_ls p 1)], M)
      refine hR _ ⟨(by omega), ?_⟩
      show R (35, [some (aR 4 0), some (aI (jf_ls p 1)), some (aI (jf_ms p 1)), some (aI 1)], [aI (min (jf_ls p 1) (jf_E p 1))], M)
      refine hR _ (hR _ (hR _ (hR _ (hR _ (?_)))))
      show R (42, [some (aR 4 0), some (aI (min (jf_ls p 1) (jf_E p 1))), some (aI (jf_ms p 1)), some (aI 1)], [aI 1, aR 12 0, aI (jf_ms p 1)], M)
      refine hR _ ⟨(show 0 ≤ (1 : Int) ∧ (1 : Int) < 5 from (by omega)), ?_⟩
      show R (43, [some (aR 4 0), some (aI (min (jf_ls p 1) (jf_E p 1))), some (aI (jf_ms p 1)), some (aI 1)], [aI (M 12 0 1), aI (jf_ms p 1)], M)
      rw [(hthr 1 (by omega)).1]
      show R (43, [some (aR 4 0), some (aI (min (jf_ls p 1) (jf_E p 1))), some (aI (jf_ms p 1)), some (aI 1)], [aI (jf_E p 1), aI (jf_ms p 1)], M)
      refine hR _ ⟨(by omega), ?_⟩
      show R (46, [some (aR 4 0), some (aI (min (jf_ls p 1) (jf_E p 1))), some (aI (jf_ms p 1)), some (aI 1)], [aI (max (jf_ms p 1) (jf_E p 1))], M)
      refine hR _ (?_)
      show R (47, [some (aR 4 0), some (aI (min (jf_ls p 1) (jf_E p 1))), some (aI (max (jf_ms p 1) (jf_E p 1))), some (aI 1)], [], M)
      rw [if_neg (show ¬ ((jf_O p 1) ≤ 0) by omega)] at hJ
      rw [if_neg (show ¬ ((jf_O p 1) ≤ 0) by omega)] at hJ
      exact hJ
    · refine hR _ (?_)
      show R (47, [some (aR 4 0), some (aI (jf_ls p 1)), some (aI (jf_ms p 1)), some (aI 1)], [], M)
      rw [if_pos (show (jf_O p 1) ≤ 0 by omega)] at hJ
      rw [if_pos (show (jf_O p 1) ≤ 0 by omega)] at hJ
      exact hJ
  show R (47, [some (aR 4 0), some (aI (if (jf_O p 1) ≤ 0 then (jf_ls p 1) else (min (jf_ls p 1) (jf_E p 1)))), some (aI (if (jf_O p 1) ≤ 0 then (jf_ms p 1) else (max (jf_ms p 1) (jf_E p 1)))), some (aI 1)], [], M)
  show R (47, [some (aR 4 0), some (aI (jf_ls p 2)), some (aI (jf_ms p 2)), some (aI 1)], [], M)
  refine hR _ (hR _ (hR _ (hR _ (hR _ (am_brf (rg := am_in 2 ∧ am_in 5) (P := 5 ≤ 2) (A := R (53, [some (aR 4 0), some (aI (jf_ls p 2)), some (aI (jf_ms p 2)), some (aI 2)], [], M)) (B := R (13, [some (aR 4 0), some (aI (jf_ls p 2)), some (aI (jf_ms p 2)), some (aI 2)], [], M)) (by omega) (by omega) ?_)))))
  show R (13, [some (aR 4 0), some (aI (jf_ls p 2)), some (aI (jf_ms p 2)), some (aI 2)], [], M)
  refine hR _ (hR _ (hR _ (?_)))
  show R (18, [some (aR 4 0), some (aI (jf_ls p 2)), some (aI (jf_ms p 2)), some (aI 2)], [aI 2, aR 14 0], M)
  refine hR _ ⟨(show 0 ≤ (2 : Int) ∧ (2 : Int) < 5 from (by omega)), ?_⟩
  show R (19, [some (aR 4 0), some (aI (jf_ls p 2)), some (aI (jf_ms p 2)), some (aI 2)], [aI (M 14 0 2)], M)
  rw [(hthr 2 (by omega)).2.2]
  show R (19, [some (aR 4 0), some (aI (jf_ls p 2)), some (aI (jf_ms p 2)), some (aI 2)], [aI (jf_O p 2)], M)
  suffices hJ : R (47, [some (aR 4 0), some (aI (if (jf_O p 2) ≤ 0 then (jf_ls p 2) else (min (jf_ls p 2) (jf_E p 2)))), some (aI (if (jf_O p 2) ≤ 0 then (jf_ms p 2) else (max (jf_ms p 2) (jf_E p 2)))), some (aI 2)], [], M) by
    refine hR _ (am_brc (rg := am_in (jf_O p 2)) (P := 0 < (jf_O p 2)) (A := R (25, [some (aR 4 0), some (aI (jf_ls p 2)), some (aI (jf_ms p 2)), some (aI 2)], [], M)) (B := R (22, [some (aR 4 0), some (aI (jf_ls p 2)), some (aI (jf_ms p 2)), some (aI 2)], [], M)) (by omega) (fun c19 => ?_) (fun c19 => ?_))
    · refine hR _ (hR _ (hR _ (hR _ (?_))))
      show R (31, [some (aR 4 0), some (aI (jf_ls p 2)), some (aI (jf_ms p 2)), some (aI 2)], [aI 2, aR 12 0, aI (jf_ls p 2)], M)
      refine hR _ ⟨(show 0 ≤ (2 : Int) ∧ (2 : Int) < 5 from (by omega)), ?_⟩
      show R (32, [some (aR 4 0), some (aI (jf_ls p 2)), some (aI (jf_ms p 2)), some (aI 2)], [aI (M 12 0 2), aI (jf_ls p 2)], M)
      rw [(hthr 2 (by omega)).1]
      show R (32, [some (aR 4 0), some (aI (jf_ls p 2)), some (aI (jf_ms p 2)), some (aI 2)], [aI (jf_E p 2), aI (jf_ls p 2)], M)
      refine hR _ ⟨(by omega), ?_⟩
      show R (35, [some (aR 4 0), some (aI (jf_ls p 2)), some (aI (jf_ms p 2)), some (aI 2)], [aI (min (jf_ls p 2) (jf_E p 2))], M)
      refine hR _ (hR _ (hR _ (hR _ (hR _ (?_)))))
      show R (42, [some (aR 4 0), some (aI (min (jf_ls p 2) (jf_E p 2))), some (aI (jf_ms p 2)), some (aI 2)], [aI 2, aR 12 0, aI (jf_ms p 2)], M)
      refine hR _ ⟨(show 0 ≤ (2 : Int) ∧ (2 : Int) < 5 from (by omega)), ?_⟩
      show R (43, [some (aR 4 0), some (aI (min (jf_ls p 2) (jf_E p 2))), some (aI (jf_ms p 2)), some (aI 2)], [aI (M 12 0 2), aI (jf_ms p 2)], M)
      rw [(hthr 2 (by omega)).1]
      show R (43, [some (aR 4 0), some (aI (min (jf_ls p 2) (jf_E p 2))), some (aI (jf_ms p 2)), some (aI 2)], [aI (jf_E p 2), aI (jf_ms p 2)], M)
      refine hR _ ⟨(by omega), ?_⟩
      show R (46, [some (aR 4 0), some (aI (min (jf_ls p 2) (jf_E p 2))), some (aI (jf_ms p 2)), some (aI 2)], [aI (max (jf_ms p 2) (jf_E p 2))], M)
      refine hR _ (?_)
      show R (47, [some (aR 4 0), some (aI (min (jf_ls p 2) (jf_E p 2))), some (aI (max (jf_ms p 2) (jf_E p 2))), some (aI 2)], [], M)
      rw [if_neg (show ¬ ((jf_O p 2) ≤ 0) by omega)] at hJ
      rw [if_neg (show ¬ ((jf_O p 2) ≤ 0) by omega)] at hJ
      exact hJ
    · refine hR _ (?_)
      show R (47, [some (aR 4 0), some (aI (jf_ls p 2)), some (aI (jf_ms p 2)), some (aI 2)], [], M)
      rw [if_pos (show (jf_O p 2) ≤ 0 by omega)] at hJ
      rw [if_pos (show (jf_O p 2) ≤ 0 by omega)] at hJ
      exact hJ
  show R (47, [some (aR 4 0), some (aI (if (jf_O p 2) ≤ 0 then (jf_ls p 2) else (min (jf_ls p 2) (jf_E p 2)))), some (aI (if (jf_O p 2) ≤ 0 then (jf_ms p 2) else (max (jf_ms p 2) (jf_E p 2)))), some (aI 2)], [], M)
  show R (47, [some (aR 4 0), some (aI (jf_ls p 3)), some (aI (jf_ms p 3)), some (aI 2)], [], M)
  refine hR _ (hR _ (hR _ (hR _ (hR _ (am_brf (rg := am_in 3 ∧ am_in 5) (P := 5 ≤ 3) (A := R (53, [some (aR 4 0), some (aI (jf_ls p 3)), some (aI (jf_ms p 3)), some (aI 3)], [], M)) (B := R (13, [some (aR 4 0), some (aI (jf_ls p 3)), some (aI (jf_ms p 3)), some (aI 3)], [], M)) (by omega) (by omega) ?_)))))
  show R (13, [some (aR 4 0), some (aI (jf_ls p 3)), some (aI (jf_ms p 3)), some (aI 3)], [], M)
  refine hR _ (hR _ (hR _ (?_)))
  show R (18, [some (aR 4 0), some (aI (jf_ls p 3)), some (aI (jf_ms p 3)), some (aI 3)], [aI 3, aR 14 0], M)
  refine hR _ ⟨(show 0 ≤ (3 : Int) ∧ (3 : Int) < 5 from (by omega)), ?_⟩
  show R (19, [some (aR 4 0), some (aI (jf_ls p 3)), some (aI (jf_ms p 3)), some (aI 3)], [aI (M 14 0 3)], M)
  rw [(hthr 3 (by omega)).2.2]
  show R (19, [some (aR 4 0), some (aI (jf_ls p 3)), some (aI (jf_ms p 3)), some (aI 3)], [aI (jf_O p 3)], M)
  suffices hJ : R (47, [some (aR 4 0), some (aI (if (jf_O p 3) ≤ 0 then (jf_ls p 3) else (min (jf_ls p 3) (jf_E p 3)))), some (aI (if (jf_O p 3) ≤ 0 then (jf_ms p 3) else (max (jf_ms p 3) (jf_E p 3)))), some (aI 3)], [], M) by
    refine hR _ (am_brc (rg := am_in (jf_O p 3)) (P := 0 < (jf_O p 3)) (A := R (25, [some (aR 4 0), some (aI (jf_ls p 3)), some (aI (jf_ms p 3)), some (aI 3)], [], M)) (B := R (22, [some (aR 4 0), some (aI (jf_ls p 3)), some (aI (jf_ms p 3)), some (aI 3)], [], M)) (by omega) (fun c19 => ?_) (fun c19 => ?_))
    · refine hR _ (hR _ (hR _ (hR _ (?_))))
      show R (31, [some (aR 4 0), some (aI (jf_ls p 3)), some (aI (jf_ms p 3)), some (aI 3)], [aI 3, aR 12 0, aI (jf_ls p 3)], M)
      refine hR _ ⟨(show 0 ≤ (3 : Int) ∧ (3 : Int) < 5 from (by omega)), ?_⟩
      show R (32, [some (aR 4 0), some (aI (jf_ls p 3)), some (aI (jf_ms p 3)), some (aI 3)], [aI (M 12 0 3), aI (jf_ls p 3)], M)
      rw [(hthr 3 (by omega)).1]
      show R (32, [some (aR 4 0), some (aI (jf_ls p 3)), some (aI (jf_ms p 3)), some (aI 3)], [aI (jf_E p 3), aI (jf_ls p 3)], M)
      refine hR _ ⟨(by omega), ?_⟩
      show R (35, [some (aR 4 0), some (aI (jf_ls p 3)), some (aI (jf_ms p 3)), some (aI 3)], [aI (min (jf_ls p 3) (jf_E p 3))], M)
      refine hR _ (hR _ (hR _ (hR _ (hR _ (?_)))))
      show R (42, [some (aR 4 0), some (aI (min (jf_ls p 3) (jf_E p 3))), some (aI (jf_ms p 3)), some (aI 3)], [aI 3, aR 12 0, aI (jf_ms p 3)], M)
      refine hR _ ⟨(show 0 ≤ (3 : Int) ∧ (3 : Int) < 5 from (by omega)), ?_⟩
      show R (43, [some (aR 4 0), some (aI (min (jf_ls p 3) (jf_E p 3))), some (aI (jf_ms p 3)), some (aI 3)], [aI (M 12 0 3), aI (jf_ms p 3)], M)
      rw [(hthr 3 (by omega)).1]
      show R (43, [some (aR 4 0), some (aI (min (jf_ls p 3) (jf_E p 3))), some (aI (jf_ms p 3)), some (aI 3)], [aI (jf_E p 3), aI (jf_ms p 3)], M)
      refine hR _ ⟨(by omega), ?_⟩
      show R (46, [some (aR 4 0), some (aI (min (jf_ls p 3) (jf_E p 3))), some (aI (jf_ms p 3)), some (aI 3)], [aI (max (jf_ms p 3) (jf_E p 3))], M)
      refine hR _ (?_)
      show R (47, [some (aR 4 0), some (aI (min (jf_ls p 3) (jf_E p 3))), some (aI (max (jf_ms p 3) (jf_E p 3))), some (aI 3)], [], M)
      rw [if_neg (show ¬ ((jf_O p 3) ≤ 0) by omega)] at hJ
      rw [if_neg (show ¬ ((jf_O p 3) ≤ 0) by omega)] at hJ
      exact hJ
    · refine hR _ (?_)
      show R (47, [some (aR 4 0), some (aI (jf_ls p 3)), some (aI (jf_ms p 3)), some (aI 3)], [], M)
      rw [if_pos (show (jf_O p 3) ≤ 0 by omega)] at hJ
      rw [if_pos (show (jf_O p 3) ≤ 0 by omega)] at hJ
      exact hJ
  show R (47, [some (aR 4 0), some (aI (if (jf_O p 3) ≤ 0 then (jf_ls p 3) else (min (jf_ls p 3) (jf_E p 3)))), some (aI (if (jf_O p 3) ≤ 0 then (jf_ms p 3) else (max (jf_ms p 3) (jf_E p 3)))), some (aI 3)], [], M)
  show R (47, [some (aR 4 0), some (aI (jf_ls p 4)), some (aI (jf_ms p 4)), some (aI 3)], [], M)
  refine hR _ (hR _ (hR _ (hR _ (hR _ (am_brf (rg := am_in 4 ∧ am_in 5) (P := 5 ≤ 4) (A := R (53, [some (aR 4 0), some (aI (jf_ls p 4)), some (aI (jf_ms p 4)), some (aI 4)], [], M)) (B := R (13, [some (aR 4 0), some (aI (jf_ls p 4)), some (aI (jf_ms p 4)), some (aI 4)], [], M)) (by omega) (by omega) ?_)))))
  show R (13, [some (aR 4 0), some (aI (jf_ls p 4)), some (aI (jf_ms p 4)), some (aI 4)], [], M)
  refine hR _ (hR _ (hR _ (?_)))
  show R (18, [some (aR 4 0), some (aI (jf_ls p 4)), some (aI (jf_ms p 4)), some (aI 4)], [aI 4, aR 14 0], M)
  refine hR _ ⟨(show 0 ≤ (4 : Int) ∧ (4 : Int) < 5 from (by omega)), ?_⟩
  show R (19, [some (aR 4 0), some (aI (jf_ls p 4)), some (aI (jf_ms p 4)), some (aI 4)], [aI (M 14 0 4)], M)
  rw [(hthr 4 (by omega)).2.2]
  show R (19, [some (aR 4 0), some (aI (jf_ls p 4)), some (aI (jf_ms p 4)), some (aI 4)], [aI (jf_O p 4)], M)
  suffices hJ : R (47, [some (aR 4 0), some (aI (if (jf_O p 4) ≤ 0 then (jf_ls p 4) else (min (jf_ls p 4) (jf_E p 4)))), some (aI (if (jf_O p 4) ≤ 0 then (jf_ms p 4) else (max (jf_ms p 4) (jf_E p 4)))), some (aI 4)], [], M) by
    refine hR _ (am_brc (rg := am_in (jf_O p 4)) (P := 0 < (jf_O p 4)) (A := R (25, [some (aR 4 0), some (aI (jf_ls p 4)), some (aI (jf_ms p 4)), some (aI 4)], [], M)) (B := R (22, [some (aR 4 0), some (aI (jf_ls p 4)), some (aI (jf_ms p 4)), some (aI 4)], [], M)) (by omega) (fun c19 => ?_) (fun c19 => ?_))
    · refine hR _ (hR _ (hR _ (hR _ (?_))))
      show R (31, [some (aR 4 0), some (aI (jf_ls p 4)), some (aI (jf_ms p 4)), some (aI 4)], [aI 4, aR 12 0, aI (jf_ls p 4)], M)
      refine hR _ ⟨(show 0 ≤ (4 : Int) ∧ (4 : Int) < 5 from (by omega)), ?_⟩
      show R (32, [some (aR 4 0), some (aI (jf_ls p 4)), some (aI (jf_ms p 4)), some (aI 4)], [aI (M 12 0 4), aI (jf_ls p 4)], M)
      rw [(hthr 4 (by omega)).1]
      show R (32, [some (aR 4 0), some (aI (jf_ls p 4)), some (aI (jf_ms p 4)), some (aI 4)], [aI (jf_E p 4), aI (jf_ls p 4)], M)
      refine hR _ ⟨(by omega), ?_⟩
      show R (35, [some (aR 4 0), some (aI (jf_ls p 4)), some (aI (jf_ms p 4)), some (aI 4)], [aI (min (jf_ls p 4) (jf_E p 4))], M)
      refine hR _ (hR _ (hR _ (hR _ (hR _ (?_)))))
      show R (42, [some (aR 4 0), some (aI (min (jf_ls p 4) (jf_E p 4))), some (aI (jf_ms p 4)), some (aI 4)], [aI 4, aR 12 0, aI (jf_ms p 4)], M)
      refine hR _ ⟨(show 0 ≤ (4 : Int) ∧ (4 : Int) < 5 from (by omega)), ?_⟩
      show R (43, [some (aR 4 0), some (aI (min (jf_ls p 4) (jf_E p 4))), some (aI (jf_ms p 4)), some (aI 4)], [aI (M 12 0 4), aI (jf_ms p 4)], M)
      rw [(hthr 4 (by omega)).1]
      show R (43, [some (aR 4 0), some (aI (min (jf_ls p 4) (jf_E p 4))), some (aI (jf_ms p 4)), some (aI 4)], [aI (jf_E p 4), aI (jf_ms p 4)], M)
      refine hR _ ⟨(by omega), ?_⟩
      show R (46, [some (aR 4 0), some (aI (min (jf_ls p 4) (jf_E p 4))), some (aI (jf_ms p 4)), some (aI 4)], [aI (max (jf_ms p 4) (jf_E p 4))], M)
      refine hR _ (?_)
      show R (47, [some (aR 4 0), some (aI (min (jf_ls p 4) (jf_E p 4))), some (aI (max (jf_ms p 4) (jf_E p 4))), some (aI 4)], [], M)
      rw [if_neg (show ¬ ((jf_O p 4) ≤ 0) by omega)] at hJ
      rw [if_neg (show ¬ ((jf_O p 4) ≤ 0) by omega)] at hJ
      exact hJ
    · refine hR _ (?_)
      show R (47, [some (aR 4 0), some (aI (jf_ls p 4)), some (aI (jf_ms p 4)), some (aI 4)], [], M)
      rw [if_pos (show (jf_O p 4) ≤ 0 by omega)] at hJ
      rw [if_pos (show (jf_O p 4) ≤ 0 by omega)] at hJ
      exact hJ
  show R (47, [some (aR 4 0), some (aI (if (jf_O p 4) ≤ 0 then (jf_ls p 4) else (min (jf_ls p 4) (jf_E p 4)))), some (aI (if (jf_O p 4) ≤ 0 then (jf_ms p 4) else (max (jf_ms p 4) (jf_E p 4)))), some (aI 4)], [], M)
  show R (47, [some (aR 4 0), some (aI (jf_ls p 5)), some (aI (jf_ms p 5)), some (aI 4)], [], M)
  refine hR _ (hR _ (hR _ (hR _ (hR _ (am_brt (rg := am_in 5 ∧ am_in 5) (P := (5 : Int) ≤ 5) (A := R (53, [some (aR 4 0), some (aI (jf_ls p 5)), some (aI (jf_ms p 5)), some (aI 5)], [], M)) (B := R (13, [some (aR 4 0), some (aI (jf_ls p 5)), some (aI (jf_ms p 5)), some (aI 5)], [], M)) (by omega) (by omega) ?_)))))
  show R (53, [some (aR 4 0), some (aI (jf_ls p 5)), some (aI (jf_ms p 5)), some (aI 5)], [], M)
  refine hR _ (hR _ (hR _ (?_)))
  show R (56, [some (aR 4 0), some (aI (jf_ls p 5)), some (aI (jf_ms p 5)), some (aI 5)], [aI ((jf_ms p 5) - (jf_ls p 5))], M)
  refine hR _ (show K (some (aI ((jf_ms p 5) - (jf_ls p 5)))) M from ?_)
  exact h

theorem sp_power {d : Nat} (hd : 1 ≤ d) {v n : Int} {M : am_M} {K : am_K} (hn : 0 ≤ n ∧ n ≤ 4) (h : K (some (aL (jf_pw v n.toNat))) M) : am_Call wb d 90 [aL v, aI n] M K := by
  obtain ⟨d, rfl⟩ : ∃ e, d = e + 1 := ⟨d - 1, by omega⟩
  refine ⟨rfl, fun R hR hC => ?_⟩
  replace hR : ∀ c, am_F wb tb_f90 5 (am_Call wb d) K R c → R c := hR
  show R (0, [some (aL v), none, some (aI n), none, none, none], [], M)
  obtain rfl | rfl | rfl | rfl | rfl : n = 0 ∨ n = 1 ∨ n = 2 ∨ n = 3 ∨ n = 4 := by omega
  · show R (0, [some (aL v), none, some (aI 0), none, none, none], [], M)
    refine hR _ (hR _ (hR _ (hR _ (hR _ (hR _ (hR _ (am_brt (rg := am_in 0 ∧ am_in 0) (P := (0 : Int) ≤ 0) (A := R (21, [some (aL v), none, some (aI 0), some (aL 1), none, some (aI 0)], [], M)) (B := R (11, [some (aL v), none, some (aI 0), some (aL 1), none, some (aI 0)], [], M)) (by omega) (by omega) ?_)))))))
    show R (21, [some (aL v), none, some (aI 0), some (aL 1), none, some (aI 0)], [], M)
    refine hR _ (?_)
    show R (22, [some (aL v), none, some (aI 0), some (aL 1), none, some (aI 0)], [aL 1], M)
    refine hR _ (show K (some (aL 1)) M from ?_)
    exact h
  · show R (0, [some (aL v), none, some (aI 1), none, none, none], [], M)
    refine hR _ (hR _ (hR _ (hR _ (hR _ (hR _ (hR _ (am_brf (rg := am_in 0 ∧ am_in 1) (P := 1 ≤ 0) (A := R (21, [some (aL v), none, some (aI 1), some (aL 1), none, some (aI 0)], [], M)) (B := R (11, [some (aL v), none, some (aI 1), some (aL 1), none, some (aI 0)], [], M)) (by omega) (by omega) ?_)))))))
    show R (11, [some (aL v), none, some (aI 1), some (aL 1), none, some (aI 0)], [], M)
    refine hR _ (hR _ (hR _ (hR _ (hR _ (hR _ (hR _ (hR _ (hR _ (am_brt (rg := am_in 1 ∧ am_in 1) (P := (1 : Int) ≤ 1) (A := R (21, [some (aL v), none, some (aI 1), some (aL (1 * v)), none, some (aI 1)], [], M)) (B := R (11, [some (aL v), none, some (aI 1), some (aL (1 * v)), none, some (aI 1)], [], M)) (by omega) (by omega) ?_)))))))))
    show R (21, [some (aL v), none, some (aI 1), some (aL (1 * v)), none, some (aI 1)], [], M)
    refine hR _ (?_)
    show R (22, [some (aL v), none, some (aI 1), some (aL (1 * v)), none, some (aI 1)], [aL (1 * v)], M)
    refine hR _ (show K (some (aL (1 * v))) M from ?_)
    exact h
  · show R (0, [some (aL v), none, some (aI 2), none, none, none], [], M)
    refine hR _ (hR _ (hR _ (hR _ (hR _ (hR _ (hR _ (am_brf (rg := am_in 0 ∧ am_in 2) (P := 2 ≤ 0) (A := R (21, [some (aL v), none, some (aI 2), some (aL 1), none, some (aI 0)], [], M)) (B := R (11, [some (aL v), none, some (aI 2), some (aL 1), none, some (aI 0)], [], M)) (by omega) (by omega) ?_)))))))
    show R (11, [some (aL v), none, some (aI 2), some (aL 1), none, some (aI 0)], [], M)
    refine hR _ (hR _ (hR _ (hR _ (hR _ (hR _ (hR _ (hR _ (hR _ (am_brf (rg := am_in 1 ∧ am_in 2) (P := 2 ≤ 1) (A := R (21, [some (aL v), none, some (aI 2), some (aL (1 * v)), none, some (aI 1)], [], M)) (B := R (11, [some (aL v), none, some (aI 2), some (aL (1 * v)), none, some (aI 1)], [], M)) (by omega) (by omega) ?_)))))))))
    show R (11, [some (aL v), none, some (aI 2), some (aL (1 * v)), none, some (aI 1)], [], M)
    refine hR _ (hR _ (hR _ (hR _ (hR _ (hR _ (hR _ (hR _ (hR _ (am_brt (rg := am_in 2 ∧ am_in 2) (P := (2 : Int) ≤ 2) (A := R (21, [some (aL v), none, some (aI 2), some (aL ((1 * v) * v)), none, some (aI 2)], [], M)) (B := R (11, [some (aL v), none, some (aI 2), some (aL ((1 * v) * v)), none, some (aI 2)], [], M)) (by omega) (by omega) ?_)))))))))
    show R (21, [some (aL v), none, some (aI 2), some (aL ((1 * v) * v)), none, some (aI 2)], [], M)
    refine hR _ (?_)
    show R (22, [some (aL v), none, some (aI 2), some (aL ((1 * v) * v)), none, some (aI 2)], [aL ((1 * v) * v)], M)
    refine hR _ (show K (some (aL ((1 * v) * v))) M from ?_)
    exact h
  · show R (0, [some (aL v), none, some (aI 3), none, none, none], [], M)
    refine hR _ (hR _ (hR _ (hR _ (hR _ (hR _ (hR _ (am_brf (rg := am_in 0 ∧ am_in 3) (P := 3 ≤ 0) (A := R (21, [some (aL v), none, some (aI 3), some (aL 1), none, some (aI 0)], [], M)) (B := R (11, [some (aL v), none, some (aI 3), some (aL 1), none, some (aI 0)], [], M)) (by omega) (by omega) ?_)))))))
    show R (11, [some (aL v), none, some (aI 3), some (aL 1), none, some (aI 0)], [], M)
    refine hR _ (hR _ (hR _ (hR _ (hR _ (hR _ (hR _ (hR _ (hR _ (am_brf (rg := am_in 1 ∧ am_in 3) (P := 3 ≤ 1) (A := R (21, [some (aL v), none, some (aI 3), some (aL (1 * v)), none, some (aI 1)], [], M)) (B := R (11, [some (aL v), none, some (aI 3), some (aL (1 * v)), none, some (aI 1)], [], M)) (by omega) (by omega) ?_)))))))))
    show R (11, [some (aL v), none, some (aI 3), some (aL (1 * v)), none, some (aI 1)], [], M)
    refine hR _ (hR _ (hR _ (hR _ (hR _ (hR _ (hR _ (hR _ (hR _ (am_brf (rg := am_in 2 ∧ am_in 3) (P := 3 ≤ 2) (A := R (21, [some (aL v), none, some (aI 3), some (aL ((1 * v) * v)), none, some (aI 2)], [], M)) (B := R (11, [some (aL v), none, some (aI 3), some (aL ((1 * v) * v)), none, some (aI 2)], [], M)) (by omega) (by omega) ?_)))))))))
    show R (11, [some (aL v), none, some (aI 3), some (aL ((1 * v) * v)), none, some (aI 2)], [], M)
    refine hR _ (hR _ (hR _ (hR _ (hR _ (hR _ (hR _ (hR _ (hR _ (am_brt (rg := am_in 3 ∧ am_in 3) (P := (3 : Int) ≤ 3) (A := R (21, [some (aL v), none, some (aI 3), some (aL (((1 * v) * v) * v)), none, some (aI 3)], [], M)) (B := R (11, [some (aL v), none, some (aI 3), some (aL (((1 * v) * v) * v)), none, some (aI 3)], [], M)) (by omega) (by omega) ?_)))))))))
    show R (21, [some (aL v), none, some (aI 3), some (aL (((1 * v) * v) * v)), none, some (aI 3)], [], M)
    refine hR _ (?_)
    show R (22, [some (aL v), none, some (aI 3), some (aL (((1 * v) * v) * v)), none, some (aI 3)], [aL (((1 * v) * v) * v)], M)
    refine hR _ (show K (some (aL (((1 * v) * v) * v))) M from ?_)
    exact h
  · show R (0, [some (aL v), none, some (aI 4), none, none, none], [], M)
    refine hR _ (hR _ (hR _ (hR _ (hR _ (hR _ (hR _ (am_brf (rg := am_in 0 ∧ am_in 4) (P := 4 ≤ 0) (A := R (21, [some (aL v), none, some (aI 4), some (aL 1), none, some (aI 0)], [], M)) (B := R (11, [some (aL v), none, some (aI 4), some (aL 1), none, some (aI 0)], [], M)) (by omega) (by omega) ?_)))))))
    show R (11, [some (aL v), none, some (aI 4), some (aL 1), none, some (aI 0)], [], M)
    refine hR _ (hR _ (hR _ (hR _ (hR _ (hR _ (hR _ (hR _ (hR _ (am_brf (rg := am_in 1 ∧ am_in 4) (P := 4 ≤ 1) (A := R (21, [some (aL v), none, some (aI 4), some (aL (1 * v)), none, some (aI 1)], [], M)) (B := R (11, [some (aL v), none, some (aI 4), some (aL (1 * v)), none, some (aI 1)], [], M)) (by omega) (by omega) ?_)))))))))
    show R (11, [some (aL v), none, some (aI 4), some (aL (1 * v)), none, some (aI 1)], [], M)
    refine hR _ (hR _ (hR _ (hR _ (hR _ (hR _ (hR _ (hR _ (hR _ (am_brf (rg := am_in 2 ∧ am_in 4) (P := 4 ≤ 2) (A := R (21, [some (aL v), none, some (aI 4), some (aL ((1 * v) * v)), none, some (aI 2)], [], M)) (B := R (11, [some (aL v), none, some (aI 4), some (aL ((1 * v) * v)), none, some (aI 2)], [], M)) (by omega) (by omega) ?_)))))))))
    show R (11, [some (aL v), none, some (aI 4), some (aL ((1 * v) * v)), none, some (aI 2)], [], M)
    refine hR _ (hR _ (hR _ (hR _ (hR _ (hR _ (hR _ (hR _ (hR _ (am_brf (rg := am_in 3 ∧ am_in 4) (P := 4 ≤ 3) (A := R (21, [some (aL v), none, some (aI 4), some (aL (((1 * v) * v) * v)), none, some (aI 3)], [], M)) (B := R (11, [some (aL v), none, some (aI 4), some (aL (((1 * v) * v) * v)), none, some (aI 3)], [], M)) (by omega) (by omega) ?_)))))))))
    show R (11, [some (aL v), none, some (aI 4), some (aL (((1 * v) * v) * v)), none, some (aI 3)], [], M)
    refine hR _ (hR _ (hR _ (hR _ (hR _ (hR _ (hR _ (hR _ (hR _ (am_brt (rg := am_in 4 ∧ am_in 4) (P := (4 : Int) ≤ 4) (A := R (21, [some (aL v), none, some (aI 4), some (aL ((((1 * v) * v) * v) * v)), none, some (aI 4)], [], M)) (B := R (11, [some (aL v), none, some (aI 4), some (aL ((((1 * v) * v) * v) * v)), none, some (aI 4)], [], M)) (by omega) (by omega) ?_)))))))))
    show R (21, [some (aL v), none, some (aI 4), some (aL ((((1 * v) * v) * v) * v)), none, some (aI 4)], [], M)
    refine hR _ (?_)
    show R (22, [some (aL v), none, some (aI 4), some (aL ((((1 * v) * v) * v) * v)), none, some (aI 4)], [aL ((((1 * v) * v) * v) * v)], M)
    refine hR _ (show K (some (aL ((((1 * v) * v) * v) * v))) M from ?_)
    exact h

theorem jf_fi_b (p : jf_par) (a : Nat) : ∀ b, 0 ≤ jf_fi p a b ∧ jf_fi p a b ≤ 1
  | 0 => by
    unfold jf_fi
    omega
  | b + 1 => by
    unfold jf_fi
    repeat' split
    all_goals omega

theorem sp_oftenAlike {d : Nat} (hd : 2 ≤ d) {p : jf_par} {n : Int} {M : am_M} {K : am_K} (hok : jf_ok p) (hth : jf_th M p) (hn : 1 ≤ n ∧ n ≤ 4) (h : K (some (aL (jf_al p n.toNat))) M) : am_Call wb d 89 [aR 4 0, aI n] M K := by
  obtain ⟨d, rfl⟩ : ∃ e, d = e + 1 := ⟨d - 1, by omega⟩
  refine ⟨rfl, fun R hR hC => ?_⟩
  replace hR : ∀ c, am_F wb tb_f89 5 (am_Call wb d) K R c → R c := hR
  have hth0 := hth
  obtain ⟨hthr, hthA, hthN⟩ := hth0
  have hO0 := jf_O_b hok (a := 0) (by omega)
  have hO1 := jf_O_b hok (a := 1) (by omega)
  have hO2 := jf_O_b hok (a := 2) (by omega)
  have hO3 := jf_O_b hok (a := 3) (by omega)
  have hO4 := jf_O_b hok (a := 4) (by omega)
  have hE0 := jf_E_b hok (a := 0) (by omega)
  have hE1 := jf_E_b hok (a := 1) (by omega)
  have hE2 := jf_E_b hok (a := 2) (by omega)
  have hE3 := jf_E_b hok (a := 3) (by omega)
  have hE4 := jf_E_b hok (a := 4) (by omega)
  have hT0 := jf_T_b hok (a := 0) (by omega)
  have hT1 := jf_T_b hok (a := 1) (by omega)
  have hT2 := jf_T_b hok (a := 2) (by omega)
  have hT3 := jf_T_b hok (a := 3) (by omega)
  have hT4 := jf_T_b hok (a := 4) (by omega)
  have hf11 := jf_fi_b p 1 1
  have hf21 := jf_fi_b p 2 1
  have hf22 := jf_fi_b p 2 2
  have hf31 := jf_fi_b p 3 1
  have hf32 := jf_fi_b p 3 2
  have hf33 := jf_fi_b p 3 3
  have hf41 := jf_fi_b p 4 1
  have hf42 := jf_fi_b p 4 2
  have hf43 := jf_fi_b p 4 3
  have hf44 := jf_fi_b p 4 4
  show R (0, [some (aR 4 0), some (aI n), none, none, none, none, none], [], M)
  refine hR _ (hR _ (hR _ (hR _ (hR _ (hR _ (hR _ (am_brf (rg := am_in 0 ∧ am_in 5) (P := 5 ≤ 0) (A := R (88, [some (aR 4 0), some (aI n), some (aL 0), none, some (aI 0), none, none], [], M)) (B := R (11, [some (aR 4 0), some (aI n), some (aL 0), none, some (aI 0), none, none], [], M)) (by omega) (by omega) ?_)))))))
  show R (11, [some (aR 4 0), some (aI n), some (aL 0), none, some (aI 0), none, none], [], M)
  refine hR _ (hR _ (hR _ (hR _ (hR _ (hR _ (hR _ (am_brt (rg := am_in 0 ∧ am_in 0) (P := (0 : Int) ≤ 0) (A := R (59, [some (aR 4 0), some (aI n), some (aL 0), none, some (aI 0), some (aI 1), some (aI 0)], [], M)) (B := R (24, [some (aR 4 0), some (aI n), some (aL 0), none, some (aI 0), some (aI 1), some (aI 0)], [], M)) (by omega) (by omega) ?_)))))))
  show R (59, [some (aR 4 0), some (aI n), some (aL 0), none, some (aI 0), some (aI 1), some (aI 0)], [], M)
  refine hR _ (hR _ (am_brf (rg := am_in 1) (P := (1 : Int) = 0) (A := R (82, [some (aR 4 0), some (aI n), some (aL 0), none, some (aI 0), some (aI 1), some (aI 0)], [], M)) (B := R (64, [some (aR 4 0), some (aI n), some (aL 0), none, some (aI 0), some (aI 1), some (aI 0)], [], M)) (by omega) (by omega) ?_))
  show R (64, [some (aR 4 0), some (aI n), some (aL 0), none, some (aI 0), some (aI 1), some (aI 0)], [], M)
  refine hR _ (hR _ (hR _ (hR _ (hR _ (?_)))))
  show R (72, [some (aR 4 0), some (aI n), some (aL 0), none, some (aI 0), some (aI 1), some (aI 0)], [aI 0, aR 12 0, aR 4 0, aL 0], M)
  refine hR _ ⟨(show 0 ≤ (0 : Int) ∧ (0 : Int) < 5 from (by omega)), ?_⟩
  show R (73, [some (aR 4 0), some (aI n), some (aL 0), none, some (aI 0), some (aI 1), some (aI 0)], [aI (M 12 0 0), aR 4 0, aL 0], M)
  rw [(hthr 0 (by omega)).1]
  show R (73, [some (aR 4 0), some (aI n), some (aL 0), none, some (aI 0), some (aI 1), some (aI 0)], [aI (jf_E p 0), aR 4 0, aL 0], M)
  refine hR _ (sp_oftenAt (by omega) hok hth (by omega) ?_)
  have hat73 := jf_at_b hok ((jf_E p 0))
  show R (76, [some (aR 4 0), some (aI n), some (aL 0), none, some (aI 0), some (aI 1), some (aI 0)], [aL (jf_at p (jf_E p 0)), aL 0], M)
  refine hR _ (?_)
  show R (77, [some (aR 4 0), some (aI n), some (aL 0), none, some (aI 0), some (aI 1), some (aI 0)], [aI n, aL (jf_at p (jf_E p 0)), aL 0], M)
  refine hR _ (sp_power (by omega) (by omega) ?_)
  show R (80, [some (aR 4 0), some (aI n), some (aL 0), none, some (aI 0), some (aI 1), some (aI 0)], [aL (jf_pw (jf_at p (jf_E p 0)) (n).toNat), aL 0], M)
  refine hR _ (hR _ (hR _ (hR _ (hR _ (hR _ (hR _ (am_brf (rg := am_in 1 ∧ am_in 5) (P := 5 ≤ 1) (A := R (88, [some (aR 4 0), some (aI n), some (aL (0 + (jf_pw (jf_at p (jf_E p 0)) (n).toNat))), none, some (aI 1), some (aI 1), some (aI 0)], [], M)) (B := R (11, [some (aR 4 0), some (aI n), some (aL (0 + (jf_pw (jf_at p (jf_E p 0)) (n).toNat))), none, some (aI 1), some (aI 1), some (aI 0)], [], M)) (by omega) (by omega) ?_)))))))
  show R (11, [some (aR 4 0), some (aI n), some (aL (0 + (jf_pw (jf_at p (jf_E p 0)) (n).toNat))), none, some (aI 1), some (aI 1), some (aI 0)], [], M)
  refine hR _ (hR _ (hR _ (hR _ (hR _ (hR _ (hR _ (am_brf (rg := am_in 0 ∧ am_in 1) (P := 1 ≤ 0) (A := R (59, [some (aR 4 0), some (aI n), some (aL (0 + (jf_pw (jf_at p (jf_E p 0)) (n).toNat))), none, some (aI 1), some (aI 1), some (aI 0)], [], M)) (B := R (24, [some (aR 4 0), some (aI n), some (aL (0 + (jf_pw (jf_at p (jf_E p 0)) (n).toNat))), none, some (aI 1), some (aI 1), some (aI 0)], [], M)) (by omega) (by omega) ?_)))))))
  show R (24, [some (aR 4 0), some (aI n), some (aL (0 + (jf_pw (jf_at p (jf_E p 0)) (n).toNat))), none, some (aI 1), some (aI 1), some (aI 0)], [], M)
  refine hR _ (hR _ (am_brf (rg := am_in 1) (P := (1 : Int) = 0) (A := R (50, [some (aR 4 0), some (aI n), some (aL (0 + (jf_pw (jf_at p (jf_E p 0)) (n).toNat))), none, some (aI 1), some (aI 1), some (aI 0)], [], M)) (B := R (29, [some (aR 4 0), some (aI n), some (aL (0 + (jf_pw (jf_at p (jf_E p 0)) (n).toNat))), none, some (aI 1), some (aI 1), some (aI 0)], [], M)) (by omega) (by omega) ?_))
  show R (29, [some (aR 4 0), some (aI n), some (aL (0 + (jf_pw (jf_at p (jf_E p 0)) (n).toNat))), none, some (aI 1), some (aI 1), some (aI 0)], [], M)
  refine hR _ (hR _ (hR _ (?_)))
  show R (35, [some (aR 4 0), some (aI n), some (aL (0 + (jf_pw (jf_at p (jf_E p 0)) (n).toNat))), none, some (aI 1), some (aI 1), some (aI 0)], [aI 0, aR 12 0], M)
  refine hR _ ⟨(show 0 ≤ (0 : Int) ∧ (0 : Int) < 5 from (by omega)), ?_⟩
  show R (36, [some (aR 4 0), some (aI n), some (aL (0 + (jf_pw (jf_at p (jf_E p 0)) (n).toNat))), none, some (aI 1), some (aI 1), some (aI 0)], [aI (M 12 0 0)], M)
  rw [(hthr 0 (by omega)).1]
  show R (36, [some (aR 4 0), some (aI n), some (aL (0 + (jf_pw (jf_at p (jf_E p 0)) (n).toNat))), none, some (aI 1), some (aI 1), some (aI 0)], [aI (jf_E p 0)], M)
  refine hR _ (hR _ (hR _ (?_)))
  show R (42, [some (aR 4 0), some (aI n), some (aL (0 + (jf_pw (jf_at p (jf_E p 0)) (n).toNat))), none, some (aI 1), some (aI 1), some (aI 0)], [aI 1, aR 12 0, aI (jf_E p 0)], M)
  refine hR _ ⟨(show 0 ≤ (1 : Int) ∧ (1 : Int) < 5 from (by omega)), ?_⟩
  show R (43, [some (aR 4 0), some (aI n), some (aL (0 + (jf_pw (jf_at p (jf_E p 0)) (n).toNat))), none, some (aI 1), some (aI 1), some (aI 0)], [aI (M 12 0 1), aI (jf_E p 0)], M)
  rw [(hthr 1 (by omega)).1]
  show R (43, [some (aR 4 0), some (aI n), some (aL (0 + (jf_pw (jf_at p (jf_E p 0)) (n).toNat))), none, some (aI 1), some (aI 1), some (aI 0)], [aI (jf_E p 1), aI (jf_E p 0)], M)
  suffices hJ : R (51, [some (aR 4 0), some (aI n), some (aL (0 + (jf_pw (jf_at p (jf_E p 0)) (n).toNat))), none, some (aI 1), some (aI 1), some (aI 0)], [aI (if (jf_E p 0) = (jf_E p 1) then 0 else 1)], M) by
    refine hR _ (am_brc (rg := am_in (jf_E p 0) ∧ am_in (jf_E p 1)) (P := (jf_E p 0) = (jf_E p 1)) (A := R (50, [some (aR 4 0), some (aI n), some (aL (0 + (jf_pw (jf_at p (jf_E p 0)) (n).toNat))), none, some (aI 1), some (aI 1), some (aI 0)], [], M)) (B := R (46, [some (aR 4 0), some (aI n), some (aL (0 + (jf_pw (jf_at p (jf_E p 0)) (n).toNat))), none, some (aI 1), some (aI 1), some (aI 0)], [], M)) (by omega) (fun c43 => ?_) (fun c43 => ?_))
    · refine hR _ (?_)
      show R (51, [some (aR 4 0), some (aI n), some (aL (0 + (jf_pw (jf_at p (jf_E p 0)) (n).toNat))), none, some (aI 1), some (aI 1), some (aI 0)], [aI 0], M)
      rw [if_pos (show (jf_E p 0) = (jf_E p 1) by omega)] at hJ
      exact hJ
    · refine hR _ (hR _ (?_))
      show R (51, [some (aR 4 0), some (aI n), some (aL (0 + (jf_pw (jf_at p (jf_E p 0)) (n).toNat))), none, some (aI 1), some (aI 1), some (aI 0)], [aI 1], M)
      rw [if_neg (show ¬ ((jf_E p 0) = (jf_E p 1)) by omega)] at hJ
      exact hJ
  show R (51, [some (aR 4 0), some (aI n), some (aL (0 + (jf_pw (jf_at p (jf_E p 0)) (n).toNat))), none, some (aI 1), some (aI 1), some (aI 0)], [aI (if (jf_E p 0) = (jf_E p 1) then 0 else 1)], M)
  refine hR _ (?_)
  show R (53, [some (aR 4 0), some (aI n), some (aL (0 + (jf_pw (jf_at p (jf_E p 0)) (n).toNat))), none, some (aI 1), some (aI (if (jf_E p 0) = (jf_E p 1) then 0 else 1)), some (aI 0)], [], M)
  show R (53, [some (aR 4 0), some (aI n), some (aL (0 + (jf_pw (jf_at p (jf_E p 0)) (n).toNat))), none, some (aI 1), some (aI (jf_fi p 1 1)), some (aI 0)], [], M)
  refine hR _ (hR _ (hR _ (hR _ (hR _ (am_brt (rg := am_in 1 ∧ am_in 1) (P := (1 : Int) ≤ 1) (A := R (59, [some (aR 4 0), some (aI n), some (aL (0 + (jf_pw (jf_at p (jf_E p 0)) (n).toNat))), none, some (aI 1), some (aI (jf_fi p 1 1)), some (aI 1)], [], M)) (B := R (24, [some (aR 4 0), some (aI n), some (aL (0 + (jf_pw (jf_at p (jf_E p 0)) (n).toNat))), none, some (aI 1), some (aI (jf_fi p 1 1)), some (aI 1)], [], M)) (by omega) (by omega) ?_)))))
  show R (59, [some (aR 4 0), some (aI n), some (aL (0 + (jf_pw (jf_at p (jf_E p 0)) (n).toNat))), none, some (aI 1), some (aI (jf_fi p 1 1)), some (aI 1)], [], M)
  refine hR _ (?_)
  show R (61, [some (aR 4 0), some (aI n), some (aL (0 + (jf_pw (jf_at p (jf_E p 0)) (n).toNat))), none, some (aI 1), some (aI (jf_fi p 1 1)), some (aI 1)], [aI (jf_fi p 1 1)], M)
  suffices hJ : R (82, [some (aR 4 0), some (aI n), some (aL ((0 + (jf_pw (jf_at p (jf_E p 0)) (n).toNat)) + (if (jf_fi p 1 1) = 0 then 0 else (jf_pw (jf_at p (jf_E p 1)) (n).toNat)))), none, some (aI 1), some (aI (jf_fi p 1 1)), some (aI 1)], [], M) by
    refine hR _ (am_brc (rg := am_in (jf_fi p 1 1)) (P := (jf_fi p 1 1) = 0) (A := R (82, [some (aR 4 0), some (aI n), some (aL (0 + (jf_pw (jf_at p (jf_E p 0)) (n).toNat))), none, some (aI 1), some (aI (jf_fi p 1 1)), some (aI 1)], [], M)) (B := R (64, [some (aR 4 0), some (aI n), some (aL (0 + (jf_pw (jf_at p (jf_E p 0)) (n).toNat))), none, some (aI 1), some (aI (jf_fi p 1 1)), some (aI 1)], [], M)) (by omega) (fun c61 => ?_) (fun c61 => ?_))
    · rw [if_pos (show (jf_fi p 1 1) = 0 by omega), Int.add_zero] at hJ
      exact hJ
    · refine hR _ (hR _ (hR _ (hR _ (hR _ (?_)))))
      show R (72, [some (aR 4 0), some (aI n), some (aL (0 + (jf_pw (jf_at p (jf_E p 0)) (n).toNat))), none, some (aI 1), some (aI (jf_fi p 1 1)), some (aI 1)], [aI 1, aR 12 0, aR 4 0, aL (0 + (jf_pw (jf_at p (jf_E p 0)) (n).toNat))], M)
      refine hR _ ⟨(show 0 ≤ (1 : Int) ∧ (1 : Int) < 5 from (by omega)), ?_⟩
      show R (73, [some (aR 4 0), some (aI n), some (aL (0 + (jf_pw (jf_at p (jf_E p 0)) (n).toNat))), none, some (aI 1), some (aI (jf_fi p 1 1)), some (aI 1)], [aI (M 12 0 1), aR 4 0, aL (0 + (jf_pw (jf_at p (jf_E p 0)) (n).toNat))], M)
      rw [(hthr 1 (by omega)).1]
      show R (73, [some (aR 4 0), some (aI n), some (aL (0 + (jf_pw (jf_at p (jf_E p 0)) (n).toNat))), none, some (aI 1), some (aI (jf_fi p 1 1)), some (aI 1)], [aI (jf_E p 1), aR 4 0, aL (0 + (jf_pw (jf_at p (jf_E p 0)) (n).toNat))], M)
      refine hR _ (sp_oftenAt (by omega) hok hth (by omega) ?_)
      have hat73 := jf_at_b hok ((jf_E p 1))
      show R (76, [some (aR 4 0), some (aI n), some (aL (0 + (jf_pw (jf_at p (jf_E p 0)) (n).toNat))), none, some (aI 1), some (aI (jf_fi p 1 1)), some (aI 1)], [aL (jf_at p (jf_E p 1)), aL (0 + (jf_pw (jf_at p (jf_E p 0)) (n).toNat))], M)
      refine hR _ (?_)
      show R (77, [some (aR 4 0), some (aI n), some (aL (0 + (jf_pw (jf_at p (jf_E p 0)) (n).toNat))), none, some (aI 1), some (aI (jf_fi p 1 1)), some (aI 1)], [aI n, aL (jf_at p (jf_E p 1)), aL (0 + (jf_pw (jf_at p (jf_E p 0)) (n).toNat))], M)
      refine hR _ (sp_power (by omega) (by omega) ?_)
      show R (80, [some (aR 4 0), some (aI n), some (aL (0 + (jf_pw (jf_at p (jf_E p 0)) (n).toNat))), none, some (aI 1), some (aI (jf_fi p 1 1)), some (aI 1)], [aL (jf_pw (jf_at p (jf_E p 1)) (n).toNat), aL (0 + (jf_pw (jf_at p (jf_E p 0)) (n).toNat))], M)
      refine hR _ (hR _ (?_))
      show R (82, [some (aR 4 0), some (aI n), some (aL ((0 + (jf_pw (jf_at p (jf_E p 0)) (n).toNat)) + (jf_pw (jf_at p (jf_E p 1)) (n).toNat))), none, some (aI 1), some (aI (jf_fi p 1 1)), some (aI 1)], [], M)
      rw [if_neg (show ¬ ((jf_fi p 1 1) = 0) by omega)] at hJ
      exact hJ
  show R (82, [some (aR 4 0), some (aI n), some (aL ((0 + (jf_pw (jf_at p (jf_E p 0)) (n).toNat)) + (if (jf_fi p 1 1) = 0 then 0 else (jf_pw (jf_at p (jf_E p 1)) (n).toNat)))), none, some (aI 1), some (aI (jf_fi p 1 1)), some (aI 1)], [], M)
  refine hR _ (hR _ (hR _ (hR _ (hR _ (am_brf (rg := am_in 2 ∧ am_in 5) (P := 5 ≤ 2) (A := R (88, [some (aR 4 0), some (aI n), some (aL ((0 + (jf_pw (jf_at p (jf_E p 0)) (n).toNat)) + (if (jf_fi p 1 1) = 0 then 0 else (jf_pw (jf_at p (jf_E p 1)) (n).toNat)))), none, some (aI 2), some (aI (jf_fi p 1 1)), some (aI 1)], [], M)) (B := R (11, [some (aR 4 0), some (aI n), some (aL ((0 + (jf_pw (jf_at p (jf_E p 0)) (n).toNat)) + (if (jf_fi p 1 1) = 0 then 0 else (jf_pw (jf_at p (jf_E p 1)) (n).toNat)))), none, some (aI 2), some (aI (jf_fi p 1 1)), some (aI 1)], [], M)) (by omega) (by omega) ?_)))))
  show R (11, [some (aR 4 0), some (aI n), some (aL ((0 + (jf_pw (jf_at p (jf_E p 0)) (n).toNat)) + (if (jf_fi p 1 1) = 0 then 0 else (jf_pw (jf_at p (jf_E p 1)) (n).toNat)))), none, some (aI 2), some (aI (jf_fi p 1 1)), some (aI 1)], [], M)
  refine hR _ (hR _ (hR _ (hR _ (hR _ (hR _ (hR _ (am_brf (rg := am_in 0 ∧ am_in 2) (P := 2 ≤ 0) (A := R (59, [some (aR 4 0), some (aI n), some (aL ((0 + (jf_pw (jf_at p (jf_E p 0)) (n).toNat)) + (if (jf_fi p 1 1) = 0 then 0 else (jf_pw (jf_at p (jf_E p 1)) (n).toNat)))), none, some (aI 2), some (aI 1), some (aI 0)], [], M)) (B := R (24, [some (aR 4 0), some (aI n), some (aL ((0 + (jf_pw (jf_at p (jf_E p 0)) (n).toNat)) + (if (jf_fi p 1 1) = 0 then 0 else (jf_pw (jf_at p (jf_E p 1)) (n).toNat)))), none, some (aI 2), some (aI 1), some (aI 0)], [], M)) (by omega) (by omega) ?_)))))))
  show R (24, [some (aR 4 0), some (aI n), some (aL ((0 + (jf_pw (jf_at p (jf_E p 0)) (n).toNat)) + (if (jf_fi p 1 1) = 0 then 0 else (jf_pw (jf_at p (jf_E p 1)) (n).toNat)))), none, some (aI 2), some (aI 1), some (aI 0)], [], M)
  refine hR _ (hR _ (am_brf (rg := am_in 1) (P := (1 : Int) = 0) (A := R (50, [some (aR 4 0), some (aI n), some (aL ((0 + (jf_pw (jf_at p (jf_E p 0)) (n).toNat)) + (if (jf_fi p 1 1) = 0 then 0 else (jf_pw (jf_at p (jf_E p 1)) (n).toNat)))), none, some (aI 2), some (aI 1), some (aI 0)], [], M)) (B := R (29, [some (aR 4 0), some (aI n), some (aL ((0 + (jf_pw (jf_at p (jf_E p 0)) (n).toNat)) + (if (jf_fi p 1 1) = 0 then 0 else (jf_pw (jf_at p (jf_E p 1)) (n).toNat)))), none, some (aI 2), some (aI 1), some (aI 0)], [], M)) (by omega) (by omega) ?_))
  show R (29, [some (aR 4 0), some (aI n), some (aL ((0 + (jf_pw (jf_at p (jf_E p 0)) (n).toNat)) + (if (jf_fi p 1 1) = 0 then 0 else (jf_pw (jf_at p (jf_E p 1)) (n).toNat)))), none, some (aI 2), some (aI 1), some (aI 0)], [], M)
  refine hR _ (hR _ (hR _ (?_)))
  show R (35, [some (aR 4 0), some (aI n), some (aL ((0 + (jf_pw (jf_at p (jf_E p 0)) (n).toNat)) + (if (jf_fi p 1 1) = 0 then 0 else (jf_pw (jf_at p (jf_E p 1)) (n).toNat)))), none, some (aI 2), some (aI 1), some (aI 0)], [aI 0, aR 12 0], M)
  refine hR _ ⟨(show 0 ≤ (0 : Int) ∧ (0 : Int) < 5 from (by omega)), ?_⟩
  show R (36, [some (aR 4 0), some (aI n), some (aL ((0 + (jf_pw (jf_at p (jf_E p 0)) (n).toNat)) + (if (jf_fi p 1 1) = 0 then 0 else (jf_pw (jf_at p (jf_E p 1)) (n).toNat)))), none, some (aI 2), some (aI 1), some (aI 0)], [aI (M 12 0 0)], M)
  rw [(hthr 0 (by omega)).1]
  show R (36, [some (aR 4 0), some (aI n), some (aL ((0 + (jf_pw (jf_at p (jf_E p 0)) (n).toNat)) + (if (jf_fi p 1 1) = 0 then 0 else (jf_pw (jf_at p (jf_E p 1)) (n).toNat)))), none, some (aI 2), some (aI 1), some (aI 0)], [aI (jf_E p 0)], M)
  refine hR _ (hR _ (hR _ (?_)))
  show R (42, [some (aR 4 0), some (aI n), some (aL ((0 + (jf_pw (jf_at p (jf_E p 0)) (n).toNat)) + (if (jf_fi p 1 1) = 0 then 0 else (jf_pw (jf_at p (jf_E p 1)) (n).toNat)))), none, some (aI 2), some (aI 1), some (aI 0)], [aI 2, aR 12 0, aI (jf_E p 0)], M)
  refine hR _ ⟨(show 0 ≤ (2 : Int) ∧ (2 : Int) < 5 from (by omega)), ?_⟩
  show R (43, [some (aR 4 0), some (aI n), some (aL ((0 + (jf_pw (jf_at p (jf_E p 0)) (n).toNat)) + (if (jf_fi p 1 1) = 0 then 0 else (jf_pw (jf_at p (jf_E p 1)) (n).toNat)))), none, some (aI 2), some (aI 1), some (aI 0)], [aI (M 12 0 2), aI (jf_E p 0)], M)
  rw [(hthr 2 (by omega)).1]
  show R (43, [some (aR 4 0), some (aI n), some (aL ((0 + (jf_pw (jf_at p (jf_E p 0)) (n).toNat)) + (if (jf_fi p 1 1) = 0 then 0 else (jf_pw (jf_at p (jf_E p 1)) (n).toNat)))), none, some (aI 2), some (aI 1), some (aI 0)], [aI (jf_E p 2), aI (jf_E p 0)], M)
  suffices hJ : R (51, [some (aR 4 0), some (aI n), some (aL ((0 + (jf_pw (jf_at p (jf_E p 0)) (n).toNat)) + (if (jf_fi p 1 1) = 0 then 0 else (jf_pw (jf_at p (jf_E p 1)) (n).toNat)))), none, some (aI 2), some (aI 1), some (aI 0)], [aI (if (jf_E p 0) = (jf_E p 2) then 0 else 1)], M) by
    refine hR _ (am_brc (rg := am_in (jf_E p 0) ∧ am_in (jf_E p 2)) (P := (jf_E p 0) = (jf_E p 2)) (A := R (50, [some (aR 4 0), some (aI n), some (aL ((0 + (jf_pw (jf_at p (jf_E p 0)) (n).toNat)) + (if (jf_fi p 1 1) = 0 then 0 else (jf_pw (jf_at p (jf_E p 1)) (n).toNat)))), none, some (aI 2), some (aI 1), some (aI 0)], [], M)) (B := R (46, [some (aR 4 0), some (aI n), some (aL ((0 + (jf_pw (jf_at p (jf_E p 0)) (n).toNat)) + (if (jf_fi p 1 1) = 0 then 0 else (jf_pw (jf_at p (jf_E p 1)) (n).toNat)))), none, some (aI 2), some (aI 1), some (aI 0)], [], M)) (by omega) (fun c43 => ?_) (fun c43 => ?_))
    · refine hR _ (?_)
      show R (51, [some (aR 4 0), some (aI n), some (aL ((0 + (jf_pw (jf_at p (jf_E p 0)) (n).toNat)) + (if (jf_fi p 1 1) = 0 then 0 else (jf_pw (jf_at p (jf_E p 1)) (n).toNat)))), none, some (aI 2), some (aI 1), some (aI 0)], [aI 0], M)
      rw [if_pos (show (jf_E p 0) = (jf_E p 2) by omega)] at hJ
      exact hJ
    · refine hR _ (hR _ (?_))
      show R (51, [some (aR 4 0), some (aI n), some (aL ((0 + (jf_pw (jf_at p (jf_E p 0)) (n).toNat)) + (if (jf_fi p 1 1) = 0 then 0 else (jf_pw (jf_at p (jf_E p 1)) (n).toNat)))), none, some (aI 2), some (aI 1), some (aI 0)], [aI 1], M)
      rw [if_neg (show ¬ ((jf_E p 0) = (jf_E p 2)) by omega)] at hJ
      exact hJ
  show R (51, [some (aR 4 0), some (aI n), some (aL ((0 + (jf_pw (jf_at p (jf_E p 0)) (n).toNat)) + (if (jf_fi p 1 1) = 0 then 0 else (jf_pw (jf_at p (jf_E p 1)) (n).toNat)))), none, some (aI 2), some (aI 1), some (aI 0)], [aI (if (jf_E p 0) = (jf_E p 2) then 0 else 1)], M)
  refine hR _ (?_)
  show R (53, [some (aR 4 0), some (aI n), some (aL ((0 + (jf_pw (jf_at p (jf_E p 0)) (n).toNat)) + (if (jf_fi p 1 1) = 0 then 0 else (jf_pw (jf_at p (jf_E p 1)) (n).toNat)))), none, some (aI 2), some (aI (if (jf_E p 0) = (jf_E p 2) then 0 else 1)), some (aI 0)], [], M)
  show R (53, [some (aR 4 0), some (aI n), some (aL ((0 + (jf_pw (jf_at p (jf_E p 0)) (n).toNat)) + (if (jf_fi p 1 1) = 0 then 0 else (jf_pw (jf_at p (jf_E p 1)) (n).toNat)))), none, some (aI 2), some (aI (jf_fi p 2 1)), some (aI 0)], [], M)
  refine hR _ (hR _ (hR _ (hR _ (hR _ (am_brf (rg := am_in 1 ∧ am_in 2) (P := 2 ≤ 1) (A := R (59, [some (aR 4 0), some (aI n), some (aL ((0 + (jf_pw (jf_at p (jf_E p 0)) (n).toNat)) + (if (jf_fi p 1 1) = 0 then 0 else (jf_pw (jf_at p (jf_E p 1)) (n).toNat)))), none, some (aI 2), some (aI (jf_fi p 2 1)), some (aI 1)], [], M)) (B := R (24, [some (aR 4 0), some (aI n), some (aL ((0 + (jf_pw (jf_at p (jf_E p 0)) (n).toNat)) + (if (jf_fi p 1 1) = 0 then 0 else (jf_pw (jf_at p (jf_E p 1)) (n).toNat)))), none, some (aI 2), some (aI (jf_fi p 2 1)), some (aI 1)], [], M)) (by omega) (by omega) ?_)))))
  show R (24, [some (aR 4 0), some (aI n), some (aL ((0 + (jf_pw (jf_at p (jf_E p 0)) (n).toNat)) + (if (jf_fi p 1 1) = 0 then 0 else (jf_pw (jf_at p (jf_E p 1)) (n).toNat)))), none, some (aI 2), some (aI (jf_fi p 2 1)), some (aI 1)], [], M)
  refine hR _ (?_)
  show R (26, [some (aR 4 0), some (aI n), some (aL ((0 + (jf_pw (jf_at p (jf_E p 0)) (n).toNat)) + (if (jf_fi p 1 1) = 0 then 0 else (jf_pw (jf_at p (jf_E p 1)) (n).toNat)))), none, some (aI 2), some (aI (jf_fi p 2 1)), some (aI 1)], [aI (jf_fi p 2 1)], M)
  suffices hJ : R (51, [some (aR 4 0), some (aI n), some (aL ((0 + (jf_pw (jf_at p (jf_E p 0)) (n).toNat)) + (if (jf_fi p 1 1) = 0 then 0 else (jf_pw (jf_at p (jf_E p 1)) (n).toNat)))), none, some (aI 2), some (aI (jf_fi p 2 1)), some (aI 1)], [aI (if (jf_fi p 2 1) = 0 then 0 else (if (jf_E p 1) = (jf_E p 2) then 0 else 1))], M) by
    refine hR _ (am_brc (rg := am_in (jf_fi p 2 1)) (P := (jf_fi p 2 1) = 0) (A := R (50, [some (aR 4 0), some (aI n), some (aL ((0 + (jf_pw (jf_at p (jf_E p 0)) (n).toNat)) + (if (jf_fi p 1 1) = 0 then 0 else (jf_pw (jf_at p (jf_E p 1)) (n).toNat)))), none, some (aI 2), some (aI (jf_fi p 2 1)), some (aI 1)], [], M)) (B := R (29, [some (aR 4 0), some (aI n), some (aL ((0 + (jf_pw (jf_at p (jf_E p 0)) (n).toNat)) + (if (jf_fi p 1 1) = 0 then 0 else (jf_pw (jf_at p (jf_E p 1)) (n).toNat)))), none, some (aI 2), some (aI (jf_fi p 2 1)), some (aI 1)], [], M)) (by omega) (fun c26 => ?_) (fun c26 => ?_))
    · refine hR _ (?_)
      show R (51, [some (aR 4 0), some (aI n), some (aL ((0 + (jf_pw (jf_at p (jf_E p 0)) (n).toNat)) + (if (jf_fi p 1 1) = 0 then 0 else (jf_pw (jf_at p (jf_E p 1)) (n).toNat)))), none, some (aI 2), some (aI (jf_fi p 2 1)), some (aI 1)], [aI 0], M)
      rw [if_pos (show (jf_fi p 2 1) = 0 by omega)] at hJ
      exact hJ
    · refine hR _ (hR _ (hR _ (?_)))
      show R (35, [some (aR 4 0), some (aI n), some (aL ((0 + (jf_pw (jf_at p (jf_E p 0)) (n).toNat)) + (if (jf_fi p 1 1) = 0 then 0 else (jf_pw (jf_at p (jf_E p 1)) (n).toNat)))), none, some (aI 2), some (aI (jf_fi p 2 1)), some (aI 1)], [aI 1, aR 12 0], M)
      refine hR _ ⟨(show 0 ≤ (1 : Int) ∧ (1 : Int) < 5 from (by omega)), ?_⟩
      show R (36, [some (aR 4 0), some (aI n), some (aL ((0 + (jf_pw (jf_at p (jf_E p 0)) (n).toNat)) + (if (jf_fi p 1 1) = 0 then 0 else (jf_pw (jf_at p (jf_E p 1)) (n).toNat)))), none, some (aI 2), some (aI (jf_fi p 2 1)), some (aI 1)], [aI (M 12 0 1)], M)
      rw [(hthr 1 (by omega)).1]
      show R (36, [some (aR 4 0), some (aI n), some (aL ((0 + (jf_pw (jf_at p (jf_E p 0)) (n).toNat)) + (if (jf_fi p 1 1) = 0 then 0 else (jf_pw (jf_at p (jf_E p 1)) (n).toNat)))), none, some (aI 2), some (aI (jf_fi p 2 1)), some (aI 1)], [aI (jf_E p 1)], M)
      refine hR _ (hR _ (hR _ (?_)))
      show R (42, [some (aR 4 0), some (aI n), some (aL ((0 + (jf_pw (jf_at p (jf_E p 0)) (n).toNat)) + (if (jf_fi p 1 1) = 0 then 0 else (jf_pw (jf_at p (jf_E p 1)) (n).toNat)))), none, some (aI 2), some (aI (jf_fi p 2 1)), some (aI 1)], [aI 2, aR 12 0, aI (jf_E p 1)], M)
      refine hR _ ⟨(show 0 ≤ (2 : Int) ∧ (2 : Int) < 5 from (by omega)), ?_⟩
      show R (43, [some (aR 4 0), some (aI n), some (aL ((0 + (jf_pw (jf_at p (jf_E p 0)) (n).toNat)) + (if (jf_fi p 1 1) = 0 then 0 else (jf_pw (jf_at p (jf_E p 1)) (n).toNat)))), none, some (aI 2), some (aI (jf_fi p 2 1)), some (aI 1)], [aI (M 12 0 2), aI (jf_E p 1)], M)
      rw [(hthr 2 (by omega)).1]
      show R (43, [some (aR 4 0), some (aI n), some (aL ((0 + (jf_pw (jf_at p (jf_E p 0)) (n).toNat)) + (if (jf_fi p 1 1) = 0 then 0 else (jf_pw (jf_at p (jf_E p 1)) (n).toNat)))), none, some (aI 2), some (aI (jf_fi p 2 1)), some (aI 1)], [aI (jf_E p 2), aI (jf_E p 1)], M)
      suffices hJ : R (51, [some (aR 4 0), some (aI n), some (aL ((0 + (jf_pw (jf_at p (jf_E p 0)) (n).toNat)) + (if (jf_fi p 1 1) = 0 then 0 else (jf_pw (jf_at p (jf_E p 1)) (n).toNat)))), none, some (aI 2), some (aI (jf_fi p 2 1)), some (aI 1)], [aI (if (jf_E p 1) = (jf_E p 2) then 0 else 1)], M) by
        refine hR _ (am_brc (rg := am_in (jf_E p 1) ∧ am_in (jf_E p 2)) (P := (jf_E p 1) = (jf_E p 2)) (A := R (50, [some (aR 4 0), some (aI n), some (aL ((0 + (jf_pw (jf_at p (jf_E p 0)) (n).toNat)) + (if (jf_fi p 1 1) = 0 then 0 else (jf_pw (jf_at p (jf_E p 1)) (n).toNat)))), none, some (aI 2), some (aI (jf_fi p 2 1)), some (aI 1)], [], M)) (B := R (46, [some (aR 4 0), some (aI n), some (aL ((0 + (jf_pw (jf_at p (jf_E p 0)) (n).toNat)) + (if (jf_fi p 1 1) = 0 then 0 else (jf_pw (jf_at p (jf_E p 1)) (n).toNat)))), none, some (aI 2), some (aI (jf_fi p 2 1)), some (aI 1)], [], M)) (by omega) (fun c43 => ?_) (fun c43 => ?_))
        · refine hR _ (?_)
          show R (51, [some (aR 4 0), some (aI n), some (aL ((0 + (jf_pw (jf_at p (jf_E p 0)) (n).toNat)) + (if (jf_fi p 1 1) = 0 then 0 else (jf_pw (jf_at p (jf_E p 1)) (n).toNat)))), none, some (aI 2), some (aI (jf_fi p 2 1)), some (aI 1)], [aI 0], M)
          rw [if_pos (show (jf_E p 1) = (jf_E p 2) by omega)] at hJ
          exact hJ
        · refine hR _ (hR _ (?_))
          show R (51, [some (aR 4 0), some (aI n), some (aL ((0 + (jf_pw (jf_at p (jf_E p 0)) (n).toNat)) + (if (jf_fi p 1 1) = 0 then 0 else (jf_pw (jf_at p (jf_E p 1)) (n).toNat)))), none, some (aI 2), some (aI (jf_fi p 2 1)), some (aI 1)], [aI 1], M)
          rw [if_neg (show ¬ ((jf_E p 1) = (jf_E p 2)) by omega)] at hJ
          exact hJ
      show R (51, [some (aR 4 0), some (aI n), some (aL ((0 + (jf_pw (jf_at p (jf_E p 0)) (n).toNat)) + (if (jf_fi p 1 1) = 0 then 0 else (jf_pw (jf_at p (jf_E p 1)) (n).toNat)))), none, some (aI 2), some (aI (jf_fi p 2 1)), some (aI 1)], [aI (if (jf_E p 1) = (jf_E p 2) then 0 else 1)], M)
      rw [if_neg (show ¬ ((jf_fi p 2 1) = 0) by omega)] at hJ
      exact hJ
  show R (51, [some (aR 4 0), some (aI n), some (aL ((0 + (jf_pw (jf_at p (jf_E p 0)) (n).toNat)) + (if (jf_fi p 1 1) = 0 then 0 else (jf_pw (jf_at p (jf_E p 1)) (n).toNat)))), none, some (aI 2), some (aI (jf_fi p 2 1)), some (aI 1)], [aI (if (jf_fi p 2 1) = 0 then 0 else (if (jf_E p 1) = (jf_E p 2) then 0 else 1))], M)
  refine hR _ (?_)
  show R (53, [some (aR 4 0), some (aI n), some (aL ((0 + (jf_pw (jf_at p (jf_E p 0)) (n).toNat)) + (if (jf_fi p 1 1) = 0 then 0 else (jf_pw (jf_at p (jf_E p 1)) (n).toNat)))), none, some (aI 2), some (aI (if (jf_fi p 2 1) = 0 then 0 else (if (jf_E p 1) = (jf_E p 2) then 0 else 1))), some (aI 1)], [], M)
  show R (53, [some (aR 4 0), some (aI n), some (aL ((0 + (jf_pw (jf_at p (jf_E p 0)) (n).toNat)) + (if (jf_fi p 1 1) = 0 then 0 else (jf_pw (jf_at p (jf_E p 1)) (n).toNat)))), none, some (aI 2), some (aI (jf_fi p 2 2)), some (aI 1)], [], M)
  refine hR _ (hR _ (hR _ (hR _ (hR _ (am_brt (rg := am_in 2 ∧ am_in 2) (P := (2 : Int) ≤ 2) (A := R (59, [some (aR 4 0), some (aI n), some (aL ((0 + (jf_pw (jf_at p (jf_E p 0)) (n).toNat)) + (if (jf_fi p 1 1) = 0 then 0 else (jf_pw (jf_at p (jf_E p 1)) (n).toNat)))), none, some (aI 2), some (aI (jf_fi p 2 2)), some (aI 2)], [], M)) (B := R (24, [some (aR 4 0), some (aI n), some (aL ((0 + (jf_pw (jf_at p (jf_E p 0)) (n).toNat)) + (if (jf_fi p 1 1) = 0 then 0 else (jf_pw (jf_at p (jf_E p 1)) (n).toNat)))), none, some (aI 2), some (aI (jf_fi p 2 2)), some (aI 2)], [], M)) (by omega) (by omega) ?_)))))
  show R (59, [some (aR 4 0), some (aI n), some (aL ((0 + (jf_pw (jf_at p (jf_E p 0)) (n).toNat)) + (if (jf_fi p 1 1) = 0 then 0 else (jf_pw (jf_at p (jf_E p 1)) (n).toNat)))), none, some (aI 2), some (aI (jf_fi p 2 2)), some (aI 2)], [], M)
  refine hR _ (?_)
  show R (61, [some (aR 4 0), some (aI n), some (aL ((0 + (jf_pw (jf_at p (jf_E p 0)) (n).toNat)) + (if (jf_fi p 1 1) = 0 then 0 else (jf_pw (jf_at p (jf_E p 1)) (n).toNat)))), none, some (aI 2), some (aI (jf_fi p 2 2)), some (aI 2)], [aI (jf_fi p 2 2)], M)
  suffices hJ : R (82, [some (aR 4 0), some (aI n), some (aL (((0 + (jf_pw (jf_at p (jf_E p 0)) (n).toNat)) + (if (jf_fi p 1 1) = 0 then 0 else (jf_pw (jf_at p (jf_E p 1)) (n).toNat))) + (if (jf_fi p 2 2) = 0 then 0 else (jf_pw (jf_at p (jf_E p 2)) (n).toNat)))), none, some (aI 2), some (aI (jf_fi p 2 2)), some (aI 2)], [], M) by
    refine hR _ (am_brc (rg := am_in (jf_fi p 2 2)) (P := (jf_fi p 2 2) = 0) (A := R (82, [some (aR 4 0), some (aI n), some (aL ((0 + (jf_pw (jf_at p (jf_E p 0)) (n).toNat)) + (if (jf_fi p 1 1) = 0 then 0 else (jf_pw (jf_at p (jf_E p 1)) (n).toNat)))), none, some (aI 2), some (aI (jf_fi p 2 2)), some (aI 2)], [], M)) (B := R (64, [some (aR 4 0), some (aI n), some (aL ((0 + (jf_pw (jf_at p (jf_E p 0)) (n).toNat)) + (if (jf_fi p 1 1) = 0 then 0 else (jf_pw (jf_at p (jf_E p 1)) (n).toNat)))), none, some (aI 2), some (aI (jf_fi p 2 2)), some (aI 2)], [], M)) (by omega) (fun c61 => ?_) (fun c61 => ?_))
    · rw [if_pos (show (jf_fi p 2 2) = 0 by omega), Int.add_zero] at hJ
      exact hJ
    · refine hR _ (hR _ (hR _ (hR _ (hR _ (?_)))))
      show R (72, [some (aR 4 0), some (aI n), some (aL ((0 + (jf_pw (jf_at p (jf_E p 0)) (n).toNat)) + (if (jf_fi p 1 1) = 0 then 0 else (jf_pw (jf_at p (jf_E p 1)) (n).toNat)))), none, some (aI 2), some (aI (jf_fi p 2 2)), some (aI 2)], [aI 2, aR 12 0, aR 4 0, aL ((0 + (jf_pw (jf_at p (jf_E p 0)) (n).toNat)) + (if (jf_fi p 1 1) = 0 then 0 else (jf_pw (jf_at p (jf_E p 1)) (n).toNat)))], M)
      refine hR _ ⟨(show 0 ≤ (2 : Int) ∧ (2 : Int) < 5 from (by omega)), ?_⟩
      show R (73, [some (aR 4 0), some (aI n), some (aL ((0 + (jf_pw (jf_at p (jf_E p 0)) (n).toNat)) + (if (jf_fi p 1 1) = 0 then 0 else (jf_pw (jf_at p (jf_E p 1)) (n).toNat)))), none, some (aI 2), some (aI (jf_fi p 2 2)), some (aI 2)], [aI (M 12 0 2), aR 4 0, aL ((0 + (jf_pw (jf_at p (jf_E p 0)) (n).toNat)) + (if (jf_fi p 1 1) = 0 then 0 else (jf_pw (jf_at p (jf_E p 1)) (n).toNat)))], M)
      rw [(hthr 2 (by omega)).1]
      show R (73, [some (aR 4 0), some (aI n), some (aL ((0 + (jf_pw (jf_at p (jf_E p 0)) (n).toNat)) + (if (jf_fi p 1 1) = 0 then 0 else (jf_pw (jf_at p (jf_E p 1)) (n).toNat)))), none, some (aI 2), some (aI (jf_fi p 2 2)), some (aI 2)], [aI (jf_E p 2), aR 4 0, aL ((0 + (jf_pw (jf_at p (jf_E p 0)) (n).toNat)) + (if (jf_fi p 1 1) = 0 then 0 else (jf_pw (jf_at p (jf_E p 1)) (n).toNat)))], M)
      refine hR _ (sp_oftenAt (by omega) hok hth (by omega) ?_)
      have hat73 := jf_at_b hok ((jf_E p 2))
      show R (76, [some (aR 4 0), some (aI n), some (aL ((0 + (jf_pw (jf_at p (jf_E p 0)) (n).toNat)) + (if (jf_fi p 1 1) = 0 then 0 else (jf_pw (jf_at p (jf_E p 1)) (n).toNat)))), none, some (aI 2), some (aI (jf_fi p 2 2)), some (aI 2)], [aL (jf_at p (jf_E p 2)), aL ((0 + (jf_pw (jf_at p (jf_E p 0)) (n).toNat)) + (if (jf_fi p 1 1) = 0 then 0 else (jf_pw (jf_at p (jf_E p 1)) (n).toNat)))], M)
      refine hR _ (?_)
      show R (77, [some (aR 4 0), some (aI n), some (aL ((0 + (jf_pw (jf_at p (jf_E p 0)) (n).toNat)) + (if (jf_fi p 1 1) = 0 then 0 else (jf_pw (jf_at p (jf_E p 1)) (n).toNat)))), none, some (aI 2), some (aI (jf_fi p 2 2)), some (aI 2)], [aI n, aL (jf_at p (jf_E p 2)), aL ((0 + (jf_pw (jf_at p (jf_E p 0)) (n).toNat)) + (if (jf_fi p 1 1) = 0 then 0 else (jf_pw (jf_at p (jf_E p 1)) (n).toNat)))], M)
      refine hR _ (sp_power (by omega) (by omega) ?_)
      show R (80, [some (aR 4 0), some (aI n), some (aL ((0 + (jf_pw (jf_at p (jf_E p 0)) (n).toNat)) + (if (jf_fi p 1 1) = 0 then 0 else (jf_pw (jf_at p (jf_E p 1)) (n).toNat)))), none, some (aI 2), some (aI (jf_fi p 2 2)), some (aI 2)], [aL (jf_pw (jf_at p (jf_E p 2)) (n).toNat), aL ((0 + (jf_pw (jf_at p (jf_E p 0)) (n).toNat)) + (if (jf_fi p 1 1) = 0 then 0 else (jf_pw (jf_at p (jf_E p 1)) (n).toNat)))], M)
      refine hR _ (hR _ (?_))
      show R (82, [some (aR 4 0), some (aI n), some (aL (((0 + (jf_pw (jf_at p (jf_E p 0)) (n).toNat)) + (if (jf_fi p 1 1) = 0 then 0 else (jf_pw (jf_at p (jf_E p 1)) (n).toNat))) + (jf_pw (jf_at p (jf_E p 2)) (n).toNat))), none, some (aI 2), some (aI (jf_fi p 2 2)), some (aI 2)], [], M)
      rw [if_neg (show ¬ ((jf_fi p 2 2) = 0) by omega)] at hJ
      exact hJ
  show R (82, [some (aR 4 0), some (aI n), some (aL (((0 + (jf_pw (jf_at p (jf_E p 0)) (n).toNat)) + (if (jf_fi p 1 1) = 0 then 0 else (jf_pw (jf_at p (jf_E p 1)) (n).toNat))) + (if (jf_fi p 2 2) = 0 then 0 else (jf_pw (jf_at p (jf_E p 2)) (n).toNat)))), none, some (aI 2), some (aI (jf_fi p 2 2)), some (aI 2)], [], M)
  refine hR _ (hR _ (hR _ (hR _ (hR _ (am_brf (rg := am_in 3 ∧ am_in 5) (P := 5 ≤ 3) (A := R (88, [some (aR 4 0), some (aI n), some (aL (((0 + (jf_pw (jf_at p (jf_E p 0)) (n).toNat)) + (if (jf_fi p 1 1) = 0 then 0 else (jf_pw (jf_at p (jf_E p 1)) (n).toNat))) + (if (jf_fi p 2 2) = 0 then 0 else (jf_pw (jf_at p (jf_E p 2)) (n).toNat)))), none, some (aI 3), some (aI (jf_fi p 2 2)), some (aI 2)], [], M)) (B := R (11, [some (aR 4 0), some (aI n), some (aL (((0 + (jf_pw (jf_at p (jf_E p 0)) (n).toNat)) + (if (jf_fi p 1 1) = 0 then 0 else (jf_pw (jf_at p (jf_E p 1)) (n).toNat))) + (if (jf_fi p 2 2) = 0 then 0 else (jf_pw (jf_at p (jf_E p 2)) (n).toNat)))), none, some (aI 3), some (aI (jf_fi p 2 2)), some (aI 2)], [], M)) (by omega) (by omega) ?_)))))
  show R (11, [some (aR 4 0), some (aI n), some (aL (((0 + (jf_pw (jf_at p (jf_E p 0)) (n).toNat)) + (if (jf_fi p 1 1) = 0 then 0 else (jf_pw (jf_at p (jf_E p 1)) (n).toNat))) + (if (jf_fi p 2 2) = 0 then 0 else (jf_pw (jf_at p (jf_E p 2)) (n).toNat)))), none, some (aI 3), some (aI (jf_fi p 2 2)), some (aI 2)], [], M)
  refine hR _ (hR _ (hR _ (hR _ (hR _ (hR _ (hR _ (am_brf (rg := am_in 0 ∧ am_in 3) (P := 3 ≤ 0) (A := R (59, [some (aR 4 0), some (aI n), some (aL (((0 + (jf_pw (jf_at p (jf_E p 0)) (n).toNat)) + (if (jf_fi p 1 1) = 0 then 0 else (jf_pw (jf_at p (jf_E p 1)) (n).toNat))) + (if (jf_fi p 2 2) = 0 then 0 else (jf_pw (jf_at p (jf_E p 2)) (n).toNat)))), none, some (aI 3), some (aI 1), some (aI 0)], [], M)) (B := R (24, [some (aR 4 0), some (aI n), some (aL (((0 + (jf_pw (jf_at p (jf_E p 0)) (n).toNat)) + (if (jf_fi p 1 1) = 0 then 0 else (jf_pw (jf_at p (jf_E p 1)) (n).toNat))) + (if (jf_fi p 2 2) = 0 then 0 else (jf_pw (jf_at p (jf_E p 2)) (n).toNat)))), none, some (aI 3), some (aI 1), some (aI 0)], [], M)) (by omega) (by omega) ?_)))))))
  show R (24, [some (aR 4 0), some (aI n), some (aL (((0 + (jf_pw (jf_at p (jf_E p 0)) (n).toNat)) + (if (jf_fi p 1 1) = 0 then 0 else (jf_pw (jf_at p (jf_E p 1)) (n).toNat))) + (if (jf_fi p 2 2) = 0 then 0 else (jf_pw (jf_at p (jf_E p 2)) (n).toNat)))), none, some (aI 3), some (aI 1), some (aI 0)], [], M)
  refine hR _ (hR _ (am_brf (rg := am_in 1) (P := (1 : Int) = 0) (A := R (50, [some (aR 4 0), some (aI n), some (aL (((0 + (jf_pw (jf_at p (jf_E p 0)) (n).toNat)) + (if (jf_fi p 1 1) = 0 then 0 else (jf_pw (jf_at p (jf_E p 1)) (n).toNat))) + (if (jf_fi p 2 2) = 0 then 0 else (jf_pw (jf_at p (jf_E p 2)) (n).toNat)))), none, some (aI 3), some (aI 1), some (aI 0)], [], M)) (B := R (29, [some (aR 4 0), some (aI n), some (aL (((0 + (jf_pw (jf_at p (jf_E p 0)) (n).toNat)) + (if (jf_fi p 1 1) = 0 then 0 else (jf_pw (jf_at p (jf_E p 1)) (n).toNat))) + (if (jf_fi p 2 2) = 0 then 0 else (jf_pw (jf_at p (jf_E p 2)) (n).toNat)))), none, some (aI 3), some (aI 1), some (aI 0)], [], M)) (by omega) (by omega) ?_))
  show R (29, [some (aR 4 0), some (aI n), some (aL (((0 + (jf_pw (jf_at p (jf_E p 0)) (n).toNat)) + (if (jf_fi p 1 1) = 0 then 0 else (jf_pw (jf_at p (jf_E p 1)) (n).toNat))) + (if (jf_fi p 2 2) = 0 then 0 else (jf_pw (jf_at p (jf_E p 2)) (n).toNat)))), none, some (aI 3), some (aI 1), some (aI 0)], [], M)
  refine hR _ (hR _ (hR _ (?_)))
  show R (35, [some (aR 4 0), some (aI n), some (aL (((0 + (jf_pw (jf_at p (jf_E p 0)) (n).toNat)) + (if (jf_fi p 1 1) = 0 then 0 else (jf_pw (jf_at p (jf_E p 1)) (n).toNat))) + (if (jf_fi p 2 2) = 0 then 0 else (jf_pw (jf_at p (jf_E p 2)) (n).toNat)))), none, some (aI 3), some (aI 1), some (aI 0)], [aI 0, aR 12 0], M)
  refine hR _ ⟨(show 0 ≤ (0 : Int) ∧ (0 : Int) < 5 from (by omega)), ?_⟩
  show R (36, [some (aR 4 0), some (aI n), some (aL (((0 + (jf_pw (jf_at p (jf_E p 0)) (n).toNat)) + (if (jf_fi p 1 1) = 0 then 0 else (jf_pw (jf_at p (jf_E p 1)) (n).toNat))) + (if (jf_fi p 2 2) = 0 then 0 else (jf_pw (jf_at p (jf_E p 2)) (n).toNat)))), none, some (aI 3), some (aI 1), some (aI 0)], [aI (M 12 0 0)], M)
  rw [(hthr 0 (by omega)).1]
  show R (36, [some (aR 4 0), some (aI n), some (aL (((0 + (jf_pw (jf_at p (jf_E p 0)) (n).toNat)) + (if (jf_fi p 1 1) = 0 then 0 else (jf_pw (jf_at p (jf_E p 1)) (n).toNat))) + (if (jf_fi p 2 2) = 0 then 0 else (jf_pw (jf_at p (jf_E p 2)) (n).toNat)))), none, some (aI 3), some (aI 1), some (aI 0)], [aI (jf_E p 0)], M)
  refine hR _ (hR _ (hR _ (?_)))
  show R (42, [some (aR 4 0), some (aI n), some (aL (((0 + (jf_pw (jf_at p (jf_E p 0)) (n).toNat)) + (if (jf_fi p 1 1) = 0 then 0 else (jf_pw (jf_at p (jf_E p 1)) (n).toNat))) + (if (jf_fi p 2 2) = 0 then 0 else (jf_pw (jf_at p (jf_E p 2)) (n).toNat)))), none, some (aI 3), some (aI 1), some (aI 0)], [aI 3, aR 12 0, aI (jf_E p 0)], M)
  refine hR _ ⟨(show 0 ≤ (3 : Int) ∧ (3 : Int) < 5 from (by omega)), ?_⟩
  show R (43, [some (aR 4 0), some (aI n), some (aL (((0 + (jf_pw (jf_at p (jf_E p 0)) (n).toNat)) + (if (jf_fi p 1 1) = 0 then 0 else (jf_pw (jf_at p (jf_E p 1)) (n).toNat))) + (if (jf_fi p 2 2) = 0 then 0 else (jf_pw (jf_at p (jf_E p 2)) (n).toNat)))), none, some (aI 3), some (aI 1), some (aI 0)], [aI (M 12 0 3), aI (jf_E p 0)], M)
  rw [(hthr 3 (by omega)).1]
  show R (43, [some (aR 4 0), some (aI n), some (aL (((0 + (jf_pw (jf_at p (jf_E p 0)) (n).toNat)) + (if (jf_fi p 1 1) = 0 then 0 else (jf_pw (jf_at p (jf_E p 1)) (n).toNat))) + (if (jf_fi p 2 2) = 0 then 0 else (jf_pw (jf_at p (jf_E p 2)) (n).toNat)))), none, some (aI 3), some (aI 1), some (aI 0)], [aI (jf_E p 3), aI (jf_E p 0)], M)
  suffices hJ : R (51, [some (aR 4 0), some (aI n), some (aL (((0 + (jf_pw (jf_at p (jf_E p 0)) (n).toNat)) + (if (jf_fi p 1 1) = 0 then 0 else (jf_pw (jf_at p (jf_E p 1)) (n).toNat))) + (if (jf_fi p 2 2) = 0 then 0 else (jf_pw (jf_at p (jf_E p 2)) (n).toNat)))), none, some (aI 3), some (aI 1), some (aI 0)], [aI (if (jf_E p 0) = (jf_E p 3) then 0 else 1)], M) by
    refine hR _ (am_brc (rg := am_in (jf_E p 0) ∧ am_in (jf_E p 3)) (P := (jf_E p 0) = (jf_E p 3)) (A := R (50, [some (aR 4 0), some (aI n), some (aL (((0 + (jf_pw (jf_at p (jf_E p 0)) (n).toNat)) + (if (jf_fi p 1 1) = 0 then 0 else (jf_pw (jf_at p (jf_E p 1)) (n).toNat))) + (if (jf_fi p 2 2) = 0 then 0 else (jf_pw (jf_at p (jf_E p 2)) (n).toNat)))), none, some (aI 3), some (aI 1), some (aI 0)], [], M)) (B := R (46, [some (aR 4 0), some (aI n), some (aL (((0 + (jf_pw (jf_at p (jf_E p 0)) (n).toNat)) + (if (jf_fi p 1 1) = 0 then 0 else (jf_pw (jf_at p (jf_E p 1)) (n).toNat))) + (if (jf_fi p 2 2) = 0 then 0 else (jf_pw (jf_at p (jf_E p 2)) (n).toNat)))), none, some (aI 3), some (aI 1), some (aI 0)], [], M)) (by omega) (fun c43 => ?_) (fun c43 => ?_))
    · refine hR _ (?_)
      show R (51, [some (aR 4 0), some (aI n), some (aL (((0 + (jf_pw (jf_at p (jf_E p 0)) (n).toNat)) + (if (jf_fi p 1 1) = 0 then 0 else (jf_pw (jf_at p (jf_E p 1)) (n).toNat))) + (if (jf_fi p 2 2) = 0 then 0 else (jf_pw (jf_at p (jf_E p 2)) (n).toNat)))), none, some (aI 3), some (aI 1), some (aI 0)], [aI 0], M)
      rw [if_pos (show (jf_E p 0) = (jf_E p 3) by omega)] at hJ
      exact hJ
    · refine hR _ (hR _ (?_))
      show R (51, [some (aR 4 0), some (aI n), some (aL (((0 + (jf_pw (jf_at p (jf_E p 0)) (n).toNat)) + (if (jf_fi p 1 1) = 0 then 0 else (jf_pw (jf_at p (jf_E p 1)) (n).toNat))) + (if (jf_fi p 2 2) = 0 then 0 else (jf_pw (jf_at p (jf_E p 2)) (n).toNat)))), none, some (aI 3), some (aI 1), some (aI 0)], [aI 1], M)
      rw [if_neg (show ¬ ((jf_E p 0) = (jf_E p 3)) by omega)] at hJ
      exact hJ
  show R (51, [some (aR 4 0), some (aI n), some (aL (((0 + (jf_pw (jf_at p (jf_E p 0)) (n).toNat)) + (if (jf_fi p 1 1) = 0 then 0 else (jf_pw (jf_at p (jf_E p 1)) (n).toNat))) + (if (jf_fi p 2 2) = 0 then 0 else (jf_pw (jf_at p (jf_E p 2)) (n).toNat)))), none, some (aI 3), some (aI 1), some (aI 0)], [aI (if (jf_E p 0) = (jf_E p 3) then 0 else 1)], M)
  refine hR _ (?_)
  show R (53, [some (aR 4 0), some (aI n), some (aL (((0 + (jf_pw (jf_at p (jf_E p 0)) (n).toNat)) + (if (jf_fi p 1 1) = 0 then 0 else (jf_pw (jf_at p (jf_E p 1)) (n).toNat))) + (if (jf_fi p 2 2) = 0 then 0 else (jf_pw (jf_at p (jf_E p 2)) (n).toNat)))), none, some (aI 3), some (aI (if (jf_E p 0) = (jf_E p 3) then 0 else 1)), some (aI 0)], [], M)
  show R (53, [some (aR 4 0), some (aI n), some (aL (((0 + (jf_pw (jf_at p (jf_E p 0)) (n).toNat)) + (if (jf_fi p 1 1) = 0 then 0 else (jf_pw (jf_at p (jf_E p 1)) (n).toNat))) + (if (jf_fi p 2 2) = 0 then 0 else (jf_pw (jf_at p (jf_E p 2)) (n).toNat)))), none, some (aI 3), some (aI (jf_fi p 3 1)), some (aI 0)], [], M)
  refine hR _ (hR _ (hR _ (hR _ (hR _ (am_brf (rg := am_in 1 ∧ am_in 3) (P := 3 ≤ 1) (A := R (59, [some (aR 4 0), some (aI n), some (aL (((0 + (jf_pw (jf_at p (jf_E p 0)) (n).toNat)) + (if (jf_fi p 1 1) = 0 then 0 else (jf_pw (jf_at p (jf_E p 1)) (n).toNat))) + (if (jf_fi p 2 2) = 0 then 0 else (jf_pw (jf_at p (jf_E p 2)) (n).toNat)))), none, some (aI 3), some (aI (jf_fi p 3 1)), some (aI 1)], [], M)) (B := R (24, [some (aR 4 0), some (aI n), some (aL (((0 + (jf_pw (jf_at p (jf_E p 0)) (n).toNat)) + (if (jf_fi p 1 1) = 0 then 0 else (jf_pw (jf_at p (jf_E p 1)) (n).toNat))) + (if (jf_fi p 2 2) = 0 then 0 else (jf_pw (jf_at p (jf_E p 2)) (n).toNat)))), none, some (aI 3), some (aI (jf_fi p 3 1)), some (aI 1)], [], M)) (by omega) (by omega) ?_)))))
  show R (24, [some (aR 4 0), some (aI n), some (aL (((0 + (jf_pw (jf_at p (jf_E p 0)) (n).toNat)) + (if (jf_fi p 1 1) = 0 then 0 else (jf_pw (jf_at p (jf_E p 1)) (n).toNat))) + (if (jf_fi p 2 2) = 0 then 0 else (jf_pw (jf_at p (jf_E p 2)) (n).toNat)))), none, some (aI 3), some (aI (jf_fi p 3 1)), some (aI 1)], [], M)
  refine hR _ (?_)
  show R (26, [some (aR 4 0), some (aI n), some (aL (((0 + (jf_pw (jf_at p (jf_E p 0)) (n).toNat)) + (if (jf_fi p 1 1) = 0 then 0 else (jf_pw (jf_at p (jf_E p 1)) (n).toNat))) + (if (jf_fi p 2 2) = 0 then 0 else (jf_pw (jf_at p (jf_E p 2)) (n).toNat)))), none, some (aI 3), some (aI (jf_fi p 3 1)), some (aI 1)], [aI (jf_fi p 3 1)], M)
  suffices hJ : R (51, [some (aR 4 0), some (aI n), some (aL (((0 + (jf_pw (jf_at p (jf_E p 0)) (n).toNat)) + (if (jf_fi p 1 1) = 0 then 0 else (jf_pw (jf_at p (jf_E p 1)) (n).toNat))) + (if (jf_fi p 2 2) = 0 then 0 else (jf_pw (jf_at p (jf_E p 2)) (n).toNat)))), none, some (aI 3), some (aI (jf_fi p 3 1)), some (aI 1)], [aI (if (jf_fi p 3 1) = 0 then 0 else (if (jf_E p 1) = (jf_E p 3) then 0 else 1))], M) by
    refine hR _ (am_brc (rg := am_in (jf_fi p 3 1)) (P := (jf_fi p 3 1) = 0) (A := R (50, [some (aR 4 0), some (aI n), some (aL (((0 + (jf_pw (jf_at p (jf_E p 0)) (n).toNat)) + (if (jf_fi p 1 1) = 0 then 0 else (jf_pw (jf_at p (jf_E p 1)) (n).toNat))) + (if (jf_fi p 2 2) = 0 then 0 else (jf_pw (jf_at p (jf_E p 2)) (n).toNat)))), none, some (aI 3), some (aI (jf_fi p 3 1)), some (aI 1)], [], M)) (B := R (29, [some (aR 4 0), some (aI n), some (aL (((0 + (jf_pw (jf_at p (jf_E p 0)) (n).toNat)) + (if (jf_fi p 1 1) = 0 then 0 else (jf_pw (jf_at p (jf_E p 1)) (n).toNat))) + (if (jf_fi p 2 2) = 0 then 0 else (jf_pw (jf_at p (jf_E p 2)) (n).toNat)))), none, some (aI 3), some (aI (jf_fi p 3 1)), some (aI 1)], [], M)) (by omega) (fun c26 => ?_) (fun c26 => ?_))
    · refine hR _ (?_)
      show R (51, [some (aR 4 0), some (aI n), some (aL (((0 + (jf_pw (jf_at p (jf_E p 0)) (n).toNat)) + (if (jf_fi p 1 1) = 0 then 0 else (jf_pw (jf_at p (jf_E p 1)) (n).toNat))) + (if (jf_fi p 2 2) = 0 then 0 else (jf_pw (jf_at p (jf_E p 2)) (n).toNat)))), none, some (aI 3), some (aI (jf_fi p 3 1)), some (aI 1)], [aI 0], M)
      rw [if_pos (show (jf_fi p 3 1) = 0 by omega)] at hJ
      exact hJ
    · refine hR _ (hR _ (hR _ (?_)))
      show R (35, [some (aR 4 0), some (aI n), some (aL (((0 + (jf_pw (jf_at p (jf_E p 0)) (n).toNat)) + (if (jf_fi p 1 1) = 0 then 0 else (jf_pw (jf_at p (jf_E p 1)) (n).toNat))) + (if (jf_fi p 2 2) = 0 then 0 else (jf_pw (jf_at p (jf_E p 2)) (n).toNat)))), none, some (aI 3), some (aI (jf_fi p 3 1)), some (aI 1)], [aI 1, aR 12 0], M)
      refine hR _ ⟨(show 0 ≤ (1 : Int) ∧ (1 : Int) < 5 from (by omega)), ?_⟩
      show R (36, [some (aR 4 0), some (aI n), some (aL (((0 + (jf_pw (jf_at p (jf_E p 0)) (n).toNat)) + (if (jf_fi p 1 1) = 0 then 0 else (jf_pw (jf_at p (jf_E p 1)) (n).toNat))) + (if (jf_fi p 2 2) = 0 then 0 else (jf_pw (jf_at p (jf_E p 2)) (n).toNat)))), none, some (aI 3), some (aI (jf_fi p 3 1)), some (aI 1)], [aI (M 12 0 1)], M)
      rw [(hthr 1 (by omega)).1]
      show R (36, [some (aR 4 0), some (aI n), some (aL (((0 + (jf_pw (jf_at p (jf_E p 0)) (n).toNat)) + (if (jf_fi p 1 1) = 0 then 0 else (jf_pw (jf_at p (jf_E p 1)) (n).toNat))) + (if (jf_fi p 2 2) = 0 then 0 else (jf_pw (jf_at p (jf_E p 2)) (n).toNat)))), none, some (aI 3), some (aI (jf_fi p 3 1)), some (aI 1)], [aI (jf_E p 1)], M)
      refine hR _ (hR _ (hR _ (?_)))
      show R (42, [some (aR 4 0), some (aI n), some (aL (((0 + (jf_pw (jf_at p (jf_E p 0)) (n).toNat)) + (if (jf_fi p 1 1) = 0 then 0 else (jf_pw (jf_at p (jf_E p 1)) (n).toNat))) + (if (jf_fi p 2 2) = 0 then 0 else (jf_pw (jf_at p (jf_E p 2)) (n).toNat)))), none, some (aI 3), some (aI (jf_fi p 3 1)), some (aI 1)], [aI 3, aR 12 0, aI (jf_E p 1)], M)
      refine hR _ ⟨(show 0 ≤ (3 : Int) ∧ (3 : Int) < 5 from (by omega)), ?_⟩
      show R (43, [some (aR 4 0), some (aI n), some (aL (((0 + (jf_pw (jf_at p (jf_E p 0)) (n).toNat)) + (if (jf_fi p 1 1) = 0 then 0 else (jf_pw (jf_at p (jf_E p 1)) (n).toNat))) + (if (jf_fi p 2 2) = 0 then 0 else (jf_pw (jf_at p (jf_E p 2)) (n).toNat)))), none, some (aI 3), some (aI (jf_fi p 3 1)), some (aI 1)], [aI (M 12 0 3), aI (jf_E p 1)], M)
      rw [(hthr 3 (by omega)).1]
      show R (43, [some (aR 4 0), some (aI n), some (aL (((0 + (jf_pw (jf_at p (jf_E p 0)) (n).toNat)) + (if (jf_fi p 1 1) = 0 then 0 else (jf_pw (jf_at p (jf_E p 1)) (n).toNat))) + (if (jf_fi p 2 2) = 0 then 0 else (jf_pw (jf_at p (jf_E p 2)) (n).toNat)))), none, some (aI 3), some (aI (jf_fi p 3 1)), some (aI 1)], [aI (jf_E p 3), aI (jf_E p 1)], M)
      suffices hJ : R (51, [some (aR 4 0), some (aI n), some (aL (((0 + (jf_pw (jf_at p (jf_E p 0)) (n).toNat)) + (if (jf_fi p 1 1) = 0 then 0 else (jf_pw (jf_at p (jf_E p 1)) (n).toNat))) + (if (jf_fi p 2 2) = 0 then 0 else (jf_pw (jf_at p (jf_E p 2)) (n).toNat)))), none, some (aI 3), some (aI (jf_fi p 3 1)), some (aI 1)], [aI (if (jf_E p 1) = (jf_E p 3) then 0 else 1)], M) by
        refine hR _ (am_brc (rg := am_in (jf_E p 1) ∧ am_in (jf_E p 3)) (P := (jf_E p 1) = (jf_E p 3)) (A := R (50, [some (aR 4 0), some (aI n), some (aL (((0 + (jf_pw (jf_at p (jf_E p 0)) (n).toNat)) + (if (jf_fi p 1 1) = 0 then 0 else (jf_pw (jf_at p (jf_E p 1)) (n).toNat))) + (if (jf_fi p 2 2) = 0 then 0 else (jf_pw (jf_at p (jf_E p 2)) (n).toNat)))), none, some (aI 3), some (aI (jf_fi p 3 1)), some (aI 1)], [], M)) (B := R (46, [some (aR 4 0), some (aI n), some (aL (((0 + (jf_pw (jf_at p (jf_E p 0)) (n).toNat)) + (if (jf_fi p 1 1) = 0 then 0 else (jf_pw (jf_at p (jf_E p 1)) (n).toNat))) + (if (jf_fi p 2 2) = 0 then 0 else (jf_pw (jf_at p (jf_E p 2)) (n).toNat)))), none, some (aI 3), some (aI (jf_fi p 3 1)), some (aI 1)], [], M)) (by omega) (fun c43 => ?_) (fun c43 => ?_))
        · refine hR _ (?_)
          show R (51, [some (aR 4 0), some (aI n), some (aL (((0 + (jf_pw (jf_at p (jf_E p 0)) (n).toNat)) + (if (jf_fi p 1 1) = 0 then 0 else (jf_pw (jf_at p (jf_E p 1)) (n).toNat))) + (if (jf_fi p 2 2) = 0 then 0 else (jf_pw (jf_at p (jf_E p 2)) (n).toNat)))), none, some (aI 3), some (aI (jf_fi p 3 1)), some (aI 1)], [aI 0], M)
          rw [if_pos (show (jf_E p 1) = (jf_E p 3) by omega)] at hJ
          exact hJ
        · refine hR _ (hR _ (?_))
          show R (51, [some (aR 4 0), some (aI n), some (aL (((0 + (jf_pw (jf_at p (jf_E p 0)) (n).toNat)) + (if (jf_fi p 1 1) = 0 then 0 else (jf_pw (jf_at p (jf_E p 1)) (n).toNat))) + (if (jf_fi p 2 2) = 0 then 0 else (jf_pw (jf_at p (jf_E p 2)) (n).toNat)))), none, some (aI 3), some (aI (jf_fi p 3 1)), some (aI 1)], [aI 1], M)
          rw [if_neg (show ¬ ((jf_E p 1) = (jf_E p 3)) by omega)] at hJ
          exact hJ
      show R (51, [some (aR 4 0), some (aI n), some (aL (((0 + (jf_pw (jf_at p (jf_E p 0)) (n).toNat)) + (if (jf_fi p 1 1) = 0 then 0 else (jf_pw (jf_at p (jf_E p 1)) (n).toNat))) + (if (jf_fi p 2 2) = 0 then 0 else (jf_pw (jf_at p (jf_E p 2)) (n).toNat)))), none, some (aI 3), some (aI (jf_fi p 3 1)), some (aI 1)], [aI (if (jf_E p 1) = (jf_E p 3) then 0 else 1)], M)
      rw [if_neg (show ¬ ((jf_fi p 3 1) = 0) by omega)] at hJ
      exact hJ
  show R (51, [some (aR 4 0), some (aI n), some (aL (((0 + (jf_pw (jf_at p (jf_E p 0)) (n).toNat)) + (if (jf_fi p 1 1) = 0 then 0 else (jf_pw (jf_at p (jf_E p 1)) (n).toNat))) + (if (jf_fi p 2 2) = 0 then 0 else (jf_pw (jf_at p (jf_E p 2)) (n).toNat)))), none, some (aI 3), some (aI (jf_fi p 3 1)), some (aI 1)], [aI (if (jf_fi p 3 1) = 0 then 0 else (if (jf_E p 1) = (jf_E p 3) then 0 else 1))], M)
  refine hR _ (?_)
  show R (53, [some (aR 4 0), some (aI n), some (aL (((0 + (jf_pw (jf_at p (jf_E p 0)) (n).toNat)) + (if (jf_fi p 1 1) = 0 then 0 else (jf_pw (jf_at p (jf_E p 1)) (n).toNat))) + (if (jf_fi p 2 2) = 0 then 0 else (jf_pw (jf_at p (jf_E p 2)) (n).toNat)))), none, some (aI 3), some (aI (if (jf_fi p 3 1) = 0 then 0 else (if (jf_E p 1) = (jf_E p 3) then 0 else 1))), some (aI 1)], [], M)
  show R (53, [some (aR 4 0), some (aI n), some (aL (((0 + (jf_pw (jf_at p (jf_E p 0)) (n).toNat)) + (if (jf_fi p 1 1) = 0 then 0 else (jf_pw (jf_at p (jf_E p 1)) (n).toNat))) + (if (jf_fi p 2 2) = 0 then 0 else (jf_pw (jf_at p (jf_E p 2)) (n).toNat)))), none, some (aI 3), some (aI (jf_fi p 3 2)), some (aI 1)], [], M)
  refine hR _ (hR _ (hR _ (hR _ (hR _ (am_brf (rg := am_in 2 ∧ am_in 3) (P := 3 ≤ 2) (A := R (59, [some (aR 4 0), some (aI n), some (aL (((0 + (jf_pw (jf_at p (jf_E p 0)) (n).toNat)) + (if (jf_fi p 1 1) = 0 then 0 else (jf_pw (jf_at p (jf_E p 1)) (n).toNat))) + (if (jf_fi p 2 2) = 0 then 0 else (jf_pw (jf_at p (jf_E p 2)) (n).toNat)))), none, some (aI 3), some (aI (jf_fi p 3 2)), some (aI 2)], [], M)) (B := R (24, [some (aR 4 0), some (aI n), some (aL (((0 + (jf_pw (jf_at p (jf_E p 0)) (n).toNat)) + (if (jf_fi p 1 1) = 0 then 0 else (jf_pw (jf_at p (jf_E p 1)) (n).toNat))) + (if (jf_fi p 2 2) = 0 then 0 else (jf_pw (jf_at p (jf_E p 2)) (n).toNat)))), none, some (aI 3), some (aI (jf_fi p 3 2)), some (aI 2)], [], M)) (by omega) (by omega) ?_)))))
  show R (24, [some (aR 4 0), some (aI n), some (aL (((0 + (jf_pw (jf_at p (jf_E p 0)) (n).toNat)) + (if (jf_fi p 1 1) = 0 then 0 else (jf_pw (jf_at p (jf_E p 1)) (n).toNat))) + (if (jf_fi p 2 2) = 0 then 0 else (jf_pw (jf_at p (jf_E p 2)) (n).toNat)))), none, some (aI 3), some (aI (jf_fi p 3 2)), some (aI 2)], [], M)
  refine hR _ (?_)
  show R (26, [some (aR 4 0), some (aI n), some (aL (((0 + (jf_pw (jf_at p (jf_E p 0)) (n).toNat)) + (if (jf_fi p 1 1) = 0 then 0 else (jf_pw (jf_at p (jf_E p 1)) (n).toNat))) + (if (jf_fi p 2 2) = 0 then 0 else (jf_pw (jf_at p (jf_E p 2)) (n).toNat)))), none, some (aI 3), some (aI (jf_fi p 3 2)), some (aI 2)], [aI (jf_fi p 3 2)], M)
  suffices hJ : R (51, [some (aR 4 0), some (aI n), some (aL (((0 + (jf_pw (jf_at p (jf_E p 0)) (n).toNat)) + (if (jf_fi p 1 1) = 0 then 0 else (jf_pw (jf_at p (jf_E p 1)) (n).toNat))) + (if (jf_fi p 2 2) = 0 then 0 else (jf_pw (jf_at p (jf_E p 2)) (n).toNat)))), none, some (aI 3), some (aI (jf_fi p 3 2)), some (aI 2)], [aI (if (jf_fi p 3 2) = 0 then 0 else (if (jf_E p 2) = (jf_E p 3) then 0 else 1))], M) by
    refine hR _ (am_brc (rg := am_in (jf_fi p 3 2)) (P := (jf_fi p 3 2) = 0) (A := R (50, [some (aR 4 0), some (aI n), some (aL (((0 + (jf_pw (jf_at p (jf_E p 0)) (n).toNat)) + (if (jf_fi p 1 1) = 0 then 0 else (jf_pw (jf_at p (jf_E p 1)) (n).toNat))) + (if (jf_fi p 2 2) = 0 then 0 else (jf_pw (jf_at p (jf_E p 2)) (n).toNat)))), none, some (aI 3), some (aI (jf_fi p 3 2)), some (aI 2)], [], M)) (B := R (29, [some (aR 4 0), some (aI n), some (aL (((0 + (jf_pw (jf_at p (jf_E p 0)) (n).toNat)) + (if (jf_fi p 1 1) = 0 then 0 else (jf_pw (jf_at p (jf_E p 1)) (n).toNat))) + (if (jf_fi p 2 2) = 0 then 0 else (jf_pw (jf_at p (jf_E p 2)) (n).toNat)))), none, some (aI 3), some (aI (jf_fi p 3 2)), some (aI 2)], [], M)) (by omega) (fun c26 => ?_) (fun c26 => ?_))
    · refine hR _ (?_)
      show R (51, [some (aR 4 0), some (aI n), some (aL (((0 + (jf_pw (jf_at p (jf_E p 0)) (n).toNat)) + (if (jf_fi p 1 1) = 0 then 0 else (jf_pw (jf_at p (jf_E p 1)) (n).toNat))) + (if (jf_fi p 2 2) = 0 then 0 else (jf_pw (jf_at p (jf_E p 2)) (n).toNat)))), none, some (aI 3), some (aI (jf_fi p 3 2)), some (aI 2)], [aI 0], M)
      rw [if_pos (show (jf_fi p 3 2) = 0 by omega)] at hJ
      exact hJ
    · refine hR _ (hR _ (hR _ (?_)))
      show R (35, [some (aR 4 0), some (aI n), some (aL (((0 + (jf_pw (jf_at p (jf_E p 0)) (n).toNat)) + (if (jf_fi p 1 1) = 0 then 0 else (jf_pw (jf_at p (jf_E p 1)) (n).toNat))) + (if (jf_fi p 2 2) = 0 then 0 else (jf_pw (jf_at p (jf_E p 2)) (n).toNat)))), none, some (aI 3), some (aI (jf_fi p 3 2)), some (aI 2)], [aI 2, aR 12 0], M)
      refine hR _ ⟨(show 0 ≤ (2 : Int) ∧ (2 : Int) < 5 from (by omega)), ?_⟩
      show R (36, [some (aR 4 0), some (aI n), some (aL (((0 + (jf_pw (jf_at p (jf_E p 0)) (n).toNat)) + (if (jf_fi p 1 1) = 0 then 0 else (jf_pw (jf_at p (jf_E p 1)) (n).toNat))) + (if (jf_fi p 2 2) = 0 then 0 else (jf_pw (jf_at p (jf_E p 2)) (n).toNat)))), none, some (aI 3), some (aI (jf_fi p 3 2)), some (aI 2)], [aI (M 12 0 2)], M)
      rw [(hthr 2 (by omega)).1]
      show R (36, [some (aR 4 0), some (aI n), some (aL (((0 + (jf_pw (jf_at p (jf_E p 0)) (n).toNat)) + (if (jf_fi p 1 1) = 0 then 0 else (jf_pw (jf_at p (jf_E p 1)) (n).toNat))) + (if (jf_fi p 2 2) = 0 then 0 else (jf_pw (jf_at p (jf_E p 2)) (n).toNat)))), none, some (aI 3), some (aI (jf_fi p 3 2)), some (aI 2)], [aI (jf_E p 2)], M)
      refine hR _ (hR _ (hR _ (?_)))
      show R (42, [some (aR 4 0), some (aI n), some (aL (((0 + (jf_pw (jf_at p (jf_E p 0)) (n).toNat)) + (if (jf_fi p 1 1) = 0 then 0 else (jf_pw (jf_at p (jf_E p 1)) (n).toNat))) + (if (jf_fi p 2 2) = 0 then 0 else (jf_pw (jf_at p (jf_E p 2)) (n).toNat)))), none, some (aI 3), some (aI (jf_fi p 3 2)), some (aI 2)], [aI 3, aR 12 0, aI (jf_E p 2)], M)
      refine hR _ ⟨(show 0 ≤ (3 : Int) ∧ (3 : Int) < 5 from (by omega)), ?_⟩
      show R (43, [some (aR 4 0), some (aI n), some (aL (((0 + (jf_pw (jf_at p (jf_E p 0)) (n).toNat)) + (if (jf_fi p 1 1) = 0 then 0 else (jf_pw (jf_at p (jf_E p 1)) (n).toNat))) + (if (jf_fi p 2 2) = 0 then 0 else (jf_pw (jf_at p (jf_E p 2)) (n).toNat)))), none, some (aI 3), some (aI (jf_fi p 3 2)), some (aI 2)], [aI (M 12 0 3), aI (jf_E p 2)], M)
      rw [(hthr 3 (by omega)).1]
      show R (43, [some (aR 4 0), some (aI n), some (aL (((0 + (jf_pw (jf_at p (jf_E p 0)) (n).toNat)) + (if (jf_fi p 1 1) = 0 then 0 else (jf_pw (jf_at p (jf_E p 1)) (n).toNat))) + (if (jf_fi p 2 2) = 0 then 0 else (jf_pw (jf_at p (jf_E p 2)) (n).toNat)))), none, some (aI 3), some (aI (jf_fi p 3 2)), some (aI 2)], [aI (jf_E p 3), aI (jf_E p 2)], M)
      suffices hJ : R (51, [some (aR 4 0), some (aI n), some (aL (((0 + (jf_pw (jf_at p (jf_E p 0)) (n).toNat)) + (if (jf_fi p 1 1) = 0 then 0 else (jf_pw (jf_at p (jf_E p 1)) (n).toNat))) + (if (jf_fi p 2 2) = 0 then 0 else (jf_pw (jf_at p (jf_E p 2)) (n).toNat)))), none, some (aI 3), some (aI (jf_fi p 3 2)), some (aI 2)], [aI (if (jf_E p 2) = (jf_E p 3) then 0 else 1)], M) by
        refine hR _ (am_brc (rg := am_in (jf_E p 2) ∧ am_in (jf_E p 3)) (P := (jf_E p 2) = (jf_E p 3)) (A := R (50, [some (aR 4 0), some (aI n), some (aL (((0 + (jf_pw (jf_at p (jf_E p 0)) (n).toNat)) + (if (jf_fi p 1 1) = 0 then 0 else (jf_pw (jf_at p (jf_E p 1)) (n).toNat))) + (if (jf_fi p 2 2) = 0 then 0 else (jf_pw (jf_at p (jf_E p 2)) (n).toNat)))), none, some (aI 3), some (aI (jf_fi p 3 2)), some (aI 2)], [], M)) (B := R (46, [some (aR 4 0), some (aI n), some (aL (((0 + (jf_pw (jf_at p (jf_E p 0)) (n).toNat)) + (if (jf_fi p 1 1) = 0 then 0 else (jf_pw (jf_at p (jf_E p 1)) (n).toNat))) + (if (jf_fi p 2 2) = 0 then 0 else (jf_pw (jf_at p (jf_E p 2)) (n).toNat)))), none, some (aI 3), some (aI (jf_fi p 3 2)), some (aI 2)], [], M)) (by omega) (fun c43 => ?_) (fun c43 => ?_))
        · refine hR _ (?_)
          show R (51, [some (aR 4 0), some (aI n), some (aL (((0 + (jf_pw (jf_at p (jf_E p 0)) (n).toNat)) + (if (jf_fi p 1 1) = 0 then 0 else (jf_pw (jf_at p (jf_E p 1)) (n).toNat))) + (if (jf_fi p 2 2) = 0 then 0 else (jf_pw (jf_at p (jf_E p 2)) (n).toNat)))), none, some (aI 3), some (aI (jf_fi p 3 2)), some (aI 2)], [aI 0], M)
          rw [if_pos (show (jf_E p 2) = (jf_E p 3) by omega)] at hJ
          exact hJ
        · refine hR _ (hR _ (?_))
          show R (51, [some (aR 4 0), some (aI n), some (aL (((0 + (jf_pw (jf_at p (jf_E p 0)) (n).toNat)) + (if (jf_fi p 1 1) = 0 then 0 else (jf_pw (jf_at p (jf_E p 1)) (n).toNat))) + (if (jf_fi p 2 2) = 0 then 0 else (jf_pw (jf_at p (jf_E p 2)) (n).toNat)))), none, some (aI 3), some (aI (jf_fi p 3 2)), some (aI 2)], [aI 1], M)
          rw [if_neg (show ¬ ((jf_E p 2) = (jf_E p 3)) by omega)] at hJ
          exact hJ
      show R (51, [some (aR 4 0), some (aI n), some (aL (((0 + (jf_pw (jf_at p (jf_E p 0)) (n).toNat)) + (if (jf_fi p 1 1) = 0 then 0 else (jf_pw (jf_at p (jf_E p 1)) (n).toNat))) + (if (jf_fi p 2 2) = 0 then 0 else (jf_pw (jf_at p (jf_E p 2)) (n).toNat)))), none, some (aI 3), some (aI (jf_fi p 3 2)), some (aI 2)], [aI (if (jf_E p 2) = (jf_E p 3) then 0 else 1)], M)
      rw [if_neg (show ¬ ((jf_fi p 3 2) = 0) by omega)] at hJ
      exact hJ
  show R (51, [some (aR 4 0), some (aI n), some (aL (((0 + (jf_pw (jf_at p (jf_E p 0)) (n).toNat)) + (if (jf_fi p 1 1) = 0 then 0 else (jf_pw (jf_at p (jf_E p 1)) (n).toNat))) + (if (jf_fi p 2 2) = 0 then 0 else (jf_pw (jf_at p (jf_E p 2)) (n).toNat)))), none, some (aI 3), some (aI (jf_fi p 3 2)), some (aI 2)], [aI (if (jf_fi p 3 2) = 0 then 0 else (if (jf_E p 2) = (jf_E p 3) then 0 else 1))], M)
  refine hR _ (?_)
  show R (53, [some (aR 4 0), some (aI n), some (aL (((0 + (jf_pw (jf_at p (jf_E p 0)) (n).toNat)) + (if (jf_fi p 1 1) = 0 then 0 else (jf_pw (jf_at p (jf_E p 1)) (n).toNat))) + (if (jf_fi p 2 2) = 0 then 0 else (jf_pw (jf_at p (jf_E p 2)) (n).toNat)))), none, some (aI 3), some (aI (if (jf_fi p 3 2) = 0 then 0 else (if (jf_E p 2) = (jf_E p 3) then 0 else 1))), some (aI 2)], [], M)
  show R (53, [some (aR 4 0), some (aI n), some (aL (((0 + (jf_pw (jf_at p (jf_E p 0)) (n).toNat)) + (if (jf_fi p 1 1) = 0 then 0 else (jf_pw (jf_at p (jf_E p 1)) (n).toNat))) + (if (jf_fi p 2 2) = 0 then 0 else (jf_pw (jf_at p (jf_E p 2)) (n).toNat)))), none, some (aI 3), some (aI (jf_fi p 3 3)), some (aI 2)], [], M)
  refine hR _ (hR _ (hR _ (hR _ (hR _ (am_brt (rg := am_in 3 ∧ am_in 3) (P := (3 : Int) ≤ 3) (A := R (59, [some (aR 4 0), some (aI n), some (aL (((0 + (jf_pw (jf_at p (jf_E p 0)) (n).toNat)) + (if (jf_fi p 1 1) = 0 then 0 else (jf_pw (jf_at p (jf_E p 1)) (n).toNat))) + (if (jf_fi p 2 2) = 0 then 0 else (jf_pw (jf_at p (jf_E p 2)) (n).toNat)))), none, some (aI 3), some (aI (jf_fi p 3 3)), some (aI 3)], [], M)) (B := R (24, [some (aR 4 0), some (aI n), some (aL (((0 + (jf_pw (jf_at p (jf_E p 0)) (n).toNat)) + (if (jf_fi p 1 1) = 0 then 0 else (jf_pw (jf_at p (jf_E p 1)) (n).toNat))) + (if (jf_fi p 2 2) = 0 then 0 else (jf_pw (jf_at p (jf_E p 2)) (n).toNat)))), none, some (aI 3), some (aI (jf_fi p 3 3)), some (aI 3)], [], M)) (by omega) (by omega) ?_)))))
  show R (59, [some (aR 4 0), some (aI n), some (aL (((0 + (jf_pw (jf_at p (jf_E p 0)) (n).toNat)) + (if (jf_fi p 1 1) = 0 then 0 else (jf_pw (jf_at p (jf_E p 1)) (n).toNat))) + (if (jf_fi p 2 2) = 0 then 0 else (jf_pw (jf_at p (jf_E p 2)) (n).toNat)))), none, some (aI 3), some (aI (jf_fi p 3 3)), some (aI 3)], [], M)
  refine hR _ (?_)
  show R (61, [some (aR 4 0), some (aI n), some (aL (((0 + (jf_pw (jf_at p (jf_E p 0)) (n).toNat)) + (if (jf_fi p 1 1) = 0 then 0 else (jf_pw (jf_at p (jf_E p 1)) (n).toNat))) + (if (jf_fi p 2 2) = 0 then 0 else (jf_pw (jf_at p (jf_E p 2)) (n).toNat)))), none, some (aI 3), some (aI (jf_fi p 3 3)), some (aI 3)], [aI (jf_fi p 3 3)], M)
  suffices hJ : R (82, [some (aR 4 0), some (aI n), some (aL ((((0 + (jf_pw (jf_at p (jf_E p 0)) (n).toNat)) + (if (jf_fi p 1 1) = 0 then 0 else (jf_pw (jf_at p (jf_E p 1)) (n).toNat))) + (if (jf_fi p 2 2) = 0 then 0 else (jf_pw (jf_at p (jf_E p 2)) (n).toNat))) + (if (jf_fi p 3 3) = 0 then 0 else (jf_pw (jf_at p (jf_E p 3)) (n).toNat)))), none, some (aI 3), some (aI (jf_fi p 3 3)), some (aI 3)], [], M) by
    refine hR _ (am_brc (rg := am_in (jf_fi p 3 3)) (P := (jf_fi p 3 3) = 0) (A := R (82, [some (aR 4 0), some (aI n), some (aL (((0 + (jf_pw (jf_at p (jf_E p 0)) (n).toNat)) + (if (jf_fi p 1 1) = 0 then 0 else (jf_pw (jf_at p (jf_E p 1)) (n).toNat))) + (if (jf_fi p 2 2) = 0 then 0 else (jf_pw (jf_at p (jf_E p 2)) (n).toNat)))), none, some (aI 3), some (aI (jf_fi p 3 3)), some (aI 3)], [], M)) (B := R (64, [some (aR 4 0), some (aI n), some (aL (((0 + (jf_pw (jf_at p (jf_E p 0)) (n).toNat)) + (if (jf_fi p 1 1) = 0 then 0 else (jf_pw (jf_at p (jf_E p 1)) (n).toNat))) + (if (jf_fi p 2 2) = 0 then 0 else (jf_pw (jf_at p (jf_E p 2)) (n).toNat)))), none, some (aI 3), some (aI (jf_fi p 3 3)), some (aI 3)], [], M)) (by omega) (fun c61 => ?_) (fun c61 => ?_))
    · rw [if_pos (show (jf_fi p 3 3) = 0 by omega), Int.add_zero] at hJ
      exact hJ
    · refine hR _ (hR _ (hR _ (hR _ (hR _ (?_)))))
      show R (72, [some (aR 4 0), some (aI n), some (aL (((0 + (jf_pw (jf_at p (jf_E p 0)) (n).toNat)) + (if (jf_fi p 1 1) = 0 then 0 else (jf_pw (jf_at p (jf_E p 1)) (n).toNat))) + (if (jf_fi p 2 2) = 0 then 0 else (jf_pw (jf_at p (jf_E p 2)) (n).toNat)))), none, some (aI 3), some (aI (jf_fi p 3 3)), some (aI 3)], [aI 3, aR 12 0, aR 4 0, aL (((0 + (jf_pw (jf_at p (jf_E p 0)) (n).toNat)) + (if (jf_fi p 1 1) = 0 then 0 else (jf_pw (jf_at p (jf_E p 1)) (n).toNat))) + (if (jf_fi p 2 2) = 0 then 0 else (jf_pw (jf_at p (jf_E p 2)) (n).toNat)))], M)
      refine hR _ ⟨(show 0 ≤ (3 : Int) ∧ (3 : Int) < 5 from (by omega)), ?_⟩
      show R (73, [some (aR 4 0), some (aI n), some (aL (((0 + (jf_pw (jf_at p (jf_E p 0)) (n).toNat)) + (if (jf_fi p 1 1) = 0 then 0 else (jf_pw (jf_at p (jf_E p 1)) (n).toNat))) + (if (jf_fi p 2 2) = 0 then 0 else (jf_pw (jf_at p (jf_E p 2)) (n).toNat)))), none, some (aI 3), some (aI (jf_fi p 3 3)), some (aI 3)], [aI (M 12 0 3), aR 4 0, aL (((0 + (jf_pw (jf_at p (jf_E p 0)) (n).toNat)) + (if (jf_fi p 1 1) = 0 then 0 else (jf_pw (jf_at p (jf_E p 1)) (n).toNat))) + (if (jf_fi p 2 2) = 0 then 0 else (jf_pw (jf_at p (jf_E p 2)) (n).toNat)))], M)
      rw [(hthr 3 (by omega)).1]
      show R (73, [some (aR 4 0), some (aI n), some (aL (((0 + (jf_pw (jf_at p (jf_E p 0)) (n).toNat)) + (if (jf_fi p 1 1) = 0 then 0 else (jf_pw (jf_at p (jf_E p 1)) (n).toNat))) + (if (jf_fi p 2 2) = 0 then 0 else (jf_pw (jf_at p (jf_E p 2)) (n).toNat)))), none, some (aI 3), some (aI (jf_fi p 3 3)), some (aI 3)], [aI (jf_E p 3), aR 4 0, aL (((0 + (jf_pw (jf_at p (jf_E p 0)) (n).toNat)) + (if (jf_fi p 1 1) = 0 then 0 else (jf_pw (jf_at p (jf_E p 1)) (n).toNat))) + (if (jf_fi p 2 2) = 0 then 0 else (jf_pw (jf_at p (jf_E p 2)) (n).toNat)))], M)
      refine hR _ (sp_oftenAt (by omega) hok hth (by omega) ?_)
      have hat73 := jf_at_b hok ((jf_E p 3))
      show R (76, [some (aR 4 0), some (aI n), some (aL (((0 + (jf_pw (jf_at p (jf_E p 0)) (n).toNat)) + (if (jf_fi p 1 1) = 0 then 0 else (jf_pw (jf_at p (jf_E p 1)) (n).toNat))) + (if (jf_fi p 2 2) = 0 then 0 else (jf_pw (jf_at p (jf_E p 2)) (n).toNat)))), none, some (aI 3), some (aI (jf_fi p 3 3)), some (aI 3)], [aL (jf_at p (jf_E p 3)), aL (((0 + (jf_pw (jf_at p (jf_E p 0)) (n).toNat)) + (if (jf_fi p 1 1) = 0 then 0 else (jf_pw (jf_at p (jf_E p 1)) (n).toNat))) + (if (jf_fi p 2 2) = 0 then 0 else (jf_pw (jf_at p (jf_E p 2)) (n).toNat)))], M)
      refine hR _ (?_)
      show R (77, [some (aR 4 0), some (aI n), some (aL (((0 + (jf_pw (jf_at p (jf_E p 0)) (n).toNat)) + (if (jf_fi p 1 1) = 0 then 0 else (jf_pw (jf_at p (jf_E p 1)) (n).toNat))) + (if (jf_fi p 2 2) = 0 then 0 else (jf_pw (jf_at p (jf_E p 2)) (n).toNat)))), none, some (aI 3), some (aI (jf_fi p 3 3)), some (aI 3)], [aI n, aL (jf_at p (jf_E p 3)), aL (((0 + (jf_pw (jf_at p (jf_E p 0)) (n).toNat)) + (if (jf_fi p 1 1) = 0 then 0 else (jf_pw (jf_at p (jf_E p 1)) (n).toNat))) + (if (jf_fi p 2 2) = 0 then 0 else (jf_pw (jf_at p (jf_E p 2)) (n).toNat)))], M)
      refine hR _ (sp_power (by omega) (by omega) ?_)
      show R (80, [some (aR 4 0), some (aI n), some (aL (((0 + (jf_pw (jf_at p (jf_E p 0)) (n).toNat)) + (if (jf_fi p 1 1) = 0 then 0 else (jf_pw (jf_at p (jf_E p 1)) (n).toNat))) + (if (jf_fi p 2 2) = 0 then 0 else (jf_pw (jf_at p (jf_E p 2)) (n).toNat)))), none, some (aI 3), some (aI (jf_fi p 3 3)), some (aI 3)], [aL (jf_pw (jf_at p (jf_E p 3)) (n).toNat), aL (((0 + (jf_pw (jf_at p (jf_E p 0)) (n).toNat)) + (if (jf_fi p 1 1) = 0 then 0 else (jf_pw (jf_at p (jf_E p 1)) (n).toNat))) + (if (jf_fi p 2 2) = 0 then 0 else (jf_pw (jf_at p (jf_E p 2)) (n).toNat)))], M)
      refine hR _ (hR _ (?_))
      show R (82, [some (aR 4 0), some (aI n), some (aL ((((0 + (jf_pw (jf_at p (jf_E p 0)) (n).toNat)) + (if (jf_fi p 1 1) = 0 then 0 else (jf_pw (jf_at p (jf_E p 1)) (n).toNat))) + (if (jf_fi p 2 2) = 0 then 0 else (jf_pw (jf_at p (jf_E p 2)) (n).toNat))) + (jf_pw (jf_at p (jf_E p 3)) (n).toNat))), none, some (aI 3), some (aI (jf_fi p 3 3)), some (aI 3)], [], M)
      rw [if_neg (show ¬ ((jf_fi p 3 3) = 0) by omega)] at hJ
      exact hJ
  show R (82, [some (aR 4 0), some (aI n), some (aL ((((0 + (jf_pw (jf_at p (jf_E p 0)) (n).toNat)) + (if (jf_fi p 1 1) = 0 then 0 else (jf_pw (jf_at p (jf_E p 1)) (n).toNat))) + (if (jf_fi p 2 2) = 0 then 0 else (jf_pw (jf_at p (jf_E p 2)) (n).toNat))) + (if (jf_fi p 3 3) = 0 then 0 else (jf_pw (jf_at p (jf_E p 3)) (n).toNat)))), none, some (aI 3), some (aI (jf_fi p 3 3)), some (aI 3)], [], M)
  refine hR _ (hR _ (hR _ (hR _ (hR _ (am_brf (rg := am_in 4 ∧ am_in 5) (P := 5 ≤ 4) (A := R (88, [some (aR 4 0), some (aI n), some (aL ((((0 + (jf_pw (jf_at p (jf_E p 0)) (n).toNat)) + (if (jf_fi p 1 1) = 0 then 0 else (jf_pw (jf_at p (jf_E p 1)) (n).toNat))) + (if (jf_fi p 2 2) = 0 then 0 else (jf_pw (jf_at p (jf_E p 2)) (n).toNat))) + (if (jf_fi p 3 3) = 0 then 0 else (jf_pw (jf_at p (jf_E p 3)) (n).toNat)))), none, some (aI 4), some (aI (jf_fi p 3 3)), some (aI 3)], [], M)) (B := R (11, [some (aR 4 0), some (aI n), some (aL ((((0 + (jf_pw (jf_at p (jf_E p 0)) (n).toNat)) + (if (jf_fi p 1 1) = 0 then 0 else (jf_pw (jf_at p (jf_E p 1)) (n).toNat))) + (if (jf_fi p 2 2) = 0 then 0 else (jf_pw (jf_at p (jf_E p 2)) (n).toNat))) + (if (jf_fi p 3 3) = 0 then 0 else (jf_pw (jf_at p (jf_E p 3)) (n).toNat)))), none, some (aI 4), some (aI (jf_fi p 3 3)), some (aI 3)], [], M)) (by omega) (by omega) ?_)))))
  show R (11, [some (aR 4 0), some (aI n), some (aL ((((0 + (jf_pw (jf_at p (jf_E p 0)) (n).toNat)) + (if (jf_fi p 1 1) = 0 then 0 else (jf_pw (jf_at p (jf_E p 1)) (n).toNat))) + (if (jf_fi p 2 2) = 0 then 0 else (jf_pw (jf_at p (jf_E p 2)) (n).toNat))) + (if (jf_fi p 3 3) = 0 then 0 else (jf_pw (jf_at p (jf_E p 3)) (n).toNat)))), none, some (aI 4), some (aI (jf_fi p 3 3)), some (aI 3)], [], M)
  refine hR _ (hR _ (hR _ (hR _ (hR _ (hR _ (hR _ (am_brf (rg := am_in 0 ∧ am_in 4) (P := 4 ≤ 0) (A := R (59, [some (aR 4 0), some (aI n), some (aL ((((0 + (jf_pw (jf_at p (jf_E p 0)) (n).toNat)) + (if (jf_fi p 1 1) = 0 then 0 else (jf_pw (jf_at p (jf_E p 1)) (n).toNat))) + (if (jf_fi p 2 2) = 0 then 0 else (jf_pw (jf_at p (jf_E p 2)) (n).toNat))) + (if (jf_fi p 3 3) = 0 then 0 else (jf_pw (jf_at p (jf_E p 3)) (n).toNat)))), none, some (aI 4), some (aI 1), some (aI 0)], [], M)) (B := R (24, [some (aR 4 0), some (aI n), some (aL ((((0 + (jf_pw (jf_at p (jf_E p 0)) (n).toNat)) + (if (jf_fi p 1 1) = 0 then 0 else (jf_pw (jf_at p (jf_E p 1)) (n).toNat))) + (if (jf_fi p 2 2) = 0 then 0 else (jf_pw (jf_at p (jf_E p 2)) (n).toNat))) + (if (jf_fi p 3 3) = 0 then 0 else (jf_pw (jf_at p (jf_E p 3)) (n).toNat)))), none, some (aI 4), some (aI 1), some (aI 0)], [], M)) (by omega) (by omega) ?_)))))))
  show R (24, [some (aR 4 0), some (aI n), some (aL ((((0 + (jf_pw (jf_at p (jf_E p 0)) (n).toNat)) + (if (jf_fi p 1 1) = 0 then 0 else (jf_pw (jf_at p (jf_E p 1)) (n).toNat))) + (if (jf_fi p 2 2) = 0 then 0 else (jf_pw (jf_at p (jf_E p 2)) (n).toNat))) + (if (jf_fi p 3 3) = 0 then 0 else (jf_pw (jf_at p (jf_E p 3)) (n).toNat)))), none, some (aI 4), some (aI 1), some (aI 0)], [], M)
  refine hR _ (hR _ (am_brf (rg := am_in 1) (P := (1 : Int) = 0) (A := R (50, [some (aR 4 0), some (aI n), some (aL ((((0 + (jf_pw (jf_at p (jf_E p 0)) (n).toNat)) + (if (jf_fi p 1 1) = 0 then 0 else (jf_pw (jf_at p (jf_E p 1)) (n).toNat))) + (if (jf_fi p 2 2) = 0 then 0 else (jf_pw (jf_at p (jf_E p 2)) (n).toNat))) + (if (jf_fi p 3 3) = 0 then 0 else (jf_pw (jf_at p (jf_E p 3)) (n).toNat)))), none, some (aI 4), some (aI 1), some (aI 0)], [], M)) (B := R (29, [some (aR 4 0), some (aI n), some (aL ((((0 + (jf_pw (jf_at p (jf_E p 0)) (n).toNat)) + (if (jf_fi p 1 1) = 0 then 0 else (jf_pw (jf_at p (jf_E p 1)) (n).toNat))) + (if (jf_fi p 2 2) = 0 then 0 else (jf_pw (jf_at p (jf_E p 2)) (n).toNat))) + (if (jf_fi p 3 3) = 0 then 0 else (jf_pw (jf_at p (jf_E p 3)) (n).toNat)))), none, some (aI 4), some (aI 1), some (aI 0)], [], M)) (by omega) (by omega) ?_))
  show R (29, [some (aR 4 0), some (aI n), some (aL ((((0 + (jf_pw (jf_at p (jf_E p 0)) (n).toNat)) + (if (jf_fi p 1 1) = 0 then 0 else (jf_pw (jf_at p (jf_E p 1)) (n).toNat))) + (if (jf_fi p 2 2) = 0 then 0 else (jf_pw (jf_at p (jf_E p 2)) (n).toNat))) + (if (jf_fi p 3 3) = 0 then 0 else (jf_pw (jf_at p (jf_E p 3)) (n).toNat)))), none, some (aI 4), some (aI 1), some (aI 0)], [], M)
  refine hR _ (hR _ (hR _ (?_)))
  show R (35, [some (aR 4 0), some (aI n), some (aL ((((0 + (jf_pw (jf_at p (jf_E p 0)) (n).toNat)) + (if (jf_fi p 1 1) = 0 then 0 else (jf_pw (jf_at p (jf_E p 1)) (n).toNat))) + (if (jf_fi p 2 2) = 0 then 0 else (jf_pw (jf_at p (jf_E p 2)) (n).toNat))) + (if (jf_fi p 3 3) = 0 then 0 else (jf_pw (jf_at p (jf_E p 3)) (n).toNat)))), none, some (aI 4), some (aI 1), some (aI 0)], [aI 0, aR 12 0], M)
  refine hR _ ⟨(show 0 ≤ (0 : Int) ∧ (0 : Int) < 5 from (by omega)), ?_⟩
  show R (36, [some (aR 4 0), some (aI n), some (aL ((((0 + (jf_pw (jf_at p (jf_E p 0)) (n).toNat)) + (if (jf_fi p 1 1) = 0 then 0 else (jf_pw (jf_at p (jf_E p 1)) (n).toNat))) + (if (jf_fi p 2 2) = 0 then 0 else (jf_pw (jf_at p (jf_E p 2)) (n).toNat))) + (if (jf_fi p 3 3) = 0 then 0 else (jf_pw (jf_at p (jf_E p 3)) (n).toNat)))), none, some (aI 4), some (aI 1), some (aI 0)], [aI (M 12 0 0)], M)
  rw [(hthr 0 (by omega)).1]
  show R (36, [some (aR 4 0), some (aI n), some (aL ((((0 + (jf_pw (jf_at p (jf_E p 0)) (n).toNat)) + (if (jf_fi p 1 1) = 0 then 0 else (jf_pw (jf_at p (jf_E p 1)) (n).toNat))) + (if (jf_fi p 2 2) = 0 then 0 else (jf_pw (jf_at p (jf_E p 2)) (n).toNat))) + (if (jf_fi p 3 3) = 0 then 0 else (jf_pw (jf_at p (jf_E p 3)) (n).toNat)))), none, some (aI 4), some (aI 1), some (aI 0)], [aI (jf_E p 0)], M)
  refine hR _ (hR _ (hR _ (?_)))
  show R (42, [some (aR 4 0), some (aI n), some (aL ((((0 + (jf_pw (jf_at p (jf_E p 0)) (n).toNat)) + (if (jf_fi p 1 1) = 0 then 0 else (jf_pw (jf_at p (jf_E p 1)) (n).toNat))) + (if (jf_fi p 2 2) = 0 then 0 else (jf_pw (jf_at p (jf_E p 2)) (n).toNat))) + (if (jf_fi p 3 3) = 0 then 0 else (jf_pw (jf_at p (jf_E p 3)) (n).toNat)))), none, some (aI 4), some (aI 1), some (aI 0)], [aI 4, aR 12 0, aI (jf_E p 0)], M)
  refine hR _ ⟨(show 0 ≤ (4 : Int) ∧ (4 : Int) < 5 from (by omega)), ?_⟩
  show R (43, [some (aR 4 0), some (aI n), some (aL ((((0 + (jf_pw (jf_at p (jf_E p 0)) (n).toNat)) + (if (jf_fi p 1 1) = 0 then 0 else (jf_pw (jf_at p (jf_E p 1)) (n).toNat))) + (if (jf_fi p 2 2) = 0 then 0 else (jf_pw (jf_at p (jf_E p 2)) (n).toNat))) + (if (jf_fi p 3 3) = 0 then 0 else (jf_pw (jf_at p (jf_E p 3)) (n).toNat)))), none, some (aI 4), some (aI 1), some (aI 0)], [aI (M 12 0 4), aI (jf_E p 0)], M)
  rw [(hthr 4 (by omega)).1]
  show R (43, [some (aR 4 0), some (aI n), some (aL ((((0 + (jf_pw (jf_at p (jf_E p 0)) (n).toNat)) + (if (jf_fi p 1 1) = 0 then 0 else (jf_pw (jf_at p (jf_E p 1)) (n).toNat))) + (if (jf_fi p 2 2) = 0 then 0 else (jf_pw (jf_at p (jf_E p 2)) (n).toNat))) + (if (jf_fi p 3 3) = 0 then 0 else (jf_pw (jf_at p (jf_E p 3)) (n).toNat)))), none, some (aI 4), some (aI 1), some (aI 0)], [aI (jf_E p 4), aI (jf_E p 0)], M)
  suffices hJ : R (51, [some (aR 4 0), some (aI n), some (aL ((((0 + (jf_pw (jf_at p (jf_E p 0)) (n).toNat)) + (if (jf_fi p 1 1) = 0 then 0 else (jf_pw (jf_at p (jf_E p 1)) (n).toNat))) + (if (jf_fi p 2 2) = 0 then 0 else (jf_pw (jf_at p (jf_E p 2)) (n).toNat))) + (if (jf_fi p 3 3) = 0 then 0 else (jf_pw (jf_at p (jf_E p 3)) (n).toNat)))), none, some (aI 4), some (aI 1), some (aI 0)], [aI (if (jf_E p 0) = (jf_E p 4) then 0 else 1)], M) by
    refine hR _ (am_brc (rg := am_in (jf_E p 0) ∧ am_in (jf_E p 4)) (P := (jf_E p 0) = (jf_E p 4)) (A := R (50, [some (aR 4 0), some (aI n), some (aL ((((0 + (jf_pw (jf_at p (jf_E p 0)) (n).toNat)) + (if (jf_fi p 1 1) = 0 then 0 else (jf_pw (jf_at p (jf_E p 1)) (n).toNat))) + (if (jf_fi p 2 2) = 0 then 0 else (jf_pw (jf_at p (jf_E p 2)) (n).toNat))) + (if (jf_fi p 3 3) = 0 then 0 else (jf_pw (jf_at p (jf_E p 3)) (n).toNat)))), none, some (aI 4), some (aI 1), some (aI 0)], [], M)) (B := R (46, [some (aR 4 0), some (aI n), some (aL ((((0 + (jf_pw (jf_at p (jf_E p 0)) (n).toNat)) + (if (jf_fi p 1 1) = 0 then 0 else (jf_pw (jf_at p (jf_E p 1)) (n).toNat))) + (if (jf_fi p 2 2) = 0 then 0 else (jf_pw (jf_at p (jf_E p 2)) (n).toNat))) + (if (jf_fi p 3 3) = 0 then 0 else (jf_pw (jf_at p (jf_E p 3)) (n).toNat)))), none, some (aI 4), some (aI 1), some (aI 0)], [], M)) (by omega) (fun c43 => ?_) (fun c43 => ?_))
    · refine hR _ (?_)
      show R (51, [some (aR 4 0), some (aI n), some (aL ((((0 + (jf_pw (jf_at p (jf_E p 0)) (n).toNat)) + (if (jf_fi p 1 1) = 0 then 0 else (jf_pw (jf_at p (jf_E p 1)) (n).toNat))) + (if (jf_fi p 2 2) = 0 then 0 else (jf_pw (jf_at p (jf_E p 2)) (n).toNat))) + (if (jf_fi p 3 3) = 0 then 0 else (jf_pw (jf_at p (jf_E p 3)) (n).toNat)))), none, some (aI 4), some (aI 1), some (aI 0)], [aI 0], M)
      rw [if_pos (show (jf_E p 0) = (jf_E p 4) by omega)] at hJ
      exact hJ
    · refine hR _ (hR _ (?_))
      show R (51, [some (aR 4 0), some (aI n), some (aL ((((0 + (jf_pw (jf_at p (jf_E p 0)) (n).toNat)) + (if (jf_fi p 1 1) = 0 then 0 else (jf_pw (jf_at p (jf_E p 1)) (n).toNat))) + (if (jf_fi p 2 2) = 0 then 0 else (jf_pw (jf_at p (jf_E p 2)) (n).toNat))) + (if (jf_fi p 3 3) = 0 then 0 else (jf_pw (jf_at p (jf_E p 3)) (n).toNat)))), none, some (aI 4), some (aI 1), some (aI 0)], [aI 1], M)
      rw [if_neg (show ¬ ((jf_E p 0) = (jf_E p 4)) by omega)] at hJ
      exact hJ
  show R (51, [some (aR 4 0), some (aI n), some (aL ((((0 + (jf_pw (jf_at p (jf_E p 0)) (n).toNat)) + (if (jf_fi p 1 1) = 0 then 0 else (jf_pw (jf_at p (jf_E p 1)) (n).toNat))) + (if (jf_fi p 2 2) = 0 then 0 else (jf_pw (jf_at p (jf_E p 2)) (n).toNat))) + (if (jf_fi p 3 3) = 0 then 0 else (jf_pw (jf_at p (jf_E p 3)) (n).toNat)))), none, some (aI 4), some (aI 1), some (aI 0)], [aI (if (jf_E p 0) = (jf_E p 4) then 0 else 1)], M)
  refine hR _ (?_)
  show R (53, [some (aR 4 0), some (aI n), some (aL ((((0 + (jf_pw (jf_at p (jf_E p 0)) (n).toNat)) + (if (jf_fi p 1 1) = 0 then 0 else (jf_pw (jf_at p (jf_E p 1)) (n).toNat))) + (if (jf_fi p 2 2) = 0 then 0 else (jf_pw (jf_at p (jf_E p 2)) (n).toNat))) + (if (jf_fi p 3 3) = 0 then 0 else (jf_pw (jf_at p (jf_E p 3)) (n).toNat)))), none, some (aI 4), some (aI (if (jf_E p 0) = (jf_E p 4) then 0 else 1)), some (aI 0)], [], M)
  show R (53, [some (aR 4 0), some (aI n), some (aL ((((0 + (jf_pw (jf_at p (jf_E p 0)) (n).toNat)) + (if (jf_fi p 1 1) = 0 then 0 else (jf_pw (jf_at p (jf_E p 1)) (n).toNat))) + (if (jf_fi p 2 2) = 0 then 0 else (jf_pw (jf_at p (jf_E p 2)) (n).toNat))) + (if (jf_fi p 3 3) = 0 then 0 else (jf_pw (jf_at p (jf_E p 3)) (n).toNat)))), none, some (aI 4), some (aI (jf_fi p 4 1)), some (aI 0)], [], M)
  refine hR _ (hR _ (hR _ (hR _ (hR _ (am_brf (rg := am_in 1 ∧ am_in 4) (P := 4 ≤ 1) (A := R (59, [some (aR 4 0), some (aI n), some (aL ((((0 + (jf_pw (jf_at p (jf_E p 0)) (n).toNat)) + (if (jf_fi p 1 1) = 0 then 0 else (jf_pw (jf_at p (jf_E p 1)) (n).toNat))) + (if (jf_fi p 2 2) = 0 then 0 else (jf_pw (jf_at p (jf_E p 2)) (n).toNat))) + (if (jf_fi p 3 3) = 0 then 0 else (jf_pw (jf_at p (jf_E p 3)) (n).toNat)))), none, some (aI 4), some (aI (jf_fi p 4 1)), some (aI 1)], [], M)) (B := R (24, [some (aR 4 0), some (aI n), some (aL ((((0 + (jf_pw (jf_at p (jf_E p 0)) (n).toNat)) + (if (jf_fi p 1 1) = 0 then 0 else (jf_pw (jf_at p (jf_E p 1)) (n).toNat))) + (if (jf_fi p 2 2) = 0 then 0 else (jf_pw (jf_at p (jf_E p 2)) (n).toNat))) + (if (jf_fi p 3 3) = 0 then 0 else (jf_pw (jf_at p (jf_E p 3)) (n).toNat)))), none, some (aI 4), some (aI (jf_fi p 4 1)), some (aI 1)], [], M)) (by omega) (by omega) ?_)))))
  show R (24, [some (aR 4 0), some (aI n), some (aL ((((0 + (jf_pw (jf_at p (jf_E p 0)) (n).toNat)) + (if (jf_fi p 1 1) = 0 then 0 else (jf_pw (jf_at p (jf_E p 1)) (n).toNat))) + (if (jf_fi p 2 2) = 0 then 0 else (jf_pw (jf_at p (jf_E p 2)) (n).toNat))) + (if (jf_fi p 3 3) = 0 then 0 else (jf_pw (jf_at p (jf_E p 3)) (n).toNat)))), none, some (aI 4), some (aI (jf_fi p 4 1)), some (aI 1)], [], M)
  refine hR _ (?_)
  show R (26, [some (aR 4 0), some (aI n), some (aL ((((0 + (jf_pw (jf_at p (jf_E p 0)) (n).toNat)) + (if (jf_fi p 1 1) = 0 then 0 else (jf_pw (jf_at p (jf_E p 1)) (n).toNat))) + (if (jf_fi p 2 2) = 0 then 0 else (jf_pw (jf_at p (jf_E p 2)) (n).toNat))) + (if (jf_fi p 3 3) = 0 then 0 else (jf_pw (jf_at p (jf_E p 3)) (n).toNat)))), none, some (aI 4), some (aI (jf_fi p 4 1)), some (aI 1)], [aI (jf_fi p 4 1)], M)
  suffices hJ : R (51, [some (aR 4 0), some (aI n), some (aL ((((0 + (jf_pw (jf_at p (jf_E p 0)) (n).toNat)) + (if (jf_fi p 1 1) = 0 then 0 else (jf_pw (jf_at p (jf_E p 1)) (n).toNat))) + (if (jf_fi p 2 2) = 0 then 0 else (jf_pw (jf_at p (jf_E p 2)) (n).toNat))) + (if (jf_fi p 3 3) = 0 then 0 else (jf_pw (jf_at p (jf_E p 3)) (n).toNat)))), none, some (aI 4), some (aI (jf_fi p 4 1)), some (aI 1)], [aI (if (jf_fi p 4 1) = 0 then 0 else (if (jf_E p 1) = (jf_E p 4) then 0 else 1))], M) by
    refine hR _ (am_brc (rg := am_in (jf_fi p 4 1)) (P := (jf_fi p 4 1) = 0) (A := R (50, [some (aR 4 0), some (aI n), some (aL ((((0 + (jf_pw (jf_at p (jf_E p 0)) (n).toNat)) + (if (jf_fi p 1 1) = 0 then 0 else (jf_pw (jf_at p (jf_E p 1)) (n).toNat))) + (if (jf_fi p 2 2) = 0 then 0 else (jf_pw (jf_at p (jf_E p 2)) (n).toNat))) + (if (jf_fi p 3 3) = 0 then 0 else (jf_pw (jf_at p (jf_E p 3)) (n).toNat)))), none, some (aI 4), some (aI (jf_fi p 4 1)), some (aI 1)], [], M)) (B := R (29, [some (aR 4 0), some (aI n), some (aL ((((0 + (jf_pw (jf_at p (jf_E p 0)) (n).toNat)) + (if (jf_fi p 1 1) = 0 then 0 else (jf_pw (jf_at p (jf_E p 1)) (n).toNat))) + (if (jf_fi p 2 2) = 0 then 0 else (jf_pw (jf_at p (jf_E p 2)) (n).toNat))) + (if (jf_fi p 3 3) = 0 then 0 else (jf_pw (jf_at p (jf_E p 3)) (n).toNat)))), none, some (aI 4), some (aI (jf_fi p 4 1)), some (aI 1)], [], M)) (by omega) (fun c26 => ?_) (fun c26 => ?_))
    · refine hR _ (?_)
      show R (51, [some (aR 4 0), some (aI n), some (aL ((((0 + (jf_pw (jf_at p (jf_E p 0)) (n).toNat)) + (if (jf_fi p 1 1) = 0 then 0 else (jf_pw (jf_at p (jf_E p 1)) (n).toNat))) + (if (jf_fi p 2 2) = 0 then 0 else (jf_pw (jf_at p (jf_E p 2)) (n).toNat))) + (if (jf_fi p 3 3) = 0 then 0 else (jf_pw (jf_at p (jf_E p 3)) (n).toNat)))), none, some (aI 4), some (aI (jf_fi p 4 1)), some (aI 1)], [aI 0], M)
      rw [if_pos (show (jf_fi p 4 1) = 0 by omega)] at hJ
      exact hJ
    · refine hR _ (hR _ (hR _ (?_)))
      show R (35, [some (aR 4 0), some (aI n), some (aL ((((0 + (jf_pw (jf_at p (jf_E p 0)) (n).toNat)) + (if (jf_fi p 1 1) = 0 then 0 else (jf_pw (jf_at p (jf_E p 1)) (n).toNat))) + (if (jf_fi p 2 2) = 0 then 0 else (jf_pw (jf_at p (jf_E p 2)) (n).toNat))) + (if (jf_fi p 3 3) = 0 then 0 else (jf_pw (jf_at p (jf_E p 3)) (n).toNat)))), none, some (aI 4), some (aI (jf_fi p 4 1)), some (aI 1)], [aI 1, aR 12 0], M)
      refine hR _ ⟨(show 0 ≤ (1 : Int) ∧ (1 : Int) < 5 from (by omega)), ?_⟩
      show R (36, [some (aR 4 0), some (aI n), some (aL ((((0 + (jf_pw (jf_at p (jf_E p 0)) (n).toNat)) + (if (jf_fi p 1 1) = 0 then 0 else (jf_pw (jf_at p (jf_E p 1)) (n).toNat))) + (if (jf_fi p 2 2) = 0 then 0 else (jf_pw (jf_at p (jf_E p 2)) (n).toNat))) + (if (jf_fi p 3 3) = 0 then 0 else (jf_pw (jf_at p (jf_E p 3)) (n).toNat)))), none, some (aI 4), some (aI (jf_fi p 4 1)), some (aI 1)], [aI (M 12 0 1)], M)
      rw [(hthr 1 (by omega)).1]
      show R (36, [some (aR 4 0), some (aI n), some (aL ((((0 + (jf_pw (jf_at p (jf_E p 0)) (n).toNat)) + (if (jf_fi p 1 1) = 0 then 0 else (jf_pw (jf_at p (jf_E p 1)) (n).toNat))) + (if (jf_fi p 2 2) = 0 then 0 else (jf_pw (jf_at p (jf_E p 2)) (n).toNat))) + (if (jf_fi p 3 3) = 0 then 0 else (jf_pw (jf_at p (jf_E p 3)) (n).toNat)))), none, some (aI 4), some (aI (jf_fi p 4 1)), some (aI 1)], [aI (jf_E p 1)], M)
      refine hR _ (hR _ (hR _ (?_)))
      show R (42, [some (aR 4 0), some (aI n), some (aL ((((0 + (jf_pw (jf_at p (jf_E p 0)) (n).toNat)) + (if (jf_fi p 1 1) = 0 then 0 else (jf_pw (jf_at p (jf_E p 1)) (n).toNat))) + (if (jf_fi p 2 2) = 0 then 0 else (jf_pw (jf_at p (jf_E p 2)) (n).toNat))) + (if (jf_fi p 3 3) = 0 then 0 else (jf_pw (jf_at p (jf_E p 3)) (n).toNat)))), none, some (aI 4), some (aI (jf_fi p 4 1)), some (aI 1)], [aI 4, aR 12 0, aI (jf_E p 1)], M)
      refine hR _ ⟨(show 0 ≤ (4 : Int) ∧ (4 : Int) < 5 from (by omega)), ?_⟩
      show R (43, [some (aR 4 0), some (aI n), some (aL ((((0 + (jf_pw (jf_at p (jf_E p 0)) (n).toNat)) + (if (jf_fi p 1 1) = 0 then 0 else (jf_pw (jf_at p (jf_E p 1)) (n).toNat))) + (if (jf_fi p 2 2) = 0 then 0 else (jf_pw (jf_at p (jf_E p 2)) (n).toNat))) + (if (jf_fi p 3 3) = 0 then 0 else (jf_pw (jf_at p (jf_E p 3)) (n).toNat)))), none, some (aI 4), some (aI (jf_fi p 4 1)), some (aI 1)], [aI (M 12 0 4), aI (jf_E p 1)], M)
      rw [(hthr 4 (by omega)).1]
      show R (43, [some (aR 4 0), some (aI n), some (aL ((((0 + (jf_pw (jf_at p (jf_E p 0)) (n).toNat)) + (if (jf_fi p 1 1) = 0 then 0 else (jf_pw (jf_at p (jf_E p 1)) (n).toNat))) + (if (jf_fi p 2 2) = 0 then 0 else (jf_pw (jf_at p (jf_E p 2)) (n).toNat))) + (if (jf_fi p 3 3) = 0 then 0 else (jf_pw (jf_at p (jf_E p 3)) (n).toNat)))), none, some (aI 4), some (aI (jf_fi p 4 1)), some (aI 1)], [aI (jf_E p 4), aI (jf_E p 1)], M)
      suffices hJ : R (51, [some (aR 4 0), some (aI n), some (aL ((((0 + (jf_pw (jf_at p (jf_E p 0)) (n).toNat)) + (if (jf_fi p 1 1) = 0 then 0 else (jf_pw (jf_at p (jf_E p 1)) (n).toNat))) + (if (jf_fi p 2 2) = 0 then 0 else (jf_pw (jf_at p (jf_E p 2)) (n).toNat))) + (if (jf_fi p 3 3) = 0 then 0 else (jf_pw (jf_at p (jf_E p 3)) (n).toNat)))), none, some (aI 4), some (aI (jf_fi p 4 1)), some (aI 1)], [aI (if (jf_E p 1) = (jf_E p 4) then 0 else 1)], M) by
        refine hR _ (am_brc (rg := am_in (jf_E p 1) ∧ am_in (jf_E p 4)) (P := (jf_E p 1) = (jf_E p 4)) (A := R (50, [some (aR 4 0), some (aI n), some (aL ((((0 + (jf_pw (jf_at p (jf_E p 0)) (n).toNat)) + (if (jf_fi p 1 1) = 0 then 0 else (jf_pw (jf_at p (jf_E p 1)) (n).toNat))) + (if (jf_fi p 2 2) = 0 then 0 else (jf_pw (jf_at p (jf_E p 2)) (n).toNat))) + (if (jf_fi p 3 3) = 0 then 0 else (jf_pw (jf_at p (jf_E p 3)) (n).toNat)))), none, some (aI 4), some (aI (jf_fi p 4 1)), some (aI 1)], [], M)) (B := R (46, [some (aR 4 0), some (aI n), some (aL ((((0 + (jf_pw (jf_at p (jf_E p 0)) (n).toNat)) + (if (jf_fi p 1 1) = 0 then 0 else (jf_pw (jf_at p (jf_E p 1)) (n).toNat))) + (if (jf_fi p 2 2) = 0 then 0 else (jf_pw (jf_at p (jf_E p 2)) (n).toNat))) + (if (jf_fi p 3 3) = 0 then 0 else (jf_pw (jf_at p (jf_E p 3)) (n).toNat)))), none, some (aI 4), some (aI (jf_fi p 4 1)), some (aI 1)], [], M)) (by omega) (fun c43 => ?_) (fun c43 => ?_))
        · refine hR _ (?_)
          show R (51, [some (aR 4 0), some (aI n), some (aL ((((0 + (jf_pw (jf_at p (jf_E p 0)) (n).toNat)) + (if (jf_fi p 1 1) = 0 then 0 else (jf_pw (jf_at p (jf_E p 1)) (n).toNat))) + (if (jf_fi p 2 2) = 0 then 0 else (jf_pw (jf_at p (jf_E p 2)) (n).toNat))) + (if (jf_fi p 3 3) = 0 then 0 else (jf_pw (jf_at p (jf_E p 3)) (n).toNat)))), none, some (aI 4), some (aI (jf_fi p 4 1)), some (aI 1)], [aI 0], M)
          rw [if_pos (show (jf_E p 1) = (jf_E p 4) by omega)] at hJ
          exact hJ
        · refine hR _ (hR _ (?_))
          show R (51, [some (aR 4 0), some (aI n), some (aL ((((0 + (jf_pw (jf_at p (jf_E p 0)) (n).toNat)) + (if (jf_fi p 1 1) = 0 then 0 else (jf_pw (jf_at p (jf_E p 1)) (n).toNat))) + (if (jf_fi p 2 2) = 0 then 0 else (jf_pw (jf_at p (jf_E p 2)) (n).toNat))) + (if (jf_fi p 3 3) = 0 then 0 else (jf_pw (jf_at p (jf_E p 3)) (n).toNat)))), none, some (aI 4), some (aI (jf_fi p 4 1)), some (aI 1)], [aI 1], M)
          rw [if_neg (show ¬ ((jf_E p 1) = (jf_E p 4)) by omega)] at hJ
          exact hJ
      show R (51, [some (aR 4 0), some (aI n), some (aL ((((0 + (jf_pw (jf_at p (jf_E p 0)) (n).toNat)) + (if (jf_fi p 1 1) = 0 then 0 else (jf_pw (jf_at p (jf_E p 1)) (n).toNat))) + (if (jf_fi p 2 2) = 0 then 0 else (jf_pw (jf_at p (jf_E p 2)) (n).toNat))) + (if (jf_fi p 3 3) = 0 then 0 else (jf_pw (jf_at p (jf_E p 3)) (n).toNat)))), none, some (aI 4), some (aI (jf_fi p 4 1)), some (aI 1)], [aI (if (jf_E p 1) = (jf_E p 4) then 0 else 1)], M)
      rw [if_neg (show ¬ ((jf_fi p 4 1) = 0) by omega)] at hJ
      exact hJ
  show R (51, [some (aR 4 0), some (aI n), some (aL ((((0 + (jf_pw (jf_at p (jf_E p 0)) (n).toNat)) + (if (jf_fi p 1 1) = 0 then 0 else (jf_pw (jf_at p (jf_E p 1)) (n).toNat))) + (if (jf_fi p 2 2) = 0 then 0 else (jf_pw (jf_at p (jf_E p 2)) (n).toNat))) + (if (jf_fi p 3 3) = 0 then 0 else (jf_pw (jf_at p (jf_E p 3)) (n).toNat)))), none, some (aI 4), some (aI (jf_fi p 4 1)), some (aI 1)], [aI (if (jf_fi p 4 1) = 0 then 0 else (if (jf_E p 1) = (jf_E p 4) then 0 else 1))], M)
  refine hR _ (?_)
  show R (53, [some (aR 4 0), some (aI n), some (aL ((((0 + (jf_pw (jf_at p (jf_E p 0)) (n).toNat)) + (if (jf_fi p 1 1) = 0 then 0 else (jf_pw (jf_at p (jf_E p 1)) (n).toNat))) + (if (jf_fi p 2 2) = 0 then 0 else (jf_pw (jf_at p (jf_E p 2)) (n).toNat))) + (if (jf_fi p 3 3) = 0 then 0 else (jf_pw (jf_at p (jf_E p 3)) (n).toNat)))), none, some (aI 4), some (aI (if (jf_fi p 4 1) = 0 then 0 else (if (jf_E p 1) = (jf_E p 4) then 0 else 1))), some (aI 1)], [], M)
  show R (53, [some (aR 4 0), some (aI n), some (aL ((((0 + (jf_pw (jf_at p (jf_E p 0)) (n).toNat)) + (if (jf_fi p 1 1) = 0 then 0 else (jf_pw (jf_at p (jf_E p 1)) (n).toNat))) + (if (jf_fi p 2 2) = 0 then 0 else (jf_pw (jf_at p (jf_E p 2)) (n).toNat))) + (if (jf_fi p 3 3) = 0 then 0 else (jf_pw (jf_at p (jf_E p 3)) (n).toNat)))), none, some (aI 4), some (aI (jf_fi p 4 2)), some (aI 1)], [], M)
  refine hR _ (hR _ (hR _ (hR _ (hR _ (am_brf (rg := am_in 2 ∧ am_in 4) (P := 4 ≤ 2) (A := R (59, [some (aR 4 0), some (aI n), some (aL ((((0 + (jf_pw (jf_at p (jf_E p 0)) (n).toNat)) + (if (jf_fi p 1 1) = 0 then 0 else (jf_pw (jf_at p (jf_E p 1)) (n).toNat))) + (if (jf_fi p 2 2) = 0 then 0 else (jf_pw (jf_at p (jf_E p 2)) (n).toNat))) + (if (jf_fi p 3 3) = 0 then 0 else (jf_pw (jf_at p (jf_E p 3)) (n).toNat)))), none, some (aI 4), some (aI (jf_fi p 4 2)), some (aI 2)], [], M)) (B := R (24, [some (aR 4 0), some (aI n), some (aL ((((0 + (jf_pw (jf_at p (jf_E p 0)) (n).toNat)) + (if (jf_fi p 1 1) = 0 then 0 else (jf_pw (jf_at p (jf_E p 1)) (n).toNat))) + (if (jf_fi p 2 2) = 0 then 0 else (jf_pw (jf_at p (jf_E p 2)) (n).toNat))) + (if (jf_fi p 3 3) = 0 then 0 else (jf_pw (jf_at p (jf_E p 3)) (n).toNat)))), none, some (aI 4), some (aI (jf_fi p 4 2)), some (aI 2)], [], M)) (by omega) (by omega) ?_)))))
  show R (24, [some (aR 4 0), some (aI n), some (aL ((((0 + (jf_pw (jf_at p (jf_E p 0)) (n).toNat)) + (if (jf_fi p 1 1) = 0 then 0 else (jf_pw (jf_at p (jf_E p 1)) (n).toNat))) + (if (jf_fi p 2 2) = 0 then 0 else (jf_pw (jf_at p (jf_E p 2)) (n).toNat))) + (if (jf_fi p 3 3) = 0 then 0 else (jf_pw (jf_at p (jf_E p 3)) (n).toNat)))), none, some (aI 4), some (aI (jf_fi p 4 2)), some (aI 2)], [], M)
  refine hR _ (?_)
  show R (26, [some (aR 4 0), some (aI n), some (aL ((((0 + (jf_pw (jf_at p (jf_E p 0)) (n).toNat)) + (if (jf_fi p 1 1) = 0 then 0 else (jf_pw (jf_at p (jf_E p 1)) (n).toNat))) + (if (jf_fi p 2 2) = 0 then 0 else (jf_pw (jf_at p (jf_E p 2)) (n).toNat))) + (if (jf_fi p 3 3) = 0 then 0 else (jf_pw (jf_at p (jf_E p 3)) (n).toNat)))), none, some (aI 4), some (aI (jf_fi p 4 2)), some (aI 2)], [aI (jf_fi p 4 2)], M)
  suffices hJ : R (51, [some (aR 4 0), some (aI n), some (aL ((((0 + (jf_pw (jf_at p (jf_E p 0)) (n).toNat)) + (if (jf_fi p 1 1) = 0 then 0 else (jf_pw (jf_at p (jf_E p 1)) (n).toNat))) + (if (jf_fi p 2 2) = 0 then 0 else (jf_pw (jf_at p (jf_E p 2)) (n).toNat))) + (if (jf_fi p 3 3) = 0 then 0 else (jf_pw (jf_at p (jf_E p 3)) (n).toNat)))), none, some (aI 4), some (aI (jf_fi p 4 2)), some (aI 2)], [aI (if (jf_fi p 4 2) = 0 then 0 else (if (jf_E p 2) = (jf_E p 4) then 0 else 1))], M) by
    refine hR _ (am_brc (rg := am_in (jf_fi p 4 2)) (P := (jf_fi p 4 2) = 0) (A := R (50, [some (aR 4 0), some (aI n), some (aL ((((0 + (jf_pw (jf_at p (jf_E p 0)) (n).toNat)) + (if (jf_fi p 1 1) = 0 then 0 else (jf_pw (jf_at p (jf_E p 1)) (n).toNat))) + (if (jf_fi p 2 2) = 0 then 0 else (jf_pw (jf_at p (jf_E p 2)) (n).toNat))) + (if (jf_fi p 3 3) = 0 then 0 else (jf_pw (jf_at p (jf_E p 3)) (n).toNat)))), none, some (aI 4), some (aI (jf_fi p 4 2)), some (aI 2)], [], M)) (B := R (29, [some (aR 4 0), some (aI n), some (aL ((((0 + (jf_pw (jf_at p (jf_E p 0)) (n).toNat)) + (if (jf_fi p 1 1) = 0 then 0 else (jf_pw (jf_at p (jf_E p 1)) (n).toNat))) + (if (jf_fi p 2 2) = 0 then 0 else (jf_pw (jf_at p (jf_E p 2)) (n).toNat))) + (if (jf_fi p 3 3) = 0 then 0 else (jf_pw (jf_at p (jf_E p 3)) (n).toNat)))), none, some (aI 4), some (aI (jf_fi p 4 2)), some (aI 2)], [], M)) (by omega) (fun c26 => ?_) (fun c26 => ?_))
    · refine hR _ (?_)
      show R (51, [some (aR 4 0), some (aI n), some (aL ((((0 + (jf_pw (jf_at p (jf_E p 0)) (n).toNat)) + (if (jf_fi p 1 1) = 0 then 0 else (jf_pw (jf_at p (jf_E p 1)) (n).toNat))) + (if (jf_fi p 2 2) = 0 then 0 else (jf_pw (jf_at p (jf_E p 2)) (n).toNat))) + (if (jf_fi p 3 3) = 0 then 0 else (jf_pw (jf_at p (jf_E p 3)) (n).toNat)))), none, some (aI 4), some (aI (jf_fi p 4 2)), some (aI 2)], [aI 0], M)
      rw [if_pos (show (jf_fi p 4 2) = 0 by omega)] at hJ
      exact hJ
    · refine hR _ (hR _ (hR _ (?_)))
      show R (35, [some (aR 4 0), some (aI n), some (aL ((((0 + (jf_pw (jf_at p (jf_E p 0)) (n).toNat)) + (if (jf_fi p 1 1) = 0 then 0 else (jf_pw (jf_at p (jf_E p 1)) (n).toNat))) + (if (jf_fi p 2 2) = 0 then 0 else (jf_pw (jf_at p (jf_E p 2)) (n).toNat))) + (if (jf_fi p 3 3) = 0 then 0 else (jf_pw (jf_at p (jf_E p 3)) (n).toNat)))), none, some (aI 4), some (aI (jf_fi p 4 2)), some (aI 2)], [aI 2, aR 12 0], M)
      refine hR _ ⟨(show 0 ≤ (2 : Int) ∧ (2 : Int) < 5 from (by omega)), ?_⟩
      show R (36, [some (aR 4 0), some (aI n), some (aL ((((0 + (jf_pw (jf_at p (jf_E p 0)) (n).toNat)) + (if (jf_fi p 1 1) = 0 then 0 else (jf_pw (jf_at p (jf_E p 1)) (n).toNat))) + (if (jf_fi p 2 2) = 0 then 0 else (jf_pw (jf_at p (jf_E p 2)) (n).toNat))) + (if (jf_fi p 3 3) = 0 then 0 else (jf_pw (jf_at p (jf_E p 3)) (n).toNat)))), none, some (aI 4), some (aI (jf_fi p 4 2)), some (aI 2)], [aI (M 12 0 2)], M)
      rw [(hthr 2 (by omega)).1]
      show R (36, [some (aR 4 0), some (aI n), some (aL ((((0 + (jf_pw (jf_at p (jf_E p 0)) (n).toNat)) + (if (jf_fi p 1 1) = 0 then 0 else (jf_pw (jf_at p (jf_E p 1)) (n).toNat))) + (if (jf_fi p 2 2) = 0 then 0 else (jf_pw (jf_at p (jf_E p 2)) (n).toNat))) + (if (jf_fi p 3 3) = 0 then 0 else (jf_pw (jf_at p (jf_E p 3)) (n).toNat)))), none, some (aI 4), some (aI (jf_fi p 4 2)), some (aI 2)], [aI (jf_E p 2)], M)
      refine hR _ (hR _ (hR _ (?_)))
      show R (42, [some (aR 4 0), some (aI n), some (aL ((((0 + (jf_pw (jf_at p (jf_E p 0)) (n).toNat)) + (if (jf_fi p 1 1) = 0 then 0 else (jf_pw (jf_at p (jf_E p 1)) (n).toNat))) + (if (jf_fi p 2 2) = 0 then 0 else (jf_pw (jf_at p (jf_E p 2)) (n).toNat))) + (if (jf_fi p 3 3) = 0 then 0 else (jf_pw (jf_at p (jf_E p 3)) (n).toNat)))), none, some (aI 4), some (aI (jf_fi p 4 2)), some (aI 2)], [aI 4, aR 12 0, aI (jf_E p 2)], M)
      refine hR _ ⟨(show 0 ≤ (4 : Int) ∧ (4 : Int) < 5 from (by omega)), ?_⟩
      show R (43, [some (aR 4 0), some (aI n), some (aL ((((0 + (jf_pw (jf_at p (jf_E p 0)) (n).toNat)) + (if (jf_fi p 1 1) = 0 then 0 else (jf_pw (jf_at p (jf_E p 1)) (n).toNat))) + (if (jf_fi p 2 2) = 0 then 0 else (jf_pw (jf_at p (jf_E p 2)) (n).toNat))) + (if (jf_fi p 3 3) = 0 then 0 else (jf_pw (jf_at p (jf_E p 3)) (n).toNat)))), none, some (aI 4), some (aI (jf_fi p 4 2)), some (aI 2)], [aI (M 12 0 4), aI (jf_E p 2)], M)
      rw [(hthr 4 (by omega)).1]
      show R (43, [some (aR 4 0), some (aI n), some (aL ((((0 + (jf_pw (jf_at p (jf_E p 0)) (n).toNat)) + (if (jf_fi p 1 1) = 0 then 0 else (jf_pw (jf_at p (jf_E p 1)) (n).toNat))) + (if (jf_fi p 2 2) = 0 then 0 else (jf_pw (jf_at p (jf_E p 2)) (n).toNat))) + (if (jf_fi p 3 3) = 0 then 0 else (jf_pw (jf_at p (jf_E p 3)) (n).toNat)))), none, some (aI 4), some (aI (jf_fi p 4 2)), some (aI 2)], [aI (jf_E p 4), aI (jf_E p 2)], M)
      suffices hJ : R (51, [some (aR 4 0), some (aI n), some (aL ((((0 + (jf_pw (jf_at p (jf_E p 0)) (n).toNat)) + (if (jf_fi p 1 1) = 0 then 0 else (jf_pw (jf_at p (jf_E p 1)) (n).toNat))) + (if (jf_fi p 2 2) = 0 then 0 else (jf_pw (jf_at p (jf_E p 2)) (n).toNat))) + (if (jf_fi p 3 3) = 0 then 0 else (jf_pw (jf_at p (jf_E p 3)) (n).toNat)))), none, some (aI 4), some (aI (jf_fi p 4 2)), some (aI 2)], [aI (if (jf_E p 2) = (jf_E p 4) then 0 else 1)], M) by
        refine hR _ (am_brc (rg := am_in (jf_E p 2) ∧ am_in (jf_E p 4)) (P := (jf_E p 2) = (jf_E p 4)) (A := R (50, [some (aR 4 0), some (aI n), some (aL ((((0 + (jf_pw (jf_at p (jf_E p 0)) (n).toNat)) + (if (jf_fi p 1 1) = 0 then 0 else (jf_pw (jf_at p (jf_E p 1)) (n).toNat))) + (if (jf_fi p 2 2) = 0 then 0 else (jf_pw (jf_at p (jf_E p 2)) (n).toNat))) + (if (jf_fi p 3 3) = 0 then 0 else (jf_pw (jf_at p (jf_E p 3)) (n).toNat)))), none, some (aI 4), some (aI (jf_fi p 4 2)), some (aI 2)], [], M)) (B := R (46, [some (aR 4 0), some (aI n), some (aL ((((0 + (jf_pw (jf_at p (jf_E p 0)) (n).toNat)) + (if (jf_fi p 1 1) = 0 then 0 else (jf_pw (jf_at p (jf_E p 1)) (n).toNat))) + (if (jf_fi p 2 2) = 0 then 0 else (jf_pw (jf_at p (jf_E p 2)) (n).toNat))) + (if (jf_fi p 3 3) = 0 then 0 else (jf_pw (jf_at p (jf_E p 3)) (n).toNat)))), none, some (aI 4), some (aI (jf_fi p 4 2)), some (aI 2)], [], M)) (by omega) (fun c43 => ?_) (fun c43 => ?_))
        · refine hR _ (?_)
          show R (51, [some (aR 4 0), some (aI n), some (aL ((((0 + (jf_pw (jf_at p (jf_E p 0)) (n).toNat)) + (if (jf_fi p 1 1) = 0 then 0 else (jf_pw (jf_at p (jf_E p 1)) (n).toNat))) + (if (jf_fi p 2 2) = 0 then 0 else (jf_pw (jf_at p (jf_E p 2)) (n).toNat))) + (if (jf_fi p 3 3) = 0 then 0 else (jf_pw (jf_at p (jf_E p 3)) (n).toNat)))), none, some (aI 4), some (aI (jf_fi p 4 2)), some (aI 2)], [aI 0], M)
          rw [if_pos (show (jf_E p 2) = (jf_E p 4) by omega)] at hJ
          exact hJ
        · refine hR _ (hR _ (?_))
          show R (51, [some (aR 4 0), some (aI n), some (aL ((((0 + (jf_pw (jf_at p (jf_E p 0)) (n).toNat)) + (if (jf_fi p 1 1) = 0 then 0 else (jf_pw (jf_at p (jf_E p 1)) (n).toNat))) + (if (jf_fi p 2 2) = 0 then 0 else (jf_pw (jf_at p (jf_E p 2)) (n).toNat))) + (if (jf_fi p 3 3) = 0 then 0 else (jf_pw (jf_at p (jf_E p 3)) (n).toNat)))), none, some (aI 4), some (aI (jf_fi p 4 2)), some (aI 2)], [aI 1], M)
          rw [if_neg (show ¬ ((jf_E p 2) = (jf_E p 4)) by omega)] at hJ
          exact hJ
      show R (51, [some (aR 4 0), some (aI n), some (aL ((((0 + (jf_pw (jf_at p (jf_E p 0)) (n).toNat)) + (if (jf_fi p 1 1) = 0 then 0 else (jf_pw (jf_at p (jf_E p 1)) (n).toNat))) + (if (jf_fi p 2 2) = 0 then 0 else (jf_pw (jf_at p (jf_E p 2)) (n).toNat))) + (if (jf_fi p 3 3) = 0 then 0 else (jf_pw (jf_at p (jf_E p 3)) (n).toNat)))), none, some (aI 4), some (aI (jf_fi p 4 2)), some (aI 2)], [aI (if (jf_E p 2) = (jf_E p 4) then 0 else 1)], M)
      rw [if_neg (show ¬ ((jf_fi p 4 2) = 0) by omega)] at hJ
      exact hJ
  show R (51, [some (aR 4 0), some (aI n), some (aL ((((0 + (jf_pw (jf_at p (jf_E p 0)) (n).toNat)) + (if (jf_fi p 1 1) = 0 then 0 else (jf_pw (jf_at p (jf_E p 1)) (n).toNat))) + (if (jf_fi p 2 2) = 0 then 0 else (jf_pw (jf_at p (jf_E p 2)) (n).toNat))) + (if (jf_fi p 3 3) = 0 then 0 else (jf_pw (jf_at p (jf_E p 3)) (n).toNat)))), none, some (aI 4), some (aI (jf_fi p 4 2)), some (aI 2)], [aI (if (jf_fi p 4 2) = 0 then 0 else (if (jf_E p 2) = (jf_E p 4) then 0 else 1))], M)
  refine hR _ (?_)
  show R (53, [some (aR 4 0), some (aI n), some (aL ((((0 + (jf_pw (jf_at p (jf_E p 0)) (n).toNat)) + (if (jf_fi p 1 1) = 0 then 0 else (jf_pw (jf_at p (jf_E p 1)) (n).toNat))) + (if (jf_fi p 2 2) = 0 then 0 else (jf_pw (jf_at p (jf_E p 2)) (n).toNat))) + (if (jf_fi p 3 3) = 0 then 0 else (jf_pw (jf_at p (jf_E p 3)) (n).toNat)))), none, some (aI 4), some (aI (if (jf_fi p 4 2) = 0 then 0 else (if (jf_E p 2) = (jf_E p 4) then 0 else 1))), some (aI 2)], [], M)
  show R (53, [some (aR 4 0), some (aI n), some (aL ((((0 + (jf_pw (jf_at p (jf_E p 0)) (n).toNat)) + (if (jf_fi p 1 1) = 0 then 0 else (jf_pw (jf_at p (jf_E p 1)) (n).toNat))) + (if (jf_fi p 2 2) = 0 then 0 else (jf_pw (jf_at p (jf_E p 2)) (n).toNat))) + (if (jf_fi p 3 3) = 0 then 0 else (jf_pw (jf_at p (jf_E p 3)) (n).toNat)))), none, some (aI 4), some (aI (jf_fi p 4 3)), some (aI 2)], [], M)
  refine hR _ (hR _ (hR _ (hR _ (hR _ (am_brf (rg := am_in 3 ∧ am_in 4) (P := 4 ≤ 3) (A := R (59, [some (aR 4 0), some (aI n), some (aL ((((0 + (jf_pw (jf_at p (jf_E p 0)) (n).toNat)) + (if (jf_fi p 1 1) = 0 then 0 else (jf_pw (jf_at p (jf_E p 1)) (n).toNat))) + (if (jf_fi p 2 2) = 0 then 0 else (jf_pw (jf_at p (jf_E p 2)) (n).toNat))) + (if (jf_fi p 3 3) = 0 then 0 else (jf_pw (jf_at p (jf_E p 3)) (n).toNat)))), none, some (aI 4), some (aI (jf_fi p 4 3)), some (aI 3)], [], M)) (B := R (24, [some (aR 4 0), some (aI n), some (aL ((((0 + (jf_pw (jf_at p (jf_E p 0)) (n).toNat)) + (if (jf_fi p 1 1) = 0 then 0 else (jf_pw (jf_at p (jf_E p 1)) (n).toNat))) + (if (jf_fi p 2 2) = 0 then 0 else (jf_pw (jf_at p (jf_E p 2)) (n).toNat))) + (if (jf_fi p 3 3) = 0 then 0 else (jf_pw (jf_at p (jf_E p 3)) (n).toNat)))), none, some (aI 4), some (aI (jf_fi p 4 3)), some (aI 3)], [], M)) (by omega) (by omega) ?_)))))
  show R (24, [some (aR 4 0), some (aI n), some (aL ((((0 + (jf_pw (jf_at p (jf_E p 0)) (n).toNat)) + (if (jf_fi p 1 1) = 0 then 0 else (jf_pw (jf_at p (jf_E p 1)) (n).toNat))) + (if (jf_fi p 2 2) = 0 then 0 else (jf_pw (jf_at p (jf_E p 2)) (n).toNat))) + (if (jf_fi p 3 3) = 0 then 0 else (jf_pw (jf_at p (jf_E p 3)) (n).toNat)))), none, some (aI 4), some (aI (jf_fi p 4 3)), some (aI 3)], [], M)
  refine hR _ (?_)
  show R (26, [some (aR 4 0), some (aI n), some (aL ((((0 + (jf_pw (jf_at p (jf_E p 0)) (n).toNat)) + (if (jf_fi p 1 1) = 0 then 0 else (jf_pw (jf_at p (jf_E p 1)) (n).toNat))) + (if (jf_fi p 2 2) = 0 then 0 else (jf_pw (jf_at p (jf_E p 2)) (n).toNat))) + (if (jf_fi p 3 3) = 0 then 0 else (jf_pw (jf_at p (jf_E p 3)) (n).toNat)))), none, some (aI 4), some (aI (jf_fi p 4 3)), some (aI 3)], [aI (jf_fi p 4 3)], M)
  suffices hJ : R (51, [some (aR 4 0), some (aI n), some (aL ((((0 + (jf_pw (jf_at p (jf_E p 0)) (n).toNat)) + (if (jf_fi p 1 1) = 0 then 0 else (jf_pw (jf_at p (jf_E p 1)) (n).toNat))) + (if (jf_fi p 2 2) = 0 then 0 else (jf_pw (jf_at p (jf_E p 2)) (n).toNat))) + (if (jf_fi p 3 3) = 0 then 0 else (jf_pw (jf_at p (jf_E p 3)) (n).toNat)))), none, some (aI 4), some (aI (jf_fi p 4 3)), some (aI 3)], [aI (if (jf_fi p 4 3) = 0 then 0 else (if (jf_E p 3) = (jf_E p 4) then 0 else 1))], M) by
    refine hR _ (am_brc (rg := am_in (jf_fi p 4 3)) (P := (jf_fi p 4 3) = 0) (A := R (50, [some (aR 4 0), some (aI n), some (aL ((((0 + (jf_pw (jf_at p (jf_E p 0)) (n).toNat)) + (if (jf_fi p 1 1) = 0 then 0 else (jf_pw (jf_at p (jf_E p 1)) (n).toNat))) + (if (jf_fi p 2 2) = 0 then 0 else (jf_pw (jf_at p (jf_E p 2)) (n).toNat))) + (if (jf_fi p 3 3) = 0 then 0 else (jf_pw (jf_at p (jf_E p 3)) (n).toNat)))), none, some (aI 4), some (aI (jf_fi p 4 3)), some (aI 3)], [], M)) (B := R (29, [some (aR 4 0), some (aI n), some (aL ((((0 + (jf_pw (jf_at p (jf_E p 0)) (n).toNat)) + (if (jf_fi p 1 1) = 0 then 0 else (jf_pw (jf_at p (jf_E p 1)) (n).toNat))) + (if (jf_fi p 2 2) = 0 then 0 else (jf_pw (jf_at p (jf_E p 2)) (n).toNat))) + (if (jf_fi p 3 3) = 0 then 0 else (jf_pw (jf_at p (jf_E p 3)) (n).toNat)))), none, some (aI 4), some (aI (jf_fi p 4 3)), some (aI 3)], [], M)) (by omega) (fun c26 => ?_) (fun c26 => ?_))
    · refine hR _ (?_)
      show R (51, [some (aR 4 0), some (aI n), some (aL ((((0 + (jf_pw (jf_at p (jf_E p 0)) (n).toNat)) + (if (jf_fi p 1 1) = 0 then 0 else (jf_pw (jf_at p (jf_E p 1)) (n).toNat))) + (if (jf_fi p 2 2) = 0 then 0 else (jf_pw (jf_at p (jf_E p 2)) (n).toNat))) + (if (jf_fi p 3 3) = 0 then 0 else (jf_pw (jf_at p (jf_E p 3)) (n).toNat)))), none, some (aI 4), some (aI (jf_fi p 4 3)), some (aI 3)], [aI 0], M)
      rw [if_pos (show (jf_fi p 4 3) = 0 by omega)] at hJ
      exact hJ
    · refine hR _ (hR _ (hR _ (?_)))
      show R (35, [some (aR 4 0), some (aI n), some (aL ((((0 + (jf_pw (jf_at p (jf_E p 0)) (n).toNat)) + (if (jf_fi p 1 1) = 0 then 0 else (jf_pw (jf_at p (jf_E p 1)) (n).toNat))) + (if (jf_fi p 2 2) = 0 then 0 else (jf_pw (jf_at p (jf_E p 2)) (n).toNat))) + (if (jf_fi p 3 3) = 0 then 0 else (jf_pw (jf_at p (jf_E p 3)) (n).toNat)))), none, some (aI 4), some (aI (jf_fi p 4 3)), some (aI 3)], [aI 3, aR 12 0], M)
      refine hR _ ⟨(show 0 ≤ (3 : Int) ∧ (3 : Int) < 5 from (by omega)), ?_⟩
      show R (36, [some (aR 4 0), some (aI n), some (aL ((((0 + (jf_pw (jf_at p (jf_E p 0)) (n).toNat)) + (if (jf_fi p 1 1) = 0 then 0 else (jf_pw (jf_at p (jf_E p 1)) (n).toNat))) + (if (jf_fi p 2 2) = 0 then 0 else (jf_pw (jf_at p (jf_E p 2)) (n).toNat))) + (if (jf_fi p 3 3) = 0 then 0 else (jf_pw (jf_at p (jf_E p 3)) (n).toNat)))), none, some (aI 4), some (aI (jf_fi p 4 3)), some (aI 3)], [aI (M 12 0 3)], M)
      rw [(hthr 3 (by omega)).1]
      show R (36, [some (aR 4 0), some (aI n), some (aL ((((0 + (jf_pw (jf_at p (jf_E p 0)) (n).toNat)) + (if (jf_fi p 1 1) = 0 then 0 else (jf_pw (jf_at p (jf_E p 1)) (n).toNat))) + (if (jf_fi p 2 2) = 0 then 0 else (jf_pw (jf_at p (jf_E p 2)) (n).toNat))) + (if (jf_fi p 3 3) = 0 then 0 else (jf_pw (jf_at p (jf_E p 3)) (n).toNat)))), none, some (aI 4), some (aI (jf_fi p 4 3)), some (aI 3)], [aI (jf_E p 3)], M)
      refine hR _ (hR _ (hR _ (?_)))
      show R (42, [some (aR 4 0), some (aI n), some (aL ((((0 + (jf_pw (jf_at p (jf_E p 0)) (n).toNat)) + (if (jf_fi p 1 1) = 0 then 0 else (jf_pw (jf_at p (jf_E p 1)) (n).toNat))) + (if (jf_fi p 2 2) = 0 then 0 else (jf_pw (jf_at p (jf_E p 2)) (n).toNat))) + (if (jf_fi p 3 3) = 0 then 0 else (jf_pw (jf_at p (jf_E p 3)) (n).toNat)))), none, some (aI 4), some (aI (jf_fi p 4 3)), some (aI 3)], [aI 4, aR 12 0, aI (jf_E p 3)], M)
      refine hR _ ⟨(show 0 ≤ (4 : Int) ∧ (4 : Int) < 5 from (by omega)), ?_⟩
      show R (43, [some (aR 4 0), some (aI n), some (aL ((((0 + (jf_pw (jf_at p (jf_E p 0)) (n).toNat)) + (if (jf_fi p 1 1) = 0 then 0 else (jf_pw (jf_at p (jf_E p 1)) (n).toNat))) + (if (jf_fi p 2 2) = 0 then 0 else (jf_pw (jf_at p (jf_E p 2)) (n).toNat))) + (if (jf_fi p 3 3) = 0 then 0 else (jf_pw (jf_at p (jf_E p 3)) (n).toNat)))), none, some (aI 4), some (aI (jf_fi p 4 3)), some (aI 3)], [aI (M 12 0 4), aI (jf_E p 3)], M)
      rw [(hthr 4 (by omega)).1]
      show R (43, [some (aR 4 0), some (aI n), some (aL ((((0 + (jf_pw (jf_at p (jf_E p 0)) (n).toNat)) + (if (jf_fi p 1 1) = 0 then 0 else (jf_pw (jf_at p (jf_E p 1)) (n).toNat))) + (if (jf_fi p 2 2) = 0 then 0 else (jf_pw (jf_at p (jf_E p 2)) (n).toNat))) + (if (jf_fi p 3 3) = 0 then 0 else (jf_pw (jf_at p (jf_E p 3)) (n).toNat)))), none, some (aI 4), some (aI (jf_fi p 4 3)), some (aI 3)], [aI (jf_E p 4), aI (jf_E p 3)], M)
      suffices hJ : R (51, [some (aR 4 0), some (aI n), some (aL ((((0 + (jf_pw (jf_at p (jf_E p 0)) (n).toNat)) + (if (jf_fi p 1 1) = 0 then 0 else (jf_pw (jf_at p (jf_E p 1)) (n).toNat))) + (if (jf_fi p 2 2) = 0 then 0 else (jf_pw (jf_at p (jf_E p 2)) (n).toNat))) + (if (jf_fi p 3 3) = 0 then 0 else (jf_pw (jf_at p (jf_E p 3)) (n).toNat)))), none, some (aI 4), some (aI (jf_fi p 4 3)), some (aI 3)], [aI (if (jf_E p 3) = (jf_E p 4) then 0 else 1)], M) by
        refine hR _ (am_brc (rg := am_in (jf_E p 3) ∧ am_in (jf_E p 4)) (P := (jf_E p 3) = (jf_E p 4)) (A := R (50, [some (aR 4 0), some (aI n), some (aL ((((0 + (jf_pw (jf_at p (jf_E p 0)) (n).toNat)) + (if (jf_fi p 1 1) = 0 then 0 else (jf_pw (jf_at p (jf_E p 1)) (n).toNat))) + (if (jf_fi p 2 2) = 0 then 0 else (jf_pw (jf_at p (jf_E p 2)) (n).toNat))) + (if (jf_fi p 3 3) = 0 then 0 else (jf_pw (jf_at p (jf_E p 3)) (n).toNat)))), none, some (aI 4), some (aI (jf_fi p 4 3)), some (aI 3)], [], M)) (B := R (46, [some (aR 4 0), some (aI n), some (aL ((((0 + (jf_pw (jf_at p (jf_E p 0)) (n).toNat)) + (if (jf_fi p 1 1) = 0 then 0 else (jf_pw (jf_at p (jf_E p 1)) (n).toNat))) + (if (jf_fi p 2 2) = 0 then 0 else (jf_pw (jf_at p (jf_E p 2)) (n).toNat))) + (if (jf_fi p 3 3) = 0 then 0 else (jf_pw (jf_at p (jf_E p 3)) (n).toNat)))), none, some (aI 4), some (aI (jf_fi p 4 3)), some (aI 3)], [], M)) (by omega) (fun c43 => ?_) (fun c43 => ?_))
        · refine hR _ (?_)
          show R (51, [some (aR 4 0), some (aI n), some (aL ((((0 + (jf_pw (jf_at p (jf_E p 0)) (n).toNat)) + (if (jf_fi p 1 1) = 0 then 0 else (jf_pw (jf_at p (jf_E p 1)) (n).toNat))) + (if (jf_fi p 2 2) = 0 then 0 else (jf_pw (jf_at p (jf_E p 2)) (n).toNat))) + (if (jf_fi p 3 3) = 0 then 0 else (jf_pw (jf_at p (jf_E p 3)) (n).toNat)))), none, some (aI 4), some (aI (jf_fi p 4 3)), some (aI 3)], [aI 0], M)
          rw [if_pos (show (jf_E p 3) = (jf_E p 4) by omega)] at hJ
          exact hJ
        · refine hR _ (hR _ (?_))
          show R (51, [some (aR 4 0), some (aI n), some (aL ((((0 + (jf_pw (jf_at p (jf_E p 0)) (n).toNat)) + (if (jf_fi p 1 1) = 0 then 0 else (jf_pw (jf_at p (jf_E p 1)) (n).toNat))) + (if (jf_fi p 2 2) = 0 then 0 else (jf_pw (jf_at p (jf_E p 2)) (n).toNat))) + (if (jf_fi p 3 3) = 0 then 0 else (jf_pw (jf_at p (jf_E p 3)) (n).toNat)))), none, some (aI 4), some (aI (jf_fi p 4 3)), some (aI 3)], [aI 1], M)
          rw [if_neg (show ¬ ((jf_E p 3) = (jf_E p 4)) by omega)] at hJ
          exact hJ
      show R (51, [some (aR 4 0), some (aI n), some (aL ((((0 + (jf_pw (jf_at p (jf_E p 0)) (n).toNat)) + (if (jf_fi p 1 1) = 0 then 0 else (jf_pw (jf_at p (jf_E p 1)) (n).toNat))) + (if (jf_fi p 2 2) = 0 then 0 else (jf_pw (jf_at p (jf_E p 2)) (n).toNat))) + (if (jf_fi p 3 3) = 0 then 0 else (jf_pw (jf_at p (jf_E p 3)) (n).toNat)))), none, some (aI 4), some (aI (jf_fi p 4 3)), some (aI 3)], [aI (if (jf_E p 3) = (jf_E p 4) then 0 else 1)], M)
      rw [if_neg (show ¬ ((jf_fi p 4 3) = 0) by omega)] at hJ
      exact hJ
  show R (51, [some (aR 4 0), some (aI n), some (aL ((((0 + (jf_pw (jf_at p (jf_E p 0)) (n).toNat)) + (if (jf_fi p 1 1) = 0 then 0 else (jf_pw (jf_at p (jf_E p 1)) (n).toNat))) + (if (jf_fi p 2 2) = 0 then 0 else (jf_pw (jf_at p (jf_E p 2)) (n).toNat))) + (if (jf_fi p 3 3) = 0 then 0 else (jf_pw (jf_at p (jf_E p 3)) (n).toNat)))), none, some (aI 4), some (aI (jf_fi p 4 3)), some (aI 3)], [aI (if (jf_fi p 4 3) = 0 then 0 else (if (jf_E p 3) = (jf_E p 4) then 0 else 1))], M)
  refine hR _ (?_)
  show R (53, [some (aR 4 0), some (aI n), some (aL ((((0 + (jf_pw (jf_at p (jf_E p 0)) (n).toNat)) + (if (jf_fi p 1 1) = 0 then 0 else (jf_pw (jf_at p (jf_E p 1)) (n).toNat))) + (if (jf_fi p 2 2) = 0 then 0 else (jf_pw (jf_at p (jf_E p 2)) (n).toNat))) + (if (jf_fi p 3 3) = 0 then 0 else (jf_pw (jf_at p (jf_E p 3)) (n).toNat)))), none, some (aI 4), some (aI (if (jf_fi p 4 3) = 0 then 0 else (if (jf_E p 3) = (jf_E p 4) then 0 else 1))), some (aI 3)], [], M)
  show R (53, [some (aR 4 0), some (aI n), some (aL ((((0 + (jf_pw (jf_at p (jf_E p 0)) (n).toNat)) + (if (jf_fi p 1 1) = 0 then 0 else (jf_pw (jf_at p (jf_E p 1)) (n).toNat))) + (if (jf_fi p 2 2) = 0 then 0 else (jf_pw (jf_at p (jf_E p 2)) (n).toNat))) + (if (jf_fi p 3 3) = 0 then 0 else (jf_pw (jf_at p (jf_E p 3)) (n).toNat)))), none, some (aI 4), some (aI (jf_fi p 4 4)), some (aI 3)], [], M)
  refine hR _ (hR _ (hR _ (hR _ (hR _ (am_brt (rg := am_in 4 ∧ am_in 4) (P := (4 : Int) ≤ 4) (A := R (59, [some (aR 4 0), some (aI n), some (aL ((((0 + (jf_pw (jf_at p (jf_E p 0)) (n).toNat)) + (if (jf_fi p 1 1) = 0 then 0 else (jf_pw (jf_at p (jf_E p 1)) (n).toNat))) + (if (jf_fi p 2 2) = 0 then 0 else (jf_pw (jf_at p (jf_E p 2)) (n).toNat))) + (if (jf_fi p 3 3) = 0 then 0 else (jf_pw (jf_at p (jf_E p 3)) (n).toNat)))), none, some (aI 4), some (aI (jf_fi p 4 4)), some (aI 4)], [], M)) (B := R (24, [some (aR 4 0), some (aI n), some (aL ((((0 + (jf_pw (jf_at p (jf_E p 0)) (n).toNat)) + (if (jf_fi p 1 1) = 0 then 0 else (jf_pw (jf_at p (jf_E p 1)) (n).toNat))) + (if (jf_fi p 2 2) = 0 then 0 else (jf_pw (jf_at p (jf_E p 2)) (n).toNat))) + (if (jf_fi p 3 3) = 0 then 0 else (jf_pw (jf_at p (jf_E p 3)) (n).toNat)))), none, some (aI 4), some (aI (jf_fi p 4 4)), some (aI 4)], [], M)) (by omega) (by omega) ?_)))))
  show R (59, [some (aR 4 0), some (aI n), some (aL ((((0 + (jf_pw (jf_at p (jf_E p 0)) (n).toNat)) + (if (jf_fi p 1 1) = 0 then 0 else (jf_pw (jf_at p (jf_E p 1)) (n).toNat))) + (if (jf_fi p 2 2) = 0 then 0 else (jf_pw (jf_at p (jf_E p 2)) (n).toNat))) + (if (jf_fi p 3 3) = 0 then 0 else (jf_pw (jf_at p (jf_E p 3)) (n).toNat)))), none, some (aI 4), some (aI (jf_fi p 4 4)), some (aI 4)], [], M)
  refine hR _ (?_)
  show R (61, [some (aR 4 0), some (aI n), some (aL ((((0 + (jf_pw (jf_at p (jf_E p 0)) (n).toNat)) + (if (jf_fi p 1 1) = 0 then 0 else (jf_pw (jf_at p (jf_E p 1)) (n).toNat))) + (if (jf_fi p 2 2) = 0 then 0 else (jf_pw (jf_at p (jf_E p 2)) (n).toNat))) + (if (jf_fi p 3 3) = 0 then 0 else (jf_pw (jf_at p (jf_E p 3)) (n).toNat)))), none, some (aI 4), some (aI (jf_fi p 4 4)), some (aI 4)], [aI (jf_fi p 4 4)], M)
  suffices hJ : R (82, [some (aR 4 0), some (aI n), some (aL (((((0 + (jf_pw (jf_at p (jf_E p 0)) (n).toNat)) + (if (jf_fi p 1 1) = 0 then 0 else (jf_pw (jf_at p (jf_E p 1)) (n).toNat))) + (if (jf_fi p 2 2) = 0 then 0 else (jf_pw (jf_at p (jf_E p 2)) (n).toNat))) + (if (jf_fi p 3 3) = 0 then 0 else (jf_pw (jf_at p (jf_E p 3)) (n).toNat))) + (if (jf_fi p 4 4) = 0 then 0 else (jf_pw (jf_at p (jf_E p 4)) (n).toNat)))), none, some (aI 4), some (aI (jf_fi p 4 4)), some (aI 4)], [], M) by
    refine hR _ (am_brc (rg := am_in (jf_fi p 4 4)) (P := (jf_fi p 4 4) = 0) (A := R (82, [some (aR 4 0), some (aI n), some (aL ((((0 + (jf_pw (jf_at p (jf_E p 0)) (n).toNat)) + (if (jf_fi p 1 1) = 0 then 0 else (jf_pw (jf_at p (jf_E p 1)) (n).toNat))) + (if (jf_fi p 2 2) = 0 then 0 else (jf_pw (jf_at p (jf_E p 2)) (n).toNat))) + (if (jf_fi p 3 3) = 0 then 0 else (jf_pw (jf_at p (jf_E p 3)) (n).toNat)))), none, some (aI 4), some (aI (jf_fi p 4 4)), some (aI 4)], [], M)) (B := R (64, [some (aR 4 0), some (aI n), some (aL ((((0 + (jf_pw (jf_at p (jf_E p 0)) (n).toNat)) + (if (jf_fi p 1 1) = 0 then 0 else (jf_pw (jf_at p (jf_E p 1)) (n).toNat))) + (if (jf_fi p 2 2) = 0 then 0 else (jf_pw (jf_at p (jf_E p 2)) (n).toNat))) + (if (jf_fi p 3 3) = 0 then 0 else (jf_pw (jf_at p (jf_E p 3)) (n).toNat)))), none, some (aI 4), some (aI (jf_fi p 4 4)), some (aI 4)], [], M)) (by omega) (fun c61 => ?_) (fun c61 => ?_))
    · rw [if_pos (show (jf_fi p 4 4) = 0 by omega), Int.add_zero] at hJ
      exact hJ
    · refine hR _ (hR _ (hR _ (hR _ (hR _ (?_)))))
      show R (72, [some (aR 4 0), some (aI n), some (aL ((((0 + (jf_pw (jf_at p (jf_E p 0)) (n).toNat)) + (if (jf_fi p 1 1) = 0 then 0 else (jf_pw (jf_at p (jf_E p 1)) (n).toNat))) + (if (jf_fi p 2 2) = 0 then 0 else (jf_pw (jf_at p (jf_E p 2)) (n).toNat))) + (if (jf_fi p 3 3) = 0 then 0 else (jf_pw (jf_at p (jf_E p 3)) (n).toNat)))), none, some (aI 4), some (aI (jf_fi p 4 4)), some (aI 4)], [aI 4, aR 12 0, aR 4 0, aL ((((0 + (jf_pw (jf_at p (jf_E p 0)) (n).toNat)) + (if (jf_fi p 1 1) = 0 then 0 else (jf_pw (jf_at p (jf_E p 1)) (n).toNat))) + (if (jf_fi p 2 2) = 0 then 0 else (jf_pw (jf_at p (jf_E p 2)) (n).toNat))) + (if (jf_fi p 3 3) = 0 then 0 else (jf_pw (jf_at p (jf_E p 3)) (n).toNat)))], M)
      refine hR _ ⟨(show 0 ≤ (4 : Int) ∧ (4 : Int) < 5 from (by omega)), ?_⟩
      show R (73, [some (aR 4 0), some (aI n), some (aL ((((0 + (jf_pw (jf_at p (jf_E p 0)) (n).toNat)) + (if (jf_fi p 1 1) = 0 then 0 else (jf_pw (jf_at p (jf_E p 1)) (n).toNat))) + (if (jf_fi p 2 2) = 0 then 0 else (jf_pw (jf_at p (jf_E p 2)) (n).toNat))) + (if (jf_fi p 3 3) = 0 then 0 else (jf_pw (jf_at p (jf_E p 3)) (n).toNat)))), none, some (aI 4), some (aI (jf_fi p 4 4)), some (aI 4)], [aI (M 12 0 4), aR 4 0, aL ((((0 + (jf_pw (jf_at p (jf_E p 0)) (n).toNat)) + (if (jf_fi p 1 1) = 0 then 0 else (jf_pw (jf_at p (jf_E p 1)) (n).toNat))) + (if (jf_fi p 2 2) = 0 then 0 else (jf_pw (jf_at p (jf_E p 2)) (n).toNat))) + (if (jf_fi p 3 3) = 0 then 0 else (jf_pw (jf_at p (jf_E p 3)) (n).toNat)))], M)
      rw [(hthr 4 (by omega)).1]
      show R (73, [some (aR 4 0), some (aI n), some (aL ((((0 + (jf_pw (jf_at p (jf_E p 0)) (n).toNat)) + (if (jf_fi p 1 1) = 0 then 0 else (jf_pw (jf_at p (jf_E p 1)) (n).toNat))) + (if (jf_fi p 2 2) = 0 then 0 else (jf_pw (jf_at p (jf_E p 2)) (n).toNat))) + (if (jf_fi p 3 3) = 0 then 0 else (jf_pw (jf_at p (jf_E p 3)) (n).toNat)))), none, some (aI 4), some (aI (jf_fi p 4 4)), some (aI 4)], [aI (jf_E p 4), aR 4 0, aL ((((0 + (jf_pw (jf_at p (jf_E p 0)) (n).toNat)) + (if (jf_fi p 1 1) = 0 then 0 else (jf_pw (jf_at p (jf_E p 1)) (n).toNat))) + (if (jf_fi p 2 2) = 0 then 0 else (jf_pw (jf_at p (jf_E p 2)) (n).toNat))) + (if (jf_fi p 3 3) = 0 then 0 else (jf_pw (jf_at p (jf_E p 3)) (n).toNat)))], M)
      refine hR _ (sp_oftenAt (by omega) hok hth (by omega) ?_)
      have hat73 := jf_at_b hok ((jf_E p 4))
      show R (76, [some (aR 4 0), some (aI n), some (aL ((((0 + (jf_pw (jf_at p (jf_E p 0)) (n).toNat)) + (if (jf_fi p 1 1) = 0 then 0 else (jf_pw (jf_at p (jf_E p 1)) (n).toNat))) + (if (jf_fi p 2 2) = 0 then 0 else (jf_pw (jf_at p (jf_E p 2)) (n).toNat))) + (if (jf_fi p 3 3) = 0 then 0 else (jf_pw (jf_at p (jf_E p 3)) (n).toNat)))), none, some (aI 4), some (aI (jf_fi p 4 4)), some (aI 4)], [aL (jf_at p (jf_E p 4)), aL ((((0 + (jf_pw (jf_at p (jf_E p 0)) (n).toNat)) + (if (jf_fi p 1 1) = 0 then 0 else (jf_pw (jf_at p (jf_E p 1)) (n).toNat))) + (if (jf_fi p 2 2) = 0 then 0 else (jf_pw (jf_at p (jf_E p 2)) (n).toNat))) + (if (jf_fi p 3 3) = 0 then 0 else (jf_pw (jf_at p (jf_E p 3)) (n).toNat)))], M)
      refine hR _ (?_)
      show R (77, [some (aR 4 0), some (aI n), some (aL ((((0 + (jf_pw (jf_at p (jf_E p 0)) (n).toNat)) + (if (jf_fi p 1 1) = 0 then 0 else (jf_pw (jf_at p (jf_E p 1)) (n).toNat))) + (if (jf_fi p 2 2) = 0 then 0 else (jf_pw (jf_at p (jf_E p 2)) (n).toNat))) + (if (jf_fi p 3 3) = 0 then 0 else (jf_pw (jf_at p (jf_E p 3)) (n).toNat)))), none, some (aI 4), some (aI (jf_fi p 4 4)), some (aI 4)], [aI n, aL (jf_at p (jf_E p 4)), aL ((((0 + (jf_pw (jf_at p (jf_E p 0)) (n).toNat)) + (if (jf_fi p 1 1) = 0 then 0 else (jf_pw (jf_at p (jf_E p 1)) (n).toNat))) + (if (jf_fi p 2 2) = 0 then 0 else (jf_pw (jf_at p (jf_E p 2)) (n).toNat))) + (if (jf_fi p 3 3) = 0 then 0 else (jf_pw (jf_at p (jf_E p 3)) (n).toNat)))], M)
      refine hR _ (sp_power (by omega) (by omega) ?_)
      show R (80, [some (aR 4 0), some (aI n), some (aL ((((0 + (jf_pw (jf_at p (jf_E p 0)) (n).toNat)) + (if (jf_fi p 1 1) = 0 then 0 else (jf_pw (jf_at p (jf_E p 1)) (n).toNat))) + (if (jf_fi p 2 2) = 0 then 0 else (jf_pw (jf_at p (jf_E p 2)) (n).toNat))) + (if (jf_fi p 3 3) = 0 then 0 else (jf_pw (jf_at p (jf_E p 3)) (n).toNat)))), none, some (aI 4), some (aI (jf_fi p 4 4)), some (aI 4)], [aL (jf_pw (jf_at p (jf_E p 4)) (n).toNat), aL ((((0 + (jf_pw (jf_at p (jf_E p 0)) (n).toNat)) + (if (jf_fi p 1 1) = 0 then 0 else (jf_pw (jf_at p (jf_E p 1)) (n).toNat))) + (if (jf_fi p 2 2) = 0 then 0 else (jf_pw (jf_at p (jf_E p 2)) (n).toNat))) + (if (jf_fi p 3 3) = 0 then 0 else (jf_pw (jf_at p (jf_E p 3)) (n).toNat)))], M)
      refine hR _ (hR _ (?_))
      show R (82, [some (aR 4 0), some (aI n), some (aL (((((0 + (jf_pw (jf_at p (jf_E p 0)) (n).toNat)) + (if (jf_fi p 1 1) = 0 then 0 else (jf_pw (jf_at p (jf_E p 1)) (n).toNat))) + (if (jf_fi p 2 2) = 0 then 0 else (jf_pw (jf_at p (jf_E p 2)) (n).toNat))) + (if (jf_fi p 3 3) = 0 then 0 else (jf_pw (jf_at p (jf_E p 3)) (n).toNat))) + (jf_pw (jf_at p (jf_E p 4)) (n).toNat))), none, some (aI 4), some (aI (jf_fi p 4 4)), some (aI 4)], [], M)
      rw [if_neg (show ¬ ((jf_fi p 4 4) = 0) by omega)] at hJ
      exact hJ
  show R (82, [some (aR 4 0), some (aI n), some (aL (((((0 + (jf_pw (jf_at p (jf_E p 0)) (n).toNat)) + (if (jf_fi p 1 1) = 0 then 0 else (jf_pw (jf_at p (jf_E p 1)) (n).toNat))) + (if (jf_fi p 2 2) = 0 then 0 else (jf_pw (jf_at p (jf_E p 2)) (n).toNat))) + (if (jf_fi p 3 3) = 0 then 0 else (jf_pw (jf_at p (jf_E p 3)) (n).toNat))) + (if (jf_fi p 4 4) = 0 then 0 else (jf_pw (jf_at p (jf_E p 4)) (n).toNat)))), none, some (aI 4), some (aI (jf_fi p 4 4)), some (aI 4)], [], M)
  refine hR _ (hR _ (hR _ (hR _ (hR _ (am_brt (rg := am_in 5 ∧ am_in 5) (P := (5 : Int) ≤ 5) (A := R (88, [some (aR 4 0), some (aI n), some (aL (((((0 + (jf_pw (jf_at p (jf_E p 0)) (n).toNat)) + (if (jf_fi p 1 1) = 0 then 0 else (jf_pw (jf_at p (jf_E p 1)) (n).toNat))) + (if (jf_fi p 2 2) = 0 then 0 else (jf_pw (jf_at p (jf_E p 2)) (n).toNat))) + (if (jf_fi p 3 3) = 0 then 0 else (jf_pw (jf_at p (jf_E p 3)) (n).toNat))) + (if (jf_fi p 4 4) = 0 then 0 else (jf_pw (jf_at p (jf_E p 4)) (n).toNat)))), none, some (aI 5), some (aI (jf_fi p 4 4)), some (aI 4)], [], M)) (B := R (11, [some (aR 4 0), some (aI n), some (aL (((((0 + (jf_pw (jf_at p (jf_E p 0)) (n).toNat)) + (if (jf_fi p 1 1) = 0 then 0 else (jf_pw (jf_at p (jf_E p 1)) (n).toNat))) + (if (jf_fi p 2 2) = 0 then 0 else (jf_pw (jf_at p (jf_E p 2)) (n).toNat))) + (if (jf_fi p 3 3) = 0 then 0 else (jf_pw (jf_at p (jf_E p 3)) (n).toNat))) + (if (jf_fi p 4 4) = 0 then 0 else (jf_pw (jf_at p (jf_E p 4)) (n).toNat)))), none, some (aI 5), some (aI (jf_fi p 4 4)), some (aI 4)], [], M)) (by omega) (by omega) ?_)))))
  show R (88, [some (aR 4 0), some (aI n), some (aL (((((0 + (jf_pw (jf_at p (jf_E p 0)) (n).toNat)) + (if (jf_fi p 1 1) = 0 then 0 else (jf_pw (jf_at p (jf_E p 1)) (n).toNat))) + (if (jf_fi p 2 2) = 0 then 0 else (jf_pw (jf_at p (jf_E p 2)) (n).toNat))) + (if (jf_fi p 3 3) = 0 then 0 else (jf_pw (jf_at p (jf_E p 3)) (n).toNat))) + (if (jf_fi p 4 4) = 0 then 0 else (jf_pw (jf_at p (jf_E p 4)) (n).toNat)))), none, some (aI 5), some (aI (jf_fi p 4 4)), some (aI 4)], [], M)
  refine hR _ (?_)
  show R (89, [some (aR 4 0), some (aI n), some (aL (((((0 + (jf_pw (jf_at p (jf_E p 0)) (n).toNat)) + (if (jf_fi p 1 1) = 0 then 0 else (jf_pw (jf_at p (jf_E p 1)) (n).toNat))) + (if (jf_fi p 2 2) = 0 then 0 else (jf_pw (jf_at p (jf_E p 2)) (n).toNat))) + (if (jf_fi p 3 3) = 0 then 0 else (jf_pw (jf_at p (jf_E p 3)) (n).toNat))) + (if (jf_fi p 4 4) = 0 then 0 else (jf_pw (jf_at p (jf_E p 4)) (n).toNat)))), none, some (aI 5), some (aI (jf_fi p 4 4)), some (aI 4)], [aL (((((0 + (jf_pw (jf_at p (jf_E p 0)) (n).toNat)) + (if (jf_fi p 1 1) = 0 then 0 else (jf_pw (jf_at p (jf_E p 1)) (n).toNat))) + (if (jf_fi p 2 2) = 0 then 0 else (jf_pw (jf_at p (jf_E p 2)) (n).toNat))) + (if (jf_fi p 3 3) = 0 then 0 else (jf_pw (jf_at p (jf_E p 3)) (n).toNat))) + (if (jf_fi p 4 4) = 0 then 0 else (jf_pw (jf_at p (jf_E p 4)) (n).toNat)))], M)
  refine hR _ (show K (some (aL (((((0 + (jf_pw (jf_at p (jf_E p 0)) (n).toNat)) + (if (jf_fi p 1 1) = 0 then 0 else (jf_pw (jf_at p (jf_E p 1)) (n).toNat))) + (if (jf_fi p 2 2) = 0 then 0 else (jf_pw (jf_at p (jf_E p 2)) (n).toNat))) + (if (jf_fi p 3 3) = 0 then 0 else (jf_pw (jf_at p (jf_E p 3)) (n).toNat))) + (if (jf_fi p 4 4) = 0 then 0 else (jf_pw (jf_at p (jf_E p 4)) (n).toNat))))) M from ?_)
  exact h

theorem sp_lateBy {d : Nat} (hd : 1 ≤ d) {p : jf_par} {seed : Int} {M : am_M} {K : am_K} (hok : jf_ok p) (hth : jf_th M p) (hs : 0 ≤ seed ∧ seed ≤ 200000) (h : K (some (aI (jf_lb p seed))) M) : am_Call wb d 107 [aR 4 0, aI seed] M K := by
  obtain ⟨d, rfl⟩ : ∃ e, d = e + 1 := ⟨d - 1, by omega⟩
  refine ⟨rfl, fun R hR hC => ?_⟩
  replace hR : ∀ c, am_F wb tb_f107 1 (am_Call wb d) K R c → R c := hR
  obtain ⟨hthr, hthA, hthN⟩ := hth
  have hO0 := jf_O_b hok (a := 0) (by omega)
  have hO1 := jf_O_b hok (a := 1) (by omega)
  have hO2 := jf_O_b hok (a := 2) (by omega)
  have hO3 := jf_O_b hok (a := 3) (by omega)
  have hO4 := jf_O_b hok (a := 4) (by omega)
  have hE0 := jf_E_b hok (a := 0) (by omega)
  have hE1 := jf_E_b hok (a := 1) (by omega)
  have hE2 := jf_E_b hok (a := 2) (by omega)
  have hE3 := jf_E_b hok (a := 3) (by omega)
  have hE4 := jf_E_b hok (a := 4) (by omega)
  have hT0 := jf_T_b hok (a := 0) (by omega)
  have hT1 := jf_T_b hok (a := 1) (by omega)
  have hT2 := jf_T_b hok (a := 2) (by omega)
  have hT3 := jf_T_b hok (a := 3) (by omega)
  have hT4 := jf_T_b hok (a := 4) (by omega)
  have hA := jf_A_b hok
  have hAs := jf_A_sum hok
  have hlot := jf_lot_b hok hs
  show R (0, [some (aR 4 0), some (aI seed), none, none, none, none, none], [], M)
  refine hR _ (hR _ (?_))
  show R (4, [some (aR 4 0), some (aI seed), none, none, none, none, none], [aI (M 263 0 0)], M)
  rw [hthA]
  show R (4, [some (aR 4 0), some (aI seed), none, none, none, none, none], [aI (jf_A p)], M)
  refine hR _ (hR _ (am_brt (rg := am_in (jf_A p) ∧ am_in 1) (P := 1 ≤ (jf_A p)) (A := R (10, [some (aR 4 0), some (aI seed), none, none, none, none, none], [], M)) (B := R (8, [some (aR 4 0), some (aI seed), none, none, none, none, none], [], M)) (by omega) (by omega) ?_))
  show R (10, [some (aR 4 0), some (aI seed), none, none, none, none, none], [], M)
  refine hR _ (?_)
  show R (11, [some (aR 4 0), some (aI seed), none, none, none, none, none], [aI seed], M)
  refine hR _ ⟨(by omega), ?_⟩
  show R (12, [some (aR 4 0), some (aI seed), none, none, none, none, none], [aL seed], M)
  refine hR _ (hR _ (hR _ (hR _ (hR _ (?_)))))
  show R (21, [some (aR 4 0), some (aI seed), none, none, none, none, none], [aL 2147483647, aL ((seed + 1) * 48271)], M)
  refine hR _ ⟨(by omega), ?_⟩
  show R (22, [some (aR 4 0), some (aI seed), none, none, none, none, none], [aL (Int.tmod ((seed + 1) * 48271) 2147483647)], M)
  have hl22 : 0 ≤ (Int.tmod ((seed + 1) * 48271) 2147483647) ∧ (Int.tmod ((seed + 1) * 48271) 2147483647) < 2147483647 := by
    rw [jf_tm _ _ (by omega)]
    exact ⟨Int.emod_nonneg _ (by omega), Int.emod_lt_of_pos _ (by omega)⟩
  refine hR _ (hR _ (?_))
  show R (26, [some (aR 4 0), some (aI seed), none, none, none, none, none], [aI (M 263 0 0), aL (Int.tmod ((seed + 1) * 48271) 2147483647)], M)
  rw [hthA]
  show R (26, [some (aR 4 0), some (aI seed), none, none, none, none, none], [aI (jf_A p), aL (Int.tmod ((seed + 1) * 48271) 2147483647)], M)
  refine hR _ ⟨(by omega), ?_⟩
  show R (27, [some (aR 4 0), some (aI seed), none, none, none, none, none], [aL (jf_A p), aL (Int.tmod ((seed + 1) * 48271) 2147483647)], M)
  refine hR _ ⟨(by omega), ?_⟩
  show R (28, [some (aR 4 0), some (aI seed), none, none, none, none, none], [aL (Int.tmod (Int.tmod ((seed + 1) * 48271) 2147483647) (jf_A p))], M)
  show R (28, [some (aR 4 0), some (aI seed), none, none, none, none, none], [aL (jf_lot p seed)], M)
  refine hR _ (hR _ (hR _ (hR _ (hR _ (hR _ (hR _ (hR _ (am_brf (rg := am_in 0 ∧ am_in 5) (P := 5 ≤ 0) (A := R (70, [some (aR 4 0), some (aI seed), some (aL (jf_lot p seed)), none, some (aL 0), none, some (aI 0)], [], M)) (B := R (41, [some (aR 4 0), some (aI seed), some (aL (jf_lot p seed)), none, some (aL 0), none, some (aI 0)], [], M)) (by omega) (by omega) ?_))))))))
  show R (41, [some (aR 4 0), some (aI seed), some (aL (jf_lot p seed)), none, some (aL 0), none, some (aI 0)], [], M)
  refine hR _ (hR _ (hR _ (hR _ (?_))))
  show R (49, [some (aR 4 0), some (aI seed), some (aL (jf_lot p seed)), none, some (aL 0), none, some (aI 0)], [aI 0, aR 14 0, aL 0], M)
  refine hR _ ⟨(show 0 ≤ (0 : Int) ∧ (0 : Int) < 5 from (by omega)), ?_⟩
  show R (50, [some (aR 4 0), some (aI seed), some (aL (jf_lot p seed)), none, some (aL 0), none, some (aI 0)], [aI (M 14 0 0), aL 0], M)
  rw [(hthr 0 (by omega)).2.2]
  show R (50, [some (aR 4 0), some (aI seed), some (aL (jf_lot p seed)), none, some (aL 0), none, some (aI 0)], [aI (jf_O p 0), aL 0], M)
  refine hR _ ⟨(by omega), ?_⟩
  show R (51, [some (aR 4 0), some (aI seed), some (aL (jf_lot p seed)), none, some (aL 0), none, some (aI 0)], [aL (jf_O p 0), aL 0], M)
  refine hR _ (hR _ (hR _ (hR _ (?_))))
  show R (57, [some (aR 4 0), some (aI seed), some (aL (jf_lot p seed)), none, some (aL (0 + (jf_O p 0))), none, some (aI 0)], [aL (jf_lot p seed), aL (0 + (jf_O p 0))], M)
  refine am_lc (x := (0 + (jf_O p 0))) (y := (jf_lot p seed)) (P := (0 + (jf_O p 0)) ≤ (jf_lot p seed)) (A := R (64, [some (aR 4 0), some (aI seed), some (aL (jf_lot p seed)), none, some (aL (0 + (jf_O p 0))), none, some (aI 0)], [], M)) (B := R (61, [some (aR 4 0), some (aI seed), some (aL (jf_lot p seed)), none, some (aL (0 + (jf_O p 0))), none, some (aI 0)], [], M)) (by omega) (fun hA hB => hR _ ⟨(by omega), (fun hz => hR _ (am_brt (P := (-1 : Int) ≤ 0) (A := R (64, [some (aR 4 0), some (aI seed), some (aL (jf_lot p seed)), none, some (aL (0 + (jf_O p 0))), none, some (aI 0)], [], M)) (B := R (61, [some (aR 4 0), some (aI seed), some (aL (jf_lot p seed)), none, some (aL (0 + (jf_O p 0))), none, some (aI 0)], [], M)) (by omega) (by omega) (hA (by omega)))), (fun hz => hR _ (am_brt (P := (0 : Int) ≤ 0) (A := R (64, [some (aR 4 0), some (aI seed), some (aL (jf_lot p seed)), none, some (aL (0 + (jf_O p 0))), none, some (aI 0)], [], M)) (B := R (61, [some (aR 4 0), some (aI seed), some (aL (jf_lot p seed)), none, some (aL (0 + (jf_O p 0))), none, some (aI 0)], [], M)) (by omega) (by omega) (hA (by omega)))), (fun hz => hR _ (am_brf (P := (1 : Int) ≤ 0) (A := R (64, [some (aR 4 0), some (aI seed), some (aL (jf_lot p seed)), none, some (aL (0 + (jf_O p 0))), none, some (aI 0)], [], M)) (B := R (61, [some (aR 4 0), some (aI seed), some (aL (jf_lot p seed)), none, some (aL (0 + (jf_O p 0))), none, some (aI 0)], [], M)) (by omega) (by omega) (hB (by omega))))⟩) (fun c57 => ?_) (fun c57 => ?_)
  · refine hR _ (hR _ (hR _ (hR _ (hR _ (am_brf (rg := am_in 1 ∧ am_in 5) (P := 5 ≤ 1) (A := R (70, [some (aR 4 0), some (aI seed), some (aL (jf_lot p seed)), none, some (aL (0 + (jf_O p 0))), none, some (aI 1)], [], M)) (B := R (41, [some (aR 4 0), some (aI seed), some (aL (jf_lot p seed)), none, some (aL (0 + (jf_O p 0))), none, some (aI 1)], [], M)) (by omega) (by omega) ?_)))))
    show R (41, [some (aR 4 0), some (aI seed), some (aL (jf_lot p seed)), none, some (aL (0 + (jf_O p 0))), none, some (aI 1)], [], M)
    refine hR _ (hR _ (hR _ (hR _ (?_))))
    show R (49, [some (aR 4 0), some (aI seed), some (aL (jf_lot p seed)), none, some (aL (0 + (jf_O p 0))), none, some (aI 1)], [aI 1, aR 14 0, aL (0 + (jf_O p 0))], M)
    refine hR _ ⟨(show 0 ≤ (1 : Int) ∧ (1 : Int) < 5 from (by omega)), ?_⟩
    show R (50, [some (aR 4 0), some (aI seed), some (aL (jf_lot p seed)), none, some (aL (0 + (jf_O p 0))), none, some (aI 1)], [aI (M 14 0 1), aL (0 + (jf_O p 0))], M)
    rw [(hthr 1 (by omega)).2.2]
    show R (50, [some (aR 4 0), some (aI seed), some (aL (jf_lot p seed)), none, some (aL (0 + (jf_O p 0))), none, some (aI 1)], [aI (jf_O p 1), aL (0 + (jf_O p 0))], M)
    refine hR _ ⟨(by omega), ?_⟩
    show R (51, [some (aR 4 0), some (aI seed), some (aL (jf_lot p seed)), none, some (aL (0 + (jf_O p 0))), none, some (aI 1)], [aL (jf_O p 1), aL (0 + (jf_O p 0))], M)
    refine hR _ (hR _ (hR _ (hR _ (?_))))
    show R (57, [some (aR 4 0), some (aI seed), some (aL (jf_lot p seed)), none, some (aL ((0 + (jf_O p 0)) + (jf_O p 1))), none, some (aI 1)], [aL (jf_lot p seed), aL ((0 + (jf_O p 0)) + (jf_O p 1))], M)
    refine am_lc (x := ((0 + (jf_O p 0)) + (jf_O p 1))) (y := (jf_lot p seed)) (P := ((0 + (jf_O p 0)) + (jf_O p 1)) ≤ (jf_lot p seed)) (A := R (64, [some (aR 4 0), some (aI seed), some (aL (jf_lot p seed)), none, some (aL ((0 + (jf_O p 0)) + (jf_O p 1))), none, some (aI 1)], [], M)) (B := R (61, [some (aR 4 0), some (aI seed), some (aL (jf_lot p seed)), none, some (aL ((0 + (jf_O p 0)) + (jf_O p 1))), none, some (aI 1)], [], M)) (by omega) (fun hA hB => hR _ ⟨(by omega), (fun hz => hR _ (am_brt (P := (-1 : Int) ≤ 0) (A := R (64, [some (aR 4 0), some (aI seed), some (aL (jf_lot p seed)), none, some (aL ((0 + (jf_O p 0)) + (jf_O p 1))), none, some (aI 1)], [], M)) (B := R (61, [some (aR 4 0), some (aI seed), some (aL (jf_lot p seed)), none, some (aL ((0 + (jf_O p 0)) + (jf_O p 1))), none, some (aI 1)], [], M)) (by omega) (by omega) (hA (by omega)))), (fun hz => hR _ (am_brt (P := (0 : Int) ≤ 0) (A := R (64, [some (aR 4 0), some (aI seed), some (aL (jf_lot p seed)), none, some (aL ((0 + (jf_O p 0)) + (jf_O p 1))), none, some (aI 1)], [], M)) (B := R (61, [some (aR 4 0), some (aI seed), some (aL (jf_lot p seed)), none, some (aL ((0 + (jf_O p 0)) + (jf_O p 1))), none, some (aI 1)], [], M)) (by omega) (by omega) (hA (by omega)))), (fun hz => hR _ (am_brf (P := (1 : Int) ≤ 0) (A := R (64, [some (aR 4 0), some (aI seed), some (aL (jf_lot p seed)), none, some (aL ((0 + (jf_O p 0)) + (jf_O p 1))), none, some (aI 1)], [], M)) (B := R (61, [some (aR 4 0), some (aI seed), some (aL (jf_lot p seed)), none, some (aL ((0 + (jf_O p 0)) + (jf_O p 1))), none, some (aI 1)], [], M)) (by omega) (by omega) (hB (by omega))))⟩) (fun c57 => ?_) (fun c57 => ?_)
    · refine hR _ (hR _ (hR _ (hR _ (hR _ (am_brf (rg := am_in 2 ∧ am_in 5) (P := 5 ≤ 2) (A := R (70, [some (aR 4 0), some (aI seed), some (aL (jf_lot p seed)), none, some (aL ((0 + (jf_O p 0)) + (jf_O p 1))), none, some (aI 2)], [], M)) (B := R (41, [some (aR 4 0), some (aI seed), some (aL (jf_lot p seed)), none, some (aL ((0 + (jf_O p 0)) + (jf_O p 1))), none, some (aI 2)], [], M)) (by omega) (by omega) ?_)))))
      show R (41, [some (aR 4 0), some (aI seed), some (aL (jf_lot p seed)), none, some (aL ((0 + (jf_O p 0)) + (jf_O p 1))), none, some (aI 2)], [], M)
      refine hR _ (hR _ (hR _ (hR _ (?_))))
      show R (49, [some (aR 4 0), some (aI seed), some (aL (jf_lot p seed)), none, some (aL ((0 + (jf_O p 0)) + (jf_O p 1))), none, some (aI 2)], [aI 2, aR 14 0, aL ((0 + (jf_O p 0)) + (jf_O p 1))], M)
      refine hR _ ⟨(show 0 ≤ (2 : Int) ∧ (2 : Int) < 5 from (by omega)), ?_⟩
      show R (50, [some (aR 4 0), some (aI seed), some (aL (jf_lot p seed)), none, some (aL ((0 + (jf_O p 0)) + (jf_O p 1))), none, some (aI 2)], [aI (M 14 0 2), aL ((0 + (jf_O p 0)) + (jf_O p 1))], M)
      rw [(hthr 2 (by omega)).2.2]
      show R (50, [some (aR 4 0), some (aI seed), some (aL (jf_lot p seed)), none, some (aL ((0 + (jf_O p 0)) + (jf_O p 1))), none, some (aI 2)], [aI (jf_O p 2), aL ((0 + (jf_O p 0)) + (jf_O p 1))], M)
      refine hR _ ⟨(by omega), ?_⟩
      show R (51, [some (aR 4 0), some (aI seed), some (aL (jf_lot p seed)), none, some (aL ((0 + (jf_O p 0)) + (jf_O p 1))), none, some (aI 2)], [aL (jf_O p 2), aL ((0 + (jf_O p 0)) + (jf_O p 1))], M)
      refine hR _ (hR _ (hR _ (hR _ (?_))))
      show R (57, [some (aR 4 0), some (aI seed), some (aL (jf_lot p seed)), none, some (aL (((0 + (jf_O p 0)) + (jf_O p 1)) + (jf_O p 2))), none, some (aI 2)], [aL (jf_lot p seed), aL (((0 + (jf_O p 0)) + (jf_O p 1)) + (jf_O p 2))], M)
      refine am_lc (x := (((0 + (jf_O p 0)) + (jf_O p 1)) + (jf_O p 2))) (y := (jf_lot p seed)) (P := (((0 + (jf_O p 0)) + (jf_O p 1)) + (jf_O p 2)) ≤ (jf_lot p seed)) (A := R (64, [some (aR 4 0), some (aI seed), some (aL (jf_lot p seed)), none, some (aL (((0 + (jf_O p 0)) + (jf_O p 1)) + (jf_O p 2))), none, some (aI 2)], [], M)) (B := R (61, [some (aR 4 0), some (aI seed), some (aL (jf_lot p seed)), none, some (aL (((0 + (jf_O p 0)) + (jf_O p 1)) + (jf_O p 2))), none, some (aI 2)], [], M)) (by omega) (fun hA hB => hR _ ⟨(by omega), (fun hz => hR _ (am_brt (P := (-1 : Int) ≤ 0) (A := R (64, [some (aR 4 0), some (aI seed), some (aL (jf_lot p seed)), none, some (aL (((0 + (jf_O p 0)) + (jf_O p 1)) + (jf_O p 2))), none, some (aI 2)], [], M)) (B := R (61, [some (aR 4 0), some (aI seed), some (aL (jf_lot p seed)), none, some (aL (((0 + (jf_O p 0)) + (jf_O p 1)) + (jf_O p 2))), none, some (aI 2)], [], M)) (by omega) (by omega) (hA (by omega)))), (fun hz => hR _ (am_brt (P := (0 : Int) ≤ 0) (A := R (64, [some (aR 4 0), some (aI seed), some (aL (jf_lot p seed)), none, some (aL (((0 + (jf_O p 0)) + (jf_O p 1)) + (jf_O p 2))), none, some (aI 2)], [], M)) (B := R (61, [some (aR 4 0), some (aI seed), some (aL (jf_lot p seed)), none, some (aL (((0 + (jf_O p 0)) + (jf_O p 1)) + (jf_O p 2))), none, some (aI 2)], [], M)) (by omega) (by omega) (hA (by omega)))), (fun hz => hR _ (am_brf (P := (1 : Int) ≤ 0) (A := R (64, [some (aR 4 0), some (aI seed), some (aL (jf_lot p seed)), none, some (aL (((0 + (jf_O p 0)) + (jf_O p 1)) + (jf_O p 2))), none, some (aI 2)], [], M)) (B := R (61, [some (aR 4 0), some (aI seed), some (aL (jf_lot p seed)), none, some (aL (((0 + (jf_O p 0)) + (jf_O p 1)) + (jf_O p 2))), none, some (aI 2)], [], M)) (by omega) (by omega) (hB (by omega))))⟩) (fun c57 => ?_) (fun c57 => ?_)
      · refine hR _ (hR _ (hR _ (hR _ (hR _ (am_brf (rg := am_in 3 ∧ am_in 5) (P := 5 ≤ 3) (A := R (70, [some (aR 4 0), some (aI seed), some (aL (jf_lot p seed)), none, some (aL (((0 + (jf_O p 0)) + (jf_O p 1)) + (jf_O p 2))), none, some (aI 3)], [], M)) (B := R (41, [some (aR 4 0), some (aI seed), some (aL (jf_lot p seed)), none, some (aL (((0 + (jf_O p 0)) + (jf_O p 1)) + (jf_O p 2))), none, some (aI 3)], [], M)) (by omega) (by omega) ?_)))))
        show R (41, [some (aR 4 0), some (aI seed), some (aL (jf_lot p seed)), none, some (aL (((0 + (jf_O p 0)) + (jf_O p 1)) + (jf_O p 2))), none, some (aI 3)], [], M)
        refine hR _ (hR _ (hR _ (hR _ (?_))))
        show R (49, [some (aR 4 0), some (aI seed), some (aL (jf_lot p seed)), none, some (aL (((0 + (jf_O p 0)) + (jf_O p 1)) + (jf_O p 2))), none, some (aI 3)], [aI 3, aR 14 0, aL (((0 + (jf_O p 0)) + (jf_O p 1)) + (jf_O p 2))], M)
        refine hR _ ⟨(show 0 ≤ (3 : Int) ∧ (3 : Int) < 5 from (by omega)), ?_⟩
        show R (50, [some (aR 4 0), some (aI seed), some (aL (jf_lot p seed)), none, some (aL (((0 + (jf_O p 0)) + (jf_O p 1)) + (jf_O p 2))), none, some (aI 3)], [aI (M 14 0 3), aL (((0 + (jf_O p 0)) + (jf_O p 1)) + (jf_O p 2))], M)
        rw [(hthr 3 (by omega)).2.2]
        show R (50, [some (aR 4 0), some (aI seed), some (aL (jf_lot p seed)), none, some (aL (((0 + (jf_O p 0)) + (jf_O p 1)) + (jf_O p 2))), none, some (aI 3)], [aI (jf_O p 3), aL (((0 + (jf_O p 0)) + (jf_O p 1)) + (jf_O p 2))], M)
        refine hR _ ⟨(by omega), ?_⟩
        show R (51, [some (aR 4 0), some (aI seed), some (aL (jf_lot p seed)), none, some (aL (((0 + (jf_O p 0)) + (jf_O p 1)) + (jf_O p 2))), none, some (aI 3)], [aL (jf_O p 3), aL (((0 + (jf_O p 0)) + (jf_O p 1)) + (jf_O p 2))], M)
        refine hR _ (hR _ (hR _ (hR _ (?_))))
        show R (57, [some (aR 4 0), some (aI seed), some (aL (jf_lot p seed)), none, some (aL ((((0 + (jf_O p 0)) + (jf_O p 1)) + (jf_O p 2)) + (jf_O p 3))), none, some (aI 3)], [aL (jf_lot p seed), aL ((((0 + (jf_O p 0)) + (jf_O p 1)) + (jf_O p 2)) + (jf_O p 3))], M)
        refine am_lc (x := ((((0 + (jf_O p 0)) + (jf_O p 1)) + (jf_O p 2)) + (jf_O p 3))) (y := (jf_lot p seed)) (P := ((((0 + (jf_O p 0)) + (jf_O p 1)) + (jf_O p 2)) + (jf_O p 3)) ≤ (jf_lot p seed)) (A := R (64, [some (aR 4 0), some (aI seed), some (aL (jf_lot p seed)), none, some (aL ((((0 + (jf_O p 0)) + (jf_O p 1)) + (jf_O p 2)) + (jf_O p 3))), none, some (aI 3)], [], M)) (B := R (61, [some (aR 4 0), some (aI seed), some (aL (jf_lot p seed)), none, some (aL ((((0 + (jf_O p 0)) + (jf_O p 1)) + (jf_O p 2)) + (jf_O p 3))), none, some (aI 3)], [], M)) (by omega) (fun hA hB => hR _ ⟨(by omega), (fun hz => hR _ (am_brt (P := (-1 : Int) ≤ 0) (A := R (64, [some (aR 4 0), some (aI seed), some (aL (jf_lot p seed)), none, some (aL ((((0 + (jf_O p 0)) + (jf_O p 1)) + (jf_O p 2)) + (jf_O p 3))), none, some (aI 3)], [], M)) (B := R (61, [some (aR 4 0), some (aI seed), some (aL (jf_lot p seed)), none, some (aL ((((0 + (jf_O p 0)) + (jf_O p 1)) + (jf_O p 2)) + (jf_O p 3))), none, some (aI 3)], [], M)) (by omega) (by omega) (hA (by omega)))), (fun hz => hR _ (am_brt (P := (0 : Int) ≤ 0) (A := R (64, [some (aR 4 0), some (aI seed), some (aL (jf_lot p seed)), none, some (aL ((((0 + (jf_O p 0)) + (jf_O p 1)) + (jf_O p 2)) + (jf_O p 3))), none, some (aI 3)], [], M)) (B := R (61, [some (aR 4 0), some (aI seed), some (aL (jf_lot p seed)), none, some (aL ((((0 + (jf_O p 0)) + (jf_O p 1)) + (jf_O p 2)) + (jf_O p 3))), none, some (aI 3)], [], M)) (by omega) (by omega) (hA (by omega)))), (fun hz => hR _ (am_brf (P := (1 : Int) ≤ 0) (A := R (64, [some (aR 4 0), some (aI seed), some (aL (jf_lot p seed)), none, some (aL ((((0 + (jf_O p 0)) + (jf_O p 1)) + (jf_O p 2)) + (jf_O p 3))), none, some (aI 3)], [], M)) (B := R (61, [some (aR 4 0), some (aI seed), some (aL (jf_lot p seed)), none, some (aL ((((0 + (jf_O p 0)) + (jf_O p 1)) + (jf_O p 2)) + (jf_O p 3))), none, some (aI 3)], [], M)) (by omega) (by omega) (hB (by omega))))⟩) (fun c57 => ?_) (fun c57 => ?_)
        · refine hR _ (hR _ (hR _ (hR _ (hR _ (am_brf (rg := am_in 4 ∧ am_in 5) (P := 5 ≤ 4) (A := R (70, [some (aR 4 0), some (aI seed), some (aL (jf_lot p seed)), none, some (aL ((((0 + (jf_O p 0)) + (jf_O p 1)) + (jf_O p 2)) + (jf_O p 3))), none, some (aI 4)], [], M)) (B := R (41, [some (aR 4 0), some (aI seed), some (aL (jf_lot p seed)), none, some (aL ((((0 + (jf_O p 0)) + (jf_O p 1)) + (jf_O p 2)) + (jf_O p 3))), none, some (aI 4)], [], M)) (by omega) (by omega) ?_)))))
          show R (41, [some (aR 4 0), some (aI seed), some (aL (jf_lot p seed)), none, some (aL ((((0 + (jf_O p 0)) + (jf_O p 1)) + (jf_O p 2)) + (jf_O p 3))), none, some (aI 4)], [], M)
          refine hR _ (hR _ (hR _ (hR _ (?_))))
          show R (49, [some (aR 4 0), some (aI seed), some (aL (jf_lot p seed)), none, some (aL ((((0 + (jf_O p 0)) + (jf_O p 1)) + (jf_O p 2)) + (jf_O p 3))), none, some (aI 4)], [aI 4, aR 14 0, aL ((((0 + (jf_O p 0)) + (jf_O p 1)) + (jf_O p 2)) + (jf_O p 3))], M)
          refine hR _ ⟨(show 0 ≤ (4 : Int) ∧ (4 : Int) < 5 from (by omega)), ?_⟩
          show R (50, [some (aR 4 0), some (aI seed), some (aL (jf_lot p seed)), none, some (aL ((((0 + (jf_O p 0)) + (jf_O p 1)) + (jf_O p 2)) + (jf_O p 3))), none, some (aI 4)], [aI (M 14 0 4), aL ((((0 + (jf_O p 0)) + (jf_O p 1)) + (jf_O p 2)) + (jf_O p 3))], M)
          rw [(hthr 4 (by omega)).2.2]
          show R (50, [some (aR 4 0), some (aI seed), some (aL (jf_lot p seed)), none, some (aL ((((0 + (jf_O p 0)) + (jf_O p 1)) + (jf_O p 2)) + (jf_O p 3))), none, some (aI 4)], [aI (jf_O p 4), aL ((((0 + (jf_O p 0)) + (jf_O p 1)) + (jf_O p 2)) + (jf_O p 3))], M)
          refine hR _ ⟨(by omega), ?_⟩
          show R (51, [some (aR 4 0), some (aI seed), some (aL (jf_lot p seed)), none, some (aL ((((0 + (jf_O p 0)) + (jf_O p 1)) + (jf_O p 2)) + (jf_O p 3))), none, some (aI 4)], [aL (jf_O p 4), aL ((((0 + (jf_O p 0)) + (jf_O p 1)) + (jf_O p 2)) + (jf_O p 3))], M)
          refine hR _ (hR _ (hR _ (hR _ (?_))))
          show R (57, [some (aR 4 0), some (aI seed), some (aL (jf_lot p seed)), none, some (aL (((((0 + (jf_O p 0)) + (jf_O p 1)) + (jf_O p 2)) + (jf_O p 3)) + (jf_O p 4))), none, some (aI 4)], [aL (jf_lot p seed), aL (((((0 + (jf_O p 0)) + (jf_O p 1)) + (jf_O p 2)) + (jf_O p 3)) + (jf_O p 4))], M)
          refine am_lc (x := (((((0 + (jf_O p 0)) + (jf_O p 1)) + (jf_O p 2)) + (jf_O p 3)) + (jf_O p 4))) (y := (jf_lot p seed)) (P := (((((0 + (jf_O p 0)) + (jf_O p 1)) + (jf_O p 2)) + (jf_O p 3)) + (jf_O p 4)) ≤ (jf_lot p seed)) (A := R (64, [some (aR 4 0), some (aI seed), some (aL (jf_lot p seed)), none, some (aL (((((0 + (jf_O p 0)) + (jf_O p 1)) + (jf_O p 2)) + (jf_O p 3)) + (jf_O p 4))), none, some (aI 4)], [], M)) (B := R (61, [some (aR 4 0), some (aI seed), some (aL (jf_lot p seed)), none, some (aL (((((0 + (jf_O p 0)) + (jf_O p 1)) + (jf_O p 2)) + (jf_O p 3)) + (jf_O p 4))), none, some (aI 4)], [], M)) (by omega) (fun hA hB => hR _ ⟨(by omega), (fun hz => hR _ (am_brt (P := (-1 : Int) ≤ 0) (A := R (64, [some (aR 4 0), some (aI seed), some (aL (jf_lot p seed)), none, some (aL (((((0 + (jf_O p 0)) + (jf_O p 1)) + (jf_O p 2)) + (jf_O p 3)) + (jf_O p 4))), none, some (aI 4)], [], M)) (B := R (61, [some (aR 4 0), some (aI seed), some (aL (jf_lot p seed)), none, some (aL (((((0 + (jf_O p 0)) + (jf_O p 1)) + (jf_O p 2)) + (jf_O p 3)) + (jf_O p 4))), none, some (aI 4)], [], M)) (by omega) (by omega) (hA (by omega)))), (fun hz => hR _ (am_brt (P := (0 : Int) ≤ 0) (A := R (64, [some (aR 4 0), some (aI seed), some (aL (jf_lot p seed)), none, some (aL (((((0 + (jf_O p 0)) + (jf_O p 1)) + (jf_O p 2)) + (jf_O p 3)) + (jf_O p 4))), none, some (aI 4)], [], M)) (B := R (61, [some (aR 4 0), some (aI seed), some (aL (jf_lot p seed)), none, some (aL (((((0 + (jf_O p 0)) + (jf_O p 1)) + (jf_O p 2)) + (jf_O p 3)) + (jf_O p 4))), none, some (aI 4)], [], M)) (by omega) (by omega) (hA (by omega)))), (fun hz => hR _ (am_brf (P := (1 : Int) ≤ 0) (A := R (64, [some (aR 4 0), some (aI seed), some (aL (jf_lot p seed)), none, some (aL (((((0 + (jf_O p 0)) + (jf_O p 1)) + (jf_O p 2)) + (jf_O p 3)) + (jf_O p 4))), none, some (aI 4)], [], M)) (B := R (61, [some (aR 4 0), some (aI seed), some (aL (jf_lot p seed)), none, some (aL (((((0 + (jf_O p 0)) + (jf_O p 1)) + (jf_O p 2)) + (jf_O p 3)) + (jf_O p 4))), none, some (aI 4)], [], M)) (by omega) (by omega) (hB (by omega))))⟩) (fun c57 => ?_) (fun c57 => ?_)
          · refine hR _ (hR _ (hR _ (hR _ (hR _ (am_brt (rg := am_in 5 ∧ am_in 5) (P := (5 : Int) ≤ 5) (A := R (70, [some (aR 4 0), some (aI seed), some (aL (jf_lot p seed)), none, some (aL (((((0 + (jf_O p 0)) + (jf_O p 1)) + (jf_O p 2)) + (jf_O p 3)) + (jf_O p 4))), none, some (aI 5)], [], M)) (B := R (41, [some (aR 4 0), some (aI seed), some (aL (jf_lot p seed)), none, some (aL (((((0 + (jf_O p 0)) + (jf_O p 1)) + (jf_O p 2)) + (jf_O p 3)) + (jf_O p 4))), none, some (aI 5)], [], M)) (by omega) (by omega) ?_)))))
            show R (70, [some (aR 4 0), some (aI seed), some (aL (jf_lot p seed)), none, some (aL (((((0 + (jf_O p 0)) + (jf_O p 1)) + (jf_O p 2)) + (jf_O p 3)) + (jf_O p 4))), none, some (aI 5)], [], M)
            refine hR _ (?_)
            show R (71, [some (aR 4 0), some (aI seed), some (aL (jf_lot p seed)), none, some (aL (((((0 + (jf_O p 0)) + (jf_O p 1)) + (jf_O p 2)) + (jf_O p 3)) + (jf_O p 4))), none, some (aI 5)], [aI 0], M)
            refine hR _ (show K (some (aI 0)) M from ?_)
            exact absurd hA (by omega)
          · refine hR _ (?_)
            show R (63, [some (aR 4 0), some (aI seed), some (aL (jf_lot p seed)), none, some (aL (((((0 + (jf_O p 0)) + (jf_O p 1)) + (jf_O p 2)) + (jf_O p 3)) + (jf_O p 4))), none, some (aI 4)], [aI 4], M)
            refine hR _ (show K (some (aI 4)) M from ?_)
            rw [show jf_lb p seed = 4 by unfold jf_lb; rw [if_neg (by omega)]; rw [if_neg (by omega)]; rw [if_neg (by omega)]; rw [if_neg (by omega)];] at h
            exact h
        · refine hR _ (?_)
          show R (63, [some (aR 4 0), some (aI seed), some (aL (jf_lot p seed)), none, some (aL ((((0 + (jf_O p 0)) + (jf_O p 1)) + (jf_O p 2)) + (jf_O p 3))), none, some (aI 3)], [aI 3], M)
          refine hR _ (show K (some (aI 3)) M from ?_)
          rw [show jf_lb p seed = 3 by unfold jf_lb; rw [if_neg (by omega)]; rw [if_neg (by omega)]; rw [if_neg (by omega)]; rw [if_pos (by omega)]] at h
          exact h
      · refine hR _ (?_)
        show R (63, [some (aR 4 0), some (aI seed), some (aL (jf_lot p seed)), none, some (aL (((0 + (jf_O p 0)) + (jf_O p 1)) + (jf_O p 2))), none, some (aI 2)], [aI 2], M)
        refine hR _ (show K (some (aI 2)) M from ?_)
        rw [show jf_lb p seed = 2 by unfold jf_lb; rw [if_neg (by omega)]; rw [if_neg (by omega)]; rw [if_pos (by omega)]] at h
        exact h
    · refine hR _ (?_)
      show R (63, [some (aR 4 0), some (aI seed), some (aL (jf_lot p seed)), none, some (aL ((0 + (jf_O p 0)) + (jf_O p 1))), none, some (aI 1)], [aI 1], M)
      refine hR _ (show K (some (aI 1)) M from ?_)
      rw [show jf_lb p seed = 1 by unfold jf_lb; rw [if_neg (by omega)]; rw [if_pos (by omega)]] at h
      exact h
  · refine hR _ (?_)
    show R (63, [some (aR 4 0), some (aI seed), some (aL (jf_lot p seed)), none, some (aL (0 + (jf_O p 0))), none, some (aI 0)], [aI 0], M)
    refine hR _ (show K (some (aI 0)) M from ?_)
    rw [show jf_lb p seed = 0 by unfold jf_lb;  rw [if_pos (by omega)]] at h
    exact h
