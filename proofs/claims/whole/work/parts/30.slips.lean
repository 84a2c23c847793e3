/-! wb -/
variable {wb : Bool}
/-! Told slips -/
theorem am_i2b_in (x : Int) : am_in (am_i2b x) := by
  have h1 := Int32.le_toInt ((i3 x).toInt8.toInt32)
  have h2 := Int32.toInt_lt ((i3 x).toInt8.toInt32)
  unfold am_i2b am_in
  omega
theorem am_i2s_in (x : Int) : am_in (am_i2s x) := by
  have h1 := Int32.le_toInt ((i3 x).toInt16.toInt32)
  have h2 := Int32.toInt_lt ((i3 x).toInt16.toInt32)
  unfold am_i2s am_in
  omega
theorem i3_of_toInt (x : Int32) : i3 x.toInt = x := by
  unfold i3
  exact Int32.ofInt_toInt x
theorem am_i2b_i2b (x : Int) : am_i2b (am_i2b x) = am_i2b x := by
  unfold am_i2b
  rw [i3_of_toInt, Int8.toInt8_toInt32]
theorem am_i2s_i2s (x : Int) : am_i2s (am_i2s x) = am_i2s x := by
  unfold am_i2s
  rw [i3_of_toInt, Int16.toInt16_toInt32]
theorem jf_put_in {s v : Int} (h : am_in v) : am_in (jf_put s v) := by
  unfold jf_put
  split
  · exact am_i2b_in v
  · split
    · exact am_i2s_in v
    · exact h
theorem jf_put_put (s v : Int) : jf_put s (jf_put s v) = jf_put s v := by
  unfold jf_put
  split
  · exact am_i2b_i2b v
  · split
    · exact am_i2s_i2s v
    · rfl
theorem jf_put_0 (s : Int) : jf_put s 0 = 0 := by
  unfold jf_put
  split
  · decide
  · split
    · decide
    · rfl
def jf_pb (p : jf_par) (c : Nat → Int) : Nat → Int
  | 0 => 1000000000
  | n + 1 => Int.tdiv (jf_pb p c n * jf_at p (c n)) (jf_A p)
def jf_fu (p : jf_par) (c : Nat → Int) : Nat → Nat → Int
  | 0, _ => -1
  | n + 1, i => if jf_at p (c i) = 0 then (i : Int) else jf_fu p c n (i + 1)
theorem jf_fu_b (p : jf_par) (c : Nat → Int) : ∀ n i : Nat, -1 ≤ jf_fu p c n i ∧ jf_fu p c n i ≤ n + i
  | 0, i => by
    unfold jf_fu
    omega
  | n + 1, i => by
    have := jf_fu_b p c n (i + 1)
    unfold jf_fu
    split <;> omega
theorem jf_pb_b {p : jf_par} (hp : jf_ok p) (c : Nat → Int) : ∀ n, 0 ≤ jf_pb p c n ∧ jf_pb p c n ≤ 1000000000
  | 0 => by
    unfold jf_pb
    omega
  | n + 1 => by
    have ih := jf_pb_b hp c n
    have h1 := jf_at_b hp (c n)
    have h2 := jf_at_A hp (c n)
    have h3 := jf_A_b hp
    have h4 : 0 ≤ jf_pb p c n * jf_at p (c n) := Int.mul_nonneg ih.1 h1.1
    have h5 : jf_pb p c n * jf_at p (c n) ≤ 1000000000 * jf_A p := Int.mul_le_mul ih.2 h2 h1.1 (by omega)
    unfold jf_pb
    rw [jf_td _ _ h4]
    exact ⟨Int.ediv_nonneg h4 (by omega), Int.ediv_le_of_le_mul (by omega) h5⟩

theorem sp_read {d : Nat} (hd : 2 ≤ d) {s : Nat} {i : Int} {M : am_M} {K : am_K} (hs : s < 4) (hi : 0 ≤ i ∧ i ≤ 39) (h : K (some (aI (M 21 s i.toNat))) M) : am_Call wb d 95 [aR 2 s, aI i] M K := by
  obtain ⟨d, rfl⟩ : ∃ e, d = e + 1 := ⟨d - 1, by omega⟩
  refine ⟨rfl, fun R hR hC => ?_⟩
  replace hR : ∀ c, am_F wb tb_f95 1 (am_Call wb d) K R c → R c := hR
  show R (0, [some (aR 2 s), some (aI i)], [], M)
  refine hR _ (hR _ (hR _ (?_)))
  show R (4, [some (aR 2 s), some (aI i)], [aI 39, aI 0, aI i], M)
  refine hR _ (sp_within (by omega) (by omega) (fun h4 => ?_) (fun h4 => ?_))
  · show R (7, [some (aR 2 s), some (aI i)], [aI 1], M)
    refine hR _ (am_brf (rg := am_in 1) (P := (1 : Int) = 0) (A := R (19, [some (aR 2 s), some (aI i)], [], M)) (B := R (10, [some (aR 2 s), some (aI i)], [], M)) (by omega) (by omega) ?_)
    show R (10, [some (aR 2 s), some (aI i)], [], M)
    refine hR _ (?_)
    show R (11, [some (aR 2 s), some (aI i)], [aR 2 s], M)
    refine hR _ (am_ct (am_vi (by omega : s < 4)) ?_)
    show R (14, [some (aR 2 s), some (aI i)], [aR 21 s], M)
    refine hR _ (?_)
    show R (15, [some (aR 2 s), some (aI i)], [aI i, aR 21 s], M)
    refine hR _ (am_ct (am_vi (by omega : s < 4)) ⟨(show 0 ≤ (i : Int) ∧ (i : Int) < 40 from (by omega)), ?_⟩)
    show R (16, [some (aR 2 s), some (aI i)], [aI (M 21 s ((i).toNat))], M)
    refine hR _ (?_)
    show R (20, [some (aR 2 s), some (aI i)], [aI (M 21 s ((i).toNat))], M)
    refine hR _ (show K (some (aI (M 21 s ((i).toNat)))) M from ?_)
    exact h
  · show R (7, [some (aR 2 s), some (aI i)], [aI 0], M)
    refine hR _ (am_brt (rg := am_in 0) (P := (0 : Int) = 0) (A := R (19, [some (aR 2 s), some (aI i)], [], M)) (B := R (10, [some (aR 2 s), some (aI i)], [], M)) (by omega) (by omega) ?_)
    show R (19, [some (aR 2 s), some (aI i)], [], M)
    refine hR _ (?_)
    show R (20, [some (aR 2 s), some (aI i)], [aI 0], M)
    refine hR _ (show K (some (aI 0)) M from ?_)
    exact absurd hi (by omega)

theorem sp_write {d : Nat} (hd : 2 ≤ d) {s : Nat} {i v : Int} {M : am_M} {K : am_K} (hs : s < 4) (hi : 0 ≤ i ∧ i ≤ 39) (hso : am_in (M 180 s 0)) (hv : am_in v) (h : K none (am_wr M 21 s i.toNat (jf_put (M 180 s 0) v))) : am_Call wb d 105 [aR 2 s, aI i, aI v] M K := by
  obtain ⟨d, rfl⟩ : ∃ e, d = e + 1 := ⟨d - 1, by omega⟩
  refine ⟨rfl, fun R hR hC => ?_⟩
  replace hR : ∀ c, am_F wb tb_f105 0 (am_Call wb d) K R c → R c := hR
  show R (0, [some (aR 2 s), some (aI i), some (aI v)], [], M)
  refine hR _ (hR _ (hR _ (?_)))
  show R (4, [some (aR 2 s), some (aI i), some (aI v)], [aI 39, aI 0, aI i], M)
  refine hR _ (sp_within (by omega) (by omega) (fun h4 => ?_) (fun h4 => ?_))
  · show R (7, [some (aR 2 s), some (aI i), some (aI v)], [aI 1], M)
    refine hR _ (am_brt (rg := am_in 1) (P := (1 : Int) ≠ 0) (A := R (11, [some (aR 2 s), some (aI i), some (aI v)], [], M)) (B := R (10, [some (aR 2 s), some (aI i), some (aI v)], [], M)) (by omega) (by omega) ?_)
    show R (11, [some (aR 2 s), some (aI i), some (aI v)], [], M)
    refine hR _ (?_)
    show R (12, [some (aR 2 s), some (aI i), some (aI v)], [aR 2 s], M)
    refine hR _ (am_ct (am_vi (by omega : s < 4)) ?_)
    show R (15, [some (aR 2 s), some (aI i), some (aI v)], [aR 21 s], M)
    refine hR _ (hR _ (?_))
    show R (17, [some (aR 2 s), some (aI i), some (aI v)], [aR 2 s, aI i, aR 21 s], M)
    refine hR _ (am_ct (am_vi (by omega : s < 4)) ?_)
    show R (20, [some (aR 2 s), some (aI i), some (aI v)], [aI (M 180 s 0), aI i, aR 21 s], M)
    refine hR _ (am_brc (rg := am_in (M 180 s 0)) (P := M 180 s 0 ≠ 0) (A := R (28, [some (aR 2 s), some (aI i), some (aI v)], [aI i, aR 21 s], M)) (B := R (23, [some (aR 2 s), some (aI i), some (aI v)], [aI i, aR 21 s], M)) (by omega) (fun c20 => ?_) (fun c20 => ?_))
    · refine hR _ (?_)
      show R (29, [some (aR 2 s), some (aI i), some (aI v)], [aR 2 s, aI i, aR 21 s], M)
      refine hR _ (am_ct (am_vi (by omega : s < 4)) ?_)
      show R (32, [some (aR 2 s), some (aI i), some (aI v)], [aI (M 180 s 0), aI i, aR 21 s], M)
      refine hR _ (hR _ (am_brc (rg := am_in (M 180 s 0) ∧ am_in 1) (P := M 180 s 0 ≠ 1) (A := R (41, [some (aR 2 s), some (aI i), some (aI v)], [aI i, aR 21 s], M)) (B := R (36, [some (aR 2 s), some (aI i), some (aI v)], [aI i, aR 21 s], M)) (by omega) (fun c33 => ?_) (fun c33 => ?_)))
      · refine hR _ (?_)
        show R (42, [some (aR 2 s), some (aI i), some (aI v)], [aI v, aI i, aR 21 s], M)
        refine hR _ (am_ct (am_vi (by omega : s < 4)) ⟨(show 0 ≤ (i : Int) ∧ (i : Int) < 40 from (by omega)), ?_⟩)
        show R (43, [some (aR 2 s), some (aI i), some (aI v)], [], am_wr M 21 s ((i).toNat) v)
        refine hR _ (show K none (am_wr M 21 s ((i).toNat) v) from ?_)
        rw [show jf_put (M 180 s 0) v = v by unfold jf_put; rw [if_neg (by omega), if_neg (by omega)]] at h
        exact h
      · refine hR _ (hR _ (hR _ (?_)))
        show R (42, [some (aR 2 s), some (aI i), some (aI v)], [aI (am_i2s v), aI i, aR 21 s], M)
        refine hR _ (am_ct (am_vi (by omega : s < 4)) ⟨(show 0 ≤ (i : Int) ∧ (i : Int) < 40 from (by omega)), ?_⟩)
        show R (43, [some (aR 2 s), some (aI i), some (aI v)], [], am_wr M 21 s ((i).toNat) (am_i2s v))
        refine hR _ (show K none (am_wr M 21 s ((i).toNat) (am_i2s v)) from ?_)
        rw [show jf_put (M 180 s 0) v = (am_i2s v) by unfold jf_put; rw [if_neg (by omega), if_pos (by omega)]] at h
        exact h
    · refine hR _ (hR _ (hR _ (?_)))
      show R (42, [some (aR 2 s), some (aI i), some (aI v)], [aI (am_i2b v), aI i, aR 21 s], M)
      refine hR _ (am_ct (am_vi (by omega : s < 4)) ⟨(show 0 ≤ (i : Int) ∧ (i : Int) < 40 from (by omega)), ?_⟩)
      show R (43, [some (aR 2 s), some (aI i), some (aI v)], [], am_wr M 21 s ((i).toNat) (am_i2b v))
      refine hR _ (show K none (am_wr M 21 s ((i).toNat) (am_i2b v)) from ?_)
      rw [show jf_put (M 180 s 0) v = (am_i2b v) by unfold jf_put; rw [if_pos (by omega)]] at h
      exact h
  · show R (7, [some (aR 2 s), some (aI i), some (aI v)], [aI 0], M)
    refine hR _ (am_brf (rg := am_in 0) (P := (0 : Int) ≠ 0) (A := R (11, [some (aR 2 s), some (aI i), some (aI v)], [], M)) (B := R (10, [some (aR 2 s), some (aI i), some (aI v)], [], M)) (by omega) (by omega) ?_)
    show R (10, [some (aR 2 s), some (aI i), some (aI v)], [], M)
    refine hR _ (show K none M from ?_)
    exact absurd hi (by omega)

theorem sp_become {d : Nat} (hd : 1 ≤ d) {s : Nat} {sort n0 : Int} {M : am_M} {K : am_K} (hs : s < 4) (hso : am_in sort) (hn : am_in n0) (h : ∀ g : am_M, g 180 s 0 = sort → g 181 s 0 = max 0 (min 40 n0) → (∀ j, j < 40 → g 21 s j = 0) → (∀ s2, s2 ≠ s → g 180 s2 0 = M 180 s2 0 ∧ g 181 s2 0 = M 181 s2 0 ∧ ∀ j, g 21 s2 j = M 21 s2 j) → K none (am_mix [180, 181, 21] g M)) : am_Call wb d 103 [aR 2 s, aI sort, aI n0] M K := by
  obtain ⟨d, rfl⟩ : ∃ e, d = e + 1 := ⟨d - 1, by omega⟩
  refine ⟨rfl, fun R hR hC => ?_⟩
  replace hR : ∀ c, am_F wb tb_f103 0 (am_Call wb d) K R c → R c := hR
  show R (0, [some (aR 2 s), some (aI sort), some (aI n0), none], [], M)
  refine hR _ (hR _ (?_))
  show R (2, [some (aR 2 s), some (aI sort), some (aI n0), none], [aI sort, aR 2 s], M)
  refine hR _ (am_ct (am_vi (by omega : s < 4)) ?_)
  show R (5, [some (aR 2 s), some (aI sort), some (aI n0), none], [], am_wr M 180 s 0 sort)
  refine hR _ (hR _ (hR _ (hR _ (?_))))
  show R (10, [some (aR 2 s), some (aI sort), some (aI n0), none], [aI 40, aI n0, aI 0, aR 2 s], am_wr M 180 s 0 sort)
  refine hR _ ⟨(by omega), ?_⟩
  show R (13, [some (aR 2 s), some (aI sort), some (aI n0), none], [aI (min n0 40), aI 0, aR 2 s], am_wr M 180 s 0 sort)
  refine hR _ ⟨(by omega), ?_⟩
  show R (16, [some (aR 2 s), some (aI sort), some (aI n0), none], [aI (max 0 (min n0 40)), aR 2 s], am_wr M 180 s 0 sort)
  refine hR _ (am_ct (am_vi (by omega : s < 4)) ?_)
  show R (19, [some (aR 2 s), some (aI sort), some (aI n0), none], [], am_wr (am_wr M 180 s 0 sort) 181 s 0 (max 0 (min n0 40)))
  refine hR _ (hR _ (?_))
  show R (21, [some (aR 2 s), some (aI sort), some (aI n0), some (aI 0)], [], am_wr (am_wr M 180 s 0 sort) 181 s 0 (max 0 (min n0 40)))
  have key : ∀ (n i : Nat) (x : Int) (g : am_M), x = (i : Int) → i + n = 40 → g 180 s 0 = sort → g 181 s 0 = max 0 (min 40 n0) → (∀ j, j < i → g 21 s j = 0) → (∀ s2, s2 ≠ s → g 180 s2 0 = M 180 s2 0 ∧ g 181 s2 0 = M 181 s2 0 ∧ ∀ j, g 21 s2 j = M 21 s2 j) → R (21, [some (aR 2 s), some (aI sort), some (aI n0), some (aI x)], [], am_mix [180, 181, 21] g M) := by
    intro n
    induction n with
    | zero =>
      intro i x g hx hin h1 h2 h3 h4
      subst hx
      refine hR _ (hR _ (hR _ (am_brt (rg := am_in ((i : Nat) : Int) ∧ am_in 40) (P := 40 ≤ ((i : Nat) : Int)) (A := R (40, [some (aR 2 s), some (aI sort), some (aI n0), some (aI ((i : Nat) : Int))], [], am_mix [180, 181, 21] g M)) (B := R (27, [some (aR 2 s), some (aI sort), some (aI n0), some (aI ((i : Nat) : Int))], [], am_mix [180, 181, 21] g M)) (by omega) (by omega) ?_)))
      show R (40, [some (aR 2 s), some (aI sort), some (aI n0), some (aI ((i : Nat) : Int))], [], am_mix [180, 181, 21] g M)
      refine hR _ (show K none (am_mix [180, 181, 21] g M) from ?_)
      exact h _ h1 h2 (fun j hj => h3 j (by omega)) h4
    | succ n ih =>
      intro i x g hx hin h1 h2 h3 h4
      subst hx
      refine hR _ (hR _ (hR _ (am_brf (rg := am_in ((i : Nat) : Int) ∧ am_in 40) (P := 40 ≤ ((i : Nat) : Int)) (A := R (40, [some (aR 2 s), some (aI sort), some (aI n0), some (aI ((i : Nat) : Int))], [], am_mix [180, 181, 21] g M)) (B := R (27, [some (aR 2 s), some (aI sort), some (aI n0), some (aI ((i : Nat) : Int))], [], am_mix [180, 181, 21] g M)) (by omega) (by omega) ?_)))
      show R (27, [some (aR 2 s), some (aI sort), some (aI n0), some (aI ((i : Nat) : Int))], [], am_mix [180, 181, 21] g M)
      refine hR _ (?_)
      show R (28, [some (aR 2 s), some (aI sort), some (aI n0), some (aI ((i : Nat) : Int))], [aR 2 s], am_mix [180, 181, 21] g M)
      refine hR _ (am_ct (am_vi (by omega : s < 4)) ?_)
      show R (31, [some (aR 2 s), some (aI sort), some (aI n0), some (aI ((i : Nat) : Int))], [aR 21 s], am_mix [180, 181, 21] g M)
      refine hR _ (hR _ (?_))
      show R (33, [some (aR 2 s), some (aI sort), some (aI n0), some (aI ((i : Nat) : Int))], [aI 0, aI ((i : Nat) : Int), aR 21 s], am_mix [180, 181, 21] g M)
      refine hR _ (am_ct (am_vi (by omega : s < 4)) ⟨(show 0 ≤ (((i : Nat) : Int) : Int) ∧ (((i : Nat) : Int) : Int) < 40 from (by omega)), ?_⟩)
      show R (34, [some (aR 2 s), some (aI sort), some (aI n0), some (aI ((i : Nat) : Int))], [], am_wr (am_mix [180, 181, 21] g M) 21 s i 0)
      refine hR _ (hR _ (?_))
      show R (21, [some (aR 2 s), some (aI sort), some (aI n0), some (aI (((i : Nat) : Int) + 1))], [], am_wr (am_mix [180, 181, 21] g M) 21 s i 0)
      have e9 : am_ag [180, 181, 21] M (am_wr (am_mix [180, 181, 21] g M) 21 s i 0) := ((am_ag.rf).mix rfl).wr rfl
      rw [e9.eq]
      refine ih (i + 1) _ _ rfl (by omega) h1 h2 ?_ ?_
      · intro j hj
        by_cases hji : j = i
        · rw [hji]
          exact am_wr_eq
        · exact (am_wr_ne (Or.inr (Or.inr (by omega)))).trans (h3 j (by omega))
      · intro s2 hs2
        exact ⟨(h4 s2 hs2).1, (h4 s2 hs2).2.1, fun j => (am_wr_ne (Or.inr (Or.inl hs2))).trans ((h4 s2 hs2).2.2 j)⟩
  have e9 : am_ag [180, 181, 21] M (am_wr (am_wr M 180 s 0 sort) 181 s 0 (max 0 (min n0 40))) := ((am_ag.rf).wr rfl).wr rfl
  rw [e9.eq]
  refine key 40 0 _ _ rfl rfl ?_ ?_ (fun j hj => absurd hj (by omega)) ?_
  · exact (am_wr_ne (Or.inl (by decide))).trans am_wr_eq
  · refine am_wr_eq.trans ?_
    omega
  · intro s2 hs2
    exact ⟨(am_wr_ne (Or.inl (by decide))).trans (am_wr_ne (Or.inr (Or.inl hs2))), (am_wr_ne (Or.inr (Or.inl hs2))).trans (am_wr_ne (Or.inl (by decide))), fun j => rfl⟩

theorem sp_partsBy {d : Nat} (hd : 6 ≤ d) {s k t : Nat} {M : am_M} {K : am_K} (hs : s < 4) (hJs : jf_Js M s) (hkw : jf_wk M k t) (hok : jf_ok (jf_xp M k t (M 220 0 0) 0)) (h : ∀ g, K (some (aL (jf_pb (jf_xp M k t (M 220 0 0) 0) (M 21 s) (M 181 s 0).toNat))) (am_mix [12, 13, 14, 263, 264, 265, 266, 346, 17, 19] g M)) : am_Call wb d 97 [aR 7 0, aR 2 s, aR 1 k, aR 6 t] M K := by
  obtain ⟨d, rfl⟩ : ∃ e, d = e + 1 := ⟨d - 1, by omega⟩
  refine ⟨rfl, fun R hR hC => ?_⟩
  replace hR : ∀ c, am_F wb tb_f97 5 (am_Call wb d) K R c → R c := hR
  have hmk : 1 ≤ M 220 0 0 ∧ M 220 0 0 ≤ 5100 := hok.2.2.2.2.2.2.2.1
  show R (0, [some (aR 7 0), some (aR 2 s), some (aR 1 k), some (aR 6 t), none, none, none], [], M)
  refine hR _ (hR _ (hR _ (hR _ (hR _ (hR _ (hR _ (hR _ (hR _ (hR _ (?_))))))))))
  show R (18, [some (aR 7 0), some (aR 2 s), some (aR 1 k), some (aR 6 t), none, none, none], [aI 0, aI (M 220 0 0), aR 3 0, aR 6 t, aR 1 k, aR 4 0], M)
  refine hR _ (sp_think (by omega) hkw hok (fun g87 hth => ?_))
  replace hth : jf_th (am_mix [12, 13, 14, 263, 264, 265, 266, 346, 17, 19] g87 M) (jf_xp M k t (M 220 0 0) 0) := hth
  obtain ⟨p, hp⟩ : ∃ p, p = jf_xp M k t (M 220 0 0) 0 := ⟨_, rfl⟩
  rw [← hp] at hth hok h
  have hthA : g87 263 0 0 = jf_A p := hth.2.1
  have hA := jf_A_b hok
  show R (21, [some (aR 7 0), some (aR 2 s), some (aR 1 k), some (aR 6 t), none, none, none], [], am_mix [12, 13, 14, 263, 264, 265, 266, 346, 17, 19] g87 M)
  refine hR _ (hR _ (hR _ (hR _ (?_))))
  show R (29, [some (aR 7 0), some (aR 2 s), some (aR 1 k), some (aR 6 t), some (aL 1000000000), none, some (aI 0)], [], am_mix [12, 13, 14, 263, 264, 265, 266, 346, 17, 19] g87 M)
  have hz := hJs.2.1
  have key : ∀ (n i : Nat) (x v : Int), x = (i : Int) → i + n = (M 181 s 0).toNat → v = jf_pb p (M 21 s) i → R (29, [some (aR 7 0), some (aR 2 s), some (aR 1 k), some (aR 6 t), some (aL v), none, some (aI x)], [], am_mix [12, 13, 14, 263, 264, 265, 266, 346, 17, 19] g87 M) := by
    intro n
    induction n with
    | zero =>
      intro i x v hx hin hv
      subst hx
      refine hR _ (hR _ (?_))
      show R (32, [some (aR 7 0), some (aR 2 s), some (aR 1 k), some (aR 6 t), some (aL v), none, some (aI ((i : Nat) : Int))], [aR 2 s, aI ((i : Nat) : Int)], am_mix [12, 13, 14, 263, 264, 265, 266, 346, 17, 19] g87 M)
      refine hR _ (am_ct (am_vi (by omega : s < 4)) ?_)
      show R (35, [some (aR 7 0), some (aR 2 s), some (aR 1 k), some (aR 6 t), some (aL v), none, some (aI ((i : Nat) : Int))], [aI (M 181 s 0), aI ((i : Nat) : Int)], am_mix [12, 13, 14, 263, 264, 265, 266, 346, 17, 19] g87 M)
      refine hR _ (am_brt (rg := am_in ((i : Nat) : Int) ∧ am_in (M 181 s 0)) (P := M 181 s 0 ≤ ((i : Nat) : Int)) (A := R (81, [some (aR 7 0), some (aR 2 s), some (aR 1 k), some (aR 6 t), some (aL v), none, some (aI ((i : Nat) : Int))], [], am_mix [12, 13, 14, 263, 264, 265, 266, 346, 17, 19] g87 M)) (B := R (38, [some (aR 7 0), some (aR 2 s), some (aR 1 k), some (aR 6 t), some (aL v), none, some (aI ((i : Nat) : Int))], [], am_mix [12, 13, 14, 263, 264, 265, 266, 346, 17, 19] g87 M)) (by omega) (by omega) ?_)
      show R (81, [some (aR 7 0), some (aR 2 s), some (aR 1 k), some (aR 6 t), some (aL v), none, some (aI ((i : Nat) : Int))], [], am_mix [12, 13, 14, 263, 264, 265, 266, 346, 17, 19] g87 M)
      refine hR _ (?_)
      show R (83, [some (aR 7 0), some (aR 2 s), some (aR 1 k), some (aR 6 t), some (aL v), none, some (aI ((i : Nat) : Int))], [aL v], am_mix [12, 13, 14, 263, 264, 265, 266, 346, 17, 19] g87 M)
      refine hR _ (show K (some (aL v)) (am_mix [12, 13, 14, 263, 264, 265, 266, 346, 17, 19] g87 M) from ?_)
      rw [show (M 181 s 0).toNat = i by omega, ← hv] at h
      exact h _
    | succ n ih =>
      intro i x v hx hin hv
      subst hx
      have hc := hJs.2.2 i (by omega)
      have hc1 := hc.1
      have hb := jf_pb_b hok (M 21 s) i
      rw [← hv] at hb
      refine hR _ (hR _ (?_))
      show R (32, [some (aR 7 0), some (aR 2 s), some (aR 1 k), some (aR 6 t), some (aL v), none, some (aI ((i : Nat) : Int))], [aR 2 s, aI ((i : Nat) : Int)], am_mix [12, 13, 14, 263, 264, 265, 266, 346, 17, 19] g87 M)
      refine hR _ (am_ct (am_vi (by omega : s < 4)) ?_)
      show R (35, [some (aR 7 0), some (aR 2 s), some (aR 1 k), some (aR 6 t), some (aL v), none, some (aI ((i : Nat) : Int))], [aI (M 181 s 0), aI ((i : Nat) : Int)], am_mix [12, 13, 14, 263, 264, 265, 266, 346, 17, 19] g87 M)
      refine hR _ (am_brf (rg := am_in ((i : Nat) : Int) ∧ am_in (M 181 s 0)) (P := M 181 s 0 ≤ ((i : Nat) : Int)) (A := R (81, [some (aR 7 0), some (aR 2 s), some (aR 1 k), some (aR 6 t), some (aL v), none, some (aI ((i : Nat) : Int))], [], am_mix [12, 13, 14, 263, 264, 265, 266, 346, 17, 19] g87 M)) (B := R (38, [some (aR 7 0), some (aR 2 s), some (aR 1 k), some (aR 6 t), some (aL v), none, some (aI ((i : Nat) : Int))], [], am_mix [12, 13, 14, 263, 264, 265, 266, 346, 17, 19] g87 M)) (by omega) (by omega) ?_)
      show R (38, [some (aR 7 0), some (aR 2 s), some (aR 1 k), some (aR 6 t), some (aL v), none, some (aI ((i : Nat) : Int))], [], am_mix [12, 13, 14, 263, 264, 265, 266, 346, 17, 19] g87 M)
      refine hR _ (hR _ (hR _ (?_)))
      show R (45, [some (aR 7 0), some (aR 2 s), some (aR 1 k), some (aR 6 t), some (aL v), none, some (aI ((i : Nat) : Int))], [aI (g87 263 0 0)], am_mix [12, 13, 14, 263, 264, 265, 266, 346, 17, 19] g87 M)
      rw [hthA]
      show R (45, [some (aR 7 0), some (aR 2 s), some (aR 1 k), some (aR 6 t), some (aL v), none, some (aI ((i : Nat) : Int))], [aI (jf_A p)], am_mix [12, 13, 14, 263, 264, 265, 266, 346, 17, 19] g87 M)
      refine hR _ (am_brf (rg := am_in (jf_A p)) (P := (jf_A p) ≤ 0) (A := R (81, [some (aR 7 0), some (aR 2 s), some (aR 1 k), some (aR 6 t), some (aL v), none, some (aI ((i : Nat) : Int))], [], am_mix [12, 13, 14, 263, 264, 265, 266, 346, 17, 19] g87 M)) (B := R (48, [some (aR 7 0), some (aR 2 s), some (aR 1 k), some (aR 6 t), some (aL v), none, some (aI ((i : Nat) : Int))], [], am_mix [12, 13, 14, 263, 264, 265, 266, 346, 17, 19] g87 M)) (by omega) (by omega) ?_)
      show R (48, [some (aR 7 0), some (aR 2 s), some (aR 1 k), some (aR 6 t), some (aL v), none, some (aI ((i : Nat) : Int))], [], am_mix [12, 13, 14, 263, 264, 265, 266, 346, 17, 19] g87 M)
      refine hR _ (hR _ (hR _ (hR _ (hR _ (?_)))))
      show R (57, [some (aR 7 0), some (aR 2 s), some (aR 1 k), some (aR 6 t), some (aL v), none, some (aI ((i : Nat) : Int))], [aI ((i : Nat) : Int), aR 2 s, aR 4 0, aL v], am_mix [12, 13, 14, 263, 264, 265, 266, 346, 17, 19] g87 M)
      refine hR _ (am_ct (am_vi (by omega : s < 4)) (sp_read (by omega) (by omega) (by omega) ?_))
      show R (60, [some (aR 7 0), some (aR 2 s), some (aR 1 k), some (aR 6 t), some (aL v), none, some (aI ((i : Nat) : Int))], [aI (M 21 s i), aR 4 0, aL v], am_mix [12, 13, 14, 263, 264, 265, 266, 346, 17, 19] g87 M)
      refine hR _ (sp_oftenAt (by omega) hok hth (by omega) ?_)
      have hat60 := jf_at_b hok (M 21 s i)
      show R (63, [some (aR 7 0), some (aR 2 s), some (aR 1 k), some (aR 6 t), some (aL v), none, some (aI ((i : Nat) : Int))], [aL (jf_at p (M 21 s i)), aL v], am_mix [12, 13, 14, 263, 264, 265, 266, 346, 17, 19] g87 M)
      refine hR _ (hR _ (hR _ (hR _ (?_))))
      show R (71, [some (aR 7 0), some (aR 2 s), some (aR 1 k), some (aR 6 t), some (aL v), none, some (aI ((i : Nat) : Int))], [aI (g87 263 0 0), aL (v * (jf_at p (M 21 s i)))], am_mix [12, 13, 14, 263, 264, 265, 266, 346, 17, 19] g87 M)
      rw [hthA]
      show R (71, [some (aR 7 0), some (aR 2 s), some (aR 1 k), some (aR 6 t), some (aL v), none, some (aI ((i : Nat) : Int))], [aI (jf_A p), aL (v * (jf_at p (M 21 s i)))], am_mix [12, 13, 14, 263, 264, 265, 266, 346, 17, 19] g87 M)
      refine hR _ ⟨(by omega), ?_⟩
      show R (72, [some (aR 7 0), some (aR 2 s), some (aR 1 k), some (aR 6 t), some (aL v), none, some (aI ((i : Nat) : Int))], [aL (jf_A p), aL (v * (jf_at p (M 21 s i)))], am_mix [12, 13, 14, 263, 264, 265, 266, 346, 17, 19] g87 M)
      have hm := jf_mb (a := v) (b := (jf_at p (M 21 s i))) (A := 1000000000) (B := 65) (by omega) (by omega)
      refine hR _ ⟨(by omega), ?_⟩
      show R (73, [some (aR 7 0), some (aR 2 s), some (aR 1 k), some (aR 6 t), some (aL v), none, some (aI ((i : Nat) : Int))], [aL (Int.tdiv (v * (jf_at p (M 21 s i))) (jf_A p))], am_mix [12, 13, 14, 263, 264, 265, 266, 346, 17, 19] g87 M)
      refine hR _ (hR _ (hR _ (?_)))
      show R (29, [some (aR 7 0), some (aR 2 s), some (aR 1 k), some (aR 6 t), some (aL (Int.tdiv (v * (jf_at p (M 21 s i))) (jf_A p))), none, some (aI (((i : Nat) : Int) + 1))], [], am_mix [12, 13, 14, 263, 264, 265, 266, 346, 17, 19] g87 M)
      exact ih (i + 1) _ _ rfl (by omega) (by rw [hv]; rfl)
  exact key (M 181 s 0).toNat 0 _ _ rfl (by omega) rfl

theorem sp_firstUnlikely {d : Nat} (hd : 6 ≤ d) {s k t : Nat} {M : am_M} {K : am_K} (hs : s < 4) (hJs : jf_Js M s) (hkw : jf_wk M k t) (hok : jf_ok (jf_xp M k t (M 220 0 0) 0)) (h : ∀ g, K (some (aI (jf_fu (jf_xp M k t (M 220 0 0) 0) (M 21 s) (M 181 s 0).toNat 0))) (am_mix [12, 13, 14, 263, 264, 265, 266, 346, 17, 19] g M)) : am_Call wb d 94 [aR 7 0, aR 2 s, aR 1 k, aR 6 t] M K := by
  obtain ⟨d, rfl⟩ : ∃ e, d = e + 1 := ⟨d - 1, by omega⟩
  refine ⟨rfl, fun R hR hC => ?_⟩
  replace hR : ∀ c, am_F wb tb_f94 1 (am_Call wb d) K R c → R c := hR
  have hmk : 1 ≤ M 220 0 0 ∧ M 220 0 0 ≤ 5100 := hok.2.2.2.2.2.2.2.1
  show R (0, [some (aR 7 0), some (aR 2 s), some (aR 1 k), some (aR 6 t), none], [], M)
  refine hR _ (hR _ (hR _ (hR _ (hR _ (hR _ (hR _ (hR _ (hR _ (hR _ (?_))))))))))
  show R (18, [some (aR 7 0), some (aR 2 s), some (aR 1 k), some (aR 6 t), none], [aI 0, aI (M 220 0 0), aR 3 0, aR 6 t, aR 1 k, aR 4 0], M)
  refine hR _ (sp_think (by omega) hkw hok (fun g88 hth => ?_))
  replace hth : jf_th (am_mix [12, 13, 14, 263, 264, 265, 266, 346, 17, 19] g88 M) (jf_xp M k t (M 220 0 0) 0) := hth
  obtain ⟨p, hp⟩ : ∃ p, p = jf_xp M k t (M 220 0 0) 0 := ⟨_, rfl⟩
  rw [← hp] at hth hok h
  have hthA : g88 263 0 0 = jf_A p := hth.2.1
  have hA := jf_A_b hok
  show R (21, [some (aR 7 0), some (aR 2 s), some (aR 1 k), some (aR 6 t), none], [], am_mix [12, 13, 14, 263, 264, 265, 266, 346, 17, 19] g88 M)
  refine hR _ (hR _ (?_))
  show R (24, [some (aR 7 0), some (aR 2 s), some (aR 1 k), some (aR 6 t), some (aI 0)], [], am_mix [12, 13, 14, 263, 264, 265, 266, 346, 17, 19] g88 M)
  have hz := hJs.2.1
  have key : ∀ (n i : Nat) (x : Int), x = (i : Int) → i + n = (M 181 s 0).toNat → jf_fu p (M 21 s) n i = jf_fu p (M 21 s) (M 181 s 0).toNat 0 → R (24, [some (aR 7 0), some (aR 2 s), some (aR 1 k), some (aR 6 t), some (aI x)], [], am_mix [12, 13, 14, 263, 264, 265, 266, 346, 17, 19] g88 M) := by
    intro n
    induction n with
    | zero =>
      intro i x hx hin hv
      subst hx
      refine hR _ (hR _ (?_))
      show R (27, [some (aR 7 0), some (aR 2 s), some (aR 1 k), some (aR 6 t), some (aI ((i : Nat) : Int))], [aR 2 s, aI ((i : Nat) : Int)], am_mix [12, 13, 14, 263, 264, 265, 266, 346, 17, 19] g88 M)
      refine hR _ (am_ct (am_vi (by omega : s < 4)) ?_)
      show R (30, [some (aR 7 0), some (aR 2 s), some (aR 1 k), some (aR 6 t), some (aI ((i : Nat) : Int))], [aI (M 181 s 0), aI ((i : Nat) : Int)], am_mix [12, 13, 14, 263, 264, 265, 266, 346, 17, 19] g88 M)
      refine hR _ (am_brt (rg := am_in ((i : Nat) : Int) ∧ am_in (M 181 s 0)) (P := M 181 s 0 ≤ ((i : Nat) : Int)) (A := R (60, [some (aR 7 0), some (aR 2 s), some (aR 1 k), some (aR 6 t), some (aI ((i : Nat) : Int))], [], am_mix [12, 13, 14, 263, 264, 265, 266, 346, 17, 19] g88 M)) (B := R (33, [some (aR 7 0), some (aR 2 s), some (aR 1 k), some (aR 6 t), some (aI ((i : Nat) : Int))], [], am_mix [12, 13, 14, 263, 264, 265, 266, 346, 17, 19] g88 M)) (by omega) (by omega) ?_)
      show R (60, [some (aR 7 0), some (aR 2 s), some (aR 1 k), some (aR 6 t), some (aI ((i : Nat) : Int))], [], am_mix [12, 13, 14, 263, 264, 265, 266, 346, 17, 19] g88 M)
      refine hR _ (?_)
      show R (61, [some (aR 7 0), some (aR 2 s), some (aR 1 k), some (aR 6 t), some (aI ((i : Nat) : Int))], [aI (-1)], am_mix [12, 13, 14, 263, 264, 265, 266, 346, 17, 19] g88 M)
      refine hR _ (show K (some (aI (-1))) (am_mix [12, 13, 14, 263, 264, 265, 266, 346, 17, 19] g88 M) from ?_)
      rw [← hv] at h
      exact h _
    | succ n ih =>
      intro i x hx hin hv
      subst hx
      have hc := hJs.2.2 i (by omega)
      have hc1 := hc.1
      refine hR _ (hR _ (?_))
      show R (27, [some (aR 7 0), some (aR 2 s), some (aR 1 k), some (aR 6 t), some (aI ((i : Nat) : Int))], [aR 2 s, aI ((i : Nat) : Int)], am_mix [12, 13, 14, 263, 264, 265, 266, 346, 17, 19] g88 M)
      refine hR _ (am_ct (am_vi (by omega : s < 4)) ?_)
      show R (30, [some (aR 7 0), some (aR 2 s), some (aR 1 k), some (aR 6 t), some (aI ((i : Nat) : Int))], [aI (M 181 s 0), aI ((i : Nat) : Int)], am_mix [12, 13, 14, 263, 264, 265, 266, 346, 17, 19] g88 M)
      refine hR _ (am_brf (rg := am_in ((i : Nat) : Int) ∧ am_in (M 181 s 0)) (P := M 181 s 0 ≤ ((i : Nat) : Int)) (A := R (60, [some (aR 7 0), some (aR 2 s), some (aR 1 k), some (aR 6 t), some (aI ((i : Nat) : Int))], [], am_mix [12, 13, 14, 263, 264, 265, 266, 346, 17, 19] g88 M)) (B := R (33, [some (aR 7 0), some (aR 2 s), some (aR 1 k), some (aR 6 t), some (aI ((i : Nat) : Int))], [], am_mix [12, 13, 14, 263, 264, 265, 266, 346, 17, 19] g88 M)) (by omega) (by omega) ?_)
      show R (33, [some (aR 7 0), some (aR 2 s), some (aR 1 k), some (aR 6 t), some (aI ((i : Nat) : Int))], [], am_mix [12, 13, 14, 263, 264, 265, 266, 346, 17, 19] g88 M)
      refine hR _ (hR _ (hR _ (hR _ (?_))))
      show R (40, [some (aR 7 0), some (aR 2 s), some (aR 1 k), some (aR 6 t), some (aI ((i : Nat) : Int))], [aI ((i : Nat) : Int), aR 2 s, aR 4 0], am_mix [12, 13, 14, 263, 264, 265, 266, 346, 17, 19] g88 M)
      refine hR _ (am_ct (am_vi (by omega : s < 4)) (sp_read (by omega) (by omega) (by omega) ?_))
      show R (43, [some (aR 7 0), some (aR 2 s), some (aR 1 k), some (aR 6 t), some (aI ((i : Nat) : Int))], [aI (M 21 s i), aR 4 0], am_mix [12, 13, 14, 263, 264, 265, 266, 346, 17, 19] g88 M)
      refine hR _ (sp_oftenAt (by omega) hok hth (by omega) ?_)
      have hat43 := jf_at_b hok (M 21 s i)
      show R (46, [some (aR 7 0), some (aR 2 s), some (aR 1 k), some (aR 6 t), some (aI ((i : Nat) : Int))], [aL (jf_at p (M 21 s i))], am_mix [12, 13, 14, 263, 264, 265, 266, 346, 17, 19] g88 M)
      refine hR _ (?_)
      show R (47, [some (aR 7 0), some (aR 2 s), some (aR 1 k), some (aR 6 t), some (aI ((i : Nat) : Int))], [aL 0, aL (jf_at p (M 21 s i))], am_mix [12, 13, 14, 263, 264, 265, 266, 346, 17, 19] g88 M)
      refine am_lc (x := (jf_at p (M 21 s i))) (y := 0) (P := (jf_at p (M 21 s i)) ≠ 0) (A := R (54, [some (aR 7 0), some (aR 2 s), some (aR 1 k), some (aR 6 t), some (aI ((i : Nat) : Int))], [], am_mix [12, 13, 14, 263, 264, 265, 266, 346, 17, 19] g88 M)) (B := R (51, [some (aR 7 0), some (aR 2 s), some (aR 1 k), some (aR 6 t), some (aI ((i : Nat) : Int))], [], am_mix [12, 13, 14, 263, 264, 265, 266, 346, 17, 19] g88 M)) (by omega) (fun hA hB => hR _ ⟨(by omega), (fun hz => hR _ (am_brt (P := (-1 : Int) ≠ 0) (A := R (54, [some (aR 7 0), some (aR 2 s), some (aR 1 k), some (aR 6 t), some (aI ((i : Nat) : Int))], [], am_mix [12, 13, 14, 263, 264, 265, 266, 346, 17, 19] g88 M)) (B := R (51, [some (aR 7 0), some (aR 2 s), some (aR 1 k), some (aR 6 t), some (aI ((i : Nat) : Int))], [], am_mix [12, 13, 14, 263, 264, 265, 266, 346, 17, 19] g88 M)) (by omega) (by omega) (hA (by omega)))), (fun hz => hR _ (am_brf (P := (0 : Int) ≠ 0) (A := R (54, [some (aR 7 0), some (aR 2 s), some (aR 1 k), some (aR 6 t), some (aI ((i : Nat) : Int))], [], am_mix [12, 13, 14, 263, 264, 265, 266, 346, 17, 19] g88 M)) (B := R (51, [some (aR 7 0), some (aR 2 s), some (aR 1 k), some (aR 6 t), some (aI ((i : Nat) : Int))], [], am_mix [12, 13, 14, 263, 264, 265, 266, 346, 17, 19] g88 M)) (by omega) (by omega) (hB (by omega)))), (fun hz => hR _ (am_brt (P := (1 : Int) ≠ 0) (A := R (54, [some (aR 7 0), some (aR 2 s), some (aR 1 k), some (aR 6 t), some (aI ((i : Nat) : Int))], [], am_mix [12, 13, 14, 263, 264, 265, 266, 346, 17, 19] g88 M)) (B := R (51, [some (aR 7 0), some (aR 2 s), some (aR 1 k), some (aR 6 t), some (aI ((i : Nat) : Int))], [], am_mix [12, 13, 14, 263, 264, 265, 266, 346, 17, 19] g88 M)) (by omega) (by omega) (hA (by omega))))⟩) (fun c47 => ?_) (fun c47 => ?_)
      · refine hR _ (hR _ (?_))
        show R (24, [some (aR 7 0), some (aR 2 s), some (aR 1 k), some (aR 6 t), some (aI (((i : Nat) : Int) + 1))], [], am_mix [12, 13, 14, 263, 264, 265, 266, 346, 17, 19] g88 M)
        rw [jf_fu, if_neg (by omega)] at hv
        exact ih (i + 1) _ rfl (by omega) hv
      · refine hR _ (?_)
        show R (53, [some (aR 7 0), some (aR 2 s), some (aR 1 k), some (aR 6 t), some (aI ((i : Nat) : Int))], [aI ((i : Nat) : Int)], am_mix [12, 13, 14, 263, 264, 265, 266, 346, 17, 19] g88 M)
        refine hR _ (show K (some (aI ((i : Nat) : Int))) (am_mix [12, 13, 14, 263, 264, 265, 266, 346, 17, 19] g88 M) from ?_)
        rw [jf_fu, if_pos (by omega)] at hv
        rw [← hv] at h
        exact h _
  exact key (M 181 s 0).toNat 0 _ rfl (by omega) rfl

theorem sp_refused_nn {d : Nat} (hd : 1 ≤ d)  {M : am_M} {K : am_K} (h : K (some (aI (-2))) M) : am_Call wb d 93 [aN, aN] M K := by
  obtain ⟨d, rfl⟩ : ∃ e, d = e + 1 := ⟨d - 1, by omega⟩
  refine ⟨rfl, fun R hR hC => ?_⟩
  replace hR : ∀ c, am_F wb tb_f93 1 (am_Call wb d) K R c → R c := hR
  show R (0, [some (aN), some (aN)], [], M)
  refine hR _ (hR _ (hR _ (?_)))
  show R (6, [some (aN), some (aN)], [aI (-2)], M)
  refine hR _ (show K (some (aI (-2))) M from ?_)
  exact h

theorem sp_refused_nr {d : Nat} (hd : 1 ≤ d) {k : Nat}  {M : am_M} {K : am_K} (hk : k < 6) (h : K (some (aI (-2))) M) : am_Call wb d 93 [aN, aR 1 k] M K := by
  obtain ⟨d, rfl⟩ : ∃ e, d = e + 1 := ⟨d - 1, by omega⟩
  refine ⟨rfl, fun R hR hC => ?_⟩
  replace hR : ∀ c, am_F wb tb_f93 1 (am_Call wb d) K R c → R c := hR
  show R (0, [some (aN), some (aR 1 k)], [], M)
  refine hR _ (hR _ (hR _ (?_)))
  show R (6, [some (aN), some (aR 1 k)], [aI (-2)], M)
  refine hR _ (show K (some (aI (-2))) M from ?_)
  exact h

theorem sp_refused_rn {d : Nat} (hd : 1 ≤ d) {s : Nat}  {M : am_M} {K : am_K} (hs : s < 4) (hso : am_in (M 180 s 0)) (h : K (some (aI (if M 180 s 0 = -1 then -11 else -5))) M) : am_Call wb d 93 [aR 2 s, aN] M K := by
  obtain ⟨d, rfl⟩ : ∃ e, d = e + 1 := ⟨d - 1, by omega⟩
  refine ⟨rfl, fun R hR hC => ?_⟩
  replace hR : ∀ c, am_F wb tb_f93 1 (am_Call wb d) K R c → R c := hR
  show R (0, [some (aR 2 s), some (aN)], [], M)
  refine hR _ (hR _ (hR _ (?_)))
  show R (8, [some (aR 2 s), some (aN)], [aR 2 s], M)
  refine hR _ (am_ct (am_vi (by omega : s < 4)) ?_)
  show R (11, [some (aR 2 s), some (aN)], [aI (M 180 s 0)], M)
  refine hR _ (hR _ (am_brc (rg := am_in (M 180 s 0) ∧ am_in (-1)) (P := M 180 s 0 ≠ (-1)) (A := R (18, [some (aR 2 s), some (aN)], [], M)) (B := R (15, [some (aR 2 s), some (aN)], [], M)) (by omega) (fun c12 => ?_) (fun c12 => ?_)))
  · refine hR _ (hR _ (hR _ (hR _ (?_))))
    show R (28, [some (aR 2 s), some (aN)], [aI (-5)], M)
    refine hR _ (show K (some (aI (-5))) M from ?_)
    rw [if_neg (by omega)] at h
    exact h
  · refine hR _ (?_)
    show R (17, [some (aR 2 s), some (aN)], [aI (-11)], M)
    refine hR _ (show K (some (aI (-11))) M from ?_)
    rw [if_pos (by omega)] at h
    exact h

theorem sp_refused_rr {d : Nat} (hd : 1 ≤ d) {s : Nat} {k : Nat}  {M : am_M} {K : am_K} (hs : s < 4) (hso : am_in (M 180 s 0)) (hk : k < 6) (h : K (some (aI (if M 180 s 0 = -1 then -11 else 0))) M) : am_Call wb d 93 [aR 2 s, aR 1 k] M K := by
  obtain ⟨d, rfl⟩ : ∃ e, d = e + 1 := ⟨d - 1, by omega⟩
  refine ⟨rfl, fun R hR hC => ?_⟩
  replace hR : ∀ c, am_F wb tb_f93 1 (am_Call wb d) K R c → R c := hR
  show R (0, [some (aR 2 s), some (aR 1 k)], [], M)
  refine hR _ (hR _ (hR _ (?_)))
  show R (8, [some (aR 2 s), some (aR 1 k)], [aR 2 s], M)
  refine hR _ (am_ct (am_vi (by omega : s < 4)) ?_)
  show R (11, [some (aR 2 s), some (aR 1 k)], [aI (M 180 s 0)], M)
  refine hR _ (hR _ (am_brc (rg := am_in (M 180 s 0) ∧ am_in (-1)) (P := M 180 s 0 ≠ (-1)) (A := R (18, [some (aR 2 s), some (aR 1 k)], [], M)) (B := R (15, [some (aR 2 s), some (aR 1 k)], [], M)) (by omega) (fun c12 => ?_) (fun c12 => ?_)))
  · refine hR _ (hR _ (hR _ (?_)))
    show R (28, [some (aR 2 s), some (aR 1 k)], [aI 0], M)
    refine hR _ (show K (some (aI 0)) M from ?_)
    rw [if_neg (by omega)] at h
    exact h
  · refine hR _ (?_)
    show R (17, [some (aR 2 s), some (aR 1 k)], [aI (-11)], M)
    refine hR _ (show K (some (aI (-11))) M from ?_)
    rw [if_pos (by omega)] at h
    exact h
