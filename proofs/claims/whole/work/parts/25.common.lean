/-! wb -/
variable {wb : Bool}
/-! What the class holds -/
def jf_Jn (M : am_M) (i : Nat) : Prop := (1 ≤ M 220 i 0 ∧ M 220 i 0 ≤ 2000) ∧ (0 ≤ M 221 i 0 ∧ M 221 i 0 ≤ 9) ∧ (1 ≤ M 222 i 0 ∧ M 222 i 0 ≤ 99) ∧ (1 ≤ M 223 i 0 ∧ M 223 i 0 ≤ 5000) ∧ (0 ≤ M 224 i 0 ∧ M 224 i 0 ≤ 999) ∧ (0 ≤ M 225 i 0 ∧ M 225 i 0 ≤ M 224 i 0) ∧ (0 ≤ M 226 i 0 ∧ M 226 i 0 ≤ 999 * M 224 i 0) ∧ (0 ≤ M 227 i 0 ∧ M 227 i 0 ≤ 5) ∧ 0 ≤ M 228 i 0 ∧ M 228 i 0 < M 386 0 0
def jf_Jh (M : am_M) (k : Nat) : Prop := (0 ≤ M 140 k 0 ∧ M 140 k 0 ≤ 5) ∧ (0 ≤ M 141 k 0 ∧ M 141 k 0 ≤ 9) ∧ (0 ≤ M 142 k 0 ∧ M 142 k 0 ≤ 99) ∧ (0 ≤ M 143 k 0 ∧ M 143 k 0 ≤ 500) ∧ (0 ≤ M 144 k 0 ∧ M 144 k 0 ≤ 99) ∧ 0 ≤ M 145 k 0 ∧ M 145 k 0 ≤ 500
def jf_Jt (M : am_M) : Prop := (1 ≤ M 386 0 0 ∧ M 386 0 0 ≤ 6) ∧ ∀ t : Nat, (t : Int) < M 386 0 0 → jf_wt M t
/-- a cell, as its sort keeps it -/
def jf_put (sort v : Int) : Int := if sort = 0 then am_i2b v else if sort = 1 then am_i2s v else v
def jf_Js (M : am_M) (s : Nat) : Prop := (-1 ≤ M 180 s 0 ∧ M 180 s 0 ≤ 2) ∧ (0 ≤ M 181 s 0 ∧ M 181 s 0 ≤ 40) ∧ ∀ j : Nat, j < 40 → am_in (M 21 s j) ∧ jf_put (M 180 s 0) (M 21 s j) = M 21 s j
def jf_Jk (M : am_M) : Prop := (0 ≤ M 301 0 0 ∧ M 301 0 0 ≤ 160) ∧ ∀ j : Nat, (j : Int) < M 301 0 0 → 0 ≤ M 20 0 j ∧ M 20 0 j ≤ 255
def jf_J (M : am_M) : Prop := (jf_Jn M 0 ∧ jf_Jn M 1) ∧ (∀ k, k < 5 → jf_Jh M k) ∧ jf_Jt M ∧ (∀ s, s < 4 → jf_Js M s) ∧ jf_Jk M ∧ (M 382 0 0 = 0 ∨ M 382 0 0 = 1)
abbrev jf_px (M : am_M) (k : Nat) : jf_par := jf_xp M k (M 228 0 0).toNat (M 220 0 0) 0
theorem jf_J.wk {M : am_M} (h : jf_J M) {k : Nat} (hk : k < 6) : jf_wk M k (M 228 0 0).toNat := by
  have h1 := h.1.1.2.2.2.2.2.2.2.2
  have h2 := h.2.2.1
  have h3 := h2.1
  exact ⟨hk, by omega, h2.2 _ (by omega)⟩
theorem jf_J.ok {M : am_M} (h : jf_J M) {k : Nat} (hk : k < 5) {t : Nat} {mk st : Int} (hmk : 1 ≤ mk ∧ mk ≤ 5100) (hst : 0 ≤ st ∧ st ≤ 5000) : jf_ok (jf_xp M k t mk st) := by
  have h1 := h.2.1 k hk
  have h2 := h.1.1
  exact ⟨h1.1, h1.2.1, h1.2.2.1, h1.2.2.2.1, h2.2.1, h2.2.2.1, h2.2.2.2.1, hmk, hst⟩
theorem jf_J.px {M : am_M} (h : jf_J M) {k : Nat} (hk : k < 5) : jf_ok (jf_px M k) := by
  have h2 := h.1.1.1
  exact h.ok hk (by omega) (by omega)
/-! Lowest terms -/
def jf_gc (a b : Int) : Int := ((Nat.gcd a.toNat b.toNat : Nat) : Int)
def jf_il (a b p : Int) : Int := if 0 ≤ p ∧ p ≤ 1 then Int.tdiv (if p ≠ 0 then b else a) (jf_gc (if 0 ≤ a then a else -a) b) else -4611686018427387904
theorem jf_gc_b {a b : Int} (hb : 1 ≤ b) : 1 ≤ jf_gc a b ∧ jf_gc a b ≤ b := by
  unfold jf_gc
  have h2 := Nat.gcd_le_right a.toNat (show 0 < b.toNat by omega)
  have := Nat.gcd_pos_of_pos_right a.toNat (show 0 < b.toNat by omega)
  omega
theorem jf_gc_z {a : Int} (ha : 0 ≤ a) : jf_gc a 0 = a := by
  unfold jf_gc
  rw [show (0 : Int).toNat = 0 from rfl, Nat.gcd_zero_right]
  omega
theorem jf_gc_s {a b : Int} (ha : 0 ≤ a) (hb : 0 ≤ b) : jf_gc b (Int.tmod a b) = jf_gc a b := by
  obtain ⟨x, rfl⟩ := Int.eq_ofNat_of_zero_le ha
  obtain ⟨y, rfl⟩ := Int.eq_ofNat_of_zero_le hb
  unfold jf_gc
  rw [jf_tm _ _ ha]
  have e : ((x : Int) % (y : Int)).toNat = x % y := by omega
  rw [e, Int.toNat_natCast, Int.toNat_natCast, Nat.gcd_comm x y, Nat.gcd_rec y x, Nat.gcd_comm]
theorem jf_half {b r m : Int} (hr : 1 ≤ r) (h : r < b) (hb : b < 2 * m) : 0 ≤ Int.tmod b r ∧ Int.tmod b r < m ∧ Int.tmod b r < r := by
  rw [jf_tm _ _ (by omega)]
  have h1 := Int.emod_nonneg b (show r ≠ 0 by omega)
  have h2 := Int.emod_lt_of_pos b (show 0 < r by omega)
  refine ⟨h1, ?_, h2⟩
  by_cases hc : b < 2 * r
  · have e : b % r = b - r := by
      rw [← Int.sub_emod_right, Int.emod_eq_of_lt (by omega) (by omega)]
    omega
  · omega

theorem sp_commonOf {d : Nat} (hd : 1 ≤ d) {a b : Int} {M : am_M} {K : am_K} (ha : 0 ≤ a ∧ a ≤ 1000000000000) (hb : 0 ≤ b ∧ b ≤ 1000000000000) (h : K (some (aL (jf_gc a b))) M) : am_Call wb d 68 [aL a, aL b] M K := by
  obtain ⟨d, rfl⟩ : ∃ e, d = e + 1 := ⟨d - 1, by omega⟩
  refine ⟨rfl, fun R hR hC => ?_⟩
  replace hR : ∀ c, am_F wb tb_f68 5 (am_Call wb d) K R c → R c := hR
  show R (0, [some (aL a), none, some (aL b), none, none, none, none], [], M)
  have key : ∀ (n : Nat) (a b i : Int) (o5 : Option am_V), 0 ≤ a → a ≤ 2000000000000 → 0 ≤ b → b ≤ 2000000000000 → b < 2 ^ n → 0 ≤ i → i + 2 * n ≤ 100 → K (some (aL (jf_gc a b))) M → R (3, [some (aL a), none, some (aL b), none, some (aI i), o5, none], [], M) := by
    intro n
    induction n with
    | zero =>
      intro a b i o5 ha0 ha1 hb0 hb1 hbn hi hin hK
      have hb : b = 0 := by
        have : (2 : Int) ^ 0 = 1 := rfl
        omega
      rw [hb, jf_gc_z ha0] at hK
      refine hR _ (hR _ (hR _ (am_brc (rg := am_in i ∧ am_in 100) (P := 100 ≤ i) (A := R (32, [some (aL a), none, some (aL b), none, some (aI i), o5, none], [], M)) (B := R (10, [some (aL a), none, some (aL b), none, some (aI i), o5, none], [], M)) (by omega) (fun c7 => ?_) (fun c7 => ?_))))
      · refine hR _ (?_)
        show R (33, [some (aL a), none, some (aL b), none, some (aI i), o5, none], [aL a], M)
        refine hR _ (show K (some (aL a)) M from ?_)
        exact hK
      · refine hR _ (hR _ (?_))
        show R (12, [some (aL a), none, some (aL b), none, some (aI i), o5, none], [aL 0, aL b], M)
        refine am_lc (x := b) (y := 0) (P := b = 0) (A := R (32, [some (aL a), none, some (aL b), none, some (aI i), o5, none], [], M)) (B := R (16, [some (aL a), none, some (aL b), none, some (aI i), o5, none], [], M)) (by omega) (fun hA hB => hR _ ⟨(by omega), (fun hz => hR _ (am_brf (P := (-1 : Int) = 0) (A := R (32, [some (aL a), none, some (aL b), none, some (aI i), o5, none], [], M)) (B := R (16, [some (aL a), none, some (aL b), none, some (aI i), o5, none], [], M)) (by omega) (by omega) (hB (by omega)))), (fun hz => hR _ (am_brt (P := (0 : Int) = 0) (A := R (32, [some (aL a), none, some (aL b), none, some (aI i), o5, none], [], M)) (B := R (16, [some (aL a), none, some (aL b), none, some (aI i), o5, none], [], M)) (by omega) (by omega) (hA (by omega)))), (fun hz => hR _ (am_brf (P := (1 : Int) = 0) (A := R (32, [some (aL a), none, some (aL b), none, some (aI i), o5, none], [], M)) (B := R (16, [some (aL a), none, some (aL b), none, some (aI i), o5, none], [], M)) (by omega) (by omega) (hB (by omega))))⟩) (fun _ => ?_) (fun hz => absurd (by omega) hz)
        show R (32, [some (aL a), none, some (aL b), none, some (aI i), o5, none], [], M)
        refine hR _ (?_)
        show R (33, [some (aL a), none, some (aL b), none, some (aI i), o5, none], [aL a], M)
        refine hR _ (show K (some (aL a)) M from ?_)
        exact hK
    | succ n ih =>
      intro a b i o5 ha0 ha1 hb0 hb1 hbn hi hin hK
      have hpw : (2 : Int) ^ (n + 1) = 2 * 2 ^ n := by
        rw [Int.pow_succ]
        omega
      refine hR _ (hR _ (hR _ (am_brf (rg := am_in i ∧ am_in 100) (P := 100 ≤ i) (A := R (32, [some (aL a), none, some (aL b), none, some (aI i), o5, none], [], M)) (B := R (10, [some (aL a), none, some (aL b), none, some (aI i), o5, none], [], M)) (by omega) (by omega) ?_)))
      show R (10, [some (aL a), none, some (aL b), none, some (aI i), o5, none], [], M)
      refine hR _ (hR _ (?_))
      show R (12, [some (aL a), none, some (aL b), none, some (aI i), o5, none], [aL 0, aL b], M)
      refine am_lc (x := b) (y := 0) (P := b = 0) (A := R (32, [some (aL a), none, some (aL b), none, some (aI i), o5, none], [], M)) (B := R (16, [some (aL a), none, some (aL b), none, some (aI i), o5, none], [], M)) (by omega) (fun hA hB => hR _ ⟨(by omega), (fun hz => hR _ (am_brf (P := (-1 : Int) = 0) (A := R (32, [some (aL a), none, some (aL b), none, some (aI i), o5, none], [], M)) (B := R (16, [some (aL a), none, some (aL b), none, some (aI i), o5, none], [], M)) (by omega) (by omega) (hB (by omega)))), (fun hz => hR _ (am_brt (P := (0 : Int) = 0) (A := R (32, [some (aL a), none, some (aL b), none, some (aI i), o5, none], [], M)) (B := R (16, [some (aL a), none, some (aL b), none, some (aI i), o5, none], [], M)) (by omega) (by omega) (hA (by omega)))), (fun hz => hR _ (am_brf (P := (1 : Int) = 0) (A := R (32, [some (aL a), none, some (aL b), none, some (aI i), o5, none], [], M)) (B := R (16, [some (aL a), none, some (aL b), none, some (aI i), o5, none], [], M)) (by omega) (by omega) (hB (by omega))))⟩) (fun c12 => ?_) (fun c12 => ?_)
      · refine hR _ (?_)
        show R (33, [some (aL a), none, some (aL b), none, some (aI i), o5, none], [aL a], M)
        refine hR _ (show K (some (aL a)) M from ?_)
        rw [show b = 0 by omega, jf_gc_z ha0] at hK
        exact hK
      · refine hR _ (hR _ (?_))
        show R (18, [some (aL a), none, some (aL b), none, some (aI i), o5, none], [aL b, aL a], M)
        refine hR _ ⟨(by omega), ?_⟩
        show R (19, [some (aL a), none, some (aL b), none, some (aI i), o5, none], [aL (Int.tmod a b)], M)
        refine hR _ (hR _ (hR _ (hR _ (hR _ (hR _ (hR _ (?_)))))))
        show R (3, [some (aL b), none, some (aL (Int.tmod a b)), none, some (aI (i + 1)), some (aL (Int.tmod a b)), none], [], M)
        have hr0 : 0 ≤ Int.tmod a b ∧ Int.tmod a b < b := by
          rw [jf_tm _ _ ha0]
          exact ⟨Int.emod_nonneg _ (by omega), Int.emod_lt_of_pos _ (by omega)⟩
        rw [← jf_gc_s ha0 hb0] at hK
        obtain ⟨r, hr⟩ : ∃ r, r = Int.tmod a b := ⟨_, rfl⟩
        rw [← hr] at hr0 hK ⊢
        refine hR _ (hR _ (hR _ (am_brf (rg := am_in (i + 1) ∧ am_in 100) (P := 100 ≤ (i + 1)) (A := R (32, [some (aL b), none, some (aL r), none, some (aI (i + 1)), some (aL r), none], [], M)) (B := R (10, [some (aL b), none, some (aL r), none, some (aI (i + 1)), some (aL r), none], [], M)) (by omega) (by omega) ?_)))
        show R (10, [some (aL b), none, some (aL r), none, some (aI (i + 1)), some (aL r), none], [], M)
        refine hR _ (hR _ (?_))
        show R (12, [some (aL b), none, some (aL r), none, some (aI (i + 1)), some (aL r), none], [aL 0, aL r], M)
        refine am_lc (x := r) (y := 0) (P := r = 0) (A := R (32, [some (aL b), none, some (aL r), none, some (aI (i + 1)), some (aL r), none], [], M)) (B := R (16, [some (aL b), none, some (aL r), none, some (aI (i + 1)), some (aL r), none], [], M)) (by omega) (fun hA hB => hR _ ⟨(by omega), (fun hz => hR _ (am_brf (P := (-1 : Int) = 0) (A := R (32, [some (aL b), none, some (aL r), none, some (aI (i + 1)), some (aL r), none], [], M)) (B := R (16, [some (aL b), none, some (aL r), none, some (aI (i + 1)), some (aL r), none], [], M)) (by omega) (by omega) (hB (by omega)))), (fun hz => hR _ (am_brt (P := (0 : Int) = 0) (A := R (32, [some (aL b), none, some (aL r), none, some (aI (i + 1)), some (aL r), none], [], M)) (B := R (16, [some (aL b), none, some (aL r), none, some (aI (i + 1)), some (aL r), none], [], M)) (by omega) (by omega) (hA (by omega)))), (fun hz => hR _ (am_brf (P := (1 : Int) = 0) (A := R (32, [some (aL b), none, some (aL r), none, some (aI (i + 1)), some (aL r), none], [], M)) (B := R (16, [some (aL b), none, some (aL r), none, some (aI (i + 1)), some (aL r), none], [], M)) (by omega) (by omega) (hB (by omega))))⟩) (fun e12 => ?_) (fun e12 => ?_)
        · refine hR _ (?_)
          show R (33, [some (aL b), none, some (aL r), none, some (aI (i + 1)), some (aL r), none], [aL b], M)
          refine hR _ (show K (some (aL b)) M from ?_)
          rw [show r = 0 by omega, jf_gc_z hb0] at hK
          exact hK
        · refine hR _ (hR _ (?_))
          show R (18, [some (aL b), none, some (aL r), none, some (aI (i + 1)), some (aL r), none], [aL r, aL b], M)
          refine hR _ ⟨(by omega), ?_⟩
          show R (19, [some (aL b), none, some (aL r), none, some (aI (i + 1)), some (aL r), none], [aL (Int.tmod b r)], M)
          refine hR _ (hR _ (hR _ (hR _ (hR _ (hR _ (hR _ (?_)))))))
          show R (3, [some (aL r), none, some (aL (Int.tmod b r)), none, some (aI ((i + 1) + 1)), some (aL (Int.tmod b r)), none], [], M)
          have hh := jf_half (m := 2 ^ n) (show 1 ≤ r by omega) hr0.2 (by omega)
          rw [← jf_gc_s hb0 hr0.1] at hK
          exact ih _ _ _ _ (by omega) (by omega) hh.1 (by omega) hh.2.1 (by omega) (by omega) hK
  refine hR _ (hR _ (?_))
  show R (3, [some (aL a), none, some (aL b), none, some (aI 0), none, none], [], M)
  exact key 41 _ _ _ _ ha.1 (by omega) (by omega) (by omega) (by omega) (by omega) (by omega) h

theorem sp_il {d : Nat} (hd : 2 ≤ d) {a b p : Int} {M : am_M} {K : am_K} (ha : -1000000000000 ≤ a ∧ a ≤ 1000000000000) (hb : 1 ≤ b ∧ b ≤ 1000000000000) (hp : am_in p) (h : K (some (aL (jf_il a b p))) M) : am_Call wb d 67 [aL a, aL b, aI p] M K := by
  obtain ⟨d, rfl⟩ : ∃ e, d = e + 1 := ⟨d - 1, by omega⟩
  refine ⟨rfl, fun R hR hC => ?_⟩
  replace hR : ∀ c, am_F wb tb_f67 5 (am_Call wb d) K R c → R c := hR
  show R (0, [some (aL a), none, some (aL b), none, some (aI p), none, none], [], M)
  refine hR _ (hR _ (hR _ (?_)))
  show R (4, [some (aL a), none, some (aL b), none, some (aI p), none, none], [aI 1, aI 0, aI p], M)
  refine hR _ (sp_within (by omega) (by omega) (fun h4 => ?_) (fun h4 => ?_))
  · show R (7, [some (aL a), none, some (aL b), none, some (aI p), none, none], [aI 1], M)
    refine hR _ (am_brf (rg := am_in 1) (P := (1 : Int) = 0) (A := R (16, [some (aL a), none, some (aL b), none, some (aI p), none, none], [], M)) (B := R (10, [some (aL a), none, some (aL b), none, some (aI p), none, none], [], M)) (by omega) (by omega) ?_)
    show R (10, [some (aL a), none, some (aL b), none, some (aI p), none, none], [], M)
    refine hR _ (hR _ (?_))
    show R (12, [some (aL a), none, some (aL b), none, some (aI p), none, none], [aL 1, aL b], M)
    refine am_lc (x := b) (y := 1) (P := 1 ≤ b) (A := R (20, [some (aL a), none, some (aL b), none, some (aI p), none, none], [], M)) (B := R (16, [some (aL a), none, some (aL b), none, some (aI p), none, none], [], M)) (by omega) (fun hA hB => hR _ ⟨(by omega), (fun hz => hR _ (am_brf (P := 0 ≤ (-1 : Int)) (A := R (20, [some (aL a), none, some (aL b), none, some (aI p), none, none], [], M)) (B := R (16, [some (aL a), none, some (aL b), none, some (aI p), none, none], [], M)) (by omega) (by omega) (hB (by omega)))), (fun hz => hR _ (am_brt (P := 0 ≤ (0 : Int)) (A := R (20, [some (aL a), none, some (aL b), none, some (aI p), none, none], [], M)) (B := R (16, [some (aL a), none, some (aL b), none, some (aI p), none, none], [], M)) (by omega) (by omega) (hA (by omega)))), (fun hz => hR _ (am_brt (P := 0 ≤ (1 : Int)) (A := R (20, [some (aL a), none, some (aL b), none, some (aI p), none, none], [], M)) (B := R (16, [some (aL a), none, some (aL b), none, some (aI p), none, none], [], M)) (by omega) (by omega) (hA (by omega))))⟩) (fun _ => ?_) (fun hz => absurd (by omega) hz)
    show R (20, [some (aL a), none, some (aL b), none, some (aI p), none, none], [], M)
    refine hR _ (?_)
    show R (21, [some (aL a), none, some (aL b), none, some (aI p), none, none], [aL a], M)
    refine hR _ ⟨(by omega), ?_⟩
    show R (24, [some (aL a), none, some (aL b), none, some (aI p), none, none], [aL (if 0 ≤ a then a else -a)], M)
    refine hR _ (?_)
    show R (25, [some (aL a), none, some (aL b), none, some (aI p), none, none], [aL b, aL (if 0 ≤ a then a else -a)], M)
    refine hR _ (sp_commonOf (by omega) (by omega) (by omega) ?_)
    have hg25 := jf_gc_b (a := (if 0 ≤ a then a else -a)) (b := b) (by omega)
    show R (28, [some (aL a), none, some (aL b), none, some (aI p), none, none], [aL (jf_gc (if 0 ≤ a then a else -a) b)], M)
    refine hR _ (hR _ (hR _ (?_)))
    show R (33, [some (aL a), none, some (aL b), none, some (aI p), some (aL (jf_gc (if 0 ≤ a then a else -a) b)), none], [aL 1, aL (jf_gc (if 0 ≤ a then a else -a) b)], M)
    refine am_lc (x := (jf_gc (if 0 ≤ a then a else -a) b)) (y := 1) (P := 1 ≤ (jf_gc (if 0 ≤ a then a else -a) b)) (A := R (41, [some (aL a), none, some (aL b), none, some (aI p), some (aL (jf_gc (if 0 ≤ a then a else -a) b)), none], [], M)) (B := R (37, [some (aL a), none, some (aL b), none, some (aI p), some (aL (jf_gc (if 0 ≤ a then a else -a) b)), none], [], M)) (by omega) (fun hA hB => hR _ ⟨(by omega), (fun hz => hR _ (am_brf (P := 0 ≤ (-1 : Int)) (A := R (41, [some (aL a), none, some (aL b), none, some (aI p), some (aL (jf_gc (if 0 ≤ a then a else -a) b)), none], [], M)) (B := R (37, [some (aL a), none, some (aL b), none, some (aI p), some (aL (jf_gc (if 0 ≤ a then a else -a) b)), none], [], M)) (by omega) (by omega) (hB (by omega)))), (fun hz => hR _ (am_brt (P := 0 ≤ (0 : Int)) (A := R (41, [some (aL a), none, some (aL b), none, some (aI p), some (aL (jf_gc (if 0 ≤ a then a else -a) b)), none], [], M)) (B := R (37, [some (aL a), none, some (aL b), none, some (aI p), some (aL (jf_gc (if 0 ≤ a then a else -a) b)), none], [], M)) (by omega) (by omega) (hA (by omega)))), (fun hz => hR _ (am_brt (P := 0 ≤ (1 : Int)) (A := R (41, [some (aL a), none, some (aL b), none, some (aI p), some (aL (jf_gc (if 0 ≤ a then a else -a) b)), none], [], M)) (B := R (37, [some (aL a), none, some (aL b), none, some (aI p), some (aL (jf_gc (if 0 ≤ a then a else -a) b)), none], [], M)) (by omega) (by omega) (hA (by omega))))⟩) (fun c33 => ?_) (fun c33 => ?_)
    · refine hR _ (hR _ (am_brc (rg := am_in p) (P := p ≠ 0) (A := R (50, [some (aL a), none, some (aL b), none, some (aI p), some (aL (jf_gc (if 0 ≤ a then a else -a) b)), none], [], M)) (B := R (46, [some (aL a), none, some (aL b), none, some (aI p), some (aL (jf_gc (if 0 ≤ a then a else -a) b)), none], [], M)) (by omega) (fun c43 => ?_) (fun c43 => ?_)))
      · refine hR _ (hR _ (?_))
        show R (53, [some (aL a), none, some (aL b), none, some (aI p), some (aL (jf_gc (if 0 ≤ a then a else -a) b)), none], [aL (jf_gc (if 0 ≤ a then a else -a) b), aL b], M)
        refine hR _ ⟨(by omega), ?_⟩
        show R (54, [some (aL a), none, some (aL b), none, some (aI p), some (aL (jf_gc (if 0 ≤ a then a else -a) b)), none], [aL (Int.tdiv b (jf_gc (if 0 ≤ a then a else -a) b))], M)
        refine hR _ (show K (some (aL (Int.tdiv b (jf_gc (if 0 ≤ a then a else -a) b)))) M from ?_)
        rw [show jf_il a b p = (Int.tdiv b (jf_gc (if 0 ≤ a then a else -a) b)) by unfold jf_il; rw [if_pos (by omega), if_pos (by omega)]] at h
        exact h
      · refine hR _ (hR _ (hR _ (?_)))
        show R (53, [some (aL a), none, some (aL b), none, some (aI p), some (aL (jf_gc (if 0 ≤ a then a else -a) b)), none], [aL (jf_gc (if 0 ≤ a then a else -a) b), aL a], M)
        refine hR _ ⟨(by omega), ?_⟩
        show R (54, [some (aL a), none, some (aL b), none, some (aI p), some (aL (jf_gc (if 0 ≤ a then a else -a) b)), none], [aL (Int.tdiv a (jf_gc (if 0 ≤ a then a else -a) b))], M)
        refine hR _ (show K (some (aL (Int.tdiv a (jf_gc (if 0 ≤ a then a else -a) b)))) M from ?_)
        rw [show jf_il a b p = (Int.tdiv a (jf_gc (if 0 ≤ a then a else -a) b)) by unfold jf_il; rw [if_pos (by omega), if_neg (by omega)]] at h
        exact h
    · refine hR _ (?_)
      show R (40, [some (aL a), none, some (aL b), none, some (aI p), some (aL (jf_gc (if 0 ≤ a then a else -a) b)), none], [aL (-4611686018427387904)], M)
      refine hR _ (show K (some (aL (-4611686018427387904))) M from ?_)
      rw [show jf_il a b p = -4611686018427387904 by unfold jf_il; rw [if_neg (by omega)]] at h
      exact h
  · show R (7, [some (aL a), none, some (aL b), none, some (aI p), none, none], [aI 0], M)
    refine hR _ (am_brt (rg := am_in 0) (P := (0 : Int) = 0) (A := R (16, [some (aL a), none, some (aL b), none, some (aI p), none, none], [], M)) (B := R (10, [some (aL a), none, some (aL b), none, some (aI p), none, none], [], M)) (by omega) (by omega) ?_)
    show R (16, [some (aL a), none, some (aL b), none, some (aI p), none, none], [], M)
    refine hR _ (?_)
    show R (19, [some (aL a), none, some (aL b), none, some (aI p), none, none], [aL (-4611686018427387904)], M)
    refine hR _ (show K (some (aL (-4611686018427387904))) M from ?_)
    rw [show jf_il a b p = -4611686018427387904 by unfold jf_il; rw [if_neg (by omega)]] at h
    exact h
