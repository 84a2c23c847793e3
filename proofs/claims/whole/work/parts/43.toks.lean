/-! wb -/
variable {wb : Bool}
/-! TOKENS by number -/
def lx_P (b : Nat → Int) (z : Nat) : Nat → Nat
  | 0 => 0
  | n + 1 => lx_e b z (lx_P b z n)
def lx_T (b : Nat → Int) (z n : Nat) : Int := lx_t b z (lx_P b z n)
def lx_V (b : Nat → Int) (z n : Nat) : Int := lx_v b z (lx_P b z n)
def lx_Q (b : Nat → Int) (z n : Nat) : Nat := lx_q b z (lx_P b z n)
/-- the tape stands at token n -/
def lx_st (b : Nat → Int) (z : Nat) (m : am_M) (n : Nat) : Prop := m 303 0 0 = lx_T b z n ∧ m 304 0 0 = (lx_Q b z n : Int) ∧ m 302 0 0 = (lx_P b z (n + 1) : Int) ∧ (lx_T b z n = 2 → m 305 0 0 = lx_V b z n)
def lx_by_ok (b : Nat → Int) (z : Nat) : Prop := ∀ j, j < z → 0 ≤ b j ∧ b j ≤ 255
theorem lx_by_lt {b : Nat → Int} {z i : Nat} (h : lx_by b z i ≠ -1) : i < z := by
  by_cases hh : i < z
  · exact hh
  · exact absurd (if_neg hh) h
theorem lx_sc_1 {c : Int → Bool} {b : Nat → Int} {z q : Nat} (hc : c (-1) = false) (h : c (lx_by b z q) = true) : q + 1 ≤ lx_sc c b z 160 q ∧ lx_sc c b z 160 q ≤ z := by
  have hq : q < z := lx_by_lt (fun e => by rw [e, hc] at h; cases h)
  rw [show lx_sc c b z 160 q = bif c (lx_by b z q) then lx_sc c b z 159 (q + 1) else q from rfl, h]
  exact lx_sc_b hc 159 (q + 1) hq
theorem lx_sc_all {c : Int → Bool} {b : Nat → Int} {z : Nat} : ∀ f p i, p ≤ i → i < lx_sc c b z f p → c (lx_by b z i) = true
  | 0, p, i, h1, h2 => by
    unfold lx_sc at h2
    omega
  | f + 1, p, i, h1, h2 => by
    unfold lx_sc at h2
    cases h : c (lx_by b z p) with
    | false =>
      rw [h] at h2
      exact absurd h2 (by show ¬ i < p; omega)
    | true =>
      rw [h] at h2
      by_cases e : p = i
      · rw [← e]
        exact h
      · exact lx_sc_all f (p + 1) i (by omega) h2
theorem lx_q_b {b : Nat → Int} {z p : Nat} (h : p ≤ z) : p ≤ lx_q b z p ∧ lx_q b z p ≤ z := lx_sc_b (by decide) 160 p h
theorem lx_e_b {b : Nat → Int} {z p : Nat} (h : p ≤ z) : p ≤ lx_e b z p ∧ lx_e b z p ≤ z ∧ (lx_t b z p ≠ 0 → p + 1 ≤ lx_e b z p) := by
  have hq := lx_q_b (b := b) h
  unfold lx_t lx_e
  by_cases h1 : lx_by b z (lx_q b z p) = -1
  · rw [if_pos h1, if_pos h1]
    exact ⟨hq.1, hq.2, fun h => absurd rfl h⟩
  · have hqz := lx_by_lt h1
    rw [if_neg h1]
    by_cases h2 : lx_le (lx_by b z (lx_q b z p)) = true
    · rw [if_pos h2]
      have := lx_sc_1 (c := lx_le) (by decide) h2
      exact ⟨by omega, by omega, fun _ => by omega⟩
    · rw [if_neg h2]
      by_cases h3 : lx_di (lx_by b z (lx_q b z p)) = true
      · rw [if_pos h3]
        have := lx_sc_1 (c := lx_di) (by decide) h3
        exact ⟨by omega, by omega, fun _ => by omega⟩
      · rw [if_neg h3]
        exact ⟨by omega, by omega, fun _ => by omega⟩
theorem lx_P_b (b : Nat → Int) (z : Nat) : ∀ n, lx_P b z n ≤ z
  | 0 => Nat.zero_le _
  | n + 1 => (lx_e_b (lx_P_b b z n)).2.1
theorem lx_P_1 {b : Nat → Int} {z : Nat} : ∀ n, lx_T b z n ≠ 0 → lx_P b z n + 1 ≤ lx_P b z (n + 1) := fun n h => (lx_e_b (lx_P_b b z n)).2.2 h
theorem lx_T_0 {b : Nat → Int} {z : Nat} (hz : z ≤ 160) : ∀ n, 160 ≤ lx_P b z n → lx_T b z n = 0 := fun n h => by
  have hp := lx_P_b b z n
  have hq := lx_q_b (b := b) hp
  have hy : lx_by b z (lx_q b z (lx_P b z n)) = -1 := if_neg (by omega)
  unfold lx_T lx_t
  rw [if_pos hy]
theorem lx_wt_b (l : List Int) : 1 ≤ lx_wt l ∧ lx_wt l ≤ 15 ∧ lx_wt l ≠ 2 ∧ lx_wt l ≠ 9 := by
  unfold lx_wt
  repeat' split
  all_goals omega
theorem lx_sg_b (x : Int) : lx_sg x = 1 ∨ ((x = 40 ∨ x = 41 ∨ x = 59 ∨ x = 43 ∨ x = 45 ∨ x = 42 ∨ x = 60 ∨ x = 61) ∧ lx_sg x = x) := by
  unfold lx_sg
  split
  · exact Or.inr ⟨by assumption, rfl⟩
  · exact Or.inl rfl
theorem lx_T_b (b : Nat → Int) (z n : Nat) : 0 ≤ lx_T b z n ∧ lx_T b z n ≤ 61 := by
  unfold lx_T lx_t
  have h1 := lx_wt_b (lx_sl b (lx_q b z (lx_P b z n)) (lx_e b z (lx_P b z n)))
  have h2 := lx_sg_b (lx_by b z (lx_q b z (lx_P b z n)))
  repeat' split
  all_goals omega
theorem lx_nv_b {b : Nat → Int} {q : Nat} : ∀ k, (∀ i, q ≤ i → i < q + k → 48 ≤ b i ∧ b i ≤ 57) → 0 ≤ lx_nv b q k ∧ lx_nv b q k + 1 ≤ 10 ^ k
  | 0, _ => by
    unfold lx_nv
    decide
  | k + 1, h => by
    have ih := lx_nv_b k (fun i h1 h2 => h i h1 (by omega))
    have h2 := h (q + k) (by omega) (by omega)
    unfold lx_nv
    rw [show (10 : Int) ^ (k + 1) = 10 ^ k * 10 from rfl]
    omega
theorem lx_V_b {b : Nat → Int} {z n : Nat} (h : lx_T b z n = 2) : 0 ≤ lx_V b z n ∧ lx_V b z n ≤ 9999 := by
  have hz := lx_P_b b z n
  have hq := lx_q_b (b := b) hz
  unfold lx_V lx_v
  unfold lx_T lx_t at h
  by_cases h1 : lx_by b z (lx_q b z (lx_P b z n)) = -1
  · rw [if_pos h1] at h
    omega
  · rw [if_neg h1] at h
    by_cases h2 : lx_le (lx_by b z (lx_q b z (lx_P b z n))) = true
    · rw [if_pos h2] at h
      exact absurd h (lx_wt_2 _)
    · rw [if_neg h2] at h
      by_cases h3 : lx_di (lx_by b z (lx_q b z (lx_P b z n))) = true
      · rw [if_pos h3] at h
        have he : lx_e b z (lx_P b z n) = lx_sc lx_di b z 160 (lx_q b z (lx_P b z n)) := by
          unfold lx_e
          rw [if_neg h1, if_neg h2, if_pos h3]
        have hs := lx_sc_1 (c := lx_di) (by decide) h3
        have ha := fun i => lx_sc_all (c := lx_di) (b := b) (z := z) 160 (lx_q b z (lx_P b z n)) i
        rw [← he] at hs ha
        have h4 : lx_e b z (lx_P b z n) - lx_q b z (lx_P b z n) ≤ 4 := by
          by_cases h5 : lx_e b z (lx_P b z n) - lx_q b z (lx_P b z n) ≤ 4
          · exact h5
          · rw [if_neg h5] at h
            omega
        have h6 := lx_nv_b (b := b) (q := lx_q b z (lx_P b z n)) (lx_e b z (lx_P b z n) - lx_q b z (lx_P b z n)) (fun i h7 h8 => by
          have h9 := of_decide_eq_true (ha i h7 (by omega))
          rwa [show lx_by b z i = b i from if_pos (by omega)] at h9)
        have h7 : ∀ k : Nat, k ≤ 4 → (10 : Int) ^ k ≤ 10000 := by decide
        have h8 := h7 _ h4
        omega
      · rw [if_neg h3] at h
        exact absurd h (lx_sg_2 _)
/-! The text that is being read: its codes so far; the other texts are as they were -/
def jf_oth (M m : am_M) (t : Nat) : Prop := ∀ i, i ≠ t → m 15 i = M 15 i ∧ m 16 i = M 16 i
def jf_tw (m : am_M) (t : Nat) (l : List Int) : Prop := m 345 t 0 = (l.length : Int) ∧ ∀ j, j < l.length → jf_cv (m 15 t j) (m 16 t j) = l.getD j 0 ∧ jf_sv (m 15 t j) (m 16 t j)
/-- reading stands at token n, l is read -/
def cr_s (b : Nat → Int) (z : Nat) (M m : am_M) (t n : Nat) (l : List Int) : Prop := lx_st b z m n ∧ jf_tw m t l ∧ jf_oth M m t
abbrev cr_S : List Nat := [15, 16, 302, 303, 304, 305, 345]
theorem cr_s_t {b : Nat → Int} {z t n n2 : Nat} {l : List Int} {M g m2 : am_M} (h : cr_s b z M (am_mix cr_S g M) t n l) (h1 : m2 345 = g 345) (h2 : m2 15 = g 15) (h3 : m2 16 = g 16) (hn : lx_st b z m2 n2) : cr_s b z M m2 t n2 l := by
  refine ⟨hn, ⟨?_, fun j hj => ?_⟩, fun i hi => ?_⟩
  · rw [h1]
    exact h.2.1.1
  · rw [h2, h3]
    exact h.2.1.2 j hj
  · rw [h2, h3]
    exact h.2.2 i hi
