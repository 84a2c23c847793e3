/-! wb -/
variable {wb : Bool}
/-! READING A TEXT: the descent (T n: token n, V n: its number, P n: where the bytes behind token n begin) -/
abbrev rd_R : Type := Nat × Option (List Int)
def rd_then (a : rd_R) (f : Nat → List Int → rd_R) : rd_R := match a with
  | (m, some w) => f m w
  | (m, none) => (m, none)
def rd_loop (T : Nat → Int) (op : Int → Bool) (sub : Nat → rd_R) : Nat → Nat → List Int → rd_R
  | 0, n, w => (n, some w)
  | f + 1, n, w => bif op (T n) then rd_then (sub (n + 1)) (fun m w2 => rd_loop T op sub f m (w ++ (w2 ++ [jf_cv (T n) 0]))) else (n, some w)
abbrev rd_N : Type := Option (Nat → Nat → rd_R)
def rd_opn (T : Nat → Int) (x : Nat → Nat → rd_R) (n : Nat) : rd_R := if T n = 45 then rd_then (x 0 (n + 1)) (fun m w => (m, some (w ++ [19]))) else rd_then (x 2 (n + 1)) (fun m w => if T m = 41 then (m + 1, some w) else (m, none))
def rd_one (T V : Nat → Int) (nx : rd_N) (n : Nat) : rd_R :=
  if T n = 40 ∨ T n = 45 then (match nx with
    | none => (n, none)
    | some x => rd_opn T x n)
  else if T n = 2 then (n + 1, some [100000 + V n]) else if 10 ≤ T n ∧ T n ≤ 15 then (n + 1, some [T n - 10]) else (n, none)
def rd_op1 (x : Int) : Bool := decide (x = 42)
def rd_op2 (x : Int) : Bool := decide (x = 43 ∨ x = 45)
def rd_op5 (x : Int) : Bool := decide (x = 7)
def rd_op6 (x : Int) : Bool := decide (x = 8)
def rd_term (T V : Nat → Int) (nx : rd_N) (n : Nat) : rd_R := rd_then (rd_one T V nx n) (fun m w => rd_loop T rd_op1 (rd_one T V nx) 160 m w)
def rd_sum (T V : Nat → Int) (nx : rd_N) (n : Nat) : rd_R := rd_then (rd_term T V nx n) (fun m w => rd_loop T rd_op2 (rd_term T V nx) 160 m w)
def rd_not (T V : Nat → Int) (nx : rd_N) (n : Nat) : rd_R :=
  if T n = 6 then (match nx with
    | none => (n, none)
    | some x => rd_then (x 1 (n + 1)) (fun m w => (m, some (w ++ [13]))))
  else rd_then (rd_sum T V nx n) (fun m w => if T m = 60 ∨ T m = 61 then rd_then (rd_sum T V nx (m + 1)) (fun m2 w2 => (m2, some (w ++ (w2 ++ [jf_cv (T m) 0])))) else (m, some w))
def rd_and (T V : Nat → Int) (nx : rd_N) (n : Nat) : rd_R := rd_then (rd_not T V nx n) (fun m w => rd_loop T rd_op5 (rd_not T V nx) 160 m w)
def rd_or (T V : Nat → Int) (nx : rd_N) (n : Nat) : rd_R := rd_then (rd_and T V nx n) (fun m w => rd_loop T rd_op6 (rd_and T V nx) 160 m w)
def rd_k (T V : Nat → Int) (nx : rd_N) (k n : Nat) : rd_R := match k with
  | 0 => rd_one T V nx n
  | 1 => rd_not T V nx n
  | _ => rd_or T V nx n
def rd_nx (T V : Nat → Int) : Nat → rd_N
  | 0 => none
  | r + 1 => some (rd_k T V (rd_nx T V r))
theorem rd_then_some {a : rd_R} {f : Nat → List Int → rd_R} {m : Nat} {w : List Int} (h : rd_then a f = (m, some w)) : ∃ m1 w1, a = (m1, some w1) ∧ f m1 w1 = (m, some w) := by
  match a, h with
  | (m1, some w1), h => exact ⟨m1, w1, rfl, h⟩
  | (m1, none), h => exact absurd h (by simp [rd_then])
/-- codes are at most as many as bytes -/
def rd_mo (P : Nat → Nat) (f : Nat → rd_R) : Prop := ∀ n m w, f n = (m, some w) → P n + w.length ≤ P m
theorem rd_loop_mo {T : Nat → Int} {P : Nat → Nat} {op : Int → Bool} {sub : Nat → rd_R} (hP : ∀ n, T n ≠ 0 → P n + 1 ≤ P (n + 1)) (hop : ∀ x, op x = true → x ≠ 0) (hs : rd_mo P sub) : ∀ f n w m w', rd_loop T op sub f n w = (m, some w') → P n + w'.length ≤ P m + w.length
  | 0, n, w, m, w', h => by
    cases h
    omega
  | f + 1, n, w, m, w', h => by
    unfold rd_loop at h
    cases ho : op (T n) with
    | false =>
      rw [ho] at h
      cases h
      omega
    | true =>
      rw [ho] at h
      obtain ⟨m1, w1, h1, h2⟩ := rd_then_some h
      have h3 := rd_loop_mo hP hop hs f m1 _ m w' h2
      have h4 := hs _ _ _ h1
      have h5 := hP n (hop _ ho)
      rw [List.length_append, List.length_append, List.length_singleton] at h3
      omega
theorem rd_then_mo {T : Nat → Int} {P : Nat → Nat} {op : Int → Bool} {a sub : Nat → rd_R} (hP : ∀ n, T n ≠ 0 → P n + 1 ≤ P (n + 1)) (hop : ∀ x, op x = true → x ≠ 0) (ha : rd_mo P a) (hs : rd_mo P sub) : rd_mo P (fun n => rd_then (a n) (fun m w => rd_loop T op sub 160 m w)) := by
  intro n m w h
  obtain ⟨m1, w1, h1, h2⟩ := rd_then_some h
  have h3 := rd_loop_mo hP hop hs _ _ _ _ _ h2
  have h4 := ha _ _ _ h1
  omega
def rd_nmo (P : Nat → Nat) (nx : rd_N) : Prop := ∀ x, nx = some x → rd_mo P (x 0) ∧ rd_mo P (x 1) ∧ rd_mo P (x 2)
theorem rd_one_mo {T V : Nat → Int} {P : Nat → Nat} {nx : rd_N} (hP : ∀ n, T n ≠ 0 → P n + 1 ≤ P (n + 1)) (hn : rd_nmo P nx) : rd_mo P (rd_one T V nx) := by
  intro n m w h
  unfold rd_one at h
  by_cases h1 : T n = 40 ∨ T n = 45
  · rw [if_pos h1] at h
    have hp := hP n (by omega)
    match nx, hn, h with
    | none, _, h => cases h
    | some x, hn, h =>
      have hx := hn x rfl
      dsimp only at h
      unfold rd_opn at h
      by_cases h2 : T n = 45
      · rw [if_pos h2] at h
        obtain ⟨m1, w1, h3, h4⟩ := rd_then_some h
        cases h4
        have := hx.1 _ _ _ h3
        rw [List.length_append, List.length_singleton]
        omega
      · rw [if_neg h2] at h
        obtain ⟨m1, w1, h3, h4⟩ := rd_then_some h
        have := hx.2.2 _ _ _ h3
        by_cases h5 : T m1 = 41
        · rw [if_pos h5] at h4
          cases h4
          have := hP m1 (by omega)
          omega
        · rw [if_neg h5] at h4
          cases h4
  · rw [if_neg h1] at h
    by_cases h2 : T n = 2
    · rw [if_pos h2] at h
      cases h
      have hp := hP n (by omega)
      rw [List.length_singleton]
      omega
    · rw [if_neg h2] at h
      by_cases h3 : 10 ≤ T n ∧ T n ≤ 15
      · rw [if_pos h3] at h
        cases h
        have hp := hP n (by omega)
        rw [List.length_singleton]
        omega
      · rw [if_neg h3] at h
        cases h
theorem rd_o1 : ∀ x, rd_op1 x = true → x ≠ 0 := fun x h => by have := of_decide_eq_true h; omega
theorem rd_o2 : ∀ x, rd_op2 x = true → x ≠ 0 := fun x h => by have := of_decide_eq_true h; omega
theorem rd_o5 : ∀ x, rd_op5 x = true → x ≠ 0 := fun x h => by have := of_decide_eq_true h; omega
theorem rd_o6 : ∀ x, rd_op6 x = true → x ≠ 0 := fun x h => by have := of_decide_eq_true h; omega
theorem rd_term_mo {T V : Nat → Int} {P : Nat → Nat} {nx : rd_N} (hP : ∀ n, T n ≠ 0 → P n + 1 ≤ P (n + 1)) (hn : rd_nmo P nx) : rd_mo P (rd_term T V nx) := rd_then_mo hP rd_o1 (rd_one_mo hP hn) (rd_one_mo hP hn)
theorem rd_sum_mo {T V : Nat → Int} {P : Nat → Nat} {nx : rd_N} (hP : ∀ n, T n ≠ 0 → P n + 1 ≤ P (n + 1)) (hn : rd_nmo P nx) : rd_mo P (rd_sum T V nx) := rd_then_mo hP rd_o2 (rd_term_mo hP hn) (rd_term_mo hP hn)
theorem rd_not_mo {T V : Nat → Int} {P : Nat → Nat} {nx : rd_N} (hP : ∀ n, T n ≠ 0 → P n + 1 ≤ P (n + 1)) (hn : rd_nmo P nx) : rd_mo P (rd_not T V nx) := by
  intro n m w h
  unfold rd_not at h
  by_cases h1 : T n = 6
  · rw [if_pos h1] at h
    have hp := hP n (by omega)
    match nx, hn, h with
    | none, _, h => cases h
    | some x, hn, h =>
      have hx := hn x rfl
      dsimp only at h
      obtain ⟨m1, w1, h3, h4⟩ := rd_then_some h
      cases h4
      have := hx.2.1 _ _ _ h3
      rw [List.length_append, List.length_singleton]
      omega
  · rw [if_neg h1] at h
    obtain ⟨m1, w1, h3, h4⟩ := rd_then_some h
    have h5 := rd_sum_mo hP hn _ _ _ h3
    by_cases h2 : T m1 = 60 ∨ T m1 = 61
    · rw [if_pos h2] at h4
      obtain ⟨m2, w2, h6, h7⟩ := rd_then_some h4
      cases h7
      have h8 := rd_sum_mo hP hn _ _ _ h6
      have h9 := hP m1 (by omega)
      rw [List.length_append, List.length_append, List.length_singleton]
      omega
    · rw [if_neg h2] at h4
      cases h4
      omega
theorem rd_and_mo {T V : Nat → Int} {P : Nat → Nat} {nx : rd_N} (hP : ∀ n, T n ≠ 0 → P n + 1 ≤ P (n + 1)) (hn : rd_nmo P nx) : rd_mo P (rd_and T V nx) := rd_then_mo hP rd_o5 (rd_not_mo hP hn) (rd_not_mo hP hn)
theorem rd_or_mo {T V : Nat → Int} {P : Nat → Nat} {nx : rd_N} (hP : ∀ n, T n ≠ 0 → P n + 1 ≤ P (n + 1)) (hn : rd_nmo P nx) : rd_mo P (rd_or T V nx) := rd_then_mo hP rd_o6 (rd_and_mo hP hn) (rd_and_mo hP hn)
theorem rd_nx_mo {T V : Nat → Int} {P : Nat → Nat} (hP : ∀ n, T n ≠ 0 → P n + 1 ≤ P (n + 1)) : ∀ r, rd_nmo P (rd_nx T V r)
  | 0 => fun x h => by cases h
  | r + 1 => fun x h => by
    have e : rd_k T V (rd_nx T V r) = x := Option.some.inj h
    rw [← e]
    have ih := rd_nx_mo (V := V) hP r
    exact ⟨rd_one_mo hP ih, rd_not_mo hP ih, rd_or_mo hP ih⟩
