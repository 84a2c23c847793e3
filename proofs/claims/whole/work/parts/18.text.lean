/-! wb -/
variable {wb : Bool}
/-! TEXTS: tokens in the order in which they are worked off (the reference's numbers), what they make of a stack (its top first) -/
theorem am_mix_sub {S S2 : List Nat} {g2 g M : am_M} (h : S.all (am_el S2) = true) : am_mix S2 g2 (am_mix S g M) = am_mix S2 g2 M := by
  funext v
  cases hv : am_el S2 v with
  | true => rw [am_mix_in hv, am_mix_in hv]
  | false =>
    rw [am_mix_out hv, am_mix_out hv]
    have := (am_ag.rf (S := S2) (M := M)).mix (g := g) h
    exact this v hv
/-- the end of a method that changes the variables S alone -/
theorem am_fin {S : List Nat} {M M' : am_M} {K : am_K} {v : Option am_V} {F : am_M → Prop} (hag : am_ag S M M') (hf : F M') (h : ∀ g, F (am_mix S g M) → K v (am_mix S g M)) : K v M' := by
  have e := hag.eq
  rw [e] at hf ⊢
  exact h _ hf
def jf_two (c x y : Int) : Int := if c = 11 then (if x ≠ 0 ∨ y ≠ 0 then 1 else 0) else if c = 12 then (if x ≠ 0 ∧ y ≠ 0 then 1 else 0) else if c = 14 then (if x < y then 1 else 0) else if c = 15 then (if x = y then 1 else 0) else if c = 16 then am_bm (x + y) else if c = 17 then am_bm (x - y) else am_bm (x * y)
theorem jf_two_in (c x y : Int) : am_in (jf_two c x y) := by
  unfold jf_two
  have h1 := am_bm_in (x + y)
  have h2 := am_bm_in (x - y)
  have h3 := am_bm_in (x * y)
  repeat' split
  all_goals first | assumption | exact ⟨by omega, by omega⟩
def jf_cv (s v : Int) : Int := if s = 2 then 100000 + v else if s = 9 then v else if s = 6 then 13 else if s = 16 then 19 else if s = 8 then 11 else if s = 7 then 12 else if s = 60 then 14 else if s = 61 then 15 else if s = 43 then 16 else if s = 45 then 17 else 18
/-- a step that a text may hold -/
def jf_sv (s v : Int) : Prop := (s = 2 ∧ 0 ≤ v ∧ v ≤ 9999) ∨ (s = 9 ∧ 0 ≤ v ∧ v ≤ 5) ∨ s = 6 ∨ s = 16 ∨ s = 8 ∨ s = 7 ∨ s = 60 ∨ s = 61 ∨ s = 43 ∨ s = 45 ∨ s = 42
def jf_stp (nm : Nat → Int) (c : Int) (l : List Int) : List Int :=
  if c < 11 then nm c.toNat :: l
  else if 100000 ≤ c then (c - 100000) :: l
  else if c = 13 then (match l with
    | x :: r => (if x = 0 then 1 else 0) :: r
    | [] => [])
  else if c = 19 then (match l with
    | x :: r => am_bm (-x) :: r
    | [] => [])
  else (match l with
    | y :: x :: r => jf_two c x y :: r
    | r => r)
def jf_ar (c : Int) : Nat := if c < 11 then 0 else if 100000 ≤ c then 0 else if c = 13 then 1 else if c = 19 then 1 else 2
def jf_ev (nm : Nat → Int) : List Int → List Int → List Int
  | [], l => l
  | c :: cs, l => jf_ev nm cs (jf_stp nm c l)
def jf_wf : List Int → Nat → Prop
  | [], n => n = 1
  | c :: cs, n => jf_ar c ≤ n ∧ jf_wf cs (n - jf_ar c + 1)
def jf_val (nm : Nat → Int) (cs : List Int) : Int := (jf_ev nm cs []).headD 0
theorem jf_stp_len {nm : Nat → Int} {c : Int} {l : List Int} (h : jf_ar c ≤ l.length) : (jf_stp nm c l).length = l.length - jf_ar c + 1 := by
  unfold jf_stp jf_ar at *
  by_cases h1 : c < 11
  · simp [h1]
  · by_cases h2 : 100000 ≤ c
    · simp [h1, h2]
    · by_cases h3 : c = 13
      · subst h3
        simp at h ⊢
        cases l with
        | nil => simp at h
        | cons x r => simp
      · by_cases h4 : c = 19
        · subst h4
          simp at h ⊢
          cases l with
          | nil => simp at h
          | cons x r => simp
        · simp [h1, h2, h3, h4] at h ⊢
          match l, h with
          | y :: x :: r, _ => simp
          | [x], h => simp at h
          | [], h => simp at h
/-- the stack in memory: its height, its numbers, bottom first -/
def jf_stk (M : am_M) (t : Nat) (l : List Int) : Prop := M 346 t 0 = (l.length : Int) ∧ (∀ j, j < l.length → M 17 t j = l.getD (l.length - 1 - j) 0) ∧ ∀ x ∈ l, am_in x
theorem jf_stk.push {M : am_M} {t : Nat} {l : List Int} {v : Int} (h : jf_stk M t l) (hv : am_in v) : jf_stk (am_wr (am_wr M 17 t l.length v) 346 t 0 ((l.length : Int) + 1)) t (v :: l) := by
  refine ⟨by rw [am_wr_eq]; simp, fun j hj => ?_, fun x hx => ?_⟩
  · rw [am_wr_ne (Or.inl (by decide))]
    by_cases hjl : j = l.length
    · subst hjl
      rw [am_wr_eq]
      simp
    · simp only [List.length_cons] at hj
      rw [am_wr_ne (Or.inr (Or.inr hjl)), h.2.1 j (by omega)]
      rw [show (v :: l).length - 1 - j = (l.length - 1 - j) + 1 by simp; omega]
      simp
  · rcases List.mem_cons.mp hx with rfl | hx
    · exact hv
    · exact h.2.2 x hx
theorem jf_stk.pop {M : am_M} {t : Nat} {x : Int} {r : List Int} (h : jf_stk M t (x :: r)) : M 17 t r.length = x ∧ jf_stk (am_wr M 346 t 0 (r.length : Int)) t r ∧ am_in x := by
  refine ⟨?_, ⟨by rw [am_wr_eq], fun j hj => ?_, fun y hy => h.2.2 y (List.mem_cons_of_mem _ hy)⟩, h.2.2 x List.mem_cons_self⟩
  · rw [h.2.1 r.length (by simp)]
    simp
  · rw [am_wr_ne (Or.inl (by decide)), h.2.1 j (by simp; omega)]
    rw [show (x :: r).length - 1 - j = (r.length - 1 - j) + 1 by simp; omega]
    simp
/-- text t: the tokens of part p -/
def jf_lo3 (pe : Nat → Nat → Int) (t p : Nat) : Nat := if p = 0 then 0 else (pe t (p - 1)).toNat
def jf_tk3 (st vl pe : Nat → Nat → Int) (t p : Nat) : List Int := (List.range' (jf_lo3 pe t p) ((pe t p).toNat - jf_lo3 pe t p)).map fun k => jf_cv (st t k) (vl t k)
abbrev jf_lo (M : am_M) (t p : Nat) : Nat := jf_lo3 (M 18) t p
abbrev jf_tk (M : am_M) (t p : Nat) : List Int := jf_tk3 (M 15) (M 16) (M 18) t p
/-- text t is one -/
def jf_wt3 (st vl pe : Nat → Nat → Int) (t : Nat) : Prop := (0 ≤ pe t 0 ∧ pe t 0 ≤ pe t 1 ∧ pe t 1 ≤ pe t 2 ∧ pe t 2 ≤ 160) ∧ (∀ p, p < 3 → jf_wf (jf_tk3 st vl pe t p) 0) ∧ ∀ k : Nat, (k : Int) < pe t 2 → jf_sv (st t k) (vl t k)
abbrev jf_wt (M : am_M) (t : Nat) : Prop := jf_wt3 (M 15) (M 16) (M 18) t
def jf_cl (p : Nat) (x : Int) : Int := max (if p = 0 then 1 else 0) (min (if p = 0 then 50 else if p = 1 then 9 else 999) x)
def jf_nm (a b c d e f : Int) : Nat → Int := fun j => [a, b, c, d, e, f].getD j 0
theorem jf_cl0 (x : Int) : 1 ≤ jf_cl 0 x ∧ jf_cl 0 x ≤ 50 := by
  unfold jf_cl
  simp only [if_pos]
  omega
theorem jf_cl1 (x : Int) : 0 ≤ jf_cl 1 x ∧ jf_cl 1 x ≤ 9 := by
  show 0 ≤ max 0 (min 9 x) ∧ max 0 (min 9 x) ≤ 9
  omega
theorem jf_cl2 (x : Int) : 0 ≤ jf_cl 2 x ∧ jf_cl 2 x ≤ 999 := by
  show 0 ≤ max 0 (min 999 x) ∧ max 0 (min 999 x) ≤ 999
  omega
/-- how much runs in a tenth, how often one is so late, what it costs -/
def jf_rn (more price : Int) (tk : List Int) (n : Int) : Int := jf_cl 0 (jf_val (jf_nm n 0 0 0 more price) tk)
def jf_lt (more price : Int) (tk : List Int) (n a : Int) : Int := jf_cl 1 (jf_val (jf_nm n a 0 0 more price) tk)
def jf_cs (more price : Int) (tk : List Int) (off over : Int) : Int := jf_cl 2 (jf_val (jf_nm 0 0 off over more price) tk)
