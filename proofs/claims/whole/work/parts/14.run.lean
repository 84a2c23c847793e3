/-! wb -/
variable {wb : Bool}
/-! WALKING in the abstract machine -/
def am_el : List Nat → Nat → Bool
  | [], _ => false
  | a :: t, v => bif Nat.beq a v then true else am_el t v
/-- memory g in the variables S, M in the others -/
def am_mix (S : List Nat) (g M : am_M) : am_M := fun v => bif am_el S v then g v else M v
theorem am_ct {b : Bool} {P : Prop} (h : b = true) (p : P) : bif b then P else False := by rw [h]; exact p
theorem am_vi {i n : Nat} (h : i < n) : Nat.blt i n = true := Nat.blt_eq.mpr h
theorem am_kr {K : am_K} {M : am_M} {x y : Int} (h : K (some (aI x)) M) (e : x = y) : K (some (aI y)) M := e ▸ h
theorem am_krL {K : am_K} {M : am_M} {x y : Int} (h : K (some (aL x)) M) (e : x = y) : K (some (aL y)) M := e ▸ h
theorem am_lc {x y : Int} {P A B G : Prop} (_ : x = x ∧ y = y) (g : (P → A) → (¬ P → B) → G) (a : P → A) (b : ¬ P → B) : G := g a b
theorem am_mix_out {S : List Nat} {g M : am_M} {v : Nat} (h : am_el S v = false) : am_mix S g M v = M v := by
  unfold am_mix
  rw [h]
  rfl
theorem am_mix_in {S : List Nat} {g M : am_M} {v : Nat} (h : am_el S v = true) : am_mix S g M v = g v := by
  unfold am_mix
  rw [h]
  rfl
/-- M' is M but for the variables S -/
def am_ag (S : List Nat) (M M' : am_M) : Prop := ∀ v, am_el S v = false → M' v = M v
theorem am_ag.rf {S : List Nat} {M : am_M} : am_ag S M M := fun _ _ => rfl
theorem am_ag.wr {S : List Nat} {M M' : am_M} {v i j : Nat} {x : Int} (h : am_ag S M M') (hv : am_el S v = true) : am_ag S M (am_wr M' v i j x) := by
  intro w hw
  have hne : w ≠ v := fun e => by rw [e, hv] at hw; cases hw
  funext i' j'
  rw [am_wr_ne (Or.inl hne), h w hw]
theorem am_ag.mix {S S2 : List Nat} {M M' g : am_M} (h : am_ag S M M') (hs : S2.all (am_el S) = true) : am_ag S M (am_mix S2 g M') := by
  intro w hw
  rw [am_mix_out, h w hw]
  cases hq : am_el S2 w with
  | false => rfl
  | true =>
    exfalso
    have key : ∀ (l : List Nat), am_el l w = true → l.all (am_el S) = true → am_el S w = true := by
      intro l
      induction l with
      | nil => intro h; cases h
      | cons a t ih =>
        intro h1 h2
        simp only [List.all_cons, Bool.and_eq_true] at h2
        unfold am_el at h1
        cases hb : Nat.beq a w with
        | true =>
          have := Nat.eq_of_beq_eq_true hb
          rw [← this]
          exact h2.1
        | false =>
          rw [hb] at h1
          exact ih h1 h2.2
    rw [key S2 hq hs] at hw
    cases hw
theorem am_ag.eq {S : List Nat} {M M' : am_M} (h : am_ag S M M') : M' = am_mix S M' M := by
  funext v
  cases hv : am_el S v with
  | true => rw [am_mix_in hv]
  | false => rw [am_mix_out hv, h v hv]
theorem am_ag.trans {S : List Nat} {M M1 M2 : am_M} (h1 : am_ag S M M1) (h2 : am_ag S M1 M2) : am_ag S M M2 := fun v hv => (h2 v hv).trans (h1 v hv)
theorem am_ag.sub {S S2 : List Nat} {M M1 : am_M} (h1 : am_ag S M M1) (hs : S.all (am_el S2) = true) : am_ag S2 M M1 := by
  have e := h1.eq
  rw [e]
  exact am_ag.rf.mix hs
