/-! wb -/
variable {wb : Bool}
/-! METHODS: an instruction of a method; a call (the least fixed point of its instructions); many instructions at once -/
def am_F (wb : Bool) (ft : Nat → Option (Instr × (Nat × List Nat))) (rt : Nat) (C : Nat → List am_V → am_M → am_K → Prop) (K : am_K) (R : am_C → Prop) (c : am_C) : Prop := match ft c.1 with
  | some (ins, (len, ax)) => am_ex wb rt C K R ins len ax c.1 c.2.1 c.2.2.1 c.2.2.2
  | none => False
/-- an int on top of the stack, told by another Int -/
def am_cong (R : am_C → Prop) : Prop := ∀ (pc : Nat) (ls : List (Option am_V)) (x y : Int) (st : List am_V) (M : am_M), i3 x = i3 y → R (pc, ls, aI y :: st, M) → R (pc, ls, aI x :: st, M)
/-- method i, called with as, at most d calls deep, ends, and its answer and memory are as K says -/
def am_Call (wb : Bool) : Nat → Nat → List am_V → am_M → am_K → Prop
  | 0, _, _, _, _ => False
  | d + 1, i, as, M, K => Nat.ble (am_ini as).length (tb_ml i) = true ∧ ∀ R : am_C → Prop, (∀ c, am_F wb (tb_ft i) (tb_rt i) (am_Call wb d) K R c → R c) → am_cong R → R (0, am_pad (tb_ml i) (am_ini as), [], M)
def am_Fn (wb : Bool) (ft : Nat → Option (Instr × (Nat × List Nat))) (rt : Nat) (C : Nat → List am_V → am_M → am_K → Prop) (K : am_K) (R : am_C → Prop) : Nat → am_C → Prop
  | 0, c => R c
  | n + 1, c => am_F wb ft rt C K (am_Fn wb ft rt C K R n) c
