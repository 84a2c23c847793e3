/-! wb -/
variable {wb : Bool}
/-! THE ABSTRACT MACHINE. Values: ints and longs as Ints (taken modulo when they meet the machine), references as (kind of cell, which of them), null. -/
abbrev am_V : Type := Int ⊕ (Int ⊕ Option (Nat × Nat))
abbrev aI (x : Int) : am_V := Sum.inl x
abbrev aL (x : Int) : am_V := Sum.inr (Sum.inl x)
abbrev aN : am_V := Sum.inr (Sum.inr none)
abbrev aR (k i : Nat) : am_V := Sum.inr (Sum.inr (some (k, i)))
/-- memory: variable (a field of a class, or a kind of array), which object, which place -/
abbrev am_M : Type := Nat → Nat → Nat → Int
/-- pc, locals, operand stack, memory -/
abbrev am_C : Type := Nat × (List (Option am_V) × (List am_V × am_M))
abbrev am_K : Type := Option am_V → am_M → Prop
def am_wr (M : am_M) (v i j : Nat) (x : Int) : am_M := fun v' i' j' => bif Nat.beq v' v && (Nat.beq j' j && Nat.beq i' i) then x else M v' i' j'
abbrev am_in (x : Int) : Prop := -2147483648 ≤ x ∧ x ≤ 2147483647
abbrev am_in64 (x : Int) : Prop := -9223372036854775808 ≤ x ∧ x ≤ 9223372036854775807
/-- an int, a long as the machine has it -/
abbrev i3 (x : Int) : Int32 := Int32.ofInt x
abbrev i6 (x : Int) : Int64 := Int64.ofInt x
/-- bitwise words, and what is kept of an int by a smaller type -/
def am_and (x y : Int) : Int := (i3 x &&& i3 y).toInt
def am_or (x y : Int) : Int := (i3 x ||| i3 y).toInt
def am_i2b (x : Int) : Int := ((i3 x).toInt8.toInt32).toInt
def am_i2s (x : Int) : Int := ((i3 x).toInt16.toInt32).toInt
def am_i2c (x : Int) : Int := (((i3 x).toUInt32 % 65536).toInt32).toInt
/-- an int as the machine has it, told by an Int in its range -/
def am_bm (x : Int) : Int := (i3 x).toInt
/-- what the tables say beside an instruction -/
def am_a1 (ax : List Nat) (f : Nat → Prop) : Prop := match ax with
  | [a] => f a
  | _ => False
def am_a2 (ax : List Nat) (f : Nat → Nat → Prop) : Prop := match ax with
  | [a, b] => f a b
  | _ => False
def am_a3 (ax : List Nat) (f : Nat → Nat → Nat → Prop) : Prop := match ax with
  | [a, b, c] => f a b c
  | _ => False
def am_a5 (ax : List Nat) (f : Nat → Nat → Nat → Nat → Nat → Prop) : Prop := match ax with
  | [a, b, c, d, e] => f a b c d e
  | _ => False
def am_ac (ax : List Nat) (f : Nat → List Nat → Prop) : Prop := match ax with
  | a :: b => f a b
  | _ => False
-- locals
def am_nl (x : Option am_V) : Option am_V := match x with
  | some (Sum.inr (Sum.inl _)) => none
  | y => y
def am_s1 : List (Option am_V) → Nat → am_V → Option (List (Option am_V))
  | [], _, _ => none
  | _ :: t, 0, v => some (some v :: t)
  | x :: t, 1, v => match am_s1 t 0 v with
    | some t' => some (am_nl x :: t')
    | none => none
  | x :: t, k + 2, v => match am_s1 t (k + 1) v with
    | some t' => some (x :: t')
    | none => none
def am_s2 : List (Option am_V) → Nat → am_V → Option (List (Option am_V))
  | [], _, _ => none
  | [_], _, _ => none
  | _ :: _ :: t, 0, v => some (some v :: none :: t)
  | x :: t, 1, v => match am_s2 t 0 v with
    | some t' => some (am_nl x :: t')
    | none => none
  | x :: t, k + 2, v => match am_s2 t (k + 1) v with
    | some t' => some (x :: t')
    | none => none
def am_g : List (Option am_V) → Nat → Option am_V
  | [], _ => none
  | x :: _, 0 => x
  | _ :: t, k + 1 => am_g t k
/-- locals at a method's start -/
def am_ini : List am_V → List (Option am_V)
  | [] => []
  | v :: t => match v with
    | Sum.inr (Sum.inl x) => some (aL x) :: none :: am_ini t
    | w => some w :: am_ini t
def am_pad : Nat → List (Option am_V) → List (Option am_V)
  | 0, _ => []
  | n + 1, [] => none :: am_pad n []
  | n + 1, x :: t => x :: am_pad n t
-- reading the operand stack
def am_u1 (st : List am_V) (f : Int → List am_V → Prop) : Prop := match st with
  | Sum.inl x :: r => f x r
  | _ => False
def am_u2 (st : List am_V) (f : Int → Int → List am_V → Prop) : Prop := match st with
  | Sum.inl y :: Sum.inl x :: r => f x y r
  | _ => False
def am_l1 (st : List am_V) (f : Int → List am_V → Prop) : Prop := match st with
  | Sum.inr (Sum.inl x) :: r => f x r
  | _ => False
def am_l2 (st : List am_V) (f : Int → Int → List am_V → Prop) : Prop := match st with
  | Sum.inr (Sum.inl y) :: Sum.inr (Sum.inl x) :: r => f x y r
  | _ => False
def am_r1 (st : List am_V) (f : Nat → Nat → List am_V → Prop) : Prop := match st with
  | Sum.inr (Sum.inr (some (k, i))) :: r => f k i r
  | _ => False
/-- an int above a reference -/
def am_ri (st : List am_V) (f : Nat → Nat → Int → List am_V → Prop) : Prop := match st with
  | Sum.inl x :: Sum.inr (Sum.inr (some (k, i))) :: r => f k i x r
  | _ => False
def am_c1 (v : am_V) : Bool := match v with
  | Sum.inr (Sum.inl _) => false
  | _ => true
def am_wsum : List am_V → Nat
  | [] => 0
  | v :: t => (bif am_c1 v then 1 else 2) + am_wsum t
def am_pop : Nat → List am_V → List am_V → (List am_V → List am_V → Prop) → Prop
  | 0, acc, st, f => f acc st
  | n + 1, acc, v :: st, f => am_pop n (v :: acc) st f
  | _ + 1, _, [], _ => False
def am_ps (v : Option am_V) (r : List am_V) : List am_V := match v with
  | some x => x :: r
  | none => r
-- branches
def am_br (rg P A B : Prop) : Prop := rg ∧ (P → A) ∧ (¬ P → B)
theorem am_brc {rg P A B : Prop} (h : rg) (a : P → A) (b : ¬ P → B) : am_br rg P A B := ⟨h, a, b⟩
theorem am_brt {rg P A B : Prop} (h : rg) (p : P) (a : A) : am_br rg P A B := ⟨h, fun _ => a, fun q => absurd p q⟩
theorem am_brf {rg P A B : Prop} (h : rg) (p : ¬ P) (b : B) : am_br rg P A B := ⟨h, fun q => absurd q p, fun _ => b⟩
def am_cz (c : Jvm.ClassFile.Cond) (x : Int) : Prop := match c with
  | .eq => x = 0
  | .ne => x ≠ 0
  | .lt => x < 0
  | .ge => 0 ≤ x
  | .gt => 0 < x
  | .le => x ≤ 0
def am_cc (c : Jvm.ClassFile.Cond) (x y : Int) : Prop := match c with
  | .eq => x = y
  | .ne => x ≠ y
  | .lt => x < y
  | .ge => y ≤ x
  | .gt => y < x
  | .le => x ≤ y
def am_sw (x : Int) (f : Nat → Prop) : Int → List Nat → Prop
  | _, [] => True
  | lo, t :: ts => (x = lo → f t) ∧ am_sw x f (lo + 1) ts
def am_lw (x : Int) (f : Nat → Prop) : List (Int × Int) → List Nat → Prop → Prop
  | [], [], d => d
  | (a, _) :: ps, t :: ts, d => (x = a → f t) ∧ am_lw x f ps ts (x ≠ a → d)
  | _, _, _ => False
-- the shape of the heap: how many cells of a kind; int arrays' lengths; reference arrays: length and what stands there
def am_cnt (wb : Bool) (k : Nat) : Nat := bif Nat.beq k 1 then 6 else bif Nat.beq k 6 then 6 else bif Nat.beq k 2 then 4 else bif Nat.beq k 21 then 4 else bif Nat.beq k 3 then 2 else bif Nat.ble 15 k && Nat.ble k 19 then 6 else bif Nat.beq k 8 || (Nat.ble 22 k && Nat.ble k 41) then (bif wb then 1 else 0) else bif Nat.ble k 41 then 1 else bif Nat.beq k 52 then 13 else 0
def am_len (k : Nat) : Nat := bif Nat.blt k 27 then (bif Nat.blt k 19 then (bif Nat.blt k 15 then (bif Nat.blt k 13 then (5) else (bif Nat.blt k 14 then (5) else (5))) else (bif Nat.blt k 17 then (bif Nat.blt k 16 then (160) else (160)) else (bif Nat.blt k 18 then (160) else (3)))) else (bif Nat.blt k 23 then (bif Nat.blt k 21 then (bif Nat.blt k 20 then (6) else (160)) else (bif Nat.blt k 22 then (40) else (4))) else (bif Nat.blt k 25 then (bif Nat.blt k 24 then (5) else (5)) else (bif Nat.blt k 26 then (10) else (3))))) else (bif Nat.blt k 34 then (bif Nat.blt k 30 then (bif Nat.blt k 28 then (160) else (bif Nat.blt k 29 then (1200) else (24))) else (bif Nat.blt k 32 then (bif Nat.blt k 31 then (17) else (4)) else (bif Nat.blt k 33 then (4) else (160)))) else (bif Nat.blt k 38 then (bif Nat.blt k 36 then (bif Nat.blt k 35 then (59) else (96)) else (bif Nat.blt k 37 then (200) else (200))) else (bif Nat.blt k 40 then (bif Nat.blt k 39 then (6) else (5)) else (bif Nat.blt k 41 then (5) else (5)))))
def am_rlen (k : Nat) : Nat := bif Nat.beq k 9 then 5 else bif Nat.beq k 10 then 6 else bif Nat.beq k 11 then 4 else 0
def am_rto (k : Nat) : Nat := bif Nat.beq k 9 then 1 else bif Nat.beq k 10 then 6 else 2
/-- static arrays, texts -/
def am_stat (i : Nat) : List Int := bif Nat.beq i 0 then [-1, 0, 0, 1, 2, 0] else bif Nat.beq i 1 then [1, 0, 0] else bif Nat.beq i 2 then [50, 9, 999] else []
def am_text (i : Nat) : List Int := bif Nat.blt i 6 then (bif Nat.blt i 3 then (bif Nat.blt i 1 then ([114, 117, 110, 115, 32, 110, 111, 116, 99, 104, 32, 42, 32, 110, 111, 116, 99, 104, 32, 42, 32, 51, 32, 59, 32, 108, 97, 116, 101, 32, 51, 32, 45, 32, 97, 102, 116, 101, 114, 32, 59, 32, 99, 111, 115, 116, 115, 32, 111, 102, 102, 32, 42, 32, 111, 102, 102, 32, 59]) else (bif Nat.blt i 2 then ([114, 117, 110, 115]) else ([108, 97, 116, 101]))) else (bif Nat.blt i 4 then ([99, 111, 115, 116, 115]) else (bif Nat.blt i 5 then ([110, 111, 116]) else ([97, 110, 100])))) else (bif Nat.blt i 9 then (bif Nat.blt i 7 then ([111, 114]) else (bif Nat.blt i 8 then ([110, 111, 116, 99, 104]) else ([97, 102, 116, 101, 114]))) else (bif Nat.blt i 11 then (bif Nat.blt i 10 then ([111, 102, 102]) else ([111, 118, 101, 114])) else (bif Nat.blt i 12 then ([109, 111, 114, 101]) else ([112, 114, 105, 99, 101]))))
/-- an int array's length, its own number of cells allowing; the script's is told by memory (49), its ints are the variable 50 -/
def am_ld (wb : Bool) (k i : Nat) (x : Int) (M : am_M) (f : Int → Prop) : Prop :=
  bif Nat.ble 12 k && Nat.ble k 41 then (bif Nat.blt i (am_cnt wb k) then ((0 ≤ x ∧ x < (am_len k : Int)) ∧ f (M k i x.toNat)) else False)
  else bif Nat.beq k 50 then ((0 ≤ x ∧ x < M 49 0 0) ∧ f (M 50 0 x.toNat))
  else bif Nat.beq k 51 then ((0 ≤ x ∧ x < ((am_stat i).length : Int)) ∧ f ((am_stat i).getD x.toNat 0))
  else False
def am_sd (wb : Bool) (k i : Nat) (x : Int) (f : Prop) : Prop :=
  bif Nat.ble 12 k && Nat.ble k 41 then (bif Nat.blt i (am_cnt wb k) then ((0 ≤ x ∧ x < (am_len k : Int)) ∧ f) else False) else False
def am_al (wb : Bool) (k i : Nat) (M : am_M) (f : Int → Prop) : Prop :=
  bif Nat.ble 12 k && Nat.ble k 41 then (bif Nat.blt i (am_cnt wb k) then f (am_len k : Int) else False)
  else bif Nat.ble 9 k && Nat.ble k 11 then (bif Nat.blt i (am_cnt wb k) then f (am_rlen k : Int) else False)
  else bif Nat.beq k 50 then f (M 49 0 0)
  else bif Nat.beq k 51 then (bif Nat.blt i 3 then f ((am_stat i).length : Int) else False)
  else bif Nat.beq k 53 then (bif Nat.blt i 13 then f ((am_text i).length : Int) else False)
  else False
/-- what an int answer must be, by the method's type (1 int, 2 boolean, 3 byte, 4 char) -/
def am_rt (rt : Nat) (x : Int) (f : Prop) : Prop := match rt with
  | 1 => f
  | 2 => (x = 0 ∨ x = 1) ∧ f
  | 3 => (-128 ≤ x ∧ x ≤ 127) ∧ f
  | 4 => (0 ≤ x ∧ x ≤ 65535) ∧ f
  | _ => False
/-- one instruction, in weakest-precondition form: C the calls, K what is to hold at the method's end, R what is to hold behind -/
def am_ex (wb : Bool) (rt : Nat) (C : Nat → List am_V → am_M → am_K → Prop) (K : am_K) (R : am_C → Prop) (ins : Instr) (len : Nat) (ax : List Nat) (pc : Nat) (ls : List (Option am_V)) (st : List am_V) (M : am_M) : Prop :=
  let ld (k : Nat) (t : Nat) : Prop := match am_g ls k, t with
    | some (Sum.inl x), 0 => R (pc + len, ls, aI x :: st, M)
    | some (Sum.inr (Sum.inl x)), 1 => R (pc + len, ls, aL x :: st, M)
    | some (Sum.inr (Sum.inr none)), 2 => R (pc + len, ls, aN :: st, M)
    | some (Sum.inr (Sum.inr (some (a, i)))), 2 => bif Nat.beq a 54 then False else R (pc + len, ls, aR a i :: st, M)
    | _, _ => False
  let so (k : Nat) (t : Nat) : Prop := match st, t with
    | Sum.inl x :: r, 0 => (match am_s1 ls k (aI x) with | some ls' => R (pc + len, ls', r, M) | none => False)
    | Sum.inr (Sum.inl x) :: r, 1 => (match am_s2 ls k (aL x) with | some ls' => R (pc + len, ls', r, M) | none => False)
    | Sum.inr (Sum.inr none) :: r, 2 => (match am_s1 ls k aN with | some ls' => R (pc + len, ls', r, M) | none => False)
    | Sum.inr (Sum.inr (some (a, i))) :: r, 2 => (match am_s1 ls k (aR a i) with | some ls' => bif Nat.beq a 54 then False else R (pc + len, ls', r, M) | none => False)
    | _, _ => False
  match ins with
  | .iconst n => R (pc + len, ls, aI n :: st, M)
  | .bipush n => R (pc + len, ls, aI n :: st, M)
  | .sipush n => R (pc + len, ls, aI n :: st, M)
  | .lconst n => R (pc + len, ls, aL (n.val : Int) :: st, M)
  | .aconst_null => R (pc + len, ls, aN :: st, M)
  | .ldc _ => am_a2 ax fun g n => bif Nat.beq g 0 then R (pc + len, ls, aI (n : Int) :: st, M) else bif Nat.blt n 13 then R (pc + len, ls, aR 52 n :: st, M) else False
  | .ldc_w _ => am_a2 ax fun _ n => R (pc + len, ls, aI (n : Int) :: st, M)
  | .ldc2_w _ => am_a2 ax fun g n => bif Nat.beq g 0 then R (pc + len, ls, aL (n : Int) :: st, M) else R (pc + len, ls, aL (-(n : Int)) :: st, M)
  | .iload_n k => ld k.val 0
  | .iload k => ld k 0
  | .lload_n k => ld k.val 1
  | .lload k => ld k 1
  | .aload_n k => ld k.val 2
  | .aload k => ld k 2
  | .istore_n k => so k.val 0
  | .istore k => so k 0
  | .lstore_n k => so k.val 1
  | .lstore k => so k 1
  | .astore_n k => so k.val 2
  | .astore k => so k 2
  | .iinc k n => (match am_g ls k with
    | some (Sum.inl x) => (match am_s1 ls k (aI (x + n)) with | some ls' => R (pc + len, ls', st, M) | none => False)
    | _ => False)
  | .iadd => am_u2 st fun x y r => R (pc + len, ls, aI (x + y) :: r, M)
  | .isub => am_u2 st fun x y r => R (pc + len, ls, aI (x - y) :: r, M)
  | .imul => am_u2 st fun x y r => R (pc + len, ls, aI (x * y) :: r, M)
  | .idiv => am_u2 st fun x y r => (am_in x ∧ am_in y ∧ y ≠ 0) ∧ R (pc + len, ls, aI (x.tdiv y) :: r, M)
  | .irem => am_u2 st fun x y r => (am_in x ∧ am_in y ∧ y ≠ 0) ∧ R (pc + len, ls, aI (x.tmod y) :: r, M)
  | .iand => am_u2 st fun x y r => R (pc + len, ls, aI (am_and x y) :: r, M)
  | .ior => am_u2 st fun x y r => R (pc + len, ls, aI (am_or x y) :: r, M)
  | .ishl => am_u2 st fun x y r => (0 ≤ y ∧ y ≤ 31) ∧ R (pc + len, ls, aI (x * 2 ^ y.toNat) :: r, M)
  | .ishr => am_u2 st fun x y r => (am_in x ∧ y = 0) ∧ R (pc + len, ls, aI x :: r, M)
  | .ineg => am_u1 st fun x r => R (pc + len, ls, aI (-x) :: r, M)
  | .i2l => am_u1 st fun x r => am_in x ∧ R (pc + len, ls, aL x :: r, M)
  | .i2b => am_u1 st fun x r => R (pc + len, ls, aI (am_i2b x) :: r, M)
  | .i2s => am_u1 st fun x r => R (pc + len, ls, aI (am_i2s x) :: r, M)
  | .i2c => am_u1 st fun x r => R (pc + len, ls, aI (am_i2c x) :: r, M)
  | .ladd => am_l2 st fun x y r => R (pc + len, ls, aL (x + y) :: r, M)
  | .lsub => am_l2 st fun x y r => R (pc + len, ls, aL (x - y) :: r, M)
  | .lmul => am_l2 st fun x y r => R (pc + len, ls, aL (x * y) :: r, M)
  | .ldiv => am_l2 st fun x y r => (am_in64 x ∧ am_in64 y ∧ y ≠ 0) ∧ R (pc + len, ls, aL (x.tdiv y) :: r, M)
  | .lrem => am_l2 st fun x y r => (am_in64 x ∧ am_in64 y ∧ y ≠ 0) ∧ R (pc + len, ls, aL (x.tmod y) :: r, M)
  | .lneg => am_l1 st fun x r => R (pc + len, ls, aL (-x) :: r, M)
  | .lcmp => am_l2 st fun x y r => (am_in64 x ∧ am_in64 y) ∧ (x < y → R (pc + len, ls, aI (-1) :: r, M)) ∧ (x = y → R (pc + len, ls, aI 0 :: r, M)) ∧ (y < x → R (pc + len, ls, aI 1 :: r, M))
  | .dup => (match st with
    | v :: r => bif am_c1 v then R (pc + len, ls, v :: v :: r, M) else False
    | _ => False)
  | .dup2 => (match st with
    | v :: w :: r => bif am_c1 v && am_c1 w then R (pc + len, ls, v :: w :: v :: w :: r, M) else False
    | _ => False)
  | .pop => (match st with
    | v :: r => bif am_c1 v then R (pc + len, ls, r, M) else False
    | _ => False)
  | .goto _ => am_a1 ax fun t => R (t, ls, st, M)
  | .ifCond c _ => am_a1 ax fun t => am_u1 st fun x r => am_br (am_in x) (am_cz c x) (R (t, ls, r, M)) (R (pc + len, ls, r, M))
  | .if_icmp c _ => am_a1 ax fun t => am_u2 st fun x y r => am_br (am_in x ∧ am_in y) (am_cc c x y) (R (t, ls, r, M)) (R (pc + len, ls, r, M))
  | .ifnull _ => am_a1 ax fun t => (match st with
    | Sum.inr (Sum.inr none) :: r => R (t, ls, r, M)
    | Sum.inr (Sum.inr (some (k, _))) :: r => bif Nat.beq k 54 then False else R (pc + len, ls, r, M)
    | _ => False)
  | .ifnonnull _ => am_a1 ax fun t => (match st with
    | Sum.inr (Sum.inr none) :: r => R (pc + len, ls, r, M)
    | Sum.inr (Sum.inr (some (k, _))) :: r => bif Nat.beq k 54 then False else R (t, ls, r, M)
    | _ => False)
  | .tableswitch _ lo hi _ => am_ac ax fun d ts => am_u1 st fun x r => am_in x ∧ am_sw x (fun t => R (t, ls, r, M)) lo ts ∧ (x < lo ∨ hi < x → R (d, ls, r, M))
  | .lookupswitch _ ps => am_ac ax fun d ts => am_u1 st fun x r => am_in x ∧ am_lw x (fun t => R (t, ls, r, M)) ps.toList ts (R (d, ls, r, M))
  | .getfield _ => am_a5 ax fun ci _ t a b => am_r1 st fun k i r => bif Nat.beq k ci then (bif Nat.blt i (am_cnt wb k) then (match t with
      | 0 => R (pc + len, ls, aI (M a i 0) :: r, M)
      | 1 => R (pc + len, ls, aI (M a i 0) :: r, M)
      | 2 => R (pc + len, ls, aL (M a i 0) :: r, M)
      | 3 => R (pc + len, ls, aR a b :: r, M)
      | 4 => R (pc + len, ls, aR a i :: r, M)
      | 7 => R (pc + len, ls, aI 0 :: r, M)
      | _ => False) else False) else False
  | .putfield _ => am_a5 ax fun ci _ t a _ => (match st with
    | Sum.inl x :: Sum.inr (Sum.inr (some (k, i))) :: r => bif Nat.beq k ci then (bif Nat.blt i (am_cnt wb k) then (match t with
      | 0 => R (pc + len, ls, r, am_wr M a i 0 x)
      | 1 => (x = 0 ∨ x = 1) ∧ R (pc + len, ls, r, am_wr M a i 0 x)
      | _ => False) else False) else False
    | Sum.inr (Sum.inl x) :: Sum.inr (Sum.inr (some (k, i))) :: r => bif Nat.beq k ci then (bif Nat.blt i (am_cnt wb k) then (match t with
      | 2 => R (pc + len, ls, r, am_wr M a i 0 x)
      | _ => False) else False) else False
    | _ => False)
  | .getstatic _ => am_a2 ax fun g j => bif Nat.beq g 0 then R (pc + len, ls, aI 1 :: st, M) else bif Nat.beq g 1 then R (pc + len, ls, aR 54 0 :: st, M) else R (pc + len, ls, aR 51 j :: st, M)
  | .iaload => am_ri st fun k i x r => am_ld wb k i x M fun z => R (pc + len, ls, aI z :: r, M)
  | .baload => am_ri st fun k i x r => bif Nat.beq k 53 then (bif Nat.blt i 13 then ((0 ≤ x ∧ x < ((am_text i).length : Int)) ∧ R (pc + len, ls, aI ((am_text i).getD x.toNat 0) :: r, M)) else False) else False
  | .aaload => am_ri st fun k i x r => bif Nat.ble 9 k && Nat.ble k 11 then (bif Nat.blt i (am_cnt wb k) then ((0 ≤ x ∧ x < (am_rlen k : Int)) ∧ R (pc + len, ls, aR (am_rto k) x.toNat :: r, M)) else False) else False
  | .arraylength => am_r1 st fun k i r => am_al wb k i M fun z => R (pc + len, ls, aI z :: r, M)
  | .iastore => (match st with
    | Sum.inl z :: st' => am_ri st' fun k i x r => am_sd wb k i x (R (pc + len, ls, r, am_wr M k i x.toNat z))
    | _ => False)
  | .invokestatic _ => (match ax with
    | [j, n] => am_pop n [] st fun as r => bif Nat.ble (am_wsum r) 8 then C j as M (fun v M' => R (pc + len, ls, am_ps v r, M')) else False
    | [g, _, _] => (match g with
      | 0 => am_u2 st fun x y r => bif Nat.ble (am_wsum r) 8 then ((am_in x ∧ am_in y) ∧ R (pc + len, ls, aI (max x y) :: r, M)) else False
      | 1 => am_u2 st fun x y r => bif Nat.ble (am_wsum r) 8 then ((am_in x ∧ am_in y) ∧ R (pc + len, ls, aI (min x y) :: r, M)) else False
      | 2 => am_u1 st fun x r => bif Nat.ble (am_wsum r) 8 then (am_in x ∧ R (pc + len, ls, aI (if 0 ≤ x then x else -x) :: r, M)) else False
      | 3 => am_l1 st fun x r => bif Nat.ble (am_wsum r) 8 then (am_in64 x ∧ R (pc + len, ls, aL (if 0 ≤ x then x else -x) :: r, M)) else False
      | _ => False)
    | _ => False)
  | .invokevirtual _ => am_a3 ax fun j n ci => am_pop n [] st fun as r => (match r with
    | Sum.inr (Sum.inr (some (k, i))) :: r' => bif Nat.beq k ci && Nat.ble (am_wsum r') 8 then (bif Nat.blt i (am_cnt wb k) then C j (aR k i :: as) M (fun v M' => R (pc + len, ls, am_ps v r', M')) else False) else False
    | _ => False)
  | .ireturn => (match st with
    | [Sum.inl x] => am_rt rt x (K (some (aI x)) M)
    | _ => False)
  | .lreturn => (match st with
    | [Sum.inr (Sum.inl x)] => bif Nat.beq rt 5 then K (some (aL x)) M else False
    | _ => False)
  | .areturn => (match st with
    | [Sum.inr (Sum.inr none)] => bif Nat.beq rt 6 then K (some aN) M else False
    | [Sum.inr (Sum.inr (some (k, i)))] => bif Nat.beq rt 6 then (bif Nat.beq k 54 then False else K (some (aR k i)) M) else False
    | _ => False)
  | .return_ => (match st with
    | [] => bif Nat.beq rt 0 then K none M else False
    | _ => False)
  | _ => False
