/-! THE TABLES HELD AGAINST THE CLASS FILES -/
def tb_opl (ins : Instr) : Nat := match ins with
  | .bipush _ => 2
  | .sipush _ => 3
  | .ldc _ => 2
  | .ldc_w _ => 3
  | .ldc2_w _ => 3
  | .iload _ => 2
  | .lload _ => 2
  | .aload _ => 2
  | .istore _ => 2
  | .lstore _ => 2
  | .astore _ => 2
  | .iinc _ _ => 3
  | .goto _ => 3
  | .ifCond _ _ => 3
  | .if_icmp _ _ => 3
  | .ifnull _ => 3
  | .ifnonnull _ => 3
  | .getfield _ => 3
  | .putfield _ => 3
  | .getstatic _ => 3
  | .invokestatic _ => 3
  | .invokevirtual _ => 3
  | .invokespecial _ => 3
  | .new _ => 3
  | .newarray _ => 2
  | .anewarray _ => 3
  | _ => 1
def tb_okx (own pc len : Nat) (ins : Instr) (ax : List Nat) : Bool := match ins with
  | .bipush n => Nat.beq len 2 && decide ((Int8.ofInt n).toInt32 = Int32.ofInt n)
  | .sipush n => Nat.beq len 3 && decide ((Int16.ofInt n).toInt32 = Int32.ofInt n)
  | .ldc idx => Nat.beq len 2 && (match ax with
    | [g, n] => (bif Nat.beq g 0 then tb_c1.elem (own, idx, n) else tb_sr.elem (own, idx, n))
    | _ => false)
  | .ldc_w idx => Nat.beq len 3 && (match ax with
    | [_, n] => tb_c1.elem (own, idx, n)
    | _ => false)
  | .ldc2_w idx => Nat.beq len 3 && (match ax with
    | [g, n] => (bif Nat.beq g 0 then tb_c2.elem (own, idx, (n : Int)) else tb_c2.elem (own, idx, -(n : Int)))
    | _ => false)
  | .goto off => Nat.beq len 3 && (match ax with
    | [t] => decide ((pc : Int) + off = (t : Int))
    | _ => false)
  | .ifCond _ off => Nat.beq len 3 && (match ax with
    | [t] => decide ((pc : Int) + off = (t : Int))
    | _ => false)
  | .if_icmp _ off => Nat.beq len 3 && (match ax with
    | [t] => decide ((pc : Int) + off = (t : Int))
    | _ => false)
  | .ifnull off => Nat.beq len 3 && (match ax with
    | [t] => decide ((pc : Int) + off = (t : Int))
    | _ => false)
  | .ifnonnull off => Nat.beq len 3 && (match ax with
    | [t] => decide ((pc : Int) + off = (t : Int))
    | _ => false)
  | .tableswitch d lo hi offs => (match ax with
    | t :: ts => decide ((pc : Int) + d = (t : Int)) && decide (offs.toList.map (fun o => (pc : Int) + o) = ts.map (fun t : Nat => (t : Int))) && decide (lo + (offs.size : Int) = hi + 1)
    | _ => false)
  | .lookupswitch d ps => (match ax with
    | t :: ts => decide ((pc : Int) + d = (t : Int)) && decide (ps.toList.map (fun o => (pc : Int) + o.2) = ts.map (fun t : Nat => (t : Int))) && (ps.toList.zip (ps.toList.drop 1)).all (fun (a, next) => a.1 < next.1) && ps.toList.all (fun a => decide (-2147483648 ≤ a.1 ∧ a.1 ≤ 2147483647))
    | _ => false)
  | .getfield idx => Nat.beq len 3 && (match ax with
    | [ci, sl, t, a, b] => (bif Nat.beq ci 52 then ((tb_psf.elem (own, idx, 0) && decide (t = 4 ∧ a = 53)) || (tb_psf.elem (own, idx, 1) && decide (t = 7))) else tb_pf.elem (own, idx, ci, sl) && decide (am_slot ci sl = (t, a, b)))
    | _ => false)
  | .putfield idx => Nat.beq len 3 && (match ax with
    | [ci, sl, t, a, b] => tb_pf.elem (own, idx, ci, sl) && decide (am_slot ci sl = (t, a, b))
    | _ => false)
  | .getstatic idx => Nat.beq len 3 && (match ax with
    | [g, j] => tb_pst.elem (own, idx, g, j)
    | _ => false)
  | .invokestatic idx => Nat.beq len 3 && (match ax with
    | [j, n] => (tb_pm.elem (own, idx, j) || tb_pn.elem (own, idx, j)) && Nat.beq (tb_st j) 1 && Nat.beq (tb_na j) n && Nat.blt 0 j && Nat.blt j tb_n
    | [g, _, _] => tb_pmm.elem (own, idx, g) && Nat.blt g 4
    | [] => true
    | _ => false)
  | .invokevirtual idx => Nat.beq len 3 && (match ax with
    | [j, n, ci] => tb_pm.elem (own, idx, j) && Nat.beq (tb_st j) 0 && Nat.beq (tb_na j) n && Nat.blt 0 j && Nat.blt j tb_n && (bif Nat.beq ci 52 then Nat.beq (tb_own j) 10 else Nat.blt ci 9 && Nat.beq (tb_own j) ci)
    | [] => true
    | _ => false)
  | .iinc _ n => Nat.beq len 3
  | i => Nat.beq len (tb_opl i)
def tb_okp (i pc : Nat) : Bool := match tb_ft i pc with
  | none => true
  | some (ins, (len, ax)) => decide (decode (tb_cc i) pc = .ok (ins, len)) && tb_okx (tb_own i) pc len ins ax
def tb_okm (i : Nat) : Bool := (List.range' 0 (tb_len i)).all (tb_okp i)
def tb_cover : List (Nat × Nat) → Nat → Nat → Bool
  | [], a, n => Nat.ble n a
  | (b, k) :: t, a, n => Nat.beq a b && tb_cover t (a + k) n
theorem tb_cut1 (p : Nat → Bool) : ∀ (l : List (Nat × Nat)) (a n : Nat), tb_cover l a n = true → (∀ q ∈ l, (List.range' q.1 q.2).all p = true) → ∀ x, a ≤ x → x < n → p x = true
  | [], a, n, h, _, x, h1, h2 => by
    have := Nat.le_of_ble_eq_true (show Nat.ble n a = true from h)
    omega
  | (b, k) :: t, a, n, h, hq, x, h1, h2 => by
    have hh : (Nat.beq a b && tb_cover t (a + k) n) = true := h
    rw [Bool.and_eq_true] at hh
    have e := Nat.eq_of_beq_eq_true hh.1
    subst e
    rcases Nat.lt_or_ge x (a + k) with hx | hx
    · have h3 := hq (a, k) List.mem_cons_self
      exact List.all_eq_true.mp h3 x (List.mem_range'_1.mpr ⟨h1, hx⟩)
    · exact tb_cut1 p t (a + k) n hh.2 (fun q hq' => hq q (List.mem_cons_of_mem _ hq')) x hx h2
theorem tb_cut (i : Nat) (l : List (Nat × Nat)) (h : tb_cover l 0 (tb_len i) = true) (hq : ∀ q ∈ l, (List.range' q.1 q.2).all (tb_okp i) = true) : tb_okm i = true := by
  refine List.all_eq_true.mpr fun x hx => ?_
  obtain ⟨h1, h2⟩ := List.mem_range'_1.mp hx
  exact tb_cut1 _ l 0 _ h hq x h1 (by omega)
theorem tb_g0 : ∀ q : Nat, Nat.blt q (tb_len 0) = false → tb_ft 0 q = none := fun q h => by
  show tb_f0 q = none
  unfold tb_f0
  rw [show Nat.blt q 1728 = false from h]
  rfl
theorem tb_g1 : ∀ q : Nat, Nat.blt q (tb_len 1) = false → tb_ft 1 q = none := fun q h => by
  show tb_f1 q = none
  unfold tb_f1
  rw [show Nat.blt q 221 = false from h]
  rfl
theorem tb_g2 : ∀ q : Nat, Nat.blt q (tb_len 2) = false → tb_ft 2 q = none := fun q h => by
  show tb_f2 q = none
  unfold tb_f2
  rw [show Nat.blt q 11 = false from h]
  rfl
theorem tb_g3 : ∀ q : Nat, Nat.blt q (tb_len 3) = false → tb_ft 3 q = none := fun q h => by
  show tb_f3 q = none
  unfold tb_f3
  rw [show Nat.blt q 15 = false from h]
  rfl
theorem tb_g4 : ∀ q : Nat, Nat.blt q (tb_len 4) = false → tb_ft 4 q = none := fun q h => by
  show tb_f4 q = none
  unfold tb_f4
  rw [show Nat.blt q 25 = false from h]
  rfl
theorem tb_g5 : ∀ q : Nat, Nat.blt q (tb_len 5) = false → tb_ft 5 q = none := fun q h => by
  show tb_f5 q = none
  unfold tb_f5
  rw [show Nat.blt q 19 = false from h]
  rfl
theorem tb_g6 : ∀ q : Nat, Nat.blt q (tb_len 6) = false → tb_ft 6 q = none := fun q h => by
  show tb_f6 q = none
  unfold tb_f6
  rw [show Nat.blt q 15 = false from h]
  rfl
theorem tb_g7 : ∀ q : Nat, Nat.blt q (tb_len 7) = false → tb_ft 7 q = none := fun q h => by
  show tb_f7 q = none
  unfold tb_f7
  rw [show Nat.blt q 10 = false from h]
  rfl
theorem tb_g8 : ∀ q : Nat, Nat.blt q (tb_len 8) = false → tb_ft 8 q = none := fun q h => by
  show tb_f8 q = none
  unfold tb_f8
  rw [show Nat.blt q 18 = false from h]
  rfl
theorem tb_g9 : ∀ q : Nat, Nat.blt q (tb_len 9) = false → tb_ft 9 q = none := fun q h => by
  show tb_f9 q = none
  unfold tb_f9
  rw [show Nat.blt q 36 = false from h]
  rfl
theorem tb_g10 : ∀ q : Nat, Nat.blt q (tb_len 10) = false → tb_ft 10 q = none := fun q h => by
  show tb_f10 q = none
  unfold tb_f10
  rw [show Nat.blt q 16 = false from h]
  rfl
theorem tb_g11 : ∀ q : Nat, Nat.blt q (tb_len 11) = false → tb_ft 11 q = none := fun q h => by
  show tb_f11 q = none
  unfold tb_f11
  rw [show Nat.blt q 73 = false from h]
  rfl
theorem tb_g12 : ∀ q : Nat, Nat.blt q (tb_len 12) = false → tb_ft 12 q = none := fun q h => by
  show tb_f12 q = none
  unfold tb_f12
  rw [show Nat.blt q 93 = false from h]
  rfl
theorem tb_g13 : ∀ q : Nat, Nat.blt q (tb_len 13) = false → tb_ft 13 q = none := fun q h => by
  show tb_f13 q = none
  unfold tb_f13
  rw [show Nat.blt q 6 = false from h]
  rfl
theorem tb_g14 : ∀ q : Nat, Nat.blt q (tb_len 14) = false → tb_ft 14 q = none := fun q h => by
  show tb_f14 q = none
  unfold tb_f14
  rw [show Nat.blt q 136 = false from h]
  rfl
theorem tb_g15 : ∀ q : Nat, Nat.blt q (tb_len 15) = false → tb_ft 15 q = none := fun q h => by
  show tb_f15 q = none
  unfold tb_f15
  rw [show Nat.blt q 30 = false from h]
  rfl
theorem tb_g16 : ∀ q : Nat, Nat.blt q (tb_len 16) = false → tb_ft 16 q = none := fun q h => by
  show tb_f16 q = none
  unfold tb_f16
  rw [show Nat.blt q 18 = false from h]
  rfl
theorem tb_g17 : ∀ q : Nat, Nat.blt q (tb_len 17) = false → tb_ft 17 q = none := fun q h => by
  show tb_f17 q = none
  unfold tb_f17
  rw [show Nat.blt q 258 = false from h]
  rfl
theorem tb_g18 : ∀ q : Nat, Nat.blt q (tb_len 18) = false → tb_ft 18 q = none := fun q h => by
  show tb_f18 q = none
  unfold tb_f18
  rw [show Nat.blt q 56 = false from h]
  rfl
theorem tb_g19 : ∀ q : Nat, Nat.blt q (tb_len 19) = false → tb_ft 19 q = none := fun q h => by
  show tb_f19 q = none
  unfold tb_f19
  rw [show Nat.blt q 18 = false from h]
  rfl
theorem tb_g20 : ∀ q : Nat, Nat.blt q (tb_len 20) = false → tb_ft 20 q = none := fun q h => by
  show tb_f20 q = none
  unfold tb_f20
  rw [show Nat.blt q 90 = false from h]
  rfl
theorem tb_g21 : ∀ q : Nat, Nat.blt q (tb_len 21) = false → tb_ft 21 q = none := fun q h => by
  show tb_f21 q = none
  unfold tb_f21
  rw [show Nat.blt q 54 = false from h]
  rfl
theorem tb_g22 : ∀ q : Nat, Nat.blt q (tb_len 22) = false → tb_ft 22 q = none := fun q h => by
  show tb_f22 q = none
  unfold tb_f22
  rw [show Nat.blt q 59 = false from h]
  rfl
theorem tb_g23 : ∀ q : Nat, Nat.blt q (tb_len 23) = false → tb_ft 23 q = none := fun q h => by
  show tb_f23 q = none
  unfold tb_f23
  rw [show Nat.blt q 59 = false from h]
  rfl
theorem tb_g24 : ∀ q : Nat, Nat.blt q (tb_len 24) = false → tb_ft 24 q = none := fun q h => by
  show tb_f24 q = none
  unfold tb_f24
  rw [show Nat.blt q 101 = false from h]
  rfl
theorem tb_g25 : ∀ q : Nat, Nat.blt q (tb_len 25) = false → tb_ft 25 q = none := fun q h => by
  show tb_f25 q = none
  unfold tb_f25
  rw [show Nat.blt q 42 = false from h]
  rfl
theorem tb_g26 : ∀ q : Nat, Nat.blt q (tb_len 26) = false → tb_ft 26 q = none := fun q h => by
  show tb_f26 q = none
  unfold tb_f26
  rw [show Nat.blt q 74 = false from h]
  rfl
theorem tb_g27 : ∀ q : Nat, Nat.blt q (tb_len 27) = false → tb_ft 27 q = none := fun q h => by
  show tb_f27 q = none
  unfold tb_f27
  rw [show Nat.blt q 59 = false from h]
  rfl
theorem tb_g28 : ∀ q : Nat, Nat.blt q (tb_len 28) = false → tb_ft 28 q = none := fun q h => by
  show tb_f28 q = none
  unfold tb_f28
  rw [show Nat.blt q 98 = false from h]
  rfl
theorem tb_g29 : ∀ q : Nat, Nat.blt q (tb_len 29) = false → tb_ft 29 q = none := fun q h => by
  show tb_f29 q = none
  unfold tb_f29
  rw [show Nat.blt q 69 = false from h]
  rfl
theorem tb_g30 : ∀ q : Nat, Nat.blt q (tb_len 30) = false → tb_ft 30 q = none := fun q h => by
  show tb_f30 q = none
  unfold tb_f30
  rw [show Nat.blt q 20 = false from h]
  rfl
theorem tb_g31 : ∀ q : Nat, Nat.blt q (tb_len 31) = false → tb_ft 31 q = none := fun q h => by
  show tb_f31 q = none
  unfold tb_f31
  rw [show Nat.blt q 112 = false from h]
  rfl
theorem tb_g32 : ∀ q : Nat, Nat.blt q (tb_len 32) = false → tb_ft 32 q = none := fun q h => by
  show tb_f32 q = none
  unfold tb_f32
  rw [show Nat.blt q 137 = false from h]
  rfl
theorem tb_g33 : ∀ q : Nat, Nat.blt q (tb_len 33) = false → tb_ft 33 q = none := fun q h => by
  show tb_f33 q = none
  unfold tb_f33
  rw [show Nat.blt q 142 = false from h]
  rfl
theorem tb_g34 : ∀ q : Nat, Nat.blt q (tb_len 34) = false → tb_ft 34 q = none := fun q h => by
  show tb_f34 q = none
  unfold tb_f34
  rw [show Nat.blt q 9 = false from h]
  rfl
theorem tb_g35 : ∀ q : Nat, Nat.blt q (tb_len 35) = false → tb_ft 35 q = none := fun q h => by
  show tb_f35 q = none
  unfold tb_f35
  rw [show Nat.blt q 35 = false from h]
  rfl
theorem tb_g36 : ∀ q : Nat, Nat.blt q (tb_len 36) = false → tb_ft 36 q = none := fun q h => by
  show tb_f36 q = none
  unfold tb_f36
  rw [show Nat.blt q 118 = false from h]
  rfl
theorem tb_g37 : ∀ q : Nat, Nat.blt q (tb_len 37) = false → tb_ft 37 q = none := fun q h => by
  show tb_f37 q = none
  unfold tb_f37
  rw [show Nat.blt q 43 = false from h]
  rfl
theorem tb_g38 : ∀ q : Nat, Nat.blt q (tb_len 38) = false → tb_ft 38 q = none := fun q h => by
  show tb_f38 q = none
  unfold tb_f38
  rw [show Nat.blt q 144 = false from h]
  rfl
theorem tb_g39 : ∀ q : Nat, Nat.blt q (tb_len 39) = false → tb_ft 39 q = none := fun q h => by
  show tb_f39 q = none
  unfold tb_f39
  rw [show Nat.blt q 86 = false from h]
  rfl
theorem tb_g40 : ∀ q : Nat, Nat.blt q (tb_len 40) = false → tb_ft 40 q = none := fun q h => by
  show tb_f40 q = none
  unfold tb_f40
  rw [show Nat.blt q 21 = false from h]
  rfl
theorem tb_g41 : ∀ q : Nat, Nat.blt q (tb_len 41) = false → tb_ft 41 q = none := fun q h => by
  show tb_f41 q = none
  unfold tb_f41
  rw [show Nat.blt q 39 = false from h]
  rfl
theorem tb_g42 : ∀ q : Nat, Nat.blt q (tb_len 42) = false → tb_ft 42 q = none := fun q h => by
  show tb_f42 q = none
  unfold tb_f42
  rw [show Nat.blt q 40 = false from h]
  rfl
theorem tb_g43 : ∀ q : Nat, Nat.blt q (tb_len 43) = false → tb_ft 43 q = none := fun q h => by
  show tb_f43 q = none
  unfold tb_f43
  rw [show Nat.blt q 122 = false from h]
  rfl
theorem tb_g44 : ∀ q : Nat, Nat.blt q (tb_len 44) = false → tb_ft 44 q = none := fun q h => by
  show tb_f44 q = none
  unfold tb_f44
  rw [show Nat.blt q 109 = false from h]
  rfl
theorem tb_g45 : ∀ q : Nat, Nat.blt q (tb_len 45) = false → tb_ft 45 q = none := fun q h => by
  show tb_f45 q = none
  unfold tb_f45
  rw [show Nat.blt q 22 = false from h]
  rfl
theorem tb_g46 : ∀ q : Nat, Nat.blt q (tb_len 46) = false → tb_ft 46 q = none := fun q h => by
  show tb_f46 q = none
  unfold tb_f46
  rw [show Nat.blt q 88 = false from h]
  rfl
theorem tb_g47 : ∀ q : Nat, Nat.blt q (tb_len 47) = false → tb_ft 47 q = none := fun q h => by
  show tb_f47 q = none
  unfold tb_f47
  rw [show Nat.blt q 37 = false from h]
  rfl
theorem tb_g48 : ∀ q : Nat, Nat.blt q (tb_len 48) = false → tb_ft 48 q = none := fun q h => by
  show tb_f48 q = none
  unfold tb_f48
  rw [show Nat.blt q 67 = false from h]
  rfl
theorem tb_g49 : ∀ q : Nat, Nat.blt q (tb_len 49) = false → tb_ft 49 q = none := fun q h => by
  show tb_f49 q = none
  unfold tb_f49
  rw [show Nat.blt q 93 = false from h]
  rfl
theorem tb_g50 : ∀ q : Nat, Nat.blt q (tb_len 50) = false → tb_ft 50 q = none := fun q h => by
  show tb_f50 q = none
  unfold tb_f50
  rw [show Nat.blt q 25 = false from h]
  rfl
theorem tb_g51 : ∀ q : Nat, Nat.blt q (tb_len 51) = false → tb_ft 51 q = none := fun q h => by
  show tb_f51 q = none
  unfold tb_f51
  rw [show Nat.blt q 200 = false from h]
  rfl
theorem tb_g52 : ∀ q : Nat, Nat.blt q (tb_len 52) = false → tb_ft 52 q = none := fun q h => by
  show tb_f52 q = none
  unfold tb_f52
  rw [show Nat.blt q 204 = false from h]
  rfl
theorem tb_g53 : ∀ q : Nat, Nat.blt q (tb_len 53) = false → tb_ft 53 q = none := fun q h => by
  show tb_f53 q = none
  unfold tb_f53
  rw [show Nat.blt q 9 = false from h]
  rfl
theorem tb_g54 : ∀ q : Nat, Nat.blt q (tb_len 54) = false → tb_ft 54 q = none := fun q h => by
  show tb_f54 q = none
  unfold tb_f54
  rw [show Nat.blt q 46 = false from h]
  rfl
theorem tb_g55 : ∀ q : Nat, Nat.blt q (tb_len 55) = false → tb_ft 55 q = none := fun q h => by
  show tb_f55 q = none
  unfold tb_f55
  rw [show Nat.blt q 46 = false from h]
  rfl
theorem tb_g56 : ∀ q : Nat, Nat.blt q (tb_len 56) = false → tb_ft 56 q = none := fun q h => by
  show tb_f56 q = none
  unfold tb_f56
  rw [show Nat.blt q 25 = false from h]
  rfl
theorem tb_g57 : ∀ q : Nat, Nat.blt q (tb_len 57) = false → tb_ft 57 q = none := fun q h => by
  show tb_f57 q = none
  unfold tb_f57
  rw [show Nat.blt q 19 = false from h]
  rfl
theorem tb_g58 : ∀ q : Nat, Nat.blt q (tb_len 58) = false → tb_ft 58 q = none := fun q h => by
  show tb_f58 q = none
  unfold tb_f58
  rw [show Nat.blt q 79 = false from h]
  rfl
theorem tb_g59 : ∀ q : Nat, Nat.blt q (tb_len 59) = false → tb_ft 59 q = none := fun q h => by
  show tb_f59 q = none
  unfold tb_f59
  rw [show Nat.blt q 29 = false from h]
  rfl
theorem tb_g60 : ∀ q : Nat, Nat.blt q (tb_len 60) = false → tb_ft 60 q = none := fun q h => by
  show tb_f60 q = none
  unfold tb_f60
  rw [show Nat.blt q 79 = false from h]
  rfl
theorem tb_g61 : ∀ q : Nat, Nat.blt q (tb_len 61) = false → tb_ft 61 q = none := fun q h => by
  show tb_f61 q = none
  unfold tb_f61
  rw [show Nat.blt q 20 = false from h]
  rfl
theorem tb_g62 : ∀ q : Nat, Nat.blt q (tb_len 62) = false → tb_ft 62 q = none := fun q h => by
  show tb_f62 q = none
  unfold tb_f62
  rw [show Nat.blt q 20 = false from h]
  rfl
theorem tb_g63 : ∀ q : Nat, Nat.blt q (tb_len 63) = false → tb_ft 63 q = none := fun q h => by
  show tb_f63 q = none
  unfold tb_f63
  rw [show Nat.blt q 20 = false from h]
  rfl
theorem tb_g64 : ∀ q : Nat, Nat.blt q (tb_len 64) = false → tb_ft 64 q = none := fun q h => by
  show tb_f64 q = none
  unfold tb_f64
  rw [show Nat.blt q 119 = false from h]
  rfl
theorem tb_g65 : ∀ q : Nat, Nat.blt q (tb_len 65) = false → tb_ft 65 q = none := fun q h => by
  show tb_f65 q = none
  unfold tb_f65
  rw [show Nat.blt q 41 = false from h]
  rfl
theorem tb_g66 : ∀ q : Nat, Nat.blt q (tb_len 66) = false → tb_ft 66 q = none := fun q h => by
  show tb_f66 q = none
  unfold tb_f66
  rw [show Nat.blt q 41 = false from h]
  rfl
theorem tb_g67 : ∀ q : Nat, Nat.blt q (tb_len 67) = false → tb_ft 67 q = none := fun q h => by
  show tb_f67 q = none
  unfold tb_f67
  rw [show Nat.blt q 55 = false from h]
  rfl
theorem tb_g68 : ∀ q : Nat, Nat.blt q (tb_len 68) = false → tb_ft 68 q = none := fun q h => by
  show tb_f68 q = none
  unfold tb_f68
  rw [show Nat.blt q 34 = false from h]
  rfl
theorem tb_g69 : ∀ q : Nat, Nat.blt q (tb_len 69) = false → tb_ft 69 q = none := fun q h => by
  show tb_f69 q = none
  unfold tb_f69
  rw [show Nat.blt q 44 = false from h]
  rfl
theorem tb_g70 : ∀ q : Nat, Nat.blt q (tb_len 70) = false → tb_ft 70 q = none := fun q h => by
  show tb_f70 q = none
  unfold tb_f70
  rw [show Nat.blt q 62 = false from h]
  rfl
theorem tb_g71 : ∀ q : Nat, Nat.blt q (tb_len 71) = false → tb_ft 71 q = none := fun q h => by
  show tb_f71 q = none
  unfold tb_f71
  rw [show Nat.blt q 38 = false from h]
  rfl
theorem tb_g72 : ∀ q : Nat, Nat.blt q (tb_len 72) = false → tb_ft 72 q = none := fun q h => by
  show tb_f72 q = none
  unfold tb_f72
  rw [show Nat.blt q 39 = false from h]
  rfl
theorem tb_g73 : ∀ q : Nat, Nat.blt q (tb_len 73) = false → tb_ft 73 q = none := fun q h => by
  show tb_f73 q = none
  unfold tb_f73
  rw [show Nat.blt q 35 = false from h]
  rfl
theorem tb_g74 : ∀ q : Nat, Nat.blt q (tb_len 74) = false → tb_ft 74 q = none := fun q h => by
  show tb_f74 q = none
  unfold tb_f74
  rw [show Nat.blt q 54 = false from h]
  rfl
theorem tb_g75 : ∀ q : Nat, Nat.blt q (tb_len 75) = false → tb_ft 75 q = none := fun q h => by
  show tb_f75 q = none
  unfold tb_f75
  rw [show Nat.blt q 115 = false from h]
  rfl
theorem tb_g76 : ∀ q : Nat, Nat.blt q (tb_len 76) = false → tb_ft 76 q = none := fun q h => by
  show tb_f76 q = none
  unfold tb_f76
  rw [show Nat.blt q 16 = false from h]
  rfl
theorem tb_g77 : ∀ q : Nat, Nat.blt q (tb_len 77) = false → tb_ft 77 q = none := fun q h => by
  show tb_f77 q = none
  unfold tb_f77
  rw [show Nat.blt q 21 = false from h]
  rfl
theorem tb_g78 : ∀ q : Nat, Nat.blt q (tb_len 78) = false → tb_ft 78 q = none := fun q h => by
  show tb_f78 q = none
  unfold tb_f78
  rw [show Nat.blt q 49 = false from h]
  rfl
theorem tb_g79 : ∀ q : Nat, Nat.blt q (tb_len 79) = false → tb_ft 79 q = none := fun q h => by
  show tb_f79 q = none
  unfold tb_f79
  rw [show Nat.blt q 43 = false from h]
  rfl
theorem tb_g80 : ∀ q : Nat, Nat.blt q (tb_len 80) = false → tb_ft 80 q = none := fun q h => by
  show tb_f80 q = none
  unfold tb_f80
  rw [show Nat.blt q 199 = false from h]
  rfl
theorem tb_g81 : ∀ q : Nat, Nat.blt q (tb_len 81) = false → tb_ft 81 q = none := fun q h => by
  show tb_f81 q = none
  unfold tb_f81
  rw [show Nat.blt q 92 = false from h]
  rfl
theorem tb_g82 : ∀ q : Nat, Nat.blt q (tb_len 82) = false → tb_ft 82 q = none := fun q h => by
  show tb_f82 q = none
  unfold tb_f82
  rw [show Nat.blt q 100 = false from h]
  rfl
theorem tb_g83 : ∀ q : Nat, Nat.blt q (tb_len 83) = false → tb_ft 83 q = none := fun q h => by
  show tb_f83 q = none
  unfold tb_f83
  rw [show Nat.blt q 121 = false from h]
  rfl
theorem tb_g84 : ∀ q : Nat, Nat.blt q (tb_len 84) = false → tb_ft 84 q = none := fun q h => by
  show tb_f84 q = none
  unfold tb_f84
  rw [show Nat.blt q 76 = false from h]
  rfl
theorem tb_g85 : ∀ q : Nat, Nat.blt q (tb_len 85) = false → tb_ft 85 q = none := fun q h => by
  show tb_f85 q = none
  unfold tb_f85
  rw [show Nat.blt q 108 = false from h]
  rfl
theorem tb_g86 : ∀ q : Nat, Nat.blt q (tb_len 86) = false → tb_ft 86 q = none := fun q h => by
  show tb_f86 q = none
  unfold tb_f86
  rw [show Nat.blt q 26 = false from h]
  rfl
theorem tb_g87 : ∀ q : Nat, Nat.blt q (tb_len 87) = false → tb_ft 87 q = none := fun q h => by
  show tb_f87 q = none
  unfold tb_f87
  rw [show Nat.blt q 57 = false from h]
  rfl
theorem tb_g88 : ∀ q : Nat, Nat.blt q (tb_len 88) = false → tb_ft 88 q = none := fun q h => by
  show tb_f88 q = none
  unfold tb_f88
  rw [show Nat.blt q 56 = false from h]
  rfl
theorem tb_g89 : ∀ q : Nat, Nat.blt q (tb_len 89) = false → tb_ft 89 q = none := fun q h => by
  show tb_f89 q = none
  unfold tb_f89
  rw [show Nat.blt q 90 = false from h]
  rfl
theorem tb_g90 : ∀ q : Nat, Nat.blt q (tb_len 90) = false → tb_ft 90 q = none := fun q h => by
  show tb_f90 q = none
  unfold tb_f90
  rw [show Nat.blt q 23 = false from h]
  rfl
theorem tb_g91 : ∀ q : Nat, Nat.blt q (tb_len 91) = false → tb_ft 91 q = none := fun q h => by
  show tb_f91 q = none
  unfold tb_f91
  rw [show Nat.blt q 50 = false from h]
  rfl
theorem tb_g92 : ∀ q : Nat, Nat.blt q (tb_len 92) = false → tb_ft 92 q = none := fun q h => by
  show tb_f92 q = none
  unfold tb_f92
  rw [show Nat.blt q 26 = false from h]
  rfl
theorem tb_g93 : ∀ q : Nat, Nat.blt q (tb_len 93) = false → tb_ft 93 q = none := fun q h => by
  show tb_f93 q = none
  unfold tb_f93
  rw [show Nat.blt q 29 = false from h]
  rfl
theorem tb_g94 : ∀ q : Nat, Nat.blt q (tb_len 94) = false → tb_ft 94 q = none := fun q h => by
  show tb_f94 q = none
  unfold tb_f94
  rw [show Nat.blt q 62 = false from h]
  rfl
theorem tb_g95 : ∀ q : Nat, Nat.blt q (tb_len 95) = false → tb_ft 95 q = none := fun q h => by
  show tb_f95 q = none
  unfold tb_f95
  rw [show Nat.blt q 21 = false from h]
  rfl
theorem tb_g96 : ∀ q : Nat, Nat.blt q (tb_len 96) = false → tb_ft 96 q = none := fun q h => by
  show tb_f96 q = none
  unfold tb_f96
  rw [show Nat.blt q 46 = false from h]
  rfl
theorem tb_g97 : ∀ q : Nat, Nat.blt q (tb_len 97) = false → tb_ft 97 q = none := fun q h => by
  show tb_f97 q = none
  unfold tb_f97
  rw [show Nat.blt q 84 = false from h]
  rfl
theorem tb_g98 : ∀ q : Nat, Nat.blt q (tb_len 98) = false → tb_ft 98 q = none := fun q h => by
  show tb_f98 q = none
  unfold tb_f98
  rw [show Nat.blt q 221 = false from h]
  rfl
theorem tb_g99 : ∀ q : Nat, Nat.blt q (tb_len 99) = false → tb_ft 99 q = none := fun q h => by
  show tb_f99 q = none
  unfold tb_f99
  rw [show Nat.blt q 133 = false from h]
  rfl
theorem tb_g100 : ∀ q : Nat, Nat.blt q (tb_len 100) = false → tb_ft 100 q = none := fun q h => by
  show tb_f100 q = none
  unfold tb_f100
  rw [show Nat.blt q 129 = false from h]
  rfl
theorem tb_g101 : ∀ q : Nat, Nat.blt q (tb_len 101) = false → tb_ft 101 q = none := fun q h => by
  show tb_f101 q = none
  unfold tb_f101
  rw [show Nat.blt q 99 = false from h]
  rfl
theorem tb_g102 : ∀ q : Nat, Nat.blt q (tb_len 102) = false → tb_ft 102 q = none := fun q h => by
  show tb_f102 q = none
  unfold tb_f102
  rw [show Nat.blt q 85 = false from h]
  rfl
theorem tb_g103 : ∀ q : Nat, Nat.blt q (tb_len 103) = false → tb_ft 103 q = none := fun q h => by
  show tb_f103 q = none
  unfold tb_f103
  rw [show Nat.blt q 41 = false from h]
  rfl
theorem tb_g104 : ∀ q : Nat, Nat.blt q (tb_len 104) = false → tb_ft 104 q = none := fun q h => by
  show tb_f104 q = none
  unfold tb_f104
  rw [show Nat.blt q 32 = false from h]
  rfl
theorem tb_g105 : ∀ q : Nat, Nat.blt q (tb_len 105) = false → tb_ft 105 q = none := fun q h => by
  show tb_f105 q = none
  unfold tb_f105
  rw [show Nat.blt q 44 = false from h]
  rfl
theorem tb_g106 : ∀ q : Nat, Nat.blt q (tb_len 106) = false → tb_ft 106 q = none := fun q h => by
  show tb_f106 q = none
  unfold tb_f106
  rw [show Nat.blt q 73 = false from h]
  rfl
theorem tb_g107 : ∀ q : Nat, Nat.blt q (tb_len 107) = false → tb_ft 107 q = none := fun q h => by
  show tb_f107 q = none
  unfold tb_f107
  rw [show Nat.blt q 72 = false from h]
  rfl
theorem tb_g108 : ∀ q : Nat, Nat.blt q (tb_len 108) = false → tb_ft 108 q = none := fun q h => by
  show tb_f108 q = none
  unfold tb_f108
  rw [show Nat.blt q 103 = false from h]
  rfl
theorem tb_g109 : ∀ q : Nat, Nat.blt q (tb_len 109) = false → tb_ft 109 q = none := fun q h => by
  show tb_f109 q = none
  unfold tb_f109
  rw [show Nat.blt q 145 = false from h]
  rfl
theorem tb_g110 : ∀ q : Nat, Nat.blt q (tb_len 110) = false → tb_ft 110 q = none := fun q h => by
  show tb_f110 q = none
  unfold tb_f110
  rw [show Nat.blt q 55 = false from h]
  rfl
theorem tb_g111 : ∀ q : Nat, Nat.blt q (tb_len 111) = false → tb_ft 111 q = none := fun q h => by
  show tb_f111 q = none
  unfold tb_f111
  rw [show Nat.blt q 50 = false from h]
  rfl
theorem tb_g112 : ∀ q : Nat, Nat.blt q (tb_len 112) = false → tb_ft 112 q = none := fun q h => by
  show tb_f112 q = none
  unfold tb_f112
  rw [show Nat.blt q 73 = false from h]
  rfl
theorem tb_g113 : ∀ q : Nat, Nat.blt q (tb_len 113) = false → tb_ft 113 q = none := fun q h => by
  show tb_f113 q = none
  unfold tb_f113
  rw [show Nat.blt q 17 = false from h]
  rfl
theorem tb_g114 : ∀ q : Nat, Nat.blt q (tb_len 114) = false → tb_ft 114 q = none := fun q h => by
  show tb_f114 q = none
  unfold tb_f114
  rw [show Nat.blt q 55 = false from h]
  rfl
theorem tb_g115 : ∀ q : Nat, Nat.blt q (tb_len 115) = false → tb_ft 115 q = none := fun q h => by
  show tb_f115 q = none
  unfold tb_f115
  rw [show Nat.blt q 17 = false from h]
  rfl
theorem tb_g116 : ∀ q : Nat, Nat.blt q (tb_len 116) = false → tb_ft 116 q = none := fun q h => by
  show tb_f116 q = none
  unfold tb_f116
  rw [show Nat.blt q 68 = false from h]
  rfl
theorem tb_g117 : ∀ q : Nat, Nat.blt q (tb_len 117) = false → tb_ft 117 q = none := fun q h => by
  show tb_f117 q = none
  unfold tb_f117
  rw [show Nat.blt q 54 = false from h]
  rfl
theorem tb_g118 : ∀ q : Nat, Nat.blt q (tb_len 118) = false → tb_ft 118 q = none := fun q h => by
  show tb_f118 q = none
  unfold tb_f118
  rw [show Nat.blt q 121 = false from h]
  rfl
theorem tb_g119 : ∀ q : Nat, Nat.blt q (tb_len 119) = false → tb_ft 119 q = none := fun q h => by
  show tb_f119 q = none
  unfold tb_f119
  rw [show Nat.blt q 52 = false from h]
  rfl
theorem tb_g120 : ∀ q : Nat, Nat.blt q (tb_len 120) = false → tb_ft 120 q = none := fun q h => by
  show tb_f120 q = none
  unfold tb_f120
  rw [show Nat.blt q 140 = false from h]
  rfl
theorem tb_g121 : ∀ q : Nat, Nat.blt q (tb_len 121) = false → tb_ft 121 q = none := fun q h => by
  show tb_f121 q = none
  unfold tb_f121
  rw [show Nat.blt q 105 = false from h]
  rfl
theorem tb_g122 : ∀ q : Nat, Nat.blt q (tb_len 122) = false → tb_ft 122 q = none := fun q h => by
  show tb_f122 q = none
  unfold tb_f122
  rw [show Nat.blt q 1153 = false from h]
  rfl
theorem tb_g123 : ∀ q : Nat, Nat.blt q (tb_len 123) = false → tb_ft 123 q = none := fun q h => by
  show tb_f123 q = none
  unfold tb_f123
  rw [show Nat.blt q 173 = false from h]
  rfl
theorem tb_g124 : ∀ q : Nat, Nat.blt q (tb_len 124) = false → tb_ft 124 q = none := fun q h => by
  show tb_f124 q = none
  unfold tb_f124
  rw [show Nat.blt q 404 = false from h]
  rfl
theorem tb_g125 : ∀ q : Nat, Nat.blt q (tb_len 125) = false → tb_ft 125 q = none := fun q h => by
  show tb_f125 q = none
  unfold tb_f125
  rw [show Nat.blt q 16 = false from h]
  rfl
theorem tb_g126 : ∀ q : Nat, Nat.blt q (tb_len 126) = false → tb_ft 126 q = none := fun q h => by
  show tb_f126 q = none
  unfold tb_f126
  rw [show Nat.blt q 104 = false from h]
  rfl
theorem tb_g127 : ∀ q : Nat, Nat.blt q (tb_len 127) = false → tb_ft 127 q = none := fun q h => by
  show tb_f127 q = none
  unfold tb_f127
  rw [show Nat.blt q 266 = false from h]
  rfl
theorem tb_g128 : ∀ q : Nat, Nat.blt q (tb_len 128) = false → tb_ft 128 q = none := fun q h => by
  show tb_f128 q = none
  unfold tb_f128
  rw [show Nat.blt q 30 = false from h]
  rfl
theorem tb_g129 : ∀ q : Nat, Nat.blt q (tb_len 129) = false → tb_ft 129 q = none := fun q h => by
  show tb_f129 q = none
  unfold tb_f129
  rw [show Nat.blt q 80 = false from h]
  rfl
theorem tb_g130 : ∀ q : Nat, Nat.blt q (tb_len 130) = false → tb_ft 130 q = none := fun q h => by
  show tb_f130 q = none
  unfold tb_f130
  rw [show Nat.blt q 72 = false from h]
  rfl
theorem tb_g131 : ∀ q : Nat, Nat.blt q (tb_len 131) = false → tb_ft 131 q = none := fun q h => by
  show tb_f131 q = none
  unfold tb_f131
  rw [show Nat.blt q 27 = false from h]
  rfl
theorem tb_g132 : ∀ q : Nat, Nat.blt q (tb_len 132) = false → tb_ft 132 q = none := fun q h => by
  show tb_f132 q = none
  unfold tb_f132
  rw [show Nat.blt q 21 = false from h]
  rfl
theorem tb_g133 : ∀ q : Nat, Nat.blt q (tb_len 133) = false → tb_ft 133 q = none := fun q h => by
  show tb_f133 q = none
  unfold tb_f133
  rw [show Nat.blt q 98 = false from h]
  rfl
theorem tb_g134 : ∀ q : Nat, Nat.blt q (tb_len 134) = false → tb_ft 134 q = none := fun q h => by
  show tb_f134 q = none
  unfold tb_f134
  rw [show Nat.blt q 62 = false from h]
  rfl
theorem tb_g135 : ∀ q : Nat, Nat.blt q (tb_len 135) = false → tb_ft 135 q = none := fun q h => by
  show tb_f135 q = none
  unfold tb_f135
  rw [show Nat.blt q 80 = false from h]
  rfl
theorem tb_g136 : ∀ q : Nat, Nat.blt q (tb_len 136) = false → tb_ft 136 q = none := fun q h => by
  show tb_f136 q = none
  unfold tb_f136
  rw [show Nat.blt q 81 = false from h]
  rfl
theorem tb_g137 : ∀ q : Nat, Nat.blt q (tb_len 137) = false → tb_ft 137 q = none := fun q h => by
  show tb_f137 q = none
  unfold tb_f137
  rw [show Nat.blt q 147 = false from h]
  rfl
theorem tb_g138 : ∀ q : Nat, Nat.blt q (tb_len 138) = false → tb_ft 138 q = none := fun q h => by
  show tb_f138 q = none
  unfold tb_f138
  rw [show Nat.blt q 9 = false from h]
  rfl
theorem tb_g139 : ∀ q : Nat, Nat.blt q (tb_len 139) = false → tb_ft 139 q = none := fun q h => by
  show tb_f139 q = none
  unfold tb_f139
  rw [show Nat.blt q 29 = false from h]
  rfl
theorem tb_g140 : ∀ q : Nat, Nat.blt q (tb_len 140) = false → tb_ft 140 q = none := fun q h => by
  show tb_f140 q = none
  unfold tb_f140
  rw [show Nat.blt q 99 = false from h]
  rfl
theorem tb_g141 : ∀ q : Nat, Nat.blt q (tb_len 141) = false → tb_ft 141 q = none := fun q h => by
  show tb_f141 q = none
  unfold tb_f141
  rw [show Nat.blt q 90 = false from h]
  rfl
theorem tb_g142 : ∀ q : Nat, Nat.blt q (tb_len 142) = false → tb_ft 142 q = none := fun q h => by
  show tb_f142 q = none
  unfold tb_f142
  rw [show Nat.blt q 204 = false from h]
  rfl
theorem tb_g143 : ∀ q : Nat, Nat.blt q (tb_len 143) = false → tb_ft 143 q = none := fun q h => by
  show tb_f143 q = none
  unfold tb_f143
  rw [show Nat.blt q 106 = false from h]
  rfl
theorem tb_g144 : ∀ q : Nat, Nat.blt q (tb_len 144) = false → tb_ft 144 q = none := fun q h => by
  show tb_f144 q = none
  unfold tb_f144
  rw [show Nat.blt q 20 = false from h]
  rfl
theorem tb_g145 : ∀ q : Nat, Nat.blt q (tb_len 145) = false → tb_ft 145 q = none := fun q h => by
  show tb_f145 q = none
  unfold tb_f145
  rw [show Nat.blt q 114 = false from h]
  rfl
theorem tb_g146 : ∀ q : Nat, Nat.blt q (tb_len 146) = false → tb_ft 146 q = none := fun q h => by
  show tb_f146 q = none
  unfold tb_f146
  rw [show Nat.blt q 69 = false from h]
  rfl
theorem tb_g147 : ∀ q : Nat, Nat.blt q (tb_len 147) = false → tb_ft 147 q = none := fun q h => by
  show tb_f147 q = none
  unfold tb_f147
  rw [show Nat.blt q 12 = false from h]
  rfl
theorem tb_g148 : ∀ q : Nat, Nat.blt q (tb_len 148) = false → tb_ft 148 q = none := fun q h => by
  show tb_f148 q = none
  unfold tb_f148
  rw [show Nat.blt q 65 = false from h]
  rfl
theorem tb_g149 : ∀ q : Nat, Nat.blt q (tb_len 149) = false → tb_ft 149 q = none := fun q h => by
  show tb_f149 q = none
  unfold tb_f149
  rw [show Nat.blt q 83 = false from h]
  rfl
theorem tb_g150 : ∀ q : Nat, Nat.blt q (tb_len 150) = false → tb_ft 150 q = none := fun q h => by
  show tb_f150 q = none
  unfold tb_f150
  rw [show Nat.blt q 13 = false from h]
  rfl
theorem tb_g151 : ∀ q : Nat, Nat.blt q (tb_len 151) = false → tb_ft 151 q = none := fun q h => by
  show tb_f151 q = none
  unfold tb_f151
  rw [show Nat.blt q 176 = false from h]
  rfl
theorem tb_g152 : ∀ q : Nat, Nat.blt q (tb_len 152) = false → tb_ft 152 q = none := fun q h => by
  show tb_f152 q = none
  unfold tb_f152
  rw [show Nat.blt q 21 = false from h]
  rfl
theorem tb_g153 : ∀ q : Nat, Nat.blt q (tb_len 153) = false → tb_ft 153 q = none := fun q h => by
  show tb_f153 q = none
  unfold tb_f153
  rw [show Nat.blt q 66 = false from h]
  rfl
theorem tb_g154 : ∀ q : Nat, Nat.blt q (tb_len 154) = false → tb_ft 154 q = none := fun q h => by
  show tb_f154 q = none
  unfold tb_f154
  rw [show Nat.blt q 16 = false from h]
  rfl
theorem tb_g155 : ∀ q : Nat, Nat.blt q (tb_len 155) = false → tb_ft 155 q = none := fun q h => by
  show tb_f155 q = none
  unfold tb_f155
  rw [show Nat.blt q 103 = false from h]
  rfl
theorem tb_g156 : ∀ q : Nat, Nat.blt q (tb_len 156) = false → tb_ft 156 q = none := fun q h => by
  show tb_f156 q = none
  unfold tb_f156
  rw [show Nat.blt q 173 = false from h]
  rfl
theorem tb_g157 : ∀ q : Nat, Nat.blt q (tb_len 157) = false → tb_ft 157 q = none := fun q h => by
  show tb_f157 q = none
  unfold tb_f157
  rw [show Nat.blt q 35 = false from h]
  rfl
theorem tb_g158 : ∀ q : Nat, Nat.blt q (tb_len 158) = false → tb_ft 158 q = none := fun q h => by
  show tb_f158 q = none
  unfold tb_f158
  rw [show Nat.blt q 131 = false from h]
  rfl
theorem tb_g159 : ∀ q : Nat, Nat.blt q (tb_len 159) = false → tb_ft 159 q = none := fun q h => by
  show tb_f159 q = none
  unfold tb_f159
  rw [show Nat.blt q 55 = false from h]
  rfl
theorem tb_g160 : ∀ q : Nat, Nat.blt q (tb_len 160) = false → tb_ft 160 q = none := fun q h => by
  show tb_f160 q = none
  unfold tb_f160
  rw [show Nat.blt q 47 = false from h]
  rfl
theorem tb_g161 : ∀ q : Nat, Nat.blt q (tb_len 161) = false → tb_ft 161 q = none := fun q h => by
  show tb_f161 q = none
  unfold tb_f161
  rw [show Nat.blt q 59 = false from h]
  rfl
theorem tb_g162 : ∀ q : Nat, Nat.blt q (tb_len 162) = false → tb_ft 162 q = none := fun q h => by
  show tb_f162 q = none
  unfold tb_f162
  rw [show Nat.blt q 56 = false from h]
  rfl
theorem tb_g163 : ∀ q : Nat, Nat.blt q (tb_len 163) = false → tb_ft 163 q = none := fun q h => by
  show tb_f163 q = none
  unfold tb_f163
  rw [show Nat.blt q 40 = false from h]
  rfl
theorem tb_g164 : ∀ q : Nat, Nat.blt q (tb_len 164) = false → tb_ft 164 q = none := fun q h => by
  show tb_f164 q = none
  unfold tb_f164
  rw [show Nat.blt q 35 = false from h]
  rfl
theorem tb_g165 : ∀ q : Nat, Nat.blt q (tb_len 165) = false → tb_ft 165 q = none := fun q h => by
  show tb_f165 q = none
  unfold tb_f165
  rw [show Nat.blt q 52 = false from h]
  rfl
theorem tb_g166 : ∀ q : Nat, Nat.blt q (tb_len 166) = false → tb_ft 166 q = none := fun q h => by
  show tb_f166 q = none
  unfold tb_f166
  rw [show Nat.blt q 45 = false from h]
  rfl
theorem tb_g167 : ∀ q : Nat, Nat.blt q (tb_len 167) = false → tb_ft 167 q = none := fun q h => by
  show tb_f167 q = none
  unfold tb_f167
  rw [show Nat.blt q 169 = false from h]
  rfl
theorem tb_g168 : ∀ q : Nat, Nat.blt q (tb_len 168) = false → tb_ft 168 q = none := fun q h => by
  show tb_f168 q = none
  unfold tb_f168
  rw [show Nat.blt q 42 = false from h]
  rfl
theorem tb_g169 : ∀ q : Nat, Nat.blt q (tb_len 169) = false → tb_ft 169 q = none := fun q h => by
  show tb_f169 q = none
  unfold tb_f169
  rw [show Nat.blt q 32 = false from h]
  rfl
theorem tb_g170 : ∀ q : Nat, Nat.blt q (tb_len 170) = false → tb_ft 170 q = none := fun q h => by
  show tb_f170 q = none
  unfold tb_f170
  rw [show Nat.blt q 204 = false from h]
  rfl
theorem tb_g171 : ∀ q : Nat, Nat.blt q (tb_len 171) = false → tb_ft 171 q = none := fun q h => by
  show tb_f171 q = none
  unfold tb_f171
  rw [show Nat.blt q 123 = false from h]
  rfl
theorem tb_g172 : ∀ q : Nat, Nat.blt q (tb_len 172) = false → tb_ft 172 q = none := fun q h => by
  show tb_f172 q = none
  unfold tb_f172
  rw [show Nat.blt q 19 = false from h]
  rfl
theorem tb_g173 : ∀ q : Nat, Nat.blt q (tb_len 173) = false → tb_ft 173 q = none := fun q h => by
  show tb_f173 q = none
  unfold tb_f173
  rw [show Nat.blt q 125 = false from h]
  rfl
theorem tb_g174 : ∀ q : Nat, Nat.blt q (tb_len 174) = false → tb_ft 174 q = none := fun q h => by
  show tb_f174 q = none
  unfold tb_f174
  rw [show Nat.blt q 88 = false from h]
  rfl
theorem tb_g175 : ∀ q : Nat, Nat.blt q (tb_len 175) = false → tb_ft 175 q = none := fun q h => by
  show tb_f175 q = none
  unfold tb_f175
  rw [show Nat.blt q 40 = false from h]
  rfl
theorem tb_g176 : ∀ q : Nat, Nat.blt q (tb_len 176) = false → tb_ft 176 q = none := fun q h => by
  show tb_f176 q = none
  unfold tb_f176
  rw [show Nat.blt q 64 = false from h]
  rfl
theorem tb_g177 : ∀ q : Nat, Nat.blt q (tb_len 177) = false → tb_ft 177 q = none := fun q h => by
  show tb_f177 q = none
  unfold tb_f177
  rw [show Nat.blt q 103 = false from h]
  rfl
theorem tb_g178 : ∀ q : Nat, Nat.blt q (tb_len 178) = false → tb_ft 178 q = none := fun q h => by
  show tb_f178 q = none
  unfold tb_f178
  rw [show Nat.blt q 100 = false from h]
  rfl
theorem tb_g179 : ∀ q : Nat, Nat.blt q (tb_len 179) = false → tb_ft 179 q = none := fun q h => by
  show tb_f179 q = none
  unfold tb_f179
  rw [show Nat.blt q 144 = false from h]
  rfl
theorem tb_g180 : ∀ q : Nat, Nat.blt q (tb_len 180) = false → tb_ft 180 q = none := fun q h => by
  show tb_f180 q = none
  unfold tb_f180
  rw [show Nat.blt q 32 = false from h]
  rfl
theorem tb_g181 : ∀ q : Nat, Nat.blt q (tb_len 181) = false → tb_ft 181 q = none := fun q h => by
  show tb_f181 q = none
  unfold tb_f181
  rw [show Nat.blt q 22 = false from h]
  rfl
theorem tb_g182 : ∀ q : Nat, Nat.blt q (tb_len 182) = false → tb_ft 182 q = none := fun q h => by
  show tb_f182 q = none
  unfold tb_f182
  rw [show Nat.blt q 38 = false from h]
  rfl
theorem tb_g183 : ∀ q : Nat, Nat.blt q (tb_len 183) = false → tb_ft 183 q = none := fun q h => by
  show tb_f183 q = none
  unfold tb_f183
  rw [show Nat.blt q 7 = false from h]
  rfl
theorem tb_g184 : ∀ q : Nat, Nat.blt q (tb_len 184) = false → tb_ft 184 q = none := fun q h => by
  show tb_f184 q = none
  unfold tb_f184
  rw [show Nat.blt q 47 = false from h]
  rfl
theorem tb_g185 : ∀ q : Nat, Nat.blt q (tb_len 185) = false → tb_ft 185 q = none := fun q h => by
  show tb_f185 q = none
  unfold tb_f185
  rw [show Nat.blt q 22 = false from h]
  rfl
theorem tb_g186 : ∀ q : Nat, Nat.blt q (tb_len 186) = false → tb_ft 186 q = none := fun q h => by
  show tb_f186 q = none
  unfold tb_f186
  rw [show Nat.blt q 56 = false from h]
  rfl
theorem tb_g187 : ∀ q : Nat, Nat.blt q (tb_len 187) = false → tb_ft 187 q = none := fun q h => by
  show tb_f187 q = none
  unfold tb_f187
  rw [show Nat.blt q 250 = false from h]
  rfl
theorem tb_g188 : ∀ q : Nat, Nat.blt q (tb_len 188) = false → tb_ft 188 q = none := fun q h => by
  show tb_f188 q = none
  unfold tb_f188
  rw [show Nat.blt q 108 = false from h]
  rfl
theorem tb_g189 : ∀ q : Nat, Nat.blt q (tb_len 189) = false → tb_ft 189 q = none := fun q h => by
  show tb_f189 q = none
  unfold tb_f189
  rw [show Nat.blt q 121 = false from h]
  rfl
theorem tb_g190 : ∀ q : Nat, Nat.blt q (tb_len 190) = false → tb_ft 190 q = none := fun q h => by
  show tb_f190 q = none
  unfold tb_f190
  rw [show Nat.blt q 78 = false from h]
  rfl
theorem tb_g191 : ∀ q : Nat, Nat.blt q (tb_len 191) = false → tb_ft 191 q = none := fun q h => by
  show tb_f191 q = none
  unfold tb_f191
  rw [show Nat.blt q 119 = false from h]
  rfl
theorem tb_g192 : ∀ q : Nat, Nat.blt q (tb_len 192) = false → tb_ft 192 q = none := fun q h => by
  show tb_f192 q = none
  unfold tb_f192
  rw [show Nat.blt q 63 = false from h]
  rfl
theorem tb_g193 : ∀ q : Nat, Nat.blt q (tb_len 193) = false → tb_ft 193 q = none := fun q h => by
  show tb_f193 q = none
  unfold tb_f193
  rw [show Nat.blt q 62 = false from h]
  rfl
theorem tb_g194 : ∀ q : Nat, Nat.blt q (tb_len 194) = false → tb_ft 194 q = none := fun q h => by
  show tb_f194 q = none
  unfold tb_f194
  rw [show Nat.blt q 108 = false from h]
  rfl
theorem tb_g195 : ∀ q : Nat, Nat.blt q (tb_len 195) = false → tb_ft 195 q = none := fun q h => by
  show tb_f195 q = none
  unfold tb_f195
  rw [show Nat.blt q 113 = false from h]
  rfl
theorem tb_g196 : ∀ q : Nat, Nat.blt q (tb_len 196) = false → tb_ft 196 q = none := fun q h => by
  show tb_f196 q = none
  unfold tb_f196
  rw [show Nat.blt q 21 = false from h]
  rfl
theorem tb_g197 : ∀ q : Nat, Nat.blt q (tb_len 197) = false → tb_ft 197 q = none := fun q h => by
  show tb_f197 q = none
  unfold tb_f197
  rw [show Nat.blt q 107 = false from h]
  rfl
theorem tb_g198 : ∀ q : Nat, Nat.blt q (tb_len 198) = false → tb_ft 198 q = none := fun q h => by
  show tb_f198 q = none
  unfold tb_f198
  rw [show Nat.blt q 112 = false from h]
  rfl
theorem tb_g199 : ∀ q : Nat, Nat.blt q (tb_len 199) = false → tb_ft 199 q = none := fun q h => by
  show tb_f199 q = none
  unfold tb_f199
  rw [show Nat.blt q 98 = false from h]
  rfl
theorem tb_g200 : ∀ q : Nat, Nat.blt q (tb_len 200) = false → tb_ft 200 q = none := fun q h => by
  show tb_f200 q = none
  unfold tb_f200
  rw [show Nat.blt q 87 = false from h]
  rfl
theorem tb_g201 : ∀ q : Nat, Nat.blt q (tb_len 201) = false → tb_ft 201 q = none := fun q h => by
  show tb_f201 q = none
  unfold tb_f201
  rw [show Nat.blt q 204 = false from h]
  rfl
theorem tb_g202 : ∀ q : Nat, Nat.blt q (tb_len 202) = false → tb_ft 202 q = none := fun q h => by
  show tb_f202 q = none
  unfold tb_f202
  rw [show Nat.blt q 164 = false from h]
  rfl
theorem tb_g203 : ∀ q : Nat, Nat.blt q (tb_len 203) = false → tb_ft 203 q = none := fun q h => by
  show tb_f203 q = none
  unfold tb_f203
  rw [show Nat.blt q 104 = false from h]
  rfl
theorem tb_g204 : ∀ q : Nat, Nat.blt q (tb_len 204) = false → tb_ft 204 q = none := fun q h => by
  show tb_f204 q = none
  unfold tb_f204
  rw [show Nat.blt q 35 = false from h]
  rfl
def tb_out (i : Nat) : Prop := ∀ q : Nat, Nat.blt q (tb_len i) = false → tb_ft i q = none
theorem tb_out_0 : ∀ i ∈ [0, 1, 2, 3, 4, 5, 6, 7, 8, 9, 10, 11, 12, 13, 14, 15, 16, 17, 18, 19], tb_out i := List.forall_mem_cons.mpr ⟨tb_g0, List.forall_mem_cons.mpr ⟨tb_g1, List.forall_mem_cons.mpr ⟨tb_g2, List.forall_mem_cons.mpr ⟨tb_g3, List.forall_mem_cons.mpr ⟨tb_g4, List.forall_mem_cons.mpr ⟨tb_g5, List.forall_mem_cons.mpr ⟨tb_g6, List.forall_mem_cons.mpr ⟨tb_g7, List.forall_mem_cons.mpr ⟨tb_g8, List.forall_mem_cons.mpr ⟨tb_g9, List.forall_mem_cons.mpr ⟨tb_g10, List.forall_mem_cons.mpr ⟨tb_g11, List.forall_mem_cons.mpr ⟨tb_g12, List.forall_mem_cons.mpr ⟨tb_g13, List.forall_mem_cons.mpr ⟨tb_g14, List.forall_mem_cons.mpr ⟨tb_g15, List.forall_mem_cons.mpr ⟨tb_g16, List.forall_mem_cons.mpr ⟨tb_g17, List.forall_mem_cons.mpr ⟨tb_g18, List.forall_mem_cons.mpr ⟨tb_g19, fun _ h => absurd h List.not_mem_nil⟩⟩⟩⟩⟩⟩⟩⟩⟩⟩⟩⟩⟩⟩⟩⟩⟩⟩⟩⟩
theorem tb_out_20 : ∀ i ∈ [20, 21, 22, 23, 24, 25, 26, 27, 28, 29, 30, 31, 32, 33, 34, 35, 36, 37, 38, 39], tb_out i := List.forall_mem_cons.mpr ⟨tb_g20, List.forall_mem_cons.mpr ⟨tb_g21, List.forall_mem_cons.mpr ⟨tb_g22, List.forall_mem_cons.mpr ⟨tb_g23, List.forall_mem_cons.mpr ⟨tb_g24, List.forall_mem_cons.mpr ⟨tb_g25, List.forall_mem_cons.mpr ⟨tb_g26, List.forall_mem_cons.mpr ⟨tb_g27, List.forall_mem_cons.mpr ⟨tb_g28, List.forall_mem_cons.mpr ⟨tb_g29, List.forall_mem_cons.mpr ⟨tb_g30, List.forall_mem_cons.mpr ⟨tb_g31, List.forall_mem_cons.mpr ⟨tb_g32, List.forall_mem_cons.mpr ⟨tb_g33, List.forall_mem_cons.mpr ⟨tb_g34, List.forall_mem_cons.mpr ⟨tb_g35, List.forall_mem_cons.mpr ⟨tb_g36, List.forall_mem_cons.mpr ⟨tb_g37, List.forall_mem_cons.mpr ⟨tb_g38, List.forall_mem_cons.mpr ⟨tb_g39, fun _ h => absurd h List.not_mem_nil⟩⟩⟩⟩⟩⟩⟩⟩⟩⟩⟩⟩⟩⟩⟩⟩⟩⟩⟩⟩
theorem tb_out_40 : ∀ i ∈ [40, 41, 42, 43, 44, 45, 46, 47, 48, 49, 50, 51, 52, 53, 54, 55, 56, 57, 58, 59], tb_out i := List.forall_mem_cons.mpr ⟨tb_g40, List.forall_mem_cons.mpr ⟨tb_g41, List.forall_mem_cons.mpr ⟨tb_g42, List.forall_mem_cons.mpr ⟨tb_g43, List.forall_mem_cons.mpr ⟨tb_g44, List.forall_mem_cons.mpr ⟨tb_g45, List.forall_mem_cons.mpr ⟨tb_g46, List.forall_mem_cons.mpr ⟨tb_g47, List.forall_mem_cons.mpr ⟨tb_g48, List.forall_mem_cons.mpr ⟨tb_g49, List.forall_mem_cons.mpr ⟨tb_g50, List.forall_mem_cons.mpr ⟨tb_g51, List.forall_mem_cons.mpr ⟨tb_g52, List.forall_mem_cons.mpr ⟨tb_g53, List.forall_mem_cons.mpr ⟨tb_g54, List.forall_mem_cons.mpr ⟨tb_g55, List.forall_mem_cons.mpr ⟨tb_g56, List.forall_mem_cons.mpr ⟨tb_g57, List.forall_mem_cons.mpr ⟨tb_g58, List.forall_mem_cons.mpr ⟨tb_g59, fun _ h => absurd h List.not_mem_nil⟩⟩⟩⟩⟩⟩⟩⟩⟩⟩⟩⟩⟩⟩⟩⟩⟩⟩⟩⟩
theorem tb_out_60 : ∀ i ∈ [60, 61, 62, 63, 64, 65, 66, 67, 68, 69, 70, 71, 72, 73, 74, 75, 76, 77, 78, 79], tb_out i := List.forall_mem_cons.mpr ⟨tb_g60, List.forall_mem_cons.mpr ⟨tb_g61, List.forall_mem_cons.mpr ⟨tb_g62, List.forall_mem_cons.mpr ⟨tb_g63, List.forall_mem_cons.mpr ⟨tb_g64, List.forall_mem_cons.mpr ⟨tb_g65, List.forall_mem_cons.mpr ⟨tb_g66, List.forall_mem_cons.mpr ⟨tb_g67, List.forall_mem_cons.mpr ⟨tb_g68, List.forall_mem_cons.mpr ⟨tb_g69, List.forall_mem_cons.mpr ⟨tb_g70, List.forall_mem_cons.mpr ⟨tb_g71, List.forall_mem_cons.mpr ⟨tb_g72, List.forall_mem_cons.mpr ⟨tb_g73, List.forall_mem_cons.mpr ⟨tb_g74, List.forall_mem_cons.mpr ⟨tb_g75, List.forall_mem_cons.mpr ⟨tb_g76, List.forall_mem_cons.mpr ⟨tb_g77, List.forall_mem_cons.mpr ⟨tb_g78, List.forall_mem_cons.mpr ⟨tb_g79, fun _ h => absurd h List.not_mem_nil⟩⟩⟩⟩⟩⟩⟩⟩⟩⟩⟩⟩⟩⟩⟩⟩⟩⟩⟩⟩
theorem tb_out_80 : ∀ i ∈ [80, 81, 82, 83, 84, 85, 86, 87, 88, 89, 90, 91, 92, 93, 94, 95, 96, 97, 98, 99], tb_out i := List.forall_mem_cons.mpr ⟨tb_g80, List.forall_mem_cons.mpr ⟨tb_g81, List.forall_mem_cons.mpr ⟨tb_g82, List.forall_mem_cons.mpr ⟨tb_g83, List.forall_mem_cons.mpr ⟨tb_g84, List.forall_mem_cons.mpr ⟨tb_g85, List.forall_mem_cons.mpr ⟨tb_g86, List.forall_mem_cons.mpr ⟨tb_g87, List.forall_mem_cons.mpr ⟨tb_g88, List.forall_mem_cons.mpr ⟨tb_g89, List.forall_mem_cons.mpr ⟨tb_g90, List.forall_mem_cons.mpr ⟨tb_g91, List.forall_mem_cons.mpr ⟨tb_g92, List.forall_mem_cons.mpr ⟨tb_g93, List.forall_mem_cons.mpr ⟨tb_g94, List.forall_mem_cons.mpr ⟨tb_g95, List.forall_mem_cons.mpr ⟨tb_g96, List.forall_mem_cons.mpr ⟨tb_g97, List.forall_mem_cons.mpr ⟨tb_g98, List.forall_mem_cons.mpr ⟨tb_g99, fun _ h => absurd h List.not_mem_nil⟩⟩⟩⟩⟩⟩⟩⟩⟩⟩⟩⟩⟩⟩⟩⟩⟩⟩⟩⟩
theorem tb_out_100 : ∀ i ∈ [100, 101, 102, 103, 104, 105, 106, 107, 108, 109, 110, 111, 112, 113, 114, 115, 116, 117, 118, 119], tb_out i := List.forall_mem_cons.mpr ⟨tb_g100, List.forall_mem_cons.mpr ⟨tb_g101, List.forall_mem_cons.mpr ⟨tb_g102, List.forall_mem_cons.mpr ⟨tb_g103, List.forall_mem_cons.mpr ⟨tb_g104, List.forall_mem_cons.mpr ⟨tb_g105, List.forall_mem_cons.mpr ⟨tb_g106, List.forall_mem_cons.mpr ⟨tb_g107, List.forall_mem_cons.mpr ⟨tb_g108, List.forall_mem_cons.mpr ⟨tb_g109, List.forall_mem_cons.mpr ⟨tb_g110, List.forall_mem_cons.mpr ⟨tb_g111, List.forall_mem_cons.mpr ⟨tb_g112, List.forall_mem_cons.mpr ⟨tb_g113, List.forall_mem_cons.mpr ⟨tb_g114, List.forall_mem_cons.mpr ⟨tb_g115, List.forall_mem_cons.mpr ⟨tb_g116, List.forall_mem_cons.mpr ⟨tb_g117, List.forall_mem_cons.mpr ⟨tb_g118, List.forall_mem_cons.mpr ⟨tb_g119, fun _ h => absurd h List.not_mem_nil⟩⟩⟩⟩⟩⟩⟩⟩⟩⟩⟩⟩⟩⟩⟩⟩⟩⟩⟩⟩
theorem tb_out_120 : ∀ i ∈ [120, 121, 122, 123, 124, 125, 126, 127, 128, 129, 130, 131, 132, 133, 134, 135, 136, 137, 138, 139], tb_out i := List.forall_mem_cons.mpr ⟨tb_g120, List.forall_mem_cons.mpr ⟨tb_g121, List.forall_mem_cons.mpr ⟨tb_g122, List.forall_mem_cons.mpr ⟨tb_g123, List.forall_mem_cons.mpr ⟨tb_g124, List.forall_mem_cons.mpr ⟨tb_g125, List.forall_mem_cons.mpr ⟨tb_g126, List.forall_mem_cons.mpr ⟨tb_g127, List.forall_mem_cons.mpr ⟨tb_g128, List.forall_mem_cons.mpr ⟨tb_g129, List.forall_mem_cons.mpr ⟨tb_g130, List.forall_mem_cons.mpr ⟨tb_g131, List.forall_mem_cons.mpr ⟨tb_g132, List.forall_mem_cons.mpr ⟨tb_g133, List.forall_mem_cons.mpr ⟨tb_g134, List.forall_mem_cons.mpr ⟨tb_g135, List.forall_mem_cons.mpr ⟨tb_g136, List.forall_mem_cons.mpr ⟨tb_g137, List.forall_mem_cons.mpr ⟨tb_g138, List.forall_mem_cons.mpr ⟨tb_g139, fun _ h => absurd h List.not_mem_nil⟩⟩⟩⟩⟩⟩⟩⟩⟩⟩⟩⟩⟩⟩⟩⟩⟩⟩⟩⟩
theorem tb_out_140 : ∀ i ∈ [140, 141, 142, 143, 144, 145, 146, 147, 148, 149, 150, 151, 152, 153, 154, 155, 156, 157, 158, 159], tb_out i := List.forall_mem_cons.mpr ⟨tb_g140, List.forall_mem_cons.mpr ⟨tb_g141, List.forall_mem_cons.mpr ⟨tb_g142, List.forall_mem_cons.mpr ⟨tb_g143, List.forall_mem_cons.mpr ⟨tb_g144, List.forall_mem_cons.mpr ⟨tb_g145, List.forall_mem_cons.mpr ⟨tb_g146, List.forall_mem_cons.mpr ⟨tb_g147, List.forall_mem_cons.mpr ⟨tb_g148, List.forall_mem_cons.mpr ⟨tb_g149, List.forall_mem_cons.mpr ⟨tb_g150, List.forall_mem_cons.mpr ⟨tb_g151, List.forall_mem_cons.mpr ⟨tb_g152, List.forall_mem_cons.mpr ⟨tb_g153, List.forall_mem_cons.mpr ⟨tb_g154, List.forall_mem_cons.mpr ⟨tb_g155, List.forall_mem_cons.mpr ⟨tb_g156, List.forall_mem_cons.mpr ⟨tb_g157, List.forall_mem_cons.mpr ⟨tb_g158, List.forall_mem_cons.mpr ⟨tb_g159, fun _ h => absurd h List.not_mem_nil⟩⟩⟩⟩⟩⟩⟩⟩⟩⟩⟩⟩⟩⟩⟩⟩⟩⟩⟩⟩
theorem tb_out_160 : ∀ i ∈ [160, 161, 162, 163, 164, 165, 166, 167, 168, 169, 170, 171, 172, 173, 174, 175, 176, 177, 178, 179], tb_out i := List.forall_mem_cons.mpr ⟨tb_g160, List.forall_mem_cons.mpr ⟨tb_g161, List.forall_mem_cons.mpr ⟨tb_g162, List.forall_mem_cons.mpr ⟨tb_g163, List.forall_mem_cons.mpr ⟨tb_g164, List.forall_mem_cons.mpr ⟨tb_g165, List.forall_mem_cons.mpr ⟨tb_g166, List.forall_mem_cons.mpr ⟨tb_g167, List.forall_mem_cons.mpr ⟨tb_g168, List.forall_mem_cons.mpr ⟨tb_g169, List.forall_mem_cons.mpr ⟨tb_g170, List.forall_mem_cons.mpr ⟨tb_g171, List.forall_mem_cons.mpr ⟨tb_g172, List.forall_mem_cons.mpr ⟨tb_g173, List.forall_mem_cons.mpr ⟨tb_g174, List.forall_mem_cons.mpr ⟨tb_g175, List.forall_mem_cons.mpr ⟨tb_g176, List.forall_mem_cons.mpr ⟨tb_g177, List.forall_mem_cons.mpr ⟨tb_g178, List.forall_mem_cons.mpr ⟨tb_g179, fun _ h => absurd h List.not_mem_nil⟩⟩⟩⟩⟩⟩⟩⟩⟩⟩⟩⟩⟩⟩⟩⟩⟩⟩⟩⟩
theorem tb_out_180 : ∀ i ∈ [180, 181, 182, 183, 184, 185, 186, 187, 188, 189, 190, 191, 192, 193, 194, 195, 196, 197, 198, 199], tb_out i := List.forall_mem_cons.mpr ⟨tb_g180, List.forall_mem_cons.mpr ⟨tb_g181, List.forall_mem_cons.mpr ⟨tb_g182, List.forall_mem_cons.mpr ⟨tb_g183, List.forall_mem_cons.mpr ⟨tb_g184, List.forall_mem_cons.mpr ⟨tb_g185, List.forall_mem_cons.mpr ⟨tb_g186, List.forall_mem_cons.mpr ⟨tb_g187, List.forall_mem_cons.mpr ⟨tb_g188, List.forall_mem_cons.mpr ⟨tb_g189, List.forall_mem_cons.mpr ⟨tb_g190, List.forall_mem_cons.mpr ⟨tb_g191, List.forall_mem_cons.mpr ⟨tb_g192, List.forall_mem_cons.mpr ⟨tb_g193, List.forall_mem_cons.mpr ⟨tb_g194, List.forall_mem_cons.mpr ⟨tb_g195, List.forall_mem_cons.mpr ⟨tb_g196, List.forall_mem_cons.mpr ⟨tb_g197, List.forall_mem_cons.mpr ⟨tb_g198, List.forall_mem_cons.mpr ⟨tb_g199, fun _ h => absurd h List.not_mem_nil⟩⟩⟩⟩⟩⟩⟩⟩⟩⟩⟩⟩⟩⟩⟩⟩⟩⟩⟩⟩
theorem tb_out_200 : ∀ i ∈ [200, 201, 202, 203, 204], tb_out i := List.forall_mem_cons.mpr ⟨tb_g200, List.forall_mem_cons.mpr ⟨tb_g201, List.forall_mem_cons.mpr ⟨tb_g202, List.forall_mem_cons.mpr ⟨tb_g203, List.forall_mem_cons.mpr ⟨tb_g204, fun _ h => absurd h List.not_mem_nil⟩⟩⟩⟩⟩
theorem tb_out_all : ∀ i, i < tb_n → tb_out i := by
  intro i hi
  have hi : i < 205 := hi
  rcases Nat.lt_or_ge i 20 with h0 | h0
  · exact tb_out_0 i (by simp only [List.mem_cons, List.not_mem_nil]; omega)
  rcases Nat.lt_or_ge i 40 with h20 | h20
  · exact tb_out_20 i (by simp only [List.mem_cons, List.not_mem_nil]; omega)
  rcases Nat.lt_or_ge i 60 with h40 | h40
  · exact tb_out_40 i (by simp only [List.mem_cons, List.not_mem_nil]; omega)
  rcases Nat.lt_or_ge i 80 with h60 | h60
  · exact tb_out_60 i (by simp only [List.mem_cons, List.not_mem_nil]; omega)
  rcases Nat.lt_or_ge i 100 with h80 | h80
  · exact tb_out_80 i (by simp only [List.mem_cons, List.not_mem_nil]; omega)
  rcases Nat.lt_or_ge i 120 with h100 | h100
  · exact tb_out_100 i (by simp only [List.mem_cons, List.not_mem_nil]; omega)
  rcases Nat.lt_or_ge i 140 with h120 | h120
  · exact tb_out_120 i (by simp only [List.mem_cons, List.not_mem_nil]; omega)
  rcases Nat.lt_or_ge i 160 with h140 | h140
  · exact tb_out_140 i (by simp only [List.mem_cons, List.not_mem_nil]; omega)
  rcases Nat.lt_or_ge i 180 with h160 | h160
  · exact tb_out_160 i (by simp only [List.mem_cons, List.not_mem_nil]; omega)
  rcases Nat.lt_or_ge i 200 with h180 | h180
  · exact tb_out_180 i (by simp only [List.mem_cons, List.not_mem_nil]; omega)
  exact tb_out_200 i (by simp only [List.mem_cons, List.not_mem_nil]; omega)
theorem tb_o0_0 : (List.range' 0 120).all (tb_okp 0) = true := by decide +kernel
theorem tb_o0_120 : (List.range' 120 120).all (tb_okp 0) = true := by decide +kernel
theorem tb_o0_240 : (List.range' 240 120).all (tb_okp 0) = true := by decide +kernel
theorem tb_o0_360 : (List.range' 360 120).all (tb_okp 0) = true := by decide +kernel
theorem tb_o0_480 : (List.range' 480 120).all (tb_okp 0) = true := by decide +kernel
theorem tb_o0_600 : (List.range' 600 120).all (tb_okp 0) = true := by decide +kernel
theorem tb_o0_720 : (List.range' 720 120).all (tb_okp 0) = true := by decide +kernel
theorem tb_o0_840 : (List.range' 840 120).all (tb_okp 0) = true := by decide +kernel
theorem tb_o0_960 : (List.range' 960 120).all (tb_okp 0) = true := by decide +kernel
theorem tb_o0_1080 : (List.range' 1080 120).all (tb_okp 0) = true := by decide +kernel
theorem tb_o0_1200 : (List.range' 1200 120).all (tb_okp 0) = true := by decide +kernel
theorem tb_o0_1320 : (List.range' 1320 120).all (tb_okp 0) = true := by decide +kernel
theorem tb_o0_1440 : (List.range' 1440 120).all (tb_okp 0) = true := by decide +kernel
theorem tb_o0_1560 : (List.range' 1560 120).all (tb_okp 0) = true := by decide +kernel
theorem tb_o0_1680 : (List.range' 1680 48).all (tb_okp 0) = true := by decide +kernel
theorem tb_o0 : tb_okm 0 = true := tb_cut 0 [(0, 120), (120, 120), (240, 120), (360, 120), (480, 120), (600, 120), (720, 120), (840, 120), (960, 120), (1080, 120), (1200, 120), (1320, 120), (1440, 120), (1560, 120), (1680, 48)] rfl (List.forall_mem_cons.mpr ⟨tb_o0_0, List.forall_mem_cons.mpr ⟨tb_o0_120, List.forall_mem_cons.mpr ⟨tb_o0_240, List.forall_mem_cons.mpr ⟨tb_o0_360, List.forall_mem_cons.mpr ⟨tb_o0_480, List.forall_mem_cons.mpr ⟨tb_o0_600, List.forall_mem_cons.mpr ⟨tb_o0_720, List.forall_mem_cons.mpr ⟨tb_o0_840, List.forall_mem_cons.mpr ⟨tb_o0_960, List.forall_mem_cons.mpr ⟨tb_o0_1080, List.forall_mem_cons.mpr ⟨tb_o0_1200, List.forall_mem_cons.mpr ⟨tb_o0_1320, List.forall_mem_cons.mpr ⟨tb_o0_1440, List.forall_mem_cons.mpr ⟨tb_o0_1560, List.forall_mem_cons.mpr ⟨tb_o0_1680, fun _ h => absurd h List.not_mem_nil⟩⟩⟩⟩⟩⟩⟩⟩⟩⟩⟩⟩⟩⟩⟩)
theorem tb_o1_0 : (List.range' 0 120).all (tb_okp 1) = true := by decide +kernel
theorem tb_o1_120 : (List.range' 120 101).all (tb_okp 1) = true := by decide +kernel
theorem tb_o1 : tb_okm 1 = true := tb_cut 1 [(0, 120), (120, 101)] rfl (List.forall_mem_cons.mpr ⟨tb_o1_0, List.forall_mem_cons.mpr ⟨tb_o1_120, fun _ h => absurd h List.not_mem_nil⟩⟩)
theorem tb_o2 : tb_okm 2 = true := by decide +kernel
theorem tb_o3 : tb_okm 3 = true := by decide +kernel
theorem tb_o4 : tb_okm 4 = true := by decide +kernel
theorem tb_o5 : tb_okm 5 = true := by decide +kernel
theorem tb_o6 : tb_okm 6 = true := by decide +kernel
theorem tb_o7 : tb_okm 7 = true := by decide +kernel
theorem tb_o8 : tb_okm 8 = true := by decide +kernel
theorem tb_o9 : tb_okm 9 = true := by decide +kernel
theorem tb_o10 : tb_okm 10 = true := by decide +kernel
theorem tb_o11 : tb_okm 11 = true := by decide +kernel
theorem tb_o12 : tb_okm 12 = true := by decide +kernel
theorem tb_o13 : tb_okm 13 = true := by decide +kernel
theorem tb_o14 : tb_okm 14 = true := by decide +kernel
theorem tb_o15 : tb_okm 15 = true := by decide +kernel
theorem tb_o16 : tb_okm 16 = true := by decide +kernel
theorem tb_o17_0 : (List.range' 0 120).all (tb_okp 17) = true := by decide +kernel
theorem tb_o17_120 : (List.range' 120 120).all (tb_okp 17) = true := by decide +kernel
theorem tb_o17_240 : (List.range' 240 18).all (tb_okp 17) = true := by decide +kernel
theorem tb_o17 : tb_okm 17 = true := tb_cut 17 [(0, 120), (120, 120), (240, 18)] rfl (List.forall_mem_cons.mpr ⟨tb_o17_0, List.forall_mem_cons.mpr ⟨tb_o17_120, List.forall_mem_cons.mpr ⟨tb_o17_240, fun _ h => absurd h List.not_mem_nil⟩⟩⟩)
theorem tb_o18 : tb_okm 18 = true := by decide +kernel
theorem tb_o19 : tb_okm 19 = true := by decide +kernel
theorem tb_o20 : tb_okm 20 = true := by decide +kernel
theorem tb_o21 : tb_okm 21 = true := by decide +kernel
theorem tb_o22 : tb_okm 22 = true := by decide +kernel
theorem tb_o23 : tb_okm 23 = true := by decide +kernel
theorem tb_o24 : tb_okm 24 = true := by decide +kernel
theorem tb_o25 : tb_okm 25 = true := by decide +kernel
theorem tb_o26 : tb_okm 26 = true := by decide +kernel
theorem tb_o27 : tb_okm 27 = true := by decide +kernel
theorem tb_o28 : tb_okm 28 = true := by decide +kernel
theorem tb_o29 : tb_okm 29 = true := by decide +kernel
theorem tb_o30 : tb_okm 30 = true := by decide +kernel
theorem tb_o31 : tb_okm 31 = true := by decide +kernel
theorem tb_o32 : tb_okm 32 = true := by decide +kernel
theorem tb_o33 : tb_okm 33 = true := by decide +kernel
theorem tb_o34 : tb_okm 34 = true := by decide +kernel
theorem tb_o35 : tb_okm 35 = true := by decide +kernel
theorem tb_o36 : tb_okm 36 = true := by decide +kernel
theorem tb_o37 : tb_okm 37 = true := by decide +kernel
theorem tb_o38 : tb_okm 38 = true := by decide +kernel
theorem tb_o39 : tb_okm 39 = true := by decide +kernel
theorem tb_o40 : tb_okm 40 = true := by decide +kernel
theorem tb_o41 : tb_okm 41 = true := by decide +kernel
theorem tb_o42 : tb_okm 42 = true := by decide +kernel
theorem tb_o43 : tb_okm 43 = true := by decide +kernel
theorem tb_o44 : tb_okm 44 = true := by decide +kernel
theorem tb_o45 : tb_okm 45 = true := by decide +kernel
theorem tb_o46 : tb_okm 46 = true := by decide +kernel
theorem tb_o47 : tb_okm 47 = true := by decide +kernel
theorem tb_o48 : tb_okm 48 = true := by decide +kernel
theorem tb_o49 : tb_okm 49 = true := by decide +kernel
theorem tb_o50 : tb_okm 50 = true := by decide +kernel
theorem tb_o51_0 : (List.range' 0 120).all (tb_okp 51) = true := by decide +kernel
theorem tb_o51_120 : (List.range' 120 80).all (tb_okp 51) = true := by decide +kernel
theorem tb_o51 : tb_okm 51 = true := tb_cut 51 [(0, 120), (120, 80)] rfl (List.forall_mem_cons.mpr ⟨tb_o51_0, List.forall_mem_cons.mpr ⟨tb_o51_120, fun _ h => absurd h List.not_mem_nil⟩⟩)
theorem tb_o52_0 : (List.range' 0 120).all (tb_okp 52) = true := by decide +kernel
theorem tb_o52_120 : (List.range' 120 84).all (tb_okp 52) = true := by decide +kernel
theorem tb_o52 : tb_okm 52 = true := tb_cut 52 [(0, 120), (120, 84)] rfl (List.forall_mem_cons.mpr ⟨tb_o52_0, List.forall_mem_cons.mpr ⟨tb_o52_120, fun _ h => absurd h List.not_mem_nil⟩⟩)
theorem tb_o53 : tb_okm 53 = true := by decide +kernel
theorem tb_o54 : tb_okm 54 = true := by decide +kernel
theorem tb_o55 : tb_okm 55 = true := by decide +kernel
theorem tb_o56 : tb_okm 56 = true := by decide +kernel
theorem tb_o57 : tb_okm 57 = true := by decide +kernel
theorem tb_o58 : tb_okm 58 = true := by decide +kernel
theorem tb_o59 : tb_okm 59 = true := by decide +kernel
theorem tb_o60 : tb_okm 60 = true := by decide +kernel
theorem tb_o61 : tb_okm 61 = true := by decide +kernel
theorem tb_o62 : tb_okm 62 = true := by decide +kernel
theorem tb_o63 : tb_okm 63 = true := by decide +kernel
theorem tb_o64 : tb_okm 64 = true := by decide +kernel
theorem tb_o65 : tb_okm 65 = true := by decide +kernel
theorem tb_o66 : tb_okm 66 = true := by decide +kernel
theorem tb_o67 : tb_okm 67 = true := by decide +kernel
theorem tb_o68 : tb_okm 68 = true := by decide +kernel
theorem tb_o69 : tb_okm 69 = true := by decide +kernel
theorem tb_o70 : tb_okm 70 = true := by decide +kernel
theorem tb_o71 : tb_okm 71 = true := by decide +kernel
theorem tb_o72 : tb_okm 72 = true := by decide +kernel
theorem tb_o73 : tb_okm 73 = true := by decide +kernel
theorem tb_o74 : tb_okm 74 = true := by decide +kernel
theorem tb_o75 : tb_okm 75 = true := by decide +kernel
theorem tb_o76 : tb_okm 76 = true := by decide +kernel
theorem tb_o77 : tb_okm 77 = true := by decide +kernel
theorem tb_o78 : tb_okm 78 = true := by decide +kernel
theorem tb_o79 : tb_okm 79 = true := by decide +kernel
theorem tb_o80_0 : (List.range' 0 120).all (tb_okp 80) = true := by decide +kernel
theorem tb_o80_120 : (List.range' 120 79).all (tb_okp 80) = true := by decide +kernel
theorem tb_o80 : tb_okm 80 = true := tb_cut 80 [(0, 120), (120, 79)] rfl (List.forall_mem_cons.mpr ⟨tb_o80_0, List.forall_mem_cons.mpr ⟨tb_o80_120, fun _ h => absurd h List.not_mem_nil⟩⟩)
theorem tb_o81 : tb_okm 81 = true := by decide +kernel
theorem tb_o82 : tb_okm 82 = true := by decide +kernel
theorem tb_o83 : tb_okm 83 = true := by decide +kernel
theorem tb_o84 : tb_okm 84 = true := by decide +kernel
theorem tb_o85 : tb_okm 85 = true := by decide +kernel
theorem tb_o86 : tb_okm 86 = true := by decide +kernel
theorem tb_o87 : tb_okm 87 = true := by decide +kernel
theorem tb_o88 : tb_okm 88 = true := by decide +kernel
theorem tb_o89 : tb_okm 89 = true := by decide +kernel
theorem tb_o90 : tb_okm 90 = true := by decide +kernel
theorem tb_o91 : tb_okm 91 = true := by decide +kernel
theorem tb_o92 : tb_okm 92 = true := by decide +kernel
theorem tb_o93 : tb_okm 93 = true := by decide +kernel
theorem tb_o94 : tb_okm 94 = true := by decide +kernel
theorem tb_o95 : tb_okm 95 = true := by decide +kernel
theorem tb_o96 : tb_okm 96 = true := by decide +kernel
theorem tb_o97 : tb_okm 97 = true := by decide +kernel
theorem tb_o98_0 : (List.range' 0 120).all (tb_okp 98) = true := by decide +kernel
theorem tb_o98_120 : (List.range' 120 101).all (tb_okp 98) = true := by decide +kernel
theorem tb_o98 : tb_okm 98 = true := tb_cut 98 [(0, 120), (120, 101)] rfl (List.forall_mem_cons.mpr ⟨tb_o98_0, List.forall_mem_cons.mpr ⟨tb_o98_120, fun _ h => absurd h List.not_mem_nil⟩⟩)
theorem tb_o99 : tb_okm 99 = true := by decide +kernel
theorem tb_o100 : tb_okm 100 = true := by decide +kernel
theorem tb_o101 : tb_okm 101 = true := by decide +kernel
theorem tb_o102 : tb_okm 102 = true := by decide +kernel
theorem tb_o103 : tb_okm 103 = true := by decide +kernel
theorem tb_o104 : tb_okm 104 = true := by decide +kernel
theorem tb_o105 : tb_okm 105 = true := by decide +kernel
theorem tb_o106 : tb_okm 106 = true := by decide +kernel
theorem tb_o107 : tb_okm 107 = true := by decide +kernel
theorem tb_o108 : tb_okm 108 = true := by decide +kernel
theorem tb_o109 : tb_okm 109 = true := by decide +kernel
theorem tb_o110 : tb_okm 110 = true := by decide +kernel
theorem tb_o111 : tb_okm 111 = true := by decide +kernel
theorem tb_o112 : tb_okm 112 = true := by decide +kernel
theorem tb_o113 : tb_okm 113 = true := by decide +kernel
theorem tb_o114 : tb_okm 114 = true := by decide +kernel
theorem tb_o115 : tb_okm 115 = true := by decide +kernel
theorem tb_o116 : tb_okm 116 = true := by decide +kernel
theorem tb_o117 : tb_okm 117 = true := by decide +kernel
theorem tb_o118 : tb_okm 118 = true := by decide +kernel
theorem tb_o119 : tb_okm 119 = true := by decide +kernel
theorem tb_o120 : tb_okm 120 = true := by decide +kernel
theorem tb_o121 : tb_okm 121 = true := by decide +kernel
theorem tb_o122_0 : (List.range' 0 120).all (tb_okp 122) = true := by decide +kernel
theorem tb_o122_120 : (List.range' 120 120).all (tb_okp 122) = true := by decide +kernel
theorem tb_o122_240 : (List.range' 240 120).all (tb_okp 122) = true := by decide +kernel
theorem tb_o122_360 : (List.range' 360 120).all (tb_okp 122) = true := by decide +kernel
theorem tb_o122_480 : (List.range' 480 120).all (tb_okp 122) = true := by decide +kernel
theorem tb_o122_600 : (List.range' 600 120).all (tb_okp 122) = true := by decide +kernel
theorem tb_o122_720 : (List.range' 720 120).all (tb_okp 122) = true := by decide +kernel
theorem tb_o122_840 : (List.range' 840 120).all (tb_okp 122) = true := by decide +kernel
theorem tb_o122_960 : (List.range' 960 120).all (tb_okp 122) = true := by decide +kernel
theorem tb_o122_1080 : (List.range' 1080 73).all (tb_okp 122) = true := by decide +kernel
theorem tb_o122 : tb_okm 122 = true := tb_cut 122 [(0, 120), (120, 120), (240, 120), (360, 120), (480, 120), (600, 120), (720, 120), (840, 120), (960, 120), (1080, 73)] rfl (List.forall_mem_cons.mpr ⟨tb_o122_0, List.forall_mem_cons.mpr ⟨tb_o122_120, List.forall_mem_cons.mpr ⟨tb_o122_240, List.forall_mem_cons.mpr ⟨tb_o122_360, List.forall_mem_cons.mpr ⟨tb_o122_480, List.forall_mem_cons.mpr ⟨tb_o122_600, List.forall_mem_cons.mpr ⟨tb_o122_720, List.forall_mem_cons.mpr ⟨tb_o122_840, List.forall_mem_cons.mpr ⟨tb_o122_960, List.forall_mem_cons.mpr ⟨tb_o122_1080, fun _ h => absurd h List.not_mem_nil⟩⟩⟩⟩⟩⟩⟩⟩⟩⟩)
theorem tb_o123_0 : (List.range' 0 120).all (tb_okp 123) = true := by decide +kernel
theorem tb_o123_120 : (List.range' 120 53).all (tb_okp 123) = true := by decide +kernel
theorem tb_o123 : tb_okm 123 = true := tb_cut 123 [(0, 120), (120, 53)] rfl (List.forall_mem_cons.mpr ⟨tb_o123_0, List.forall_mem_cons.mpr ⟨tb_o123_120, fun _ h => absurd h List.not_mem_nil⟩⟩)
theorem tb_o124_0 : (List.range' 0 120).all (tb_okp 124) = true := by decide +kernel
theorem tb_o124_120 : (List.range' 120 120).all (tb_okp 124) = true := by decide +kernel
theorem tb_o124_240 : (List.range' 240 120).all (tb_okp 124) = true := by decide +kernel
theorem tb_o124_360 : (List.range' 360 44).all (tb_okp 124) = true := by decide +kernel
theorem tb_o124 : tb_okm 124 = true := tb_cut 124 [(0, 120), (120, 120), (240, 120), (360, 44)] rfl (List.forall_mem_cons.mpr ⟨tb_o124_0, List.forall_mem_cons.mpr ⟨tb_o124_120, List.forall_mem_cons.mpr ⟨tb_o124_240, List.forall_mem_cons.mpr ⟨tb_o124_360, fun _ h => absurd h List.not_mem_nil⟩⟩⟩⟩)
theorem tb_o125 : tb_okm 125 = true := by decide +kernel
theorem tb_o126 : tb_okm 126 = true := by decide +kernel
theorem tb_o127_0 : (List.range' 0 120).all (tb_okp 127) = true := by decide +kernel
theorem tb_o127_120 : (List.range' 120 120).all (tb_okp 127) = true := by decide +kernel
theorem tb_o127_240 : (List.range' 240 26).all (tb_okp 127) = true := by decide +kernel
theorem tb_o127 : tb_okm 127 = true := tb_cut 127 [(0, 120), (120, 120), (240, 26)] rfl (List.forall_mem_cons.mpr ⟨tb_o127_0, List.forall_mem_cons.mpr ⟨tb_o127_120, List.forall_mem_cons.mpr ⟨tb_o127_240, fun _ h => absurd h List.not_mem_nil⟩⟩⟩)
theorem tb_o128 : tb_okm 128 = true := by decide +kernel
theorem tb_o129 : tb_okm 129 = true := by decide +kernel
theorem tb_o130 : tb_okm 130 = true := by decide +kernel
theorem tb_o131 : tb_okm 131 = true := by decide +kernel
theorem tb_o132 : tb_okm 132 = true := by decide +kernel
theorem tb_o133 : tb_okm 133 = true := by decide +kernel
theorem tb_o134 : tb_okm 134 = true := by decide +kernel
theorem tb_o135 : tb_okm 135 = true := by decide +kernel
theorem tb_o136 : tb_okm 136 = true := by decide +kernel
theorem tb_o137 : tb_okm 137 = true := by decide +kernel
theorem tb_o138 : tb_okm 138 = true := by decide +kernel
theorem tb_o139 : tb_okm 139 = true := by decide +kernel
theorem tb_o140 : tb_okm 140 = true := by decide +kernel
theorem tb_o141 : tb_okm 141 = true := by decide +kernel
theorem tb_o142_0 : (List.range' 0 120).all (tb_okp 142) = true := by decide +kernel
theorem tb_o142_120 : (List.range' 120 84).all (tb_okp 142) = true := by decide +kernel
theorem tb_o142 : tb_okm 142 = true := tb_cut 142 [(0, 120), (120, 84)] rfl (List.forall_mem_cons.mpr ⟨tb_o142_0, List.forall_mem_cons.mpr ⟨tb_o142_120, fun _ h => absurd h List.not_mem_nil⟩⟩)
theorem tb_o143 : tb_okm 143 = true := by decide +kernel
theorem tb_o144 : tb_okm 144 = true := by decide +kernel
theorem tb_o145 : tb_okm 145 = true := by decide +kernel
theorem tb_o146 : tb_okm 146 = true := by decide +kernel
theorem tb_o147 : tb_okm 147 = true := by decide +kernel
theorem tb_o148 : tb_okm 148 = true := by decide +kernel
theorem tb_o149 : tb_okm 149 = true := by decide +kernel
theorem tb_o150 : tb_okm 150 = true := by decide +kernel
theorem tb_o151_0 : (List.range' 0 120).all (tb_okp 151) = true := by decide +kernel
theorem tb_o151_120 : (List.range' 120 56).all (tb_okp 151) = true := by decide +kernel
theorem tb_o151 : tb_okm 151 = true := tb_cut 151 [(0, 120), (120, 56)] rfl (List.forall_mem_cons.mpr ⟨tb_o151_0, List.forall_mem_cons.mpr ⟨tb_o151_120, fun _ h => absurd h List.not_mem_nil⟩⟩)
theorem tb_o152 : tb_okm 152 = true := by decide +kernel
theorem tb_o153 : tb_okm 153 = true := by decide +kernel
theorem tb_o154 : tb_okm 154 = true := by decide +kernel
theorem tb_o155 : tb_okm 155 = true := by decide +kernel
theorem tb_o156_0 : (List.range' 0 120).all (tb_okp 156) = true := by decide +kernel
theorem tb_o156_120 : (List.range' 120 53).all (tb_okp 156) = true := by decide +kernel
theorem tb_o156 : tb_okm 156 = true := tb_cut 156 [(0, 120), (120, 53)] rfl (List.forall_mem_cons.mpr ⟨tb_o156_0, List.forall_mem_cons.mpr ⟨tb_o156_120, fun _ h => absurd h List.not_mem_nil⟩⟩)
theorem tb_o157 : tb_okm 157 = true := by decide +kernel
theorem tb_o158 : tb_okm 158 = true := by decide +kernel
theorem tb_o159 : tb_okm 159 = true := by decide +kernel
theorem tb_o160 : tb_okm 160 = true := by decide +kernel
theorem tb_o161 : tb_okm 161 = true := by decide +kernel
theorem tb_o162 : tb_okm 162 = true := by decide +kernel
theorem tb_o163 : tb_okm 163 = true := by decide +kernel
theorem tb_o164 : tb_okm 164 = true := by decide +kernel
theorem tb_o165 : tb_okm 165 = true := by decide +kernel
theorem tb_o166 : tb_okm 166 = true := by decide +kernel
theorem tb_o167_0 : (List.range' 0 120).all (tb_okp 167) = true := by decide +kernel
theorem tb_o167_120 : (List.range' 120 49).all (tb_okp 167) = true := by decide +kernel
theorem tb_o167 : tb_okm 167 = true := tb_cut 167 [(0, 120), (120, 49)] rfl (List.forall_mem_cons.mpr ⟨tb_o167_0, List.forall_mem_cons.mpr ⟨tb_o167_120, fun _ h => absurd h List.not_mem_nil⟩⟩)
theorem tb_o168 : tb_okm 168 = true := by decide +kernel
theorem tb_o169 : tb_okm 169 = true := by decide +kernel
theorem tb_o170_0 : (List.range' 0 120).all (tb_okp 170) = true := by decide +kernel
theorem tb_o170_120 : (List.range' 120 84).all (tb_okp 170) = true := by decide +kernel
theorem tb_o170 : tb_okm 170 = true := tb_cut 170 [(0, 120), (120, 84)] rfl (List.forall_mem_cons.mpr ⟨tb_o170_0, List.forall_mem_cons.mpr ⟨tb_o170_120, fun _ h => absurd h List.not_mem_nil⟩⟩)
theorem tb_o171 : tb_okm 171 = true := by decide +kernel
theorem tb_o172 : tb_okm 172 = true := by decide +kernel
theorem tb_o173 : tb_okm 173 = true := by decide +kernel
theorem tb_o174 : tb_okm 174 = true := by decide +kernel
theorem tb_o175 : tb_okm 175 = true := by decide +kernel
theorem tb_o176 : tb_okm 176 = true := by decide +kernel
theorem tb_o177 : tb_okm 177 = true := by decide +kernel
theorem tb_o178 : tb_okm 178 = true := by decide +kernel
theorem tb_o179 : tb_okm 179 = true := by decide +kernel
theorem tb_o180 : tb_okm 180 = true := by decide +kernel
theorem tb_o181 : tb_okm 181 = true := by decide +kernel
theorem tb_o182 : tb_okm 182 = true := by decide +kernel
theorem tb_o183 : tb_okm 183 = true := by decide +kernel
theorem tb_o184 : tb_okm 184 = true := by decide +kernel
theorem tb_o185 : tb_okm 185 = true := by decide +kernel
theorem tb_o186 : tb_okm 186 = true := by decide +kernel
theorem tb_o187_0 : (List.range' 0 120).all (tb_okp 187) = true := by decide +kernel
theorem tb_o187_120 : (List.range' 120 120).all (tb_okp 187) = true := by decide +kernel
theorem tb_o187_240 : (List.range' 240 10).all (tb_okp 187) = true := by decide +kernel
theorem tb_o187 : tb_okm 187 = true := tb_cut 187 [(0, 120), (120, 120), (240, 10)] rfl (List.forall_mem_cons.mpr ⟨tb_o187_0, List.forall_mem_cons.mpr ⟨tb_o187_120, List.forall_mem_cons.mpr ⟨tb_o187_240, fun _ h => absurd h List.not_mem_nil⟩⟩⟩)
theorem tb_o188 : tb_okm 188 = true := by decide +kernel
theorem tb_o189 : tb_okm 189 = true := by decide +kernel
theorem tb_o190 : tb_okm 190 = true := by decide +kernel
theorem tb_o191 : tb_okm 191 = true := by decide +kernel
theorem tb_o192 : tb_okm 192 = true := by decide +kernel
theorem tb_o193 : tb_okm 193 = true := by decide +kernel
theorem tb_o194 : tb_okm 194 = true := by decide +kernel
theorem tb_o195 : tb_okm 195 = true := by decide +kernel
theorem tb_o196 : tb_okm 196 = true := by decide +kernel
theorem tb_o197 : tb_okm 197 = true := by decide +kernel
theorem tb_o198 : tb_okm 198 = true := by decide +kernel
theorem tb_o199 : tb_okm 199 = true := by decide +kernel
theorem tb_o200 : tb_okm 200 = true := by decide +kernel
theorem tb_o201_0 : (List.range' 0 120).all (tb_okp 201) = true := by decide +kernel
theorem tb_o201_120 : (List.range' 120 84).all (tb_okp 201) = true := by decide +kernel
theorem tb_o201 : tb_okm 201 = true := tb_cut 201 [(0, 120), (120, 84)] rfl (List.forall_mem_cons.mpr ⟨tb_o201_0, List.forall_mem_cons.mpr ⟨tb_o201_120, fun _ h => absurd h List.not_mem_nil⟩⟩)
theorem tb_o202_0 : (List.range' 0 120).all (tb_okp 202) = true := by decide +kernel
theorem tb_o202_120 : (List.range' 120 44).all (tb_okp 202) = true := by decide +kernel
theorem tb_o202 : tb_okm 202 = true := tb_cut 202 [(0, 120), (120, 44)] rfl (List.forall_mem_cons.mpr ⟨tb_o202_0, List.forall_mem_cons.mpr ⟨tb_o202_120, fun _ h => absurd h List.not_mem_nil⟩⟩)
theorem tb_o203 : tb_okm 203 = true := by decide +kernel
theorem tb_o204 : tb_okm 204 = true := by decide +kernel
def tb_oki (i : Nat) : Prop := tb_okm i = true
theorem tb_oki_0 : ∀ i ∈ [0, 1, 2, 3, 4, 5, 6, 7, 8, 9, 10, 11, 12, 13, 14, 15, 16, 17, 18, 19], tb_oki i := List.forall_mem_cons.mpr ⟨tb_o0, List.forall_mem_cons.mpr ⟨tb_o1, List.forall_mem_cons.mpr ⟨tb_o2, List.forall_mem_cons.mpr ⟨tb_o3, List.forall_mem_cons.mpr ⟨tb_o4, List.forall_mem_cons.mpr ⟨tb_o5, List.forall_mem_cons.mpr ⟨tb_o6, List.forall_mem_cons.mpr ⟨tb_o7, List.forall_mem_cons.mpr ⟨tb_o8, List.forall_mem_cons.mpr ⟨tb_o9, List.forall_mem_cons.mpr ⟨tb_o10, List.forall_mem_cons.mpr ⟨tb_o11, List.forall_mem_cons.mpr ⟨tb_o12, List.forall_mem_cons.mpr ⟨tb_o13, List.forall_mem_cons.mpr ⟨tb_o14, List.forall_mem_cons.mpr ⟨tb_o15, List.forall_mem_cons.mpr ⟨tb_o16, List.forall_mem_cons.mpr ⟨tb_o17, List.forall_mem_cons.mpr ⟨tb_o18, List.forall_mem_cons.mpr ⟨tb_o19, fun _ h => absurd h List.not_mem_nil⟩⟩⟩⟩⟩⟩⟩⟩⟩⟩⟩⟩⟩⟩⟩⟩⟩⟩⟩⟩
theorem tb_oki_20 : ∀ i ∈ [20, 21, 22, 23, 24, 25, 26, 27, 28, 29, 30, 31, 32, 33, 34, 35, 36, 37, 38, 39], tb_oki i := List.forall_mem_cons.mpr ⟨tb_o20, List.forall_mem_cons.mpr ⟨tb_o21, List.forall_mem_cons.mpr ⟨tb_o22, List.forall_mem_cons.mpr ⟨tb_o23, List.forall_mem_cons.mpr ⟨tb_o24, List.forall_mem_cons.mpr ⟨tb_o25, List.forall_mem_cons.mpr ⟨tb_o26, List.forall_mem_cons.mpr ⟨tb_o27, List.forall_mem_cons.mpr ⟨tb_o28, List.forall_mem_cons.mpr ⟨tb_o29, List.forall_mem_cons.mpr ⟨tb_o30, List.forall_mem_cons.mpr ⟨tb_o31, List.forall_mem_cons.mpr ⟨tb_o32, List.forall_mem_cons.mpr ⟨tb_o33, List.forall_mem_cons.mpr ⟨tb_o34, List.forall_mem_cons.mpr ⟨tb_o35, List.forall_mem_cons.mpr ⟨tb_o36, List.forall_mem_cons.mpr ⟨tb_o37, List.forall_mem_cons.mpr ⟨tb_o38, List.forall_mem_cons.mpr ⟨tb_o39, fun _ h => absurd h List.not_mem_nil⟩⟩⟩⟩⟩⟩⟩⟩⟩⟩⟩⟩⟩⟩⟩⟩⟩⟩⟩⟩
theorem tb_oki_40 : ∀ i ∈ [40, 41, 42, 43, 44, 45, 46, 47, 48, 49, 50, 51, 52, 53, 54, 55, 56, 57, 58, 59], tb_oki i := List.forall_mem_cons.mpr ⟨tb_o40, List.forall_mem_cons.mpr ⟨tb_o41, List.forall_mem_cons.mpr ⟨tb_o42, List.forall_mem_cons.mpr ⟨tb_o43, List.forall_mem_cons.mpr ⟨tb_o44, List.forall_mem_cons.mpr ⟨tb_o45, List.forall_mem_cons.mpr ⟨tb_o46, List.forall_mem_cons.mpr ⟨tb_o47, List.forall_mem_cons.mpr ⟨tb_o48, List.forall_mem_cons.mpr ⟨tb_o49, List.forall_mem_cons.mpr ⟨tb_o50, List.forall_mem_cons.mpr ⟨tb_o51, List.forall_mem_cons.mpr ⟨tb_o52, List.forall_mem_cons.mpr ⟨tb_o53, List.forall_mem_cons.mpr ⟨tb_o54, List.forall_mem_cons.mpr ⟨tb_o55, List.forall_mem_cons.mpr ⟨tb_o56, List.forall_mem_cons.mpr ⟨tb_o57, List.forall_mem_cons.mpr ⟨tb_o58, List.forall_mem_cons.mpr ⟨tb_o59, fun _ h => absurd h List.not_mem_nil⟩⟩⟩⟩⟩⟩⟩⟩⟩⟩⟩⟩⟩⟩⟩⟩⟩⟩⟩⟩
theorem tb_oki_60 : ∀ i ∈ [60, 61, 62, 63, 64, 65, 66, 67, 68, 69, 70, 71, 72, 73, 74, 75, 76, 77, 78, 79], tb_oki i := List.forall_mem_cons.mpr ⟨tb_o60, List.forall_mem_cons.mpr ⟨tb_o61, List.forall_mem_cons.mpr ⟨tb_o62, List.forall_mem_cons.mpr ⟨tb_o63, List.forall_mem_cons.mpr ⟨tb_o64, List.forall_mem_cons.mpr ⟨tb_o65, List.forall_mem_cons.mpr ⟨tb_o66, List.forall_mem_cons.mpr ⟨tb_o67, List.forall_mem_cons.mpr ⟨tb_o68, List.forall_mem_cons.mpr ⟨tb_o69, List.forall_mem_cons.mpr ⟨tb_o70, List.forall_mem_cons.mpr ⟨tb_o71, List.forall_mem_cons.mpr ⟨tb_o72, List.forall_mem_cons.mpr ⟨tb_o73, List.forall_mem_cons.mpr ⟨tb_o74, List.forall_mem_cons.mpr ⟨tb_o75, List.forall_mem_cons.mpr ⟨tb_o76, List.forall_mem_cons.mpr ⟨tb_o77, List.forall_mem_cons.mpr ⟨tb_o78, List.forall_mem_cons.mpr ⟨tb_o79, fun _ h => absurd h List.not_mem_nil⟩⟩⟩⟩⟩⟩⟩⟩⟩⟩⟩⟩⟩⟩⟩⟩⟩⟩⟩⟩
theorem tb_oki_80 : ∀ i ∈ [80, 81, 82, 83, 84, 85, 86, 87, 88, 89, 90, 91, 92, 93, 94, 95, 96, 97, 98, 99], tb_oki i := List.forall_mem_cons.mpr ⟨tb_o80, List.forall_mem_cons.mpr ⟨tb_o81, List.forall_mem_cons.mpr ⟨tb_o82, List.forall_mem_cons.mpr ⟨tb_o83, List.forall_mem_cons.mpr ⟨tb_o84, List.forall_mem_cons.mpr ⟨tb_o85, List.forall_mem_cons.mpr ⟨tb_o86, List.forall_mem_cons.mpr ⟨tb_o87, List.forall_mem_cons.mpr ⟨tb_o88, List.forall_mem_cons.mpr ⟨tb_o89, List.forall_mem_cons.mpr ⟨tb_o90, List.forall_mem_cons.mpr ⟨tb_o91, List.forall_mem_cons.mpr ⟨tb_o92, List.forall_mem_cons.mpr ⟨tb_o93, List.forall_mem_cons.mpr ⟨tb_o94, List.forall_mem_cons.mpr ⟨tb_o95, List.forall_mem_cons.mpr ⟨tb_o96, List.forall_mem_cons.mpr ⟨tb_o97, List.forall_mem_cons.mpr ⟨tb_o98, List.forall_mem_cons.mpr ⟨tb_o99, fun _ h => absurd h List.not_mem_nil⟩⟩⟩⟩⟩⟩⟩⟩⟩⟩⟩⟩⟩⟩⟩⟩⟩⟩⟩⟩
theorem tb_oki_100 : ∀ i ∈ [100, 101, 102, 103, 104, 105, 106, 107, 108, 109, 110, 111, 112, 113, 114, 115, 116, 117, 118, 119], tb_oki i := List.forall_mem_cons.mpr ⟨tb_o100, List.forall_mem_cons.mpr ⟨tb_o101, List.forall_mem_cons.mpr ⟨tb_o102, List.forall_mem_cons.mpr ⟨tb_o103, List.forall_mem_cons.mpr ⟨tb_o104, List.forall_mem_cons.mpr ⟨tb_o105, List.forall_mem_cons.mpr ⟨tb_o106, List.forall_mem_cons.mpr ⟨tb_o107, List.forall_mem_cons.mpr ⟨tb_o108, List.forall_mem_cons.mpr ⟨tb_o109, List.forall_mem_cons.mpr ⟨tb_o110, List.forall_mem_cons.mpr ⟨tb_o111, List.forall_mem_cons.mpr ⟨tb_o112, List.forall_mem_cons.mpr ⟨tb_o113, List.forall_mem_cons.mpr ⟨tb_o114, List.forall_mem_cons.mpr ⟨tb_o115, List.forall_mem_cons.mpr ⟨tb_o116, List.forall_mem_cons.mpr ⟨tb_o117, List.forall_mem_cons.mpr ⟨tb_o118, List.forall_mem_cons.mpr ⟨tb_o119, fun _ h => absurd h List.not_mem_nil⟩⟩⟩⟩⟩⟩⟩⟩⟩⟩⟩⟩⟩⟩⟩⟩⟩⟩⟩⟩
theorem tb_oki_120 : ∀ i ∈ [120, 121, 122, 123, 124, 125, 126, 127, 128, 129, 130, 131, 132, 133, 134, 135, 136, 137, 138, 139], tb_oki i := List.forall_mem_cons.mpr ⟨tb_o120, List.forall_mem_cons.mpr ⟨tb_o121, List.forall_mem_cons.mpr ⟨tb_o122, List.forall_mem_cons.mpr ⟨tb_o123, List.forall_mem_cons.mpr ⟨tb_o124, List.forall_mem_cons.mpr ⟨tb_o125, List.forall_mem_cons.mpr ⟨tb_o126, List.forall_mem_cons.mpr ⟨tb_o127, List.forall_mem_cons.mpr ⟨tb_o128, List.forall_mem_cons.mpr ⟨tb_o129, List.forall_mem_cons.mpr ⟨tb_o130, List.forall_mem_cons.mpr ⟨tb_o131, List.forall_mem_cons.mpr ⟨tb_o132, List.forall_mem_cons.mpr ⟨tb_o133, List.forall_mem_cons.mpr ⟨tb_o134, List.forall_mem_cons.mpr ⟨tb_o135, List.forall_mem_cons.mpr ⟨tb_o136, List.forall_mem_cons.mpr ⟨tb_o137, List.forall_mem_cons.mpr ⟨tb_o138, List.forall_mem_cons.mpr ⟨tb_o139, fun _ h => absurd h List.not_mem_nil⟩⟩⟩⟩⟩⟩⟩⟩⟩⟩⟩⟩⟩⟩⟩⟩⟩⟩⟩⟩
theorem tb_oki_140 : ∀ i ∈ [140, 141, 142, 143, 144, 145, 146, 147, 148, 149, 150, 151, 152, 153, 154, 155, 156, 157, 158, 159], tb_oki i := List.forall_mem_cons.mpr ⟨tb_o140, List.forall_mem_cons.mpr ⟨tb_o141, List.forall_mem_cons.mpr ⟨tb_o142, List.forall_mem_cons.mpr ⟨tb_o143, List.forall_mem_cons.mpr ⟨tb_o144, List.forall_mem_cons.mpr ⟨tb_o145, List.forall_mem_cons.mpr ⟨tb_o146, List.forall_mem_cons.mpr ⟨tb_o147, List.forall_mem_cons.mpr ⟨tb_o148, List.forall_mem_cons.mpr ⟨tb_o149, List.forall_mem_cons.mpr ⟨tb_o150, List.forall_mem_cons.mpr ⟨tb_o151, List.forall_mem_cons.mpr ⟨tb_o152, List.forall_mem_cons.mpr ⟨tb_o153, List.forall_mem_cons.mpr ⟨tb_o154, List.forall_mem_cons.mpr ⟨tb_o155, List.forall_mem_cons.mpr ⟨tb_o156, List.forall_mem_cons.mpr ⟨tb_o157, List.forall_mem_cons.mpr ⟨tb_o158, List.forall_mem_cons.mpr ⟨tb_o159, fun _ h => absurd h List.not_mem_nil⟩⟩⟩⟩⟩⟩⟩⟩⟩⟩⟩⟩⟩⟩⟩⟩⟩⟩⟩⟩
theorem tb_oki_160 : ∀ i ∈ [160, 161, 162, 163, 164, 165, 166, 167, 168, 169, 170, 171, 172, 173, 174, 175, 176, 177, 178, 179], tb_oki i := List.forall_mem_cons.mpr ⟨tb_o160, List.forall_mem_cons.mpr ⟨tb_o161, List.forall_mem_cons.mpr ⟨tb_o162, List.forall_mem_cons.mpr ⟨tb_o163, List.forall_mem_cons.mpr ⟨tb_o164, List.forall_mem_cons.mpr ⟨tb_o165, List.forall_mem_cons.mpr ⟨tb_o166, List.forall_mem_cons.mpr ⟨tb_o167, List.forall_mem_cons.mpr ⟨tb_o168, List.forall_mem_cons.mpr ⟨tb_o169, List.forall_mem_cons.mpr ⟨tb_o170, List.forall_mem_cons.mpr ⟨tb_o171, List.forall_mem_cons.mpr ⟨tb_o172, List.forall_mem_cons.mpr ⟨tb_o173, List.forall_mem_cons.mpr ⟨tb_o174, List.forall_mem_cons.mpr ⟨tb_o175, List.forall_mem_cons.mpr ⟨tb_o176, List.forall_mem_cons.mpr ⟨tb_o177, List.forall_mem_cons.mpr ⟨tb_o178, List.forall_mem_cons.mpr ⟨tb_o179, fun _ h => absurd h List.not_mem_nil⟩⟩⟩⟩⟩⟩⟩⟩⟩⟩⟩⟩⟩⟩⟩⟩⟩⟩⟩⟩
theorem tb_oki_180 : ∀ i ∈ [180, 181, 182, 183, 184, 185, 186, 187, 188, 189, 190, 191, 192, 193, 194, 195, 196, 197, 198, 199], tb_oki i := List.forall_mem_cons.mpr ⟨tb_o180, List.forall_mem_cons.mpr ⟨tb_o181, List.forall_mem_cons.mpr ⟨tb_o182, List.forall_mem_cons.mpr ⟨tb_o183, List.forall_mem_cons.mpr ⟨tb_o184, List.forall_mem_cons.mpr ⟨tb_o185, List.forall_mem_cons.mpr ⟨tb_o186, List.forall_mem_cons.mpr ⟨tb_o187, List.forall_mem_cons.mpr ⟨tb_o188, List.forall_mem_cons.mpr ⟨tb_o189, List.forall_mem_cons.mpr ⟨tb_o190, List.forall_mem_cons.mpr ⟨tb_o191, List.forall_mem_cons.mpr ⟨tb_o192, List.forall_mem_cons.mpr ⟨tb_o193, List.forall_mem_cons.mpr ⟨tb_o194, List.forall_mem_cons.mpr ⟨tb_o195, List.forall_mem_cons.mpr ⟨tb_o196, List.forall_mem_cons.mpr ⟨tb_o197, List.forall_mem_cons.mpr ⟨tb_o198, List.forall_mem_cons.mpr ⟨tb_o199, fun _ h => absurd h List.not_mem_nil⟩⟩⟩⟩⟩⟩⟩⟩⟩⟩⟩⟩⟩⟩⟩⟩⟩⟩⟩⟩
theorem tb_oki_200 : ∀ i ∈ [200, 201, 202, 203, 204], tb_oki i := List.forall_mem_cons.mpr ⟨tb_o200, List.forall_mem_cons.mpr ⟨tb_o201, List.forall_mem_cons.mpr ⟨tb_o202, List.forall_mem_cons.mpr ⟨tb_o203, List.forall_mem_cons.mpr ⟨tb_o204, fun _ h => absurd h List.not_mem_nil⟩⟩⟩⟩⟩
theorem tb_oki_all : ∀ i, i < tb_n → tb_oki i := by
  intro i hi
  have hi : i < 205 := hi
  rcases Nat.lt_or_ge i 20 with h0 | h0
  · exact tb_oki_0 i (by simp only [List.mem_cons, List.not_mem_nil]; omega)
  rcases Nat.lt_or_ge i 40 with h20 | h20
  · exact tb_oki_20 i (by simp only [List.mem_cons, List.not_mem_nil]; omega)
  rcases Nat.lt_or_ge i 60 with h40 | h40
  · exact tb_oki_40 i (by simp only [List.mem_cons, List.not_mem_nil]; omega)
  rcases Nat.lt_or_ge i 80 with h60 | h60
  · exact tb_oki_60 i (by simp only [List.mem_cons, List.not_mem_nil]; omega)
  rcases Nat.lt_or_ge i 100 with h80 | h80
  · exact tb_oki_80 i (by simp only [List.mem_cons, List.not_mem_nil]; omega)
  rcases Nat.lt_or_ge i 120 with h100 | h100
  · exact tb_oki_100 i (by simp only [List.mem_cons, List.not_mem_nil]; omega)
  rcases Nat.lt_or_ge i 140 with h120 | h120
  · exact tb_oki_120 i (by simp only [List.mem_cons, List.not_mem_nil]; omega)
  rcases Nat.lt_or_ge i 160 with h140 | h140
  · exact tb_oki_140 i (by simp only [List.mem_cons, List.not_mem_nil]; omega)
  rcases Nat.lt_or_ge i 180 with h160 | h160
  · exact tb_oki_160 i (by simp only [List.mem_cons, List.not_mem_nil]; omega)
  rcases Nat.lt_or_ge i 200 with h180 | h180
  · exact tb_oki_180 i (by simp only [List.mem_cons, List.not_mem_nil]; omega)
  exact tb_oki_200 i (by simp only [List.mem_cons, List.not_mem_nil]; omega)

