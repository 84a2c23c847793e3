/-! wb -/
variable {wb : Bool}
/-! NUMBERS: Ints, and the machine's ints and longs -/
theorem i3_toInt {x : Int} (h : am_in x) : (i3 x).toInt = x := Int32.toInt_ofInt_of_le (by have := h.1; omega) (by have := h.2; omega)
theorem i6_toInt {x : Int} (h : am_in64 x) : (i6 x).toInt = x := Int64.toInt_ofInt_of_le (by have := h.1; omega) (by have := h.2; omega)
theorem i3_of (x : Int32) : i3 x.toInt = x := Int32.ofInt_toInt x
theorem am_in_toInt (x : Int32) : am_in x.toInt := ⟨by have := x.le_toInt; omega, by have := x.toInt_lt; omega⟩
theorem i3_eq {x y : Int} (hx : am_in x) (hy : am_in y) : i3 x = i3 y ↔ x = y := ⟨fun h => by
  have := congrArg Int32.toInt h
  rwa [i3_toInt hx, i3_toInt hy] at this, fun h => by rw [h]⟩
theorem i3_lt {x y : Int} (hx : am_in x) (hy : am_in y) : i3 x < i3 y ↔ x < y := by rw [Int32.lt_iff_toInt_lt, i3_toInt hx, i3_toInt hy]
theorem i3_le {x y : Int} (hx : am_in x) (hy : am_in y) : i3 x ≤ i3 y ↔ x ≤ y := by rw [Int32.le_iff_toInt_le, i3_toInt hx, i3_toInt hy]
theorem i3_add (x y : Int) : i3 x + i3 y = i3 (x + y) := (Int32.ofInt_add x y).symm
theorem i3_sub (x y : Int) : i3 x - i3 y = i3 (x - y) := (Int32.ofInt_sub x y).symm
theorem i3_mul (x y : Int) : i3 x * i3 y = i3 (x * y) := (Int32.ofInt_mul x y).symm
theorem i3_neg (x : Int) : - i3 x = i3 (-x) := (Int32.ofInt_neg x).symm
theorem i6_add (x y : Int) : i6 x + i6 y = i6 (x + y) := (Int64.ofInt_add x y).symm
theorem i6_sub (x y : Int) : i6 x - i6 y = i6 (x - y) := (Int64.ofInt_sub x y).symm
theorem i6_mul (x y : Int) : i6 x * i6 y = i6 (x * y) := (Int64.ofInt_mul x y).symm
theorem i6_neg (x : Int) : - i6 x = i6 (-x) := (Int64.ofInt_neg x).symm
theorem i3_zero : i3 0 = 0 := by decide +kernel
theorem i6_zero : i6 0 = 0 := by decide +kernel
theorem i3_ne0 {y : Int} (h : am_in y) (hy : y ≠ 0) : ¬ i3 y = 0 := fun q => hy ((i3_eq h (by omega)).mp (q.trans i3_zero.symm))
theorem i6_ne0 {y : Int} (h : am_in64 y) (hy : y ≠ 0) : ¬ i6 y = 0 := fun q => hy (by
  have := congrArg Int64.toInt (q.trans i6_zero.symm)
  rwa [i6_toInt h, i6_toInt (by omega)] at this)
theorem i3_div {x y : Int} (hx : am_in x) (hy : am_in y) : i3 x / i3 y = i3 (x.tdiv y) := by
  rw [← Int32.toInt_inj, Int32.toInt_div, i3_toInt hx, i3_toInt hy, Int32.toInt_ofInt]
theorem i6_div {x y : Int} (hx : am_in64 x) (hy : am_in64 y) : i6 x / i6 y = i6 (x.tdiv y) := by
  rw [← Int64.toInt_inj, Int64.toInt_div, i6_toInt hx, i6_toInt hy, Int64.toInt_ofInt]
theorem i3_rem {x y : Int} (hx : am_in x) (hy : am_in y) : i3 x - i3 x / i3 y * i3 y = i3 (x.tmod y) := by
  rw [i3_div hx hy, i3_mul, i3_sub]
  congr 1
  have := Int.tdiv_mul_add_tmod x y
  omega
theorem i6_rem {x y : Int} (hx : am_in64 x) (hy : am_in64 y) : i6 x - i6 x / i6 y * i6 y = i6 (x.tmod y) := by
  rw [i6_div hx hy, i6_mul, i6_sub]
  congr 1
  have := Int.tdiv_mul_add_tmod x y
  omega
theorem i3_clamp {x : Int} (h : am_in x) : (i3 x).toNatClampNeg = x.toNat := by
  show (i3 x).toInt.toNat = _
  rw [i3_toInt h]
theorem i3_vp {x : Int} {n : Nat} (hn : n < 2 ^ 31) (h : 0 ≤ x ∧ x < (n : Int)) : vp_in (i3 x) n := vp_in_iff.mpr (by rw [i3_toInt (by omega)]; exact h)
theorem i3_long {x : Int} (h : am_in x) : (i3 x).toInt64 = i6 x := by rw [← Int64.toInt_inj, Int32.toInt_toInt64, i3_toInt h, i6_toInt (by omega)]
theorem i3_bm (x : Int) : i3 (am_bm x) = i3 x := i3_of _
theorem am_bm_in (x : Int) : am_in (am_bm x) := am_in_toInt _
theorem am_bm_of {x : Int} (h : am_in x) : am_bm x = x := i3_toInt h
theorem i3_shl1 (n : Nat) (hn : n < 32) (z : Int32) : z <<< (i3 (n : Int) &&& 31) = z * i3 ((2 : Int) ^ n) := by
  have hy : ∀ n : Nat, n < 32 → (i3 (n : Int) &&& 31) = i3 (n : Int) := by decide +kernel
  have e1 : ∀ n : Nat, n < 32 → (i3 (n : Int)).toBitVec.smod 32 = BitVec.ofNat 32 n := by decide +kernel
  have e2 : ∀ n : Nat, n < 32 → (i3 ((2 : Int) ^ n)).toBitVec = BitVec.twoPow 32 n := by decide +kernel
  rw [hy n hn]
  apply Int32.toBitVec.inj
  rw [Int32.toBitVec_shiftLeft, e1 n hn, Int32.toBitVec_mul, e2 n hn, BitVec.mul_twoPow_eq_shiftLeft]
  have e3 : (BitVec.ofNat 32 n).toNat = n := by simp; omega
  rw [BitVec.shiftLeft_eq', e3]
theorem i3_shl {x : Int} {y : Int} (h : 0 ≤ y ∧ y ≤ 31) : i3 x <<< (i3 y &&& 31) = i3 (x * 2 ^ y.toNat) := by
  obtain ⟨n, rfl⟩ := Int.eq_ofNat_of_zero_le h.1
  rw [i3_shl1 n (by omega), i3_mul]
  rfl
/-! THE WORLD: the list of cells that a memory stands for -/
def am_fv (ad : Nat → Nat → Nat) (M : am_M) (i : Nat) (q : Nat × (Nat × Nat)) : Value := match q.1 with
  | 0 => .int (i3 (M q.2.1 i 0))
  | 1 => .int (i3 (M q.2.1 i 0))
  | 2 => .long (i6 (M q.2.1 i 0))
  | 3 => .ref (ad q.2.1 q.2.2)
  | _ => .ref (ad q.2.1 i)
def am_flds (ad : Nat → Nat → Nat) (M : am_M) (k i : Nat) : List Value := (List.range (am_nf k)).map fun sl => am_fv ad M i (am_slot k sl)
def am_cell (ad : Nat → Nat → Nat) (ca : Nat → Nat → ClassId) (M : am_M) (k i : Nat) : va_E :=
  if k < 9 then .inr (k, am_flds ad M k i) else if k < 12 then .inl (ca k i, (am_rlen k, .inr (.inr (.inr (.inr fun j => some (ad (am_rto k) j)))))) else .inl (ca k i, (am_len k, .inl fun j => i3 (M k i j)))
def am_W (wb : Bool) (ad : Nat → Nat → Nat) (ca : Nat → Nat → ClassId) (M : am_M) : va_W := (List.range (am_NC wb)).map fun q => (ad (am_kq q) (am_iq q), am_cell ad ca M (am_kq q) (am_iq q))
def am_pos (k i : Nat) : Nat := am_off k + i
theorem am_cnt6 : ∀ k, k < 42 → am_cnt wb k ≤ 6 := by cases wb <;> decide +kernel
theorem am_pos_all : ∀ k, k < 42 → ∀ i, i < 6 → i < am_cnt wb k → am_pos k i < am_NC wb ∧ am_kq (am_pos k i) = k ∧ am_iq (am_pos k i) = i := by cases wb <;> decide +kernel
theorem am_qs_all : ∀ q, q < am_NC wb → am_kq q < 42 ∧ am_iq q < am_cnt wb (am_kq q) ∧ am_pos (am_kq q) (am_iq q) = q := by cases wb <;> decide +kernel
theorem am_slot_all : ∀ k, k < 9 → ∀ sl, sl < 40 → sl < am_nf k → (am_slot k sl).1 ≤ 4 ∧ ((am_slot k sl).1 ≤ 2 → (am_slot k sl).2.1 = 100 + 40 * k + sl) := by decide +kernel
theorem am_nf40 : ∀ k, k < 9 → am_nf k ≤ 40 := by decide +kernel
theorem am_W_get {ad : Nat → Nat → Nat} {ca : Nat → Nat → ClassId} {M : am_M} {k i : Nat} (hk : k < 42) (hi : i < am_cnt wb k) : (am_W wb ad ca M)[am_pos k i]? = some (ad k i, am_cell ad ca M k i) := by
  obtain ⟨h1, h2, h3⟩ := am_pos_all k hk i (Nat.lt_of_lt_of_le hi (am_cnt6 k hk)) hi
  simp only [am_W, List.getElem?_map, List.getElem?_range h1, Option.map_some, h2, h3]
theorem am_W_set {ad : Nat → Nat → Nat} {ca : Nat → Nat → ClassId} {M M' : am_M} {k i : Nat} (hk : k < 42) (hi : i < am_cnt wb k) (h : ∀ k' i', k' < 42 → ¬ (k' = k ∧ i' = i) → am_cell ad ca M' k' i' = am_cell ad ca M k' i') : (am_W wb ad ca M).set (am_pos k i) (ad k i, am_cell ad ca M' k i) = am_W wb ad ca M' := by
  obtain ⟨h1, h2, h3⟩ := am_pos_all k hk i (Nat.lt_of_lt_of_le hi (am_cnt6 k hk)) hi
  apply List.ext_getElem?
  intro q
  by_cases hq : q = am_pos k i
  · subst hq
    rw [List.getElem?_set_self (by simp [am_W]; exact h1), am_W_get hk hi]
  · rw [List.getElem?_set_ne (Ne.symm hq)]
    simp only [am_W, List.getElem?_map]
    by_cases hl : q < am_NC wb
    · obtain ⟨g1, g2, g3⟩ := am_qs_all q hl
      rw [List.getElem?_range hl]
      simp only [Option.map_some]
      rw [h _ _ g1]
      rintro ⟨e1, e2⟩
      rw [e1, e2] at g3
      exact hq g3.symm
    · rw [List.getElem?_eq_none (by simp; omega)]
      rfl
theorem am_wr_ne {M : am_M} {v i j v' i' j' : Nat} {x : Int} (h : v' ≠ v ∨ i' ≠ i ∨ j' ≠ j) : am_wr M v i j x v' i' j' = M v' i' j' := by
  unfold am_wr
  have : (Nat.beq v' v && (Nat.beq j' j && Nat.beq i' i)) = false := by
    cases hb : (Nat.beq v' v && (Nat.beq j' j && Nat.beq i' i)) with
    | false => rfl
    | true =>
      simp only [Bool.and_eq_true] at hb
      have h1 := Nat.eq_of_beq_eq_true hb.1
      have h2 := Nat.eq_of_beq_eq_true hb.2.1
      have h3 := Nat.eq_of_beq_eq_true hb.2.2
      omega
  rw [this]
  rfl
theorem am_wr_eq {M : am_M} {v i j : Nat} {x : Int} : am_wr M v i j x v i j = x := by
  unfold am_wr
  simp
theorem am_cell_obj {ad : Nat → Nat → Nat} {ca : Nat → Nat → ClassId} {M : am_M} {k i : Nat} (hk : k < 9) : am_cell ad ca M k i = .inr (k, am_flds ad M k i) := by
  unfold am_cell
  rw [if_pos hk]
theorem am_cell_ra {ad : Nat → Nat → Nat} {ca : Nat → Nat → ClassId} {M : am_M} {k i : Nat} (h1 : 9 ≤ k) (h2 : k < 12) : am_cell ad ca M k i = .inl (ca k i, (am_rlen k, .inr (.inr (.inr (.inr fun j => some (ad (am_rto k) j)))))) := by
  unfold am_cell
  rw [if_neg (by omega), if_pos h2]
theorem am_cell_ia {ad : Nat → Nat → Nat} {ca : Nat → Nat → ClassId} {M : am_M} {k i : Nat} (h1 : 12 ≤ k) : am_cell ad ca M k i = .inl (ca k i, (am_len k, .inl fun j => i3 (M k i j))) := by
  unfold am_cell
  rw [if_neg (by omega), if_neg (by omega)]
theorem am_fv_wr {ad : Nat → Nat → Nat} {M : am_M} {v i j i' : Nat} {x : Int} {q : Nat × (Nat × Nat)} (h : q.1 ≤ 2 → v ≠ q.2.1 ∨ i' ≠ i) : am_fv ad (am_wr M v i j x) i' q = am_fv ad M i' q := by
  obtain ⟨t, a, b⟩ := q
  match t, h with
  | 0, h | 1, h | 2, h =>
    simp only [am_fv]
    rw [am_wr_ne]
    rcases h (by simp) with h | h
    · exact Or.inl (Ne.symm h)
    · exact Or.inr (Or.inl h)
  | 3, _ => rfl
  | t + 4, _ => rfl
theorem am_cell_wr {ad : Nat → Nat → Nat} {ca : Nat → Nat → ClassId} {M : am_M} {v i j k' i' : Nat} {x : Int} (hk : k' < 42) (ho : ∀ sl, k' < 9 → sl < 40 → v ≠ 100 + 40 * k' + sl ∨ i' ≠ i) (ha : 12 ≤ k' → v ≠ k' ∨ i' ≠ i) : am_cell ad ca (am_wr M v i j x) k' i' = am_cell ad ca M k' i' := by
  by_cases h1 : k' < 9
  · rw [am_cell_obj h1, am_cell_obj h1]
    congr 2
    apply List.map_congr_left
    intro sl hsl
    have hs := List.mem_range.mp hsl
    have h40 : sl < 40 := Nat.lt_of_lt_of_le hs (am_nf40 k' h1)
    refine am_fv_wr fun ht => ?_
    rw [(am_slot_all k' h1 sl h40 hs).2 ht]
    exact ho sl h1 h40
  · by_cases h2 : k' < 12
    · rw [am_cell_ra (by omega) h2, am_cell_ra (by omega) h2]
    · rw [am_cell_ia (by omega), am_cell_ia (by omega)]
      have e : (fun j' => i3 (am_wr M v i j x k' i' j')) = fun j' => i3 (M k' i' j') := by
        funext j'
        rw [am_wr_ne]
        rcases ha (by omega) with h | h
        · exact Or.inl (Ne.symm h)
        · exact Or.inr (Or.inl h)
      rw [e]
/-- a field is written -/
theorem am_W_putf {ad : Nat → Nat → Nat} {ca : Nat → Nat → ClassId} {M : am_M} {k i sl t v b : Nat} {x : Int} (hk : k < 9) (hi : i < am_cnt wb k) (hs : sl < am_nf k) (hsl : am_slot k sl = (t, v, b)) (ht : t ≤ 2) :
    (am_W wb ad ca M).set (am_pos k i) (ad k i, .inr (k, (am_flds ad M k i).set sl (if t = 2 then .long (i6 x) else .int (i3 x)))) = am_W wb ad ca (am_wr M v i 0 x) := by
  have h40 : sl < 40 := Nat.lt_of_lt_of_le hs (am_nf40 k hk)
  have hv : v = 100 + 40 * k + sl := by
    have := (am_slot_all k hk sl h40 hs).2
    rw [hsl] at this
    exact this ht
  have e : am_cell ad ca (am_wr M v i 0 x) k i = .inr (k, (am_flds ad M k i).set sl (if t = 2 then .long (i6 x) else .int (i3 x))) := by
    rw [am_cell_obj hk]
    congr 2
    apply List.ext_getElem?
    intro n
    by_cases hn : n = sl
    · subst hn
      rw [List.getElem?_set_self (by simp [am_flds]; exact hs)]
      simp only [am_flds, List.getElem?_map, List.getElem?_range hs, Option.map_some, hsl]
      match t, ht with
      | 0, _ | 1, _ | 2, _ => simp [am_fv, am_wr_eq]
    · rw [List.getElem?_set_ne (Ne.symm hn)]
      simp only [am_flds, List.getElem?_map]
      by_cases hl : n < am_nf k
      · rw [List.getElem?_range hl]
        simp only [Option.map_some]
        congr 1
        refine am_fv_wr fun ht' => Or.inl ?_
        rw [(am_slot_all k hk n (Nat.lt_of_lt_of_le hl (am_nf40 k hk)) hl).2 ht', hv]
        omega
      · rw [List.getElem?_eq_none (by simp; omega)]
        rfl
  rw [← e]
  refine am_W_set (by omega) hi fun k' i' hk' hne => am_cell_wr hk' (fun sl' h1 h2 => ?_) (fun h1 => Or.inl ?_)
  · by_cases hkk : k' = k
    · exact Or.inr fun hii => hne ⟨hkk, hii⟩
    · exact Or.inl (by rw [hv]; omega)
  · rw [hv]; omega
/-- an int array is written -/
theorem am_W_puta {ad : Nat → Nat → Nat} {ca : Nat → Nat → ClassId} {M : am_M} {k i j : Nat} {x : Int} (h1 : 12 ≤ k) (h2 : k < 42) (hi : i < am_cnt wb k) :
    (am_W wb ad ca M).set (am_pos k i) (ad k i, .inl (ca k i, (am_len k, .inl (upd (fun j => i3 (M k i j)) j (i3 x))))) = am_W wb ad ca (am_wr M k i j x) := by
  have e : am_cell ad ca (am_wr M k i j x) k i = .inl (ca k i, (am_len k, .inl (upd (fun j => i3 (M k i j)) j (i3 x)))) := by
    rw [am_cell_ia h1]
    congr 3
    congr 1
    funext j'
    by_cases hj : j' = j
    · subst hj
      simp [upd, am_wr_eq]
    · simp only [upd, hj]
      rw [am_wr_ne (Or.inr (Or.inr hj))]
      simp
  rw [← e]
  refine am_W_set h2 hi fun k' i' hk' hne => am_cell_wr hk' (fun sl' h3 h4 => Or.inl (by omega)) (fun h3 => ?_)
  by_cases hkk : k' = k
  · exact Or.inr fun hii => hne ⟨hkk, hii⟩
  · exact Or.inl (Ne.symm hkk)
