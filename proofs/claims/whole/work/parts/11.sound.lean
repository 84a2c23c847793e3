/-! wb -/
variable {wb : Bool}
/-! SOUNDNESS: what the abstract machine reaches, the machine reaches -/
theorem tb_spec {i pc len : Nat} {ins : Instr} {ax : List Nat} (hi : i < tb_n) (h : tb_ft i pc = some (ins, (len, ax))) : decode (tb_cc i) pc = .ok (ins, len) ∧ tb_okx (tb_own i) pc len ins ax = true := by
  have hpc : pc < tb_len i := by
    cases hb : Nat.blt pc (tb_len i) with
    | true => exact Nat.blt_eq.mp hb
    | false => rw [tb_out_all i hi pc hb] at h; cases h
  have h1 := List.all_eq_true.mp (tb_oki_all i hi) pc (List.mem_range'_1.mpr ⟨Nat.zero_le _, by omega⟩)
  unfold tb_okp at h1
  rw [h] at h1
  simp only [Bool.and_eq_true, decide_eq_true_eq] at h1
  exact h1
def am_retOK (rt pc : Nat) (cc : ByteArray) (v : Option am_V) : Prop := match v with
  | none => rt = 0 ∧ decode cc pc = .ok (.return_, 1)
  | some (Sum.inl x) => (rt = 1 ∨ (rt = 2 ∧ (x = 0 ∨ x = 1)) ∨ (rt = 3 ∧ -128 ≤ x ∧ x ≤ 127) ∨ (rt = 4 ∧ 0 ≤ x ∧ x ≤ 65535)) ∧ decode cc pc = .ok (.ireturn, 1)
  | some (Sum.inr (Sum.inl _)) => rt = 5 ∧ decode cc pc = .ok (.lreturn, 1)
  | some (Sum.inr (Sum.inr none)) => rt = 6 ∧ decode cc pc = .ok (.areturn, 1)
  | some (Sum.inr (Sum.inr (some (k, _)))) => (rt = 6 ∧ k ≠ 54) ∧ decode cc pc = .ok (.areturn, 1)
theorem am_cond {b : Bool} {P : Prop} (h : bif b then P else False) : b = true ∧ P := by
  cases b
  · exact h.elim
  · exact ⟨rfl, h⟩
theorem am_condF {b : Bool} {P : Prop} (h : bif b then False else P) : b = false ∧ P := by
  cases b
  · exact ⟨rfl, h⟩
  · exact h.elim
theorem am_tr_ref {ad : Nat → Nat → Nat} {fm : Value} {k i : Nat} (h : Nat.beq k 54 = false) : am_tr ad fm (aR k i) = .ref (ad k i) := by simp [am_tr, h]
theorem am_ne54 {k : Nat} (h : k ≠ 54) : Nat.beq k 54 = false := by
  cases hq : Nat.beq k 54 with
  | false => rfl
  | true => exact absurd (Nat.eq_of_beq_eq_true hq) h
theorem am_len31 : ∀ k, k < 42 → am_len k < 2 ^ 31 := by decide +kernel
theorem am_rlen31 : ∀ k, k < 12 → am_rlen k < 2 ^ 31 := by decide +kernel
theorem am_stat31 : ∀ j, j < 3 → (am_stat j).length < 2 ^ 31 := by decide +kernel
theorem am_stat3 : ∀ j, ¬ j < 3 → am_stat j = [] := by
  intro j h
  unfold am_stat
  have h0 : Nat.beq j 0 = false := by cases hq : Nat.beq j 0 with
    | false => rfl
    | true => exact absurd (Nat.eq_of_beq_eq_true hq) (by omega)
  have h1 : Nat.beq j 1 = false := by cases hq : Nat.beq j 1 with
    | false => rfl
    | true => exact absurd (Nat.eq_of_beq_eq_true hq) (by omega)
  have h2 : Nat.beq j 2 = false := by cases hq : Nat.beq j 2 with
    | false => rfl
    | true => exact absurd (Nat.eq_of_beq_eq_true hq) (by omega)
  rw [h0, h1, h2]
  rfl
theorem am_text31 : ∀ j, j < 13 → (am_text j).length < 2 ^ 31 := by decide +kernel
theorem am_cells_nf : ∀ k, k < 9 → am_nf k = (tb_vc k).2.2 := by decide +kernel
def tb_ty (ci : Nat) : Nat → FieldType := if ci = 0 then tyX0 else if ci = 1 then tyX1 else if ci = 2 then tyX2 else if ci = 3 then tyX3 else if ci = 4 then tyX4 else if ci = 5 then tyX5 else if ci = 6 then tyX6 else if ci = 7 then tyX7 else tyX8
theorem tb_ty_ok : ∀ ci, ci < 9 → (∀ k, k < (tb_vc ci).2.2 → parseFieldDescriptor ((tb_vc ci).2.1 k).2.2.1 = some (tb_ty ci k)) ∧ (∀ a, a < (tb_vc ci).2.2 → ∀ b, b < (tb_vc ci).2.2 → a ≠ b → ((tb_vc ci).2.1 a).2.1 ≠ ((tb_vc ci).2.1 b).2.1) := by
  intro ci h
  match ci, h with
  | 0, _ => exact ⟨tyX0_ok, nmX0⟩
  | 1, _ => exact ⟨tyX1_ok, nmX1⟩
  | 2, _ => exact ⟨tyX2_ok, nmX2⟩
  | 3, _ => exact ⟨tyX3_ok, nmX3⟩
  | 4, _ => exact ⟨tyX4_ok, nmX4⟩
  | 5, _ => exact ⟨tyX5_ok, nmX5⟩
  | 6, _ => exact ⟨tyX6_ok, nmX6⟩
  | 7, _ => exact ⟨tyX7_ok, nmX7⟩
  | 8, _ => exact ⟨tyX8_ok, nmX8⟩
/-- what a slot of ints, booleans, longs is in the class file, and that it is not final -/
theorem tb_slot_ty : ∀ ci, ci < 9 → ∀ k, k < 40 → k < am_nf ci → (am_slot ci k).1 ≤ 2 → ((tb_vc ci).2.1 k).2.2.2 = false ∧ parseFieldDescriptor ((tb_vc ci).2.1 k).2.2.1 = some (if (am_slot ci k).1 = 0 then .int else if (am_slot ci k).1 = 1 then .boolean else .long) := by decide +kernel
theorem tb_sfok : ∀ q ∈ tb_psf, (q.2.2 = 0 → Cond.fieldLink (tb_cn q.1) q.2.1 "java/lang/String" "value" "[B" ∈ tb_sfw) ∧ (q.2.2 = 1 → Cond.fieldLink (tb_cn q.1) q.2.1 "java/lang/String" "coder" "B" ∈ tb_sfw) := by decide +kernel
theorem tb_stok : ∀ q ∈ tb_pst, (q.2.2.1 = 0 → Cond.fieldLink (tb_cn q.1) q.2.1 "java/lang/String" "COMPACT_STRINGS" "Z" ∈ tb_stw) ∧ (q.2.2.1 = 1 → Cond.fieldLink (tb_cn q.1) q.2.1 "jdk/internal/util/Preconditions" "SIOOBE_FORMATTER" "Ljava/util/function/BiFunction;" ∈ tb_stw) ∧ (q.2.2.1 = 2 → q.2.2.2 < 3 ∧ Cond.fieldLink (tb_cn q.1) q.2.1 (am_sc q.2.2.2) (am_sn q.2.2.2) "[I" ∈ tb_stw) ∧ q.2.2.1 < 3 := by decide +kernel
theorem am_wf_in {q : Nat × Nat × Nat × Nat} (h : q ∈ tb_pf) : tb_fw q ∈ am_ws := by
  unfold am_ws
  exact List.mem_append_right _ (List.mem_append_left _ (List.mem_map.mpr ⟨_, h, rfl⟩))
theorem am_u_in {ci : Nat} (h : ci < 9) : ∀ w ∈ u_ws (tb_vc ci).1 (tb_vc ci).2.1 (tb_vc ci).2.2, w ∈ am_ws := by
  intro w hw
  unfold am_ws
  exact List.mem_append_right _ (List.mem_append_right _ (List.mem_append_right _ (List.mem_append_left _ (List.mem_flatMap.mpr ⟨ci, List.mem_range.mpr h, hw⟩))))
theorem am_c1_in {q : Nat × Nat × Nat} (h : q ∈ tb_c1) : Cond.constant (tb_cn q.1) q.2.1 (i3 (q.2.2 : Int)) ∈ am_ws := by
  unfold am_ws
  exact List.mem_append_right _ (List.mem_append_right _ (List.mem_append_right _ (List.mem_append_right _ (List.mem_append_left _ (List.mem_map.mpr ⟨_, h, rfl⟩)))))
theorem am_c2_in {q : Nat × Nat × Int} (h : q ∈ tb_c2) : Cond.constantLong (tb_cn q.1) q.2.1 (i6 q.2.2) ∈ am_ws := by
  unfold am_ws
  exact List.mem_append_right _ (List.mem_append_right _ (List.mem_append_right _ (List.mem_append_right _ (List.mem_append_right _ (List.mem_append_left _ (List.mem_map.mpr ⟨_, h, rfl⟩))))))
theorem am_w8_in {w : Jvm.Cond} (h : w ∈ tb_w8) : w ∈ am_ws := by
  unfold am_ws
  exact List.mem_append_right _ (List.mem_append_right _ (List.mem_append_right _ (List.mem_append_right _ (List.mem_append_right _ (List.mem_append_right _ (List.mem_append_left _ h))))))
theorem am_w7_in {w : Jvm.Cond} (h : w ∈ tb_sfw ++ tb_stw) : w ∈ am_ws := by
  unfold am_ws
  exact List.mem_append_right _ (List.mem_append_right _ (List.mem_append_right _ (List.mem_append_right _ (List.mem_append_right _ (List.mem_append_right _ (List.mem_append_right _ h))))))
theorem am_u1_spec {st : List am_V} {f : Int → List am_V → Prop} (h : am_u1 st f) : ∃ x r, st = aI x :: r ∧ f x r := by
  match st, h with
  | Sum.inl x :: r, h => exact ⟨x, r, rfl, h⟩
theorem am_u2_spec {st : List am_V} {f : Int → Int → List am_V → Prop} (h : am_u2 st f) : ∃ x y r, st = aI y :: aI x :: r ∧ f x y r := by
  match st, h with
  | Sum.inl y :: Sum.inl x :: r, h => exact ⟨x, y, r, rfl, h⟩
theorem am_l1_spec {st : List am_V} {f : Int → List am_V → Prop} (h : am_l1 st f) : ∃ x r, st = aL x :: r ∧ f x r := by
  match st, h with
  | Sum.inr (Sum.inl x) :: r, h => exact ⟨x, r, rfl, h⟩
theorem am_l2_spec {st : List am_V} {f : Int → Int → List am_V → Prop} (h : am_l2 st f) : ∃ x y r, st = aL y :: aL x :: r ∧ f x y r := by
  match st, h with
  | Sum.inr (Sum.inl y) :: Sum.inr (Sum.inl x) :: r, h => exact ⟨x, y, r, rfl, h⟩
theorem am_r1_spec {st : List am_V} {f : Nat → Nat → List am_V → Prop} (h : am_r1 st f) : ∃ k i r, st = aR k i :: r ∧ f k i r := by
  match st, h with
  | Sum.inr (Sum.inr (some (k, i))) :: r, h => exact ⟨k, i, r, rfl, h⟩
theorem am_ri_spec {st : List am_V} {f : Nat → Nat → Int → List am_V → Prop} (h : am_ri st f) : ∃ k i x r, st = aI x :: aR k i :: r ∧ f k i x r := by
  match st, h with
  | Sum.inl x :: Sum.inr (Sum.inr (some (k, i))) :: r, h => exact ⟨k, i, x, r, rfl, h⟩
theorem am_a1_spec {ax : List Nat} {f : Nat → Prop} (h : am_a1 ax f) : ∃ a, ax = [a] ∧ f a := by
  match ax, h with
  | [a], h => exact ⟨a, rfl, h⟩
theorem am_a2_spec {ax : List Nat} {f : Nat → Nat → Prop} (h : am_a2 ax f) : ∃ a b, ax = [a, b] ∧ f a b := by
  match ax, h with
  | [a, b], h => exact ⟨a, b, rfl, h⟩
theorem am_a3_spec {ax : List Nat} {f : Nat → Nat → Nat → Prop} (h : am_a3 ax f) : ∃ a b c, ax = [a, b, c] ∧ f a b c := by
  match ax, h with
  | [a, b, c], h => exact ⟨a, b, c, rfl, h⟩
theorem am_a5_spec {ax : List Nat} {f : Nat → Nat → Nat → Nat → Nat → Prop} (h : am_a5 ax f) : ∃ a b c d e, ax = [a, b, c, d, e] ∧ f a b c d e := by
  match ax, h with
  | [a, b, c, d, e], h => exact ⟨a, b, c, d, e, rfl, h⟩
theorem am_ac_spec {ax : List Nat} {f : Nat → List Nat → Prop} (h : am_ac ax f) : ∃ a b, ax = a :: b ∧ f a b := by
  match ax, h with
  | a :: b, h => exact ⟨a, b, rfl, h⟩
/-- a table's jump -/
theorem am_sw_spec {x : Int} {f : Nat → Prop} : ∀ {ts : List Nat} {lo : Int}, am_sw x f lo ts → ∀ j : Nat, x = lo + j → ∀ t, ts[j]? = some t → f t
  | [], lo, _, j, _, t, h => by simp at h
  | t0 :: ts, lo, h, 0, e, t, ht => by
    simp at ht
    subst ht
    exact h.1 (by omega)
  | t0 :: ts, lo, h, j + 1, e, t, ht => am_sw_spec (ts := ts) (lo := lo + 1) h.2 j (by omega) t (by simpa using ht)
theorem am_lw_spec {x : Int} {pc : Nat} {f : Nat → Prop} {d : Nat} (hx : am_in x) {dd : Int} (hd : (pc : Int) + dd = (d : Int)) : ∀ {ps : List (Int × Int)} {ts : List Nat} {D : Prop}, (ps.map (fun o => (pc : Int) + o.2) = ts.map (fun t : Nat => (t : Int))) → am_lw x f ps ts D → (D → f d) → ∃ t : Nat, (pc : Int) + Op.lookupswitch.offset ps dd x = (t : Int) ∧ f t
  | [], [], D, _, h, hD => ⟨d, by simpa [Op.lookupswitch.offset] using hd, hD h⟩
  | [], _ :: _, D, he, h, hD => h.elim
  | _ :: _, [], D, he, h, hD => h.elim
  | (a, o) :: ps, t :: ts, D, he, h, hD => by
    simp only [List.map_cons, List.cons.injEq] at he
    by_cases hxa : x = a
    · exact ⟨t, by rw [Op.lookupswitch.offset_cons, if_pos hxa.symm]; exact he.1, h.1 hxa⟩
    · obtain ⟨t', q1, q2⟩ := am_lw_spec hx hd (ps := ps) (ts := ts) (D := x ≠ a → D) he.2 h.2 (fun z => hD (z hxa))
      exact ⟨t', by rw [Op.lookupswitch.offset_cons, if_neg (fun z => hxa z.symm)]; exact q1, q2⟩
theorem i3_shr0 (x : Int) : i3 x >>> (i3 0 &&& 31) = i3 x := by
  have : (i3 0 &&& 31) = 0 := by decide +kernel
  rw [this]
  simp
theorem am_lcmp_lt {x y : Int} (hx : am_in64 x) (hy : am_in64 y) (h : x < y) : lg_cmp (i6 x) (i6 y) = i3 (-1) := by
  have h1 : i6 x < i6 y := by rw [Int64.lt_iff_toInt_lt, i6_toInt hx, i6_toInt hy]; exact h
  have h2 : ¬ i6 y < i6 x := by rw [Int64.lt_iff_toInt_lt, i6_toInt hx, i6_toInt hy]; omega
  have h3 : ¬ i6 x = i6 y := fun z => by
    have := congrArg Int64.toInt z
    rw [i6_toInt hx, i6_toInt hy] at this
    omega
  unfold lg_cmp
  rw [if_neg h2, if_neg h3]
  decide +kernel
theorem am_lcmp_eq {x y : Int} (h : x = y) : lg_cmp (i6 x) (i6 y) = i3 0 := by
  subst h
  have h2 : ¬ i6 x < i6 x := by rw [Int64.lt_iff_toInt_lt]; omega
  unfold lg_cmp
  rw [if_neg h2, if_pos rfl]
  decide +kernel
theorem am_lcmp_gt {x y : Int} (hx : am_in64 x) (hy : am_in64 y) (h : y < x) : lg_cmp (i6 x) (i6 y) = i3 1 := by
  have h2 : i6 y < i6 x := by rw [Int64.lt_iff_toInt_lt, i6_toInt hx, i6_toInt hy]; exact h
  unfold lg_cmp
  rw [if_pos h2]
  decide +kernel
theorem am_z_eq {x : Int} (h : am_in x) : i3 x = 0 ↔ x = 0 := by rw [← i3_zero]; exact i3_eq h (by omega)
theorem am_z_lt {x : Int} (h : am_in x) : i3 x < 0 ↔ x < 0 := by rw [← i3_zero]; exact i3_lt h (by omega)
theorem am_z_ge {x : Int} (h : am_in x) : 0 ≤ i3 x ↔ 0 ≤ x := by rw [← i3_zero]; exact i3_le (by omega) h
theorem am_z_gt {x : Int} (h : am_in x) : 0 < i3 x ↔ 0 < x := by rw [← i3_zero]; exact i3_lt (by omega) h
theorem am_z_le {x : Int} (h : am_in x) : i3 x ≤ 0 ↔ x ≤ 0 := by rw [← i3_zero]; exact i3_le h (by omega)
theorem am_max {x y : Int} (hx : am_in x) (hy : am_in y) : (if i3 x < i3 y then i3 y else i3 x) = i3 (max x y) := by
  by_cases h : x < y
  · rw [if_pos ((i3_lt hx hy).mpr h), show max x y = y by omega]
  · rw [if_neg (fun z => h ((i3_lt hx hy).mp z)), show max x y = x by omega]
theorem am_min {x y : Int} (hx : am_in x) (hy : am_in y) : (if i3 y < i3 x then i3 y else i3 x) = i3 (min x y) := by
  by_cases h : y < x
  · rw [if_pos ((i3_lt hy hx).mpr h), show min x y = y by omega]
  · rw [if_neg (fun z => h ((i3_lt hy hx).mp z)), show min x y = x by omega]
theorem am_abs {x : Int} (hx : am_in x) : (if 0 ≤ i3 x then i3 x else 0 - i3 x) = i3 (if 0 ≤ x then x else -x) := by
  by_cases h : 0 ≤ x
  · rw [if_pos ((am_z_ge hx).mpr h), if_pos h]
  · rw [if_neg (fun z => h ((am_z_ge hx).mp z)), if_neg h, ← i3_zero, i3_sub, show (0 : Int) - x = -x by omega]
theorem am_abs6 {x : Int} (hx : am_in64 x) : (if 0 < i6 x then i6 x else -(i6 x)) = i6 (if 0 ≤ x then x else -x) := by
  have e : 0 < i6 x ↔ 0 < x := by
    rw [← i6_zero, Int64.lt_iff_toInt_lt, i6_toInt hx, i6_toInt (by omega)]
  by_cases h : 0 < x
  · rw [if_pos (e.mpr h), if_pos (by omega)]
  · rw [if_neg (fun z => h (e.mp z)), i6_neg]
    by_cases h0 : x = 0
    · subst h0
      rfl
    · rw [if_neg (by omega)]
theorem am_flds_get {ad : Nat → Nat → Nat} {M : am_M} {k i sl : Nat} (h : sl < am_nf k) : (am_flds ad M k i)[sl]? = some (am_fv ad M i (am_slot k sl)) := by
  simp only [am_flds, List.getElem?_map, List.getElem?_range h, Option.map_some]
theorem am_rt_spec {rt pc : Nat} {cc : ByteArray} {x : Int} {P : Prop} (hdg : decode cc pc = .ok (.ireturn, 1)) (h : am_rt rt x P) : am_retOK rt pc cc (some (aI x)) ∧ P := by
  match rt, h with
  | 1, h => exact ⟨⟨Or.inl rfl, hdg⟩, h⟩
  | 2, h => exact ⟨⟨Or.inr (Or.inl ⟨rfl, h.1⟩), hdg⟩, h.2⟩
  | 3, h => exact ⟨⟨Or.inr (Or.inr (Or.inl ⟨rfl, h.1⟩)), hdg⟩, h.2⟩
  | 4, h => exact ⟨⟨Or.inr (Or.inr (Or.inr ⟨rfl, h.1⟩)), hdg⟩, h.2⟩
  | 0, h => exact h.elim
  | _ + 5, h => exact h.elim
theorem tb_slot_to : ∀ k, k < 9 → ∀ sl, sl < 40 → sl < am_nf k → 3 ≤ (am_slot k sl).1 → (am_slot k sl).2.1 < 42 := by decide +kernel
theorem am_nb {x : Int} (h : x = 0 ∨ x = 1) : narrow .boolean (.int (i3 x)) = .int (i3 x) := by
  rcases h with rfl | rfl <;> decide +kernel
theorem am_fb {x : Int} (h : x = 0 ∨ x = 1) : fits .boolean (.int (i3 x)) = true := by
  rcases h with rfl | rfl <;> decide +kernel
def am_om (o : Option (List (Option am_V))) (P : List (Option am_V) → Prop) : Prop := match o with
  | some a => P a
  | none => False
theorem am_om_spec {o : Option (List (Option am_V))} {P : List (Option am_V) → Prop} (h : am_om o P) : ∃ a, o = some a ∧ P a := by
  cases o with
  | none => exact h.elim
  | some a => exact ⟨a, rfl, h⟩
