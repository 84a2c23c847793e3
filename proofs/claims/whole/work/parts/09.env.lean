/-! wb -/
variable {wb : Bool}
/-! WHAT STANDS ROUND A RUN: classes, arrays, links between nest mates, statics, texts, the script -/
def am_aty (k : Nat) : FieldType := if k = 9 then .object "JustFivePounds$Hand" else if k = 10 then .object "JustFivePounds$Text" else if k = 11 then .object "JustFivePounds$Sheet" else .int
def am_sc (j : Nat) : String := if j = 0 then "JustFivePounds$Hand" else "JustFivePounds$Text"
def am_sn (j : Nat) : String := if j = 0 then "IS_A" else if j = 1 then "LEAST" else "MOST"
def am_tlen : List Nat := (List.range 13).map fun i => (am_text i).length
def am_tbyt : List (List Int32) := (List.range 13).map fun i => (am_text i).map i3
theorem am_tlen_at {i : Nat} (h : i < 13) : am_tlen.getD i 0 = (am_text i).length := by
  simp [am_tlen, List.getD_eq_getElem?_getD, List.getElem?_map, List.getElem?_range h]
theorem am_tbyt_at {i j : Nat} (h : i < 13) (hj : j < (am_text i).length) : (am_tbyt.getD i []).getD j 0 = i3 ((am_text i).getD j 0) := by
  simp only [am_tbyt, List.getD_eq_getElem?_getD, List.getElem?_map, List.getElem?_range h, Option.map_some, Option.getD_some]
  rw [List.getElem?_eq_getElem hj]
  rfl
def am_E (wb : Bool) (dC : Nat → ClassId) (dI : Nat → Nat → Nat) (ad : Nat → Nat → Nat) (ca : Nat → Nat → ClassId) (fm : Value) (L : Nat) (xs : Nat → Int) (A : Nat → Prop) (U : State) (H : Heap) : Prop :=
  va_K (dC, dI) vwCl [] U ∧
  (∀ k i, 9 ≤ k → k < 42 → i < am_cnt wb k → ArrOfT U (ca k i) (am_aty k) ∧ va_RA U (ca k i) (am_aty k)) ∧
  (∀ M, va_D A (am_W wb ad ca M)) ∧
  (∀ q ∈ tb_pn, va_Nw (tb_nw q) U) ∧
  va_Z "java/lang/String" "COMPACT_STRINGS" "Z" (.int (i3 1)) A U H ∧
  (fm.isRef = true ∧ va_Z "jdk/internal/util/Preconditions" "SIOOBE_FORMATTER" "Ljava/util/function/BiFunction;" fm A U H) ∧
  (∀ j, j < 3 → va_Z (am_sc j) (am_sn j) "[I" (.ref (ad 51 j)) A U H ∧ va_T .int (ad 51 j) (am_stat j).length (fun i => .int (i3 ((am_stat j).getD i 0))) A U H) ∧
  vk_S 13 am_tlen am_tbyt (ad 52) (ad 53) A U H ∧
  (∀ q ∈ tb_sr, vk_R (tb_cn q.1) q.2.1 (tb_tx q.2.2) (ad 52 q.2.2) U) ∧
  (va_X (ad 50 0) L (fun j => i3 (xs j)) U H ∧ ad 50 0 < H.size ∧ ¬ A (ad 50 0) ∧ (∀ i, ad 50 i = ad 50 0) ∧ L < 2 ^ 31)
theorem am_E.to {dC : Nat → ClassId} {dI : Nat → Nat → Nat} {ad : Nat → Nat → Nat} {ca : Nat → Nat → ClassId} {fm : Value} {L : Nat} {xs : Nat → Int} {A A' : Nat → Prop} {s U : State} {H : Heap} (hE : am_E wb dC dI ad ca fm L xs A s s.heap) (hW : s.WarmedH U.vm) (hz : s.heap.size ≤ H.size) (hk : ∀ q : Nat, q < s.heap.size → ¬ A q → H[q]? = s.heap[q]?) (hAA : ∀ q, A' q → A q) (hD : ∀ M, va_D A' (am_W wb ad ca M)) : am_E wb dC dI ad ca fm L xs A' U H := by
  obtain ⟨e1, e2, e3, e4, e5, ⟨e6, e7⟩, e8, e9, e10, e11, e12, e13, e14, e15⟩ := hE
  have hv := hW.alike
  refine ⟨va_K.moved hv e1, fun k i h1 h2 h3 => ⟨arrOfT_moved hv (e2 k i h1 h2 h3).1, (e2 k i h1 h2 h3).2.moved hv⟩, hD, fun q hq => va_Nw.warmM hW (e4 q hq), va_Z.moved hv ((e5.kept hk).narrow hAA), ⟨e6, va_Z.moved hv ((e7.kept hk).narrow hAA)⟩, fun j hj => ⟨va_Z.moved hv (((e8 j hj).1.kept hk).narrow hAA), va_T.moved hv (((e8 j hj).2.kept hk).narrow hAA)⟩, vk_S.moved hv ((e9.kept hk).narrow hAA), fun q hq => (e10 q hq).warm hW, va_X.moved hv (e11.kept (hk _ e12 e13)), Nat.lt_of_lt_of_le e12 hz, fun z => e13 (hAA _ z), e14, e15⟩
theorem am_E.same {dC : Nat → ClassId} {dI : Nat → Nat → Nat} {ad : Nat → Nat → Nat} {ca : Nat → Nat → ClassId} {fm : Value} {L : Nat} {xs : Nat → Int} {A : Nat → Prop} {s U : State} (hE : am_E wb dC dI ad ca fm L xs A s s.heap) (hv : U.vm = s.vm) : am_E wb dC dI ad ca fm L xs A U s.heap :=
  hE.to (by rw [hv]; exact State.WarmedH.refl s) (Nat.le_refl _) (fun _ _ _ => rfl) (fun _ h => h) hE.2.2.1
/-- one array's class beside the classes -/
theorem am_K1 {D : va_G} {cl : List vw_C} {s : State} {cA : ClassId} {ty : FieldType} (h : va_K D cl [] s) (h1 : ArrOfT s cA ty) (h2 : va_RA s cA ty) : va_K D cl [(cA, ty)] s := by
  refine ⟨h.1, fun k q hq => ?_⟩
  match k, hq with
  | 0, hq =>
    simp at hq
    subst hq
    exact ⟨h1, h2⟩
  | k + 1, hq => simp at hq
/-- the memory keeps the script -/
def am_scr (L : Nat) (xs : Nat → Int) (M : am_M) : Prop := M 49 0 0 = (L : Int) ∧ ∀ j, M 50 0 j = xs j
theorem am_scr.wr {L : Nat} {xs : Nat → Int} {M : am_M} {v i j : Nat} {x : Int} (h : am_scr L xs M) (h1 : v ≠ 49) (h2 : v ≠ 50) : am_scr L xs (am_wr M v i j x) := ⟨by rw [am_wr_ne (Or.inl (Ne.symm h1))]; exact h.1, fun j => by rw [am_wr_ne (Or.inl (Ne.symm h2))]; exact h.2 j⟩
/-- what the abstract machine's state says of the machine: from any heap and frame that it stands for, the run comes to Q -/
def am_J (wb : Bool) (p : Program) (l : Launch) (e : Env) (R : Room) (s : State) (m : MethodId) (args : Array Value) (below : List Frame) (meth : Method) (c0 : Code) (cells slots : Nat) (Q : State → Prop)
    (dC : Nat → ClassId) (dI : Nat → Nat → Nat) (ad : Nat → Nat → Nat) (ca : Nat → Nat → ClassId) (fm : Value) (L : Nat) (xs : Nat → Int) (A : Nat → Prop) (n : Nat) (c : am_C) : Prop :=
  ∀ (H : Heap) (locs : List Loc) (ls : Array Slot), va_P (dC, dI) vwCl (am_W wb ad ca c.2.2.2) H → va_S A s.heap H locs → am_L ad fm n c.2.1 ls → am_scr L xs c.2.2.2 →
    W p l e R s m args below meth c0 H locs cells slots Q (F0 m c.1 ls (c.2.2.1.map (am_tr ad fm)))
