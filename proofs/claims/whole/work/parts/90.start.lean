/-! wb -/
/-! THE START: what the Statement gives of it -/
def ct_G : Jvm.Cond := Jvm.Cond.and given_1 narrow_1
def ct_tm (i : Nat) : Jvm.Term := .string (tb_cn (tb_sr.getD i (0, 0, 0)).1) (tb_sr.getD i (0, 0, 0)).2.1
abbrev ct_vl (i : Nat) : Jvm.Term := .field (ct_tm i) "java/lang/String" "value" "[B"
theorem ct_g1 : ∀ i, i < 13 → Jvm.Cond.exactly (ct_tm i) "java/lang/String" ∈ flatC ct_G := by decide +kernel
theorem ct_g2 : ∀ i, i < 13 → Jvm.Cond.eq (.field (ct_tm i) "java/lang/String" "coder" "B") (.int 0) ∈ flatC ct_G := by decide +kernel
theorem ct_g3 : ∀ i, i < 13 → Jvm.Cond.arrayOf (ct_vl i) .byte ∈ flatC ct_G := by decide +kernel
theorem ct_g4 : ∀ i, i < 13 → Jvm.Cond.eq (.length (ct_vl i)) (.int (Int32.ofNat (am_tlen.getD i 0))) ∈ flatC ct_G := by decide +kernel
theorem ct_in2 {ws : List Jvm.Cond} (ps : List Nat) (hp : ws = ps.filterMap (fun i => (flatC ct_G)[i]?)) : ∀ w ∈ ws, w ∈ flatC ct_G := by
  intro w hw
  rw [hp] at hw
  obtain ⟨i, -, hi⟩ := List.mem_filterMap.mp hw
  exact List.mem_of_getElem? hi
def ct_c5 (i j : Nat) : Jvm.Cond := .eq (.elem (ct_vl i) (.int (Int32.ofNat j))) (.int ((am_tbyt.getD i []).getD j 0))
set_option maxRecDepth 100000 in
theorem ct_g5a : ∀ w ∈ (List.range 13).flatMap (fun i => (List.range (am_tlen.getD i 0)).map (ct_c5 i)), w ∈ flatC ct_G := ct_in2 [34, 35, 36, 37, 38, 39, 40, 41, 42, 43, 44, 45, 46, 47, 48, 49, 50, 51, 52, 53, 54, 55, 56, 57, 58, 59, 60, 61, 62, 63, 64, 65, 66, 67, 68, 69, 70, 71, 72, 73, 74, 75, 76, 77, 78, 79, 80, 81, 82, 83, 84, 85, 86, 87, 88, 89, 90, 91, 92, 97, 98, 99, 100, 106, 107, 108, 109, 116, 117, 118, 119, 120, 128, 129, 130, 139, 140, 141, 151, 152, 163, 164, 165, 166, 167, 179, 180, 181, 182, 183, 196, 197, 198, 212, 213, 214, 215, 230, 231, 232, 233, 249, 250, 251, 252, 253] (by decide +kernel)
theorem ct_g5 : ∀ i, i < 13 → ∀ j, j < am_tlen.getD i 0 → Jvm.Cond.eq (.elem (ct_vl i) (.int (Int32.ofNat j))) (.int ((am_tbyt.getD i []).getD j 0)) ∈ flatC ct_G := fun i hi j hj => ct_g5a _ (List.mem_flatMap.mpr ⟨i, List.mem_range.mpr hi, List.mem_map_of_mem (f := ct_c5 i) (List.mem_range.mpr hj)⟩)
def ct_prs : List (Nat × Nat) := (List.range 13).flatMap fun i => (List.range i).map fun j => (j, i)
def ct_c6 (q : Nat × Nat) : Jvm.Cond := .not (.eq (ct_tm q.1) (ct_tm q.2))
set_option maxRecDepth 100000 in
theorem ct_g6a : ∀ w ∈ ct_prs.map ct_c6, w ∈ flatC ct_G := ct_in2 [101, 110, 111, 121, 122, 123, 131, 132, 133, 134, 142, 143, 144, 145, 146, 153, 154, 155, 156, 157, 158, 168, 169, 170, 171, 172, 173, 174, 184, 185, 186, 187, 188, 189, 190, 191, 199, 200, 201, 202, 203, 204, 205, 206, 207, 216, 217, 218, 219, 220, 221, 222, 223, 224, 225, 234, 235, 236, 237, 238, 239, 240, 241, 242, 243, 244, 254, 255, 256, 257, 258, 259, 260, 261, 262, 263, 264, 265] (by decide +kernel)
theorem ct_g6b {i j : Nat} (hi : i < 13) (hj : j < i) : (j, i) ∈ ct_prs := List.mem_flatMap.mpr ⟨i, List.mem_range.mpr hi, List.mem_map_of_mem (f := fun j => (j, i)) (List.mem_range.mpr hj)⟩
theorem ct_g6 : ∀ i, i < 13 → ∀ j, j < 13 → i ≠ j → Jvm.Cond.not (Jvm.Cond.eq (ct_tm i) (ct_tm j)) ∈ flatC ct_G ∨ Jvm.Cond.not (Jvm.Cond.eq (ct_tm j) (ct_tm i)) ∈ flatC ct_G := fun i hi j hj h => by
  by_cases c : j < i
  · exact Or.inr (ct_g6a _ (List.mem_map_of_mem (f := ct_c6) (ct_g6b hi c)))
  · exact Or.inl (ct_g6a _ (List.mem_map_of_mem (f := ct_c6) (ct_g6b hj (show i < j by omega))))
theorem ct_g7 : ∀ i, i < 13 → am_tlen.getD i 0 < 2 ^ 31 := by decide +kernel
abbrev ct_sv (j : Nat) : Jvm.Term := .static (am_sc j) (am_sn j) "[I"
theorem ct_h1 : ∀ j, j < 3 → Jvm.Cond.arrayOf (ct_sv j) .int ∈ flatC ct_G := by decide +kernel
theorem ct_h2 : ∀ j, j < 3 → Jvm.Cond.eq (.length (ct_sv j)) (.int (Int32.ofNat (am_stat j).length)) ∈ flatC ct_G := by decide +kernel
theorem ct_h3 : ∀ j, j < 3 → ∀ k, k < (am_stat j).length → Jvm.Cond.eq (.elem (ct_sv j) (.int (Int32.ofNat k))) (.int (i3 ((am_stat j).getD k 0))) ∈ flatC ct_G := by decide +kernel
theorem ct_h4 : ∀ j, j < 3 → (am_stat j).length < 2 ^ 31 := by decide +kernel
theorem ct_h5 : Jvm.Cond.eq (.static "java/lang/String" "COMPACT_STRINGS" "Z") (.int (i3 1)) ∈ flatC ct_G := by decide +kernel
theorem ct_h6 : Jvm.Cond.isRef (.static "jdk/internal/util/Preconditions" "SIOOBE_FORMATTER" "Ljava/util/function/BiFunction;") ∈ flatC ct_G := by decide +kernel
theorem ct_i1 : ∀ w ∈ tb_sr.map (fun q => Jvm.Cond.stringRef (tb_cn q.1) q.2.1 (tb_tx q.2.2)), w ∈ lw_tbl := tb_in_of [282, 366, 373, 374, 375, 376, 377, 378, 379, 380, 381, 382, 383] rfl
theorem ct_i2 : ∀ q ∈ tb_sr, q.2.2 < 13 ∧ ct_tm q.2.2 = .string (tb_cn q.1) q.2.1 := by decide +kernel
theorem ct_i3 : Jvm.Cond.laysStatic "java/lang/String" "COMPACT_STRINGS" "Z" ∈ lw_tbl ∧ Jvm.Cond.initialized "java/lang/String" ∈ lw_tbl := ⟨(List.mem_of_getElem? (i := 292) (by decide +kernel)), (List.mem_of_getElem? (i := 67) (by decide +kernel))⟩
theorem ct_i4 : Jvm.Cond.laysStatic "jdk/internal/util/Preconditions" "SIOOBE_FORMATTER" "Ljava/util/function/BiFunction;" ∈ lw_tbl ∧ Jvm.Cond.initialized "jdk/internal/util/Preconditions" ∈ lw_tbl := ⟨(List.mem_of_getElem? (i := 308) (by decide +kernel)), (List.mem_of_getElem? (i := 69) (by decide +kernel))⟩
theorem ct_i5 : ∀ j, j < 3 → Jvm.Cond.laysStatic (am_sc j) (am_sn j) "[I" ∈ lw_tbl ∧ Jvm.Cond.initialized (am_sc j) ∈ lw_tbl := fun j hj => match j, hj with
  | 0, _ => ⟨(List.mem_of_getElem? (i := 577) (by decide +kernel)), (List.mem_of_getElem? (i := 61) (by decide +kernel))⟩
  | 1, _ => ⟨(List.mem_of_getElem? (i := 519) (by decide +kernel)), (List.mem_of_getElem? (i := 65) (by decide +kernel))⟩
  | 2, _ => ⟨(List.mem_of_getElem? (i := 521) (by decide +kernel)), (List.mem_of_getElem? (i := 65) (by decide +kernel))⟩
theorem ct_i6 : Jvm.Cond.arrayClass .int ∈ lw_tbl ∧ Jvm.Cond.arrayOver (.object RX1) ∈ lw_tbl ∧ Jvm.Cond.arrayOver (.object RX6) ∈ lw_tbl ∧ Jvm.Cond.arrayOver (.object RX2) ∈ lw_tbl := ⟨(List.mem_of_getElem? (i := 187) (by decide +kernel)), (List.mem_of_getElem? (i := 128) (by decide +kernel)), (List.mem_of_getElem? (i := 160) (by decide +kernel)), (List.mem_of_getElem? (i := 189) (by decide +kernel))⟩
theorem ct_known {s : State} {args : Array Value} (hts : ∀ w ∈ lw_tbl, w.before args s = true) : ∃ (dC : Nat → ClassId) (dI : Nat → Nat → Nat), ∀ (k : Nat) (q : vw_C), vwCl[k]? = some q → u_Kn s q.1 q.2.1 q.2.2 (dC k) (dI k) := by
  have one : ∀ (k : Nat) (hk : k < 9) (n : Nat), (Jvm.Cond.instantiable (tb_vc k).1 n) ∈ lw_tbl → ∃ z : ClassId × (Nat → Nat), u_Kn s (tb_vc k).1 (tb_vc k).2.1 (tb_vc k).2.2 z.1 z.2 := by
    intro k hk n hn
    obtain ⟨c, iS, h⟩ := u_known (C := (tb_vc k).1) (T := (tb_vc k).2.1) (N := (tb_vc k).2.2) (n := n) hts (fun w hw => ct_in w (ct_u k hk w hw)) (hts _ hn)
    exact ⟨(c, iS), h⟩
  have all : ∀ k : Nat, ∃ z : ClassId × (Nat → Nat), ∀ q : vw_C, vwCl[k]? = some q → u_Kn s q.1 q.2.1 q.2.2 z.1 z.2 := by
    intro k
    by_cases hk : k < 9
    · have h : ∃ z : ClassId × (Nat → Nat), u_Kn s (tb_vc k).1 (tb_vc k).2.1 (tb_vc k).2.2 z.1 z.2 := by
        match k, hk with
        | 0, hk => exact one 0 hk 3 (List.mem_of_getElem? (i := 221) (by decide +kernel))
        | 1, hk => exact one 1 hk 6 (List.mem_of_getElem? (i := 129) (by decide +kernel))
        | 2, hk => exact one 2 hk 3 (List.mem_of_getElem? (i := 265) (by decide +kernel))
        | 3, hk => exact one 3 hk 9 (List.mem_of_getElem? (i := 82) (by decide +kernel))
        | 4, hk => exact one 4 hk 7 (List.mem_of_getElem? (i := 191) (by decide +kernel))
        | 5, hk => exact one 5 hk 6 (List.mem_of_getElem? (i := 162) (by decide +kernel))
        | 6, hk => exact one 6 hk 7 (List.mem_of_getElem? (i := 238) (by decide +kernel))
        | 7, hk => exact one 7 hk 11 (List.mem_of_getElem? (i := 74) (by decide +kernel))
        | 8, hk => exact one 8 hk 36 (List.mem_of_getElem? (i := 868) (by decide +kernel))
      obtain ⟨z, hz⟩ := h
      refine ⟨z, fun q hq => ?_⟩
      cases (tb_vcn k hk).1.symm.trans hq
      exact hz
    · refine ⟨(0, fun _ => 0), fun q hq => ?_⟩
      have := (List.getElem?_eq_some_iff.mp hq).1
      have : k < 9 := this
      omega
  obtain ⟨f, hf⟩ := Classical.axiomOfChoice all
  exact ⟨fun k => (f k).1, fun k => (f k).2, hf⟩
theorem ct_int0 {s : State} {args : Array Value} (hts : ∀ w ∈ lw_tbl, w.before args s = true) : ∃ cI : ClassId, ArrOfT s cI .int ∧ va_RA s cI .int := by
  obtain ⟨c, k, comp, h1, h2, h3⟩ := Cond.arrayClass_spec (hts _ ct_i6.1)
  exact ⟨c, fun n z => ⟨fun k h => (by cases h), k, h2, comp, h3⟩, h1⟩
theorem ct_start {s : State} {b L : Nat} {xs : Nat → Int32} (hL : L ≤ 3584) (hts : ∀ w ∈ lw_tbl, w.before #[Value.ref b] s = true) (hX : va_X b L xs s s.heap) (hbl : b < s.heap.size) (hgv : (Jvm.Cond.and given_1 narrow_1).before #[Value.ref b] s = true) : ∃ (a51 a52 a53 : Nat → Nat) (fm : Value), ct_T5 (fun _ => b) a51 a52 a53 fm L (fun j => (xs j).toInt) (fun q : Nat => s.heap.size ≤ q) s s.heap := by
  have hs := flat_of_before _ hgv
  have hA : ∀ a : Nat, a < s.heap.size → ¬ s.heap.size ≤ a := fun a h => Nat.not_le.mpr h
  obtain ⟨adK, adV, hSt, hev⟩ := vk_Sof (N := 13) (tm := ct_tm) (len := am_tlen) (byt := am_tbyt) (A := fun q : Nat => s.heap.size ≤ q) ct_g7 (fun i hi => hs _ (ct_g1 i hi)) (fun i hi => hs _ (ct_g2 i hi)) (fun i hi => hs _ (ct_g3 i hi)) (fun i hi => hs _ (ct_g4 i hi)) (fun i hi j hj => hs _ (ct_g5 i hi j hj)) (fun i j hi hj hij => (ct_g6 i hi j hj hij).imp (hs _) (hs _)) hA
  have hst : ∀ j : Nat, ∃ t : Nat, j < 3 → va_Z (am_sc j) (am_sn j) "[I" (.ref t) (fun q : Nat => s.heap.size ≤ q) s s.heap ∧ va_T .int t (am_stat j).length (fun i => .int (i3 ((am_stat j).getD i 0))) (fun q : Nat => s.heap.size ≤ q) s s.heap := by
    intro j
    by_cases hj : j < 3
    · obtain ⟨t, h1, h2⟩ := va_Tof (tm := ct_sv j) (ty := .int) (f := fun i => .int (i3 ((am_stat j).getD i 0))) (A := fun q : Nat => s.heap.size ≤ q) (ct_h4 j hj) (hs _ (ct_h1 j hj)) (va_eqt (hs _ (ct_h2 j hj))) (fun k hk => va_eqt (hs _ (ct_h3 j hj k hk))) hA
      exact ⟨t, fun _ => ⟨va_Zref (hts _ (ct_i5 j hj).1) (hts _ (ct_i5 j hj).2) h1 hA, h2⟩⟩
    · exact ⟨0, fun h => absurd h hj⟩
  obtain ⟨a51, ha51⟩ := Classical.axiomOfChoice hst
  obtain ⟨fm, hf1, hf2⟩ := Cond.isRef_spec (hs _ ct_h6)
  refine ⟨a51, adK, adV, fm, fun q hq => va_Nw.of rfl (hts _ (tb_ln _ (List.mem_map_of_mem hq))), va_Zof (hts _ ct_i3.1) (hts _ ct_i3.2) (va_eqi (hs _ ct_h5)) hA, ⟨hf2, va_Zof (hts _ ct_i4.1) (hts _ ct_i4.2) hf1 hA⟩, ha51, hSt, fun q hq => ?_, ?_, hbl, hA b hbl, fun _ => rfl, by omega⟩
  · obtain ⟨h1, h2⟩ := ct_i2 q hq
    have h3 := hev _ h1
    rw [h2] at h3
    exact vk_R.of (hts _ (ct_i1 _ (List.mem_map_of_mem hq))) h3
  · have e : (fun j => i3 (xs j).toInt) = xs := funext fun j => i3_of _
    show va_X b L (fun j => i3 (xs j).toInt) s s.heap
    rw [e]
    exact hX
