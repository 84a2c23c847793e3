/-! wb -/
/-! WHAT IS MADE: round the constructors; one object made in the class's own constructor -/
/-- what stands round a run, the class's and the reference's cells aside -/
def ct_T5 (a50 a51 a52 a53 : Nat → Nat) (fm : Value) (L : Nat) (xs : Nat → Int) (A : Nat → Prop) (U : State) (H : Heap) : Prop :=
  (∀ q ∈ tb_pn, va_Nw (tb_nw q) U) ∧
  va_Z "java/lang/String" "COMPACT_STRINGS" "Z" (.int (i3 1)) A U H ∧
  (fm.isRef = true ∧ va_Z "jdk/internal/util/Preconditions" "SIOOBE_FORMATTER" "Ljava/util/function/BiFunction;" fm A U H) ∧
  (∀ j, j < 3 → va_Z (am_sc j) (am_sn j) "[I" (.ref (a51 j)) A U H ∧ va_T .int (a51 j) (am_stat j).length (fun i => .int (i3 ((am_stat j).getD i 0))) A U H) ∧
  vk_S 13 am_tlen am_tbyt a52 a53 A U H ∧
  (∀ q ∈ tb_sr, vk_R (tb_cn q.1) q.2.1 (tb_tx q.2.2) (a52 q.2.2) U) ∧
  (va_X (a50 0) L (fun j => i3 (xs j)) U H ∧ a50 0 < H.size ∧ ¬ A (a50 0) ∧ (∀ i, a50 i = a50 0) ∧ L < 2 ^ 31)
theorem ct_T5.to {a50 a51 a52 a53 : Nat → Nat} {fm : Value} {L : Nat} {xs : Nat → Int} {A A' : Nat → Prop} {s U : State} {H : Heap} (hE : ct_T5 a50 a51 a52 a53 fm L xs A s s.heap) (hW : s.WarmedH U.vm) (hz : s.heap.size ≤ H.size) (hk : ∀ q : Nat, q < s.heap.size → ¬ A q → H[q]? = s.heap[q]?) (hAA : ∀ q, q < s.heap.size → A' q → A q) (hAB : ∀ q, A' q → A q) : ct_T5 a50 a51 a52 a53 fm L xs A' U H := by
  obtain ⟨e4, e5, ⟨e6, e7⟩, e8, e9, e10, e11, e12, e13, e14, e15⟩ := hE
  have hv := hW.alike
  exact ⟨fun q hq => va_Nw.warmM hW (e4 q hq), va_Z.moved hv ((e5.kept hk).narrow hAB), ⟨e6, va_Z.moved hv ((e7.kept hk).narrow hAB)⟩, fun j hj => ⟨va_Z.moved hv (((e8 j hj).1.kept hk).narrow hAB), va_T.moved hv (((e8 j hj).2.kept hk).narrow hAB)⟩, vk_S.moved hv ((e9.kept hk).narrow hAB), fun q hq => (e10 q hq).warm hW, va_X.moved hv (e11.kept (hk _ e12 e13)), Nat.lt_of_lt_of_le e12 hz, fun z => e13 (hAB _ z), e14, e15⟩
theorem ct_T5.am {wb : Bool} {dC : Nat → ClassId} {dI : Nat → Nat → Nat} {ad : Nat → Nat → Nat} {ca : Nat → Nat → ClassId} {a50 a51 a52 a53 : Nat → Nat} {fm : Value} {L : Nat} {xs : Nat → Int} {A : Nat → Prop} {U : State} {H : Heap} (hE : ct_T5 a50 a51 a52 a53 fm L xs A U H) (hK : va_K (dC, dI) vwCl [] U) (hca : ∀ k i, 9 ≤ k → k < 42 → i < am_cnt wb k → ArrOfT U (ca k i) (am_aty k) ∧ va_RA U (ca k i) (am_aty k)) (hD : ∀ M, va_D A (am_W wb ad ca M)) (h : ad 50 = a50 ∧ ad 51 = a51 ∧ ad 52 = a52 ∧ ad 53 = a53) : am_E wb dC dI ad ca fm L xs A U H := by
  obtain ⟨rfl, rfl, rfl, rfl⟩ := h
  exact ⟨hK, hca, hD, hE⟩
def ct_nx : List (Nat × MethodName) := [(9, yX3_init), (25, yX1_init), (38, yX5_init), (51, yX4_init), (58, yX0_init), (63, yX6_init), (64, yX2_init)]
theorem ct_lnx : ∀ q ∈ ct_nx, Jvm.Cond.methodLinkNest RX7 q.1 q.2 "JustFivePounds" ∈ lw_tbl := by
  intro q hq
  refine ct_ln _ ?_
  exact List.mem_map_of_mem (f := fun q : Nat × MethodName => Jvm.Cond.methodLinkNest RX7 q.1 q.2 "JustFivePounds") hq
/-- beside it, for the class's own constructor -/
def ct_E7 (cI : ClassId) (dC : Nat → ClassId) (dI : Nat → Nat → Nat) (U : State) : Prop :=
  va_K (dC, dI) vwCl [(cI, .int)] U ∧ (∀ q ∈ ct_nx, va_Nw (.methodLinkNest RX7 q.1 q.2 "JustFivePounds") U) ∧ va_AO RX1 U ∧ va_AO RX6 U ∧ va_AO RX2 U
theorem ct_E7.to {cI : ClassId} {dC : Nat → ClassId} {dI : Nat → Nat → Nat} {s U : State} (h : ct_E7 cI dC dI s) (hW : s.WarmedH U.vm) : ct_E7 cI dC dI U := ⟨va_K.moved hW.alike h.1, fun q hq => va_Nw.warmM hW (h.2.1 q hq), h.2.2.1.moved hW.alike, h.2.2.2.1.moved hW.alike, h.2.2.2.2.moved hW.alike⟩
theorem ct_p1 {b w : va_W} {x : Nat × va_E} : (b ++ (x :: w)).Perm (x :: (b ++ w)) := List.perm_middle
theorem ct_p4 {b w : va_W} {x y z t : Nat × va_E} : (b ++ (x :: y :: z :: t :: w)).Perm (x :: y :: z :: t :: (b ++ w)) := List.perm_append_comm_assoc b [x, y, z, t] w
theorem ct_fr0 : ∀ j, j < 3 → defaultValue (tyX0 j) = vp_V [.int (i3 0), .long (i6 0), .long (i6 0)] j := by
  intro j hj
  rcases (show j = 0 ∨ j = 1 ∨ j = 2 by omega) with rfl | rfl | rfl <;> first | rfl | exact congrArg Value.int ct_0 | exact congrArg Value.long i6_zero.symm
theorem ct_new0 {p : Program} {l : Launch} {e : Env} {R : Room} {s : State} {m : MethodId} {args : Array Value} {below : List Frame} {meth : Method} {c0 : Code} {H : Heap} {locs : List Loc} {cells slots : Nat} {Q : State → Prop} {dC : Nat → ClassId} {dI : Nat → Nat → Nat} {cI : ClassId} {A : Nat → Prop} {ls : Array Slot} {rest : List Value} {w : va_W} (hx : p.tables.exec = Jvm.exec) (hb : c0.code = tb_cc 1) (hml : c0.maxLocals = 2) (hown : s.vm.findClass RX7 = some m.cls) (hts : ∀ w ∈ ct_ws, w.before args s = true) (hE : ct_E7 cI dC dI s) (hA : ∀ q, s.heap.size ≤ q → A q) (hR : 2 ≤ R.frames ∧ 32 ≤ R.locals) {pc i1 i2 : Nat} (d1 : decode (tb_cc 1) pc = .ok (.new i1, 3)) (d2 : decode (tb_cc 1) (pc + 3) = .ok (.dup, 1)) (d3 : decode (tb_cc 1) (pc + 4) = .ok (.invokespecial i2, 3)) (hcl : Jvm.Cond.classLink RX7 i1 RX0 ∈ ct_ws) (hnl : (i2, yX0_init) ∈ ct_nx) (hP : va_P (dC, dI) vwCl w H) (hD : va_D A w) (hS : va_S A s.heap H locs) (hc : cells + 1 ≤ R.cells ∧ slots + 3 ≤ R.slots) (hls : ls.size = 2) (hw : ∀ q, ((Value.ref q :: rest).map fun v => v.category).sum ≤ 8) (kk : ∀ (H : Heap) (locs : List Loc) (q : Nat), va_P (dC, dI) vwCl (ct_w0 q ++ w) H → va_D A (ct_w0 q ++ w) → va_S A s.heap H locs → W p l e R s m args below meth c0 H locs (cells + 1) (slots + 3) Q (F0 m (pc + 7) ls (.ref q :: rest))) : W p l e R s m args below meth c0 H locs cells slots Q (F0 m pc ls rest) := by
  have hK := hE.1
  refine va_new (ci := 0) (fs := [.int (i3 0), .long (i6 0), .long (i6 0)]) (C := RX0) (T := TX0) (N := 3) hx hb hts (ct_u 0 (by decide)) tyX0 tyX0_ok hown (hts _ hcl) (hts (.instantiable RX0 3) (ct_m 15 rfl)) (hts (.initialized RX0) (ct_m 14 rfl)) hK hP hD hS hA rfl ct_fr0 (by omega) (by omega) d1 (fun q H hP hD hS => ?_)
  refine lv_dup hx hb d2 rfl ?_
  have hP2 : va_P (dC, dI) vwCl (ct_o0 q ++ w) H := ct_Pp hP List.perm_append_comm
  have hD2 : va_D A (ct_o0 q ++ w) := ct_Dp hD List.perm_append_comm
  have hPc : va_P (dC, dI) vwCl (ct_o0 q) H := ct_Pm hP2 (fun _ h => List.mem_append_left _ h)
  have hDc : va_D A (ct_o0 q) := hD2.sub [0] (by decide) rfl
  have hFc := ct_free (wc := ct_o0 q) hD2 hS hA
  refine va_callv (va_runIN (As := []) (rest := .ref q :: rest) ⟨hx, hb, hml, hown, hts⟩ (ct_n0 l dC dI cI q H.size) ⟨va_cnB 0 hts (ct_gi (ct_m 13 rfl)) rfl rfl rfl (hE.2.1 _ hnl) (hts (.initialized RX0) (ct_m 14 rfl)) (by decide +kernel) ⟨by show 1 + 1 ≤ R.frames; omega, by show 8 + (1 + 11) + 12 ≤ R.locals; omega⟩, rfl, hts (.instanceMethod yX0_init) (ct_m 12 rfl)⟩ ⟨fun a U g mk q => by obtain ⟨q0, q1, qP, qK, qD⟩ := q; exact ⟨q0, q1, qP, va_K.moved (u := U) (U := U.calling g mk a) (Vm.Alike.refl U.vm) qK, qD⟩, fun U hU hW => ⟨rfl, by rw [hU], by rw [hU]; exact hPc, va_K.moved hW.alike hK, hDc.weaken (fun _ _ _ _ => trivial)⟩⟩ rfl rfl hls rfl (lv_room (hw q)) d3 ⟨by omega, by omega⟩) hS (fun q _ h => hFc q h) hFc (fun u t H1 locs ht hvm _ hB hz1 hk1 hS => ?_)
  obtain ⟨hP1, hD1⟩ := hB
  rw [ht] at hP1
  obtain ⟨hP3, hD3⟩ := ct_join hP2 hD2 hk1 hFc hP1 hD1
  exact W.widen (k := cells + 1) (n := slots + 3) (by omega) (by omega) (kk H1 locs q hP3 hD3 hS)
theorem ct_fr1 : ∀ j, j < 6 → defaultValue (tyX1 j) = vp_V [.int (i3 0), .int (i3 0), .int (i3 0), .int (i3 0), .int (i3 0), .int (i3 0)] j := by
  intro j hj
  rcases (show j = 0 ∨ j = 1 ∨ j = 2 ∨ j = 3 ∨ j = 4 ∨ j = 5 by omega) with rfl | rfl | rfl | rfl | rfl | rfl <;> first | rfl | exact congrArg Value.int ct_0 | exact congrArg Value.long i6_zero.symm
theorem ct_new1 {p : Program} {l : Launch} {e : Env} {R : Room} {s : State} {m : MethodId} {args : Array Value} {below : List Frame} {meth : Method} {c0 : Code} {H : Heap} {locs : List Loc} {cells slots : Nat} {Q : State → Prop} {dC : Nat → ClassId} {dI : Nat → Nat → Nat} {cI : ClassId} {A : Nat → Prop} {ls : Array Slot} {rest : List Value} {w : va_W} (hx : p.tables.exec = Jvm.exec) (hb : c0.code = tb_cc 1) (hml : c0.maxLocals = 2) (hown : s.vm.findClass RX7 = some m.cls) (hts : ∀ w ∈ ct_ws, w.before args s = true) (hE : ct_E7 cI dC dI s) (hA : ∀ q, s.heap.size ≤ q → A q) (hR : 2 ≤ R.frames ∧ 32 ≤ R.locals) {pc i1 i2 : Nat} (d1 : decode (tb_cc 1) pc = .ok (.new i1, 3)) (d2 : decode (tb_cc 1) (pc + 3) = .ok (.dup, 1)) (d3 : decode (tb_cc 1) (pc + 4) = .ok (.invokespecial i2, 3)) (hcl : Jvm.Cond.classLink RX7 i1 RX1 ∈ ct_ws) (hnl : (i2, yX1_init) ∈ ct_nx) (hP : va_P (dC, dI) vwCl w H) (hD : va_D A w) (hS : va_S A s.heap H locs) (hc : cells + 1 ≤ R.cells ∧ slots + 6 ≤ R.slots) (hls : ls.size = 2) (hw : ∀ q, ((Value.ref q :: rest).map fun v => v.category).sum ≤ 8) (kk : ∀ (H : Heap) (locs : List Loc) (q : Nat), va_P (dC, dI) vwCl (ct_w1 q ++ w) H → va_D A (ct_w1 q ++ w) → va_S A s.heap H locs → W p l e R s m args below meth c0 H locs (cells + 1) (slots + 6) Q (F0 m (pc + 7) ls (.ref q :: rest))) : W p l e R s m args below meth c0 H locs cells slots Q (F0 m pc ls rest) := by
  have hK := hE.1
  refine va_new (ci := 1) (fs := [.int (i3 0), .int (i3 0), .int (i3 0), .int (i3 0), .int (i3 0), .int (i3 0)]) (C := RX1) (T := TX1) (N := 6) hx hb hts (ct_u 1 (by decide)) tyX1 tyX1_ok hown (hts _ hcl) (hts (.instantiable RX1 6) (ct_m 19 rfl)) (hts (.initialized RX1) (ct_m 18 rfl)) hK hP hD hS hA rfl ct_fr1 (by omega) (by omega) d1 (fun q H hP hD hS => ?_)
  refine lv_dup hx hb d2 rfl ?_
  have hP2 : va_P (dC, dI) vwCl (ct_o1 q ++ w) H := ct_Pp hP List.perm_append_comm
  have hD2 : va_D A (ct_o1 q ++ w) := ct_Dp hD List.perm_append_comm
  have hPc : va_P (dC, dI) vwCl (ct_o1 q) H := ct_Pm hP2 (fun _ h => List.mem_append_left _ h)
  have hDc : va_D A (ct_o1 q) := hD2.sub [0] (by decide) rfl
  have hFc := ct_free (wc := ct_o1 q) hD2 hS hA
  refine va_callv (va_runIN (As := []) (rest := .ref q :: rest) ⟨hx, hb, hml, hown, hts⟩ (ct_n1 l dC dI cI q H.size) ⟨va_cnB 0 hts (ct_gi (ct_m 17 rfl)) rfl rfl rfl (hE.2.1 _ hnl) (hts (.initialized RX1) (ct_m 18 rfl)) (by decide +kernel) ⟨by show 1 + 1 ≤ R.frames; omega, by show 8 + (1 + 11) + 12 ≤ R.locals; omega⟩, rfl, hts (.instanceMethod yX1_init) (ct_m 16 rfl)⟩ ⟨fun a U g mk q => by obtain ⟨q0, q1, qP, qK, qD⟩ := q; exact ⟨q0, q1, qP, va_K.moved (u := U) (U := U.calling g mk a) (Vm.Alike.refl U.vm) qK, qD⟩, fun U hU hW => ⟨rfl, by rw [hU], by rw [hU]; exact hPc, va_K.moved hW.alike hK, hDc.weaken (fun _ _ _ _ => trivial)⟩⟩ rfl rfl hls rfl (lv_room (hw q)) d3 ⟨by omega, by omega⟩) hS (fun q _ h => hFc q h) hFc (fun u t H1 locs ht hvm _ hB hz1 hk1 hS => ?_)
  obtain ⟨hP1, hD1⟩ := hB
  rw [ht] at hP1
  obtain ⟨hP3, hD3⟩ := ct_join hP2 hD2 hk1 hFc hP1 hD1
  exact W.widen (k := cells + 1) (n := slots + 6) (by omega) (by omega) (kk H1 locs q hP3 hD3 hS)
theorem ct_fr2 : ∀ j, j < 3 → defaultValue (tyX2 j) = vp_V [.int (i3 0), .int (i3 0), .null] j := by
  intro j hj
  rcases (show j = 0 ∨ j = 1 ∨ j = 2 by omega) with rfl | rfl | rfl <;> first | rfl | exact congrArg Value.int ct_0 | exact congrArg Value.long i6_zero.symm
theorem ct_new2 {p : Program} {l : Launch} {e : Env} {R : Room} {s : State} {m : MethodId} {args : Array Value} {below : List Frame} {meth : Method} {c0 : Code} {H : Heap} {locs : List Loc} {cells slots : Nat} {Q : State → Prop} {dC : Nat → ClassId} {dI : Nat → Nat → Nat} {cI : ClassId} {A : Nat → Prop} {ls : Array Slot} {rest : List Value} {w : va_W} (hx : p.tables.exec = Jvm.exec) (hb : c0.code = tb_cc 1) (hml : c0.maxLocals = 2) (hown : s.vm.findClass RX7 = some m.cls) (hts : ∀ w ∈ ct_ws, w.before args s = true) (hE : ct_E7 cI dC dI s) (hA : ∀ q, s.heap.size ≤ q → A q) (hR : 2 ≤ R.frames ∧ 32 ≤ R.locals) {pc i1 i2 : Nat} (d1 : decode (tb_cc 1) pc = .ok (.new i1, 3)) (d2 : decode (tb_cc 1) (pc + 3) = .ok (.dup, 1)) (d3 : decode (tb_cc 1) (pc + 4) = .ok (.invokespecial i2, 3)) (hcl : Jvm.Cond.classLink RX7 i1 RX2 ∈ ct_ws) (hnl : (i2, yX2_init) ∈ ct_nx) (hP : va_P (dC, dI) vwCl w H) (hD : va_D A w) (hS : va_S A s.heap H locs) (hc : cells + 2 ≤ R.cells ∧ slots + 43 ≤ R.slots) (hls : ls.size = 2) (hw : ∀ q, ((Value.ref q :: rest).map fun v => v.category).sum ≤ 8) (kk : ∀ (H : Heap) (locs : List Loc) (q q0 : Nat), va_P (dC, dI) vwCl (ct_w2 cI q q0 ++ w) H → va_D A (ct_w2 cI q q0 ++ w) → va_S A s.heap H locs → W p l e R s m args below meth c0 H locs (cells + 2) (slots + 43) Q (F0 m (pc + 7) ls (.ref q :: rest))) : W p l e R s m args below meth c0 H locs cells slots Q (F0 m pc ls rest) := by
  have hK := hE.1
  refine va_new (ci := 2) (fs := [.int (i3 0), .int (i3 0), .null]) (C := RX2) (T := TX2) (N := 3) hx hb hts (ct_u 2 (by decide)) tyX2 tyX2_ok hown (hts _ hcl) (hts (.instantiable RX2 3) (ct_m 23 rfl)) (hts (.initialized RX2) (ct_m 22 rfl)) hK hP hD hS hA rfl ct_fr2 (by omega) (by omega) d1 (fun q H hP hD hS => ?_)
  refine lv_dup hx hb d2 rfl ?_
  have hP2 : va_P (dC, dI) vwCl (ct_o2 q ++ w) H := ct_Pp hP List.perm_append_comm
  have hD2 : va_D A (ct_o2 q ++ w) := ct_Dp hD List.perm_append_comm
  have hPc : va_P (dC, dI) vwCl (ct_o2 q) H := ct_Pm hP2 (fun _ h => List.mem_append_left _ h)
  have hDc : va_D A (ct_o2 q) := hD2.sub [0] (by decide) rfl
  have hFc := ct_free (wc := ct_o2 q) hD2 hS hA
  refine va_callv (va_runIN (As := []) (rest := .ref q :: rest) ⟨hx, hb, hml, hown, hts⟩ (ct_n2 l dC dI cI q H.size) ⟨va_cnB 0 hts (ct_gi (ct_m 21 rfl)) rfl rfl rfl (hE.2.1 _ hnl) (hts (.initialized RX2) (ct_m 22 rfl)) (by decide +kernel) ⟨by show 1 + 1 ≤ R.frames; omega, by show 8 + (1 + 11) + 12 ≤ R.locals; omega⟩, rfl, hts (.instanceMethod yX2_init) (ct_m 20 rfl)⟩ ⟨fun a U g mk q => by obtain ⟨q0, q1, qP, qK, qD⟩ := q; exact ⟨q0, q1, qP, va_K.moved (u := U) (U := U.calling g mk a) (Vm.Alike.refl U.vm) qK, qD⟩, fun U hU hW => ⟨rfl, by rw [hU], by rw [hU]; exact hPc, va_K.moved hW.alike hK, hDc.weaken (fun _ _ _ _ => trivial)⟩⟩ rfl rfl hls rfl (lv_room (hw q)) d3 ⟨by omega, by omega⟩) hS (fun q _ h => hFc q h) hFc (fun u t H1 locs ht hvm _ hB hz1 hk1 hS => ?_)
  obtain ⟨q0, hP1, hD1⟩ := hB
  rw [ht] at hP1
  obtain ⟨hP3, hD3⟩ := ct_join hP2 hD2 hk1 hFc hP1 hD1
  exact W.widen (k := cells + 2) (n := slots + 43) (by omega) (by omega) (kk H1 locs q q0 hP3 hD3 hS)
theorem ct_fr3 : ∀ j, j < 9 → defaultValue (tyX3 j) = vp_V [.int (i3 0), .int (i3 0), .int (i3 0), .int (i3 0), .int (i3 0), .int (i3 0), .int (i3 0), .int (i3 0), .int (i3 0)] j := by
  intro j hj
  rcases (show j = 0 ∨ j = 1 ∨ j = 2 ∨ j = 3 ∨ j = 4 ∨ j = 5 ∨ j = 6 ∨ j = 7 ∨ j = 8 by omega) with rfl | rfl | rfl | rfl | rfl | rfl | rfl | rfl | rfl <;> first | rfl | exact congrArg Value.int ct_0 | exact congrArg Value.long i6_zero.symm
theorem ct_new3 {p : Program} {l : Launch} {e : Env} {R : Room} {s : State} {m : MethodId} {args : Array Value} {below : List Frame} {meth : Method} {c0 : Code} {H : Heap} {locs : List Loc} {cells slots : Nat} {Q : State → Prop} {dC : Nat → ClassId} {dI : Nat → Nat → Nat} {cI : ClassId} {A : Nat → Prop} {ls : Array Slot} {rest : List Value} {w : va_W} (hx : p.tables.exec = Jvm.exec) (hb : c0.code = tb_cc 1) (hml : c0.maxLocals = 2) (hown : s.vm.findClass RX7 = some m.cls) (hts : ∀ w ∈ ct_ws, w.before args s = true) (hE : ct_E7 cI dC dI s) (hA : ∀ q, s.heap.size ≤ q → A q) (hR : 2 ≤ R.frames ∧ 32 ≤ R.locals) {pc i1 i2 : Nat} (d1 : decode (tb_cc 1) pc = .ok (.new i1, 3)) (d2 : decode (tb_cc 1) (pc + 3) = .ok (.dup, 1)) (d3 : decode (tb_cc 1) (pc + 4) = .ok (.invokespecial i2, 3)) (hcl : Jvm.Cond.classLink RX7 i1 RX3 ∈ ct_ws) (hnl : (i2, yX3_init) ∈ ct_nx) (hP : va_P (dC, dI) vwCl w H) (hD : va_D A w) (hS : va_S A s.heap H locs) (hc : cells + 1 ≤ R.cells ∧ slots + 9 ≤ R.slots) (hls : ls.size = 2) (hw : ∀ q, ((Value.ref q :: rest).map fun v => v.category).sum ≤ 8) (kk : ∀ (H : Heap) (locs : List Loc) (q : Nat), va_P (dC, dI) vwCl (ct_w3 q ++ w) H → va_D A (ct_w3 q ++ w) → va_S A s.heap H locs → W p l e R s m args below meth c0 H locs (cells + 1) (slots + 9) Q (F0 m (pc + 7) ls (.ref q :: rest))) : W p l e R s m args below meth c0 H locs cells slots Q (F0 m pc ls rest) := by
  have hK := hE.1
  refine va_new (ci := 3) (fs := [.int (i3 0), .int (i3 0), .int (i3 0), .int (i3 0), .int (i3 0), .int (i3 0), .int (i3 0), .int (i3 0), .int (i3 0)]) (C := RX3) (T := TX3) (N := 9) hx hb hts (ct_u 3 (by decide)) tyX3 tyX3_ok hown (hts _ hcl) (hts (.instantiable RX3 9) (ct_m 27 rfl)) (hts (.initialized RX3) (ct_m 26 rfl)) hK hP hD hS hA rfl ct_fr3 (by omega) (by omega) d1 (fun q H hP hD hS => ?_)
  refine lv_dup hx hb d2 rfl ?_
  have hP2 : va_P (dC, dI) vwCl (ct_o3 q ++ w) H := ct_Pp hP List.perm_append_comm
  have hD2 : va_D A (ct_o3 q ++ w) := ct_Dp hD List.perm_append_comm
  have hPc : va_P (dC, dI) vwCl (ct_o3 q) H := ct_Pm hP2 (fun _ h => List.mem_append_left _ h)
  have hDc : va_D A (ct_o3 q) := hD2.sub [0] (by decide) rfl
  have hFc := ct_free (wc := ct_o3 q) hD2 hS hA
  refine va_callv (va_runIN (As := []) (rest := .ref q :: rest) ⟨hx, hb, hml, hown, hts⟩ (ct_n3 l dC dI cI q H.size) ⟨va_cnB 0 hts (ct_gi (ct_m 25 rfl)) rfl rfl rfl (hE.2.1 _ hnl) (hts (.initialized RX3) (ct_m 26 rfl)) (by decide +kernel) ⟨by show 1 + 1 ≤ R.frames; omega, by show 8 + (1 + 11) + 12 ≤ R.locals; omega⟩, rfl, hts (.instanceMethod yX3_init) (ct_m 24 rfl)⟩ ⟨fun a U g mk q => by obtain ⟨q0, q1, qP, qK, qD⟩ := q; exact ⟨q0, q1, qP, va_K.moved (u := U) (U := U.calling g mk a) (Vm.Alike.refl U.vm) qK, qD⟩, fun U hU hW => ⟨rfl, by rw [hU], by rw [hU]; exact hPc, va_K.moved hW.alike hK, hDc.weaken (fun _ _ _ _ => trivial)⟩⟩ rfl rfl hls rfl (lv_room (hw q)) d3 ⟨by omega, by omega⟩) hS (fun q _ h => hFc q h) hFc (fun u t H1 locs ht hvm _ hB hz1 hk1 hS => ?_)
  obtain ⟨hP1, hD1⟩ := hB
  rw [ht] at hP1
  obtain ⟨hP3, hD3⟩ := ct_join hP2 hD2 hk1 hFc hP1 hD1
  exact W.widen (k := cells + 1) (n := slots + 9) (by omega) (by omega) (kk H1 locs q hP3 hD3 hS)
theorem ct_fr4 : ∀ j, j < 7 → defaultValue (tyX4 j) = vp_V [.null, .null, .null, .int (i3 0), .int (i3 0), .int (i3 0), .int (i3 0)] j := by
  intro j hj
  rcases (show j = 0 ∨ j = 1 ∨ j = 2 ∨ j = 3 ∨ j = 4 ∨ j = 5 ∨ j = 6 by omega) with rfl | rfl | rfl | rfl | rfl | rfl | rfl <;> first | rfl | exact congrArg Value.int ct_0 | exact congrArg Value.long i6_zero.symm
theorem ct_new4 {p : Program} {l : Launch} {e : Env} {R : Room} {s : State} {m : MethodId} {args : Array Value} {below : List Frame} {meth : Method} {c0 : Code} {H : Heap} {locs : List Loc} {cells slots : Nat} {Q : State → Prop} {dC : Nat → ClassId} {dI : Nat → Nat → Nat} {cI : ClassId} {A : Nat → Prop} {ls : Array Slot} {rest : List Value} {w : va_W} (hx : p.tables.exec = Jvm.exec) (hb : c0.code = tb_cc 1) (hml : c0.maxLocals = 2) (hown : s.vm.findClass RX7 = some m.cls) (hts : ∀ w ∈ ct_ws, w.before args s = true) (hE : ct_E7 cI dC dI s) (hA : ∀ q, s.heap.size ≤ q → A q) (hR : 2 ≤ R.frames ∧ 32 ≤ R.locals) {pc i1 i2 : Nat} (d1 : decode (tb_cc 1) pc = .ok (.new i1, 3)) (d2 : decode (tb_cc 1) (pc + 3) = .ok (.dup, 1)) (d3 : decode (tb_cc 1) (pc + 4) = .ok (.invokespecial i2, 3)) (hcl : Jvm.Cond.classLink RX7 i1 RX4 ∈ ct_ws) (hnl : (i2, yX4_init) ∈ ct_nx) (hP : va_P (dC, dI) vwCl w H) (hD : va_D A w) (hS : va_S A s.heap H locs) (hc : cells + 4 ≤ R.cells ∧ slots + 22 ≤ R.slots) (hls : ls.size = 2) (hw : ∀ q, ((Value.ref q :: rest).map fun v => v.category).sum ≤ 8) (kk : ∀ (H : Heap) (locs : List Loc) (q q0 q1 q2 : Nat), va_P (dC, dI) vwCl (ct_w4 cI q q0 q1 q2 ++ w) H → va_D A (ct_w4 cI q q0 q1 q2 ++ w) → va_S A s.heap H locs → W p l e R s m args below meth c0 H locs (cells + 4) (slots + 22) Q (F0 m (pc + 7) ls (.ref q :: rest))) : W p l e R s m args below meth c0 H locs cells slots Q (F0 m pc ls rest) := by
  have hK := hE.1
  refine va_new (ci := 4) (fs := [.null, .null, .null, .int (i3 0), .int (i3 0), .int (i3 0), .int (i3 0)]) (C := RX4) (T := TX4) (N := 7) hx hb hts (ct_u 4 (by decide)) tyX4 tyX4_ok hown (hts _ hcl) (hts (.instantiable RX4 7) (ct_m 31 rfl)) (hts (.initialized RX4) (ct_m 30 rfl)) hK hP hD hS hA rfl ct_fr4 (by omega) (by omega) d1 (fun q H hP hD hS => ?_)
  refine lv_dup hx hb d2 rfl ?_
  have hP2 : va_P (dC, dI) vwCl (ct_o4 q ++ w) H := ct_Pp hP List.perm_append_comm
  have hD2 : va_D A (ct_o4 q ++ w) := ct_Dp hD List.perm_append_comm
  have hPc : va_P (dC, dI) vwCl (ct_o4 q) H := ct_Pm hP2 (fun _ h => List.mem_append_left _ h)
  have hDc : va_D A (ct_o4 q) := hD2.sub [0] (by decide) rfl
  have hFc := ct_free (wc := ct_o4 q) hD2 hS hA
  refine va_callv (va_runIN (As := []) (rest := .ref q :: rest) ⟨hx, hb, hml, hown, hts⟩ (ct_n4 l dC dI cI q H.size) ⟨va_cnB 0 hts (ct_gi (ct_m 29 rfl)) rfl rfl rfl (hE.2.1 _ hnl) (hts (.initialized RX4) (ct_m 30 rfl)) (by decide +kernel) ⟨by show 1 + 1 ≤ R.frames; omega, by show 8 + (1 + 11) + 12 ≤ R.locals; omega⟩, rfl, hts (.instanceMethod yX4_init) (ct_m 28 rfl)⟩ ⟨fun a U g mk q => by obtain ⟨q0, q1, qP, qK, qD⟩ := q; exact ⟨q0, q1, qP, va_K.moved (u := U) (U := U.calling g mk a) (Vm.Alike.refl U.vm) qK, qD⟩, fun U hU hW => ⟨rfl, by rw [hU], by rw [hU]; exact hPc, va_K.moved hW.alike hK, hDc.weaken (fun _ _ _ _ => trivial)⟩⟩ rfl rfl hls rfl (lv_room (hw q)) d3 ⟨by omega, by omega⟩) hS (fun q _ h => hFc q h) hFc (fun u t H1 locs ht hvm _ hB hz1 hk1 hS => ?_)
  obtain ⟨q0, q1, q2, hP1, hD1⟩ := hB
  rw [ht] at hP1
  obtain ⟨hP3, hD3⟩ := ct_join hP2 hD2 hk1 hFc hP1 hD1
  exact W.widen (k := cells + 4) (n := slots + 22) (by omega) (by omega) (kk H1 locs q q0 q1 q2 hP3 hD3 hS)
theorem ct_fr5 : ∀ j, j < 6 → defaultValue (tyX5 j) = vp_V [.null, .int (i3 0), .int (i3 0), .int (i3 0), .int (i3 0), .int (i3 0)] j := by
  intro j hj
  rcases (show j = 0 ∨ j = 1 ∨ j = 2 ∨ j = 3 ∨ j = 4 ∨ j = 5 by omega) with rfl | rfl | rfl | rfl | rfl | rfl <;> first | rfl | exact congrArg Value.int ct_0 | exact congrArg Value.long i6_zero.symm
theorem ct_new5 {p : Program} {l : Launch} {e : Env} {R : Room} {s : State} {m : MethodId} {args : Array Value} {below : List Frame} {meth : Method} {c0 : Code} {H : Heap} {locs : List Loc} {cells slots : Nat} {Q : State → Prop} {dC : Nat → ClassId} {dI : Nat → Nat → Nat} {cI : ClassId} {A : Nat → Prop} {ls : Array Slot} {rest : List Value} {w : va_W} (hx : p.tables.exec = Jvm.exec) (hb : c0.code = tb_cc 1) (hml : c0.maxLocals = 2) (hown : s.vm.findClass RX7 = some m.cls) (hts : ∀ w ∈ ct_ws, w.before args s = true) (hE : ct_E7 cI dC dI s) (hA : ∀ q, s.heap.size ≤ q → A q) (hR : 2 ≤ R.frames ∧ 32 ≤ R.locals) {pc i1 i2 : Nat} (d1 : decode (tb_cc 1) pc = .ok (.new i1, 3)) (d2 : decode (tb_cc 1) (pc + 3) = .ok (.dup, 1)) (d3 : decode (tb_cc 1) (pc + 4) = .ok (.invokespecial i2, 3)) (hcl : Jvm.Cond.classLink RX7 i1 RX5 ∈ ct_ws) (hnl : (i2, yX5_init) ∈ ct_nx) (hP : va_P (dC, dI) vwCl w H) (hD : va_D A w) (hS : va_S A s.heap H locs) (hc : cells + 2 ≤ R.cells ∧ slots + 166 ≤ R.slots) (hls : ls.size = 2) (hw : ∀ q, ((Value.ref q :: rest).map fun v => v.category).sum ≤ 8) (kk : ∀ (H : Heap) (locs : List Loc) (q q0 : Nat), va_P (dC, dI) vwCl (ct_w5 cI q q0 ++ w) H → va_D A (ct_w5 cI q q0 ++ w) → va_S A s.heap H locs → W p l e R s m args below meth c0 H locs (cells + 2) (slots + 166) Q (F0 m (pc + 7) ls (.ref q :: rest))) : W p l e R s m args below meth c0 H locs cells slots Q (F0 m pc ls rest) := by
  have hK := hE.1
  refine va_new (ci := 5) (fs := [.null, .int (i3 0), .int (i3 0), .int (i3 0), .int (i3 0), .int (i3 0)]) (C := RX5) (T := TX5) (N := 6) hx hb hts (ct_u 5 (by decide)) tyX5 tyX5_ok hown (hts _ hcl) (hts (.instantiable RX5 6) (ct_m 35 rfl)) (hts (.initialized RX5) (ct_m 34 rfl)) hK hP hD hS hA rfl ct_fr5 (by omega) (by omega) d1 (fun q H hP hD hS => ?_)
  refine lv_dup hx hb d2 rfl ?_
  have hP2 : va_P (dC, dI) vwCl (ct_o5 q ++ w) H := ct_Pp hP List.perm_append_comm
  have hD2 : va_D A (ct_o5 q ++ w) := ct_Dp hD List.perm_append_comm
  have hPc : va_P (dC, dI) vwCl (ct_o5 q) H := ct_Pm hP2 (fun _ h => List.mem_append_left _ h)
  have hDc : va_D A (ct_o5 q) := hD2.sub [0] (by decide) rfl
  have hFc := ct_free (wc := ct_o5 q) hD2 hS hA
  refine va_callv (va_runIN (As := []) (rest := .ref q :: rest) ⟨hx, hb, hml, hown, hts⟩ (ct_n5 l dC dI cI q H.size) ⟨va_cnB 0 hts (ct_gi (ct_m 33 rfl)) rfl rfl rfl (hE.2.1 _ hnl) (hts (.initialized RX5) (ct_m 34 rfl)) (by decide +kernel) ⟨by show 1 + 1 ≤ R.frames; omega, by show 8 + (1 + 11) + 12 ≤ R.locals; omega⟩, rfl, hts (.instanceMethod yX5_init) (ct_m 32 rfl)⟩ ⟨fun a U g mk q => by obtain ⟨q0, q1, qP, qK, qD⟩ := q; exact ⟨q0, q1, qP, va_K.moved (u := U) (U := U.calling g mk a) (Vm.Alike.refl U.vm) qK, qD⟩, fun U hU hW => ⟨rfl, by rw [hU], by rw [hU]; exact hPc, va_K.moved hW.alike hK, hDc.weaken (fun _ _ _ _ => trivial)⟩⟩ rfl rfl hls rfl (lv_room (hw q)) d3 ⟨by omega, by omega⟩) hS (fun q _ h => hFc q h) hFc (fun u t H1 locs ht hvm _ hB hz1 hk1 hS => ?_)
  obtain ⟨q0, hP1, hD1⟩ := hB
  rw [ht] at hP1
  obtain ⟨hP3, hD3⟩ := ct_join hP2 hD2 hk1 hFc hP1 hD1
  exact W.widen (k := cells + 2) (n := slots + 166) (by omega) (by omega) (kk H1 locs q q0 hP3 hD3 hS)
theorem ct_fr6 : ∀ j, j < 7 → defaultValue (tyX6 j) = vp_V [.null, .null, .null, .null, .null, .int (i3 0), .int (i3 0)] j := by
  intro j hj
  rcases (show j = 0 ∨ j = 1 ∨ j = 2 ∨ j = 3 ∨ j = 4 ∨ j = 5 ∨ j = 6 by omega) with rfl | rfl | rfl | rfl | rfl | rfl | rfl <;> first | rfl | exact congrArg Value.int ct_0 | exact congrArg Value.long i6_zero.symm
theorem ct_new6 {p : Program} {l : Launch} {e : Env} {R : Room} {s : State} {m : MethodId} {args : Array Value} {below : List Frame} {meth : Method} {c0 : Code} {H : Heap} {locs : List Loc} {cells slots : Nat} {Q : State → Prop} {dC : Nat → ClassId} {dI : Nat → Nat → Nat} {cI : ClassId} {A : Nat → Prop} {ls : Array Slot} {rest : List Value} {w : va_W} (hx : p.tables.exec = Jvm.exec) (hb : c0.code = tb_cc 1) (hml : c0.maxLocals = 2) (hown : s.vm.findClass RX7 = some m.cls) (hts : ∀ w ∈ ct_ws, w.before args s = true) (hE : ct_E7 cI dC dI s) (hA : ∀ q, s.heap.size ≤ q → A q) (hR : 2 ≤ R.frames ∧ 32 ≤ R.locals) {pc i1 i2 : Nat} (d1 : decode (tb_cc 1) pc = .ok (.new i1, 3)) (d2 : decode (tb_cc 1) (pc + 3) = .ok (.dup, 1)) (d3 : decode (tb_cc 1) (pc + 4) = .ok (.invokespecial i2, 3)) (hcl : Jvm.Cond.classLink RX7 i1 RX6 ∈ ct_ws) (hnl : (i2, yX6_init) ∈ ct_nx) (hP : va_P (dC, dI) vwCl w H) (hD : va_D A w) (hS : va_S A s.heap H locs) (hc : cells + 6 ≤ R.cells ∧ slots + 496 ≤ R.slots) (hls : ls.size = 2) (hw : ∀ q, ((Value.ref q :: rest).map fun v => v.category).sum ≤ 8) (kk : ∀ (H : Heap) (locs : List Loc) (q q0 q1 q2 q3 q4 : Nat), va_P (dC, dI) vwCl (ct_w6 cI q q0 q1 q2 q3 q4 ++ w) H → va_D A (ct_w6 cI q q0 q1 q2 q3 q4 ++ w) → va_S A s.heap H locs → W p l e R s m args below meth c0 H locs (cells + 6) (slots + 496) Q (F0 m (pc + 7) ls (.ref q :: rest))) : W p l e R s m args below meth c0 H locs cells slots Q (F0 m pc ls rest) := by
  have hK := hE.1
  refine va_new (ci := 6) (fs := [.null, .null, .null, .null, .null, .int (i3 0), .int (i3 0)]) (C := RX6) (T := TX6) (N := 7) hx hb hts (ct_u 6 (by decide)) tyX6 tyX6_ok hown (hts _ hcl) (hts (.instantiable RX6 7) (ct_m 39 rfl)) (hts (.initialized RX6) (ct_m 38 rfl)) hK hP hD hS hA rfl ct_fr6 (by omega) (by omega) d1 (fun q H hP hD hS => ?_)
  refine lv_dup hx hb d2 rfl ?_
  have hP2 : va_P (dC, dI) vwCl (ct_o6 q ++ w) H := ct_Pp hP List.perm_append_comm
  have hD2 : va_D A (ct_o6 q ++ w) := ct_Dp hD List.perm_append_comm
  have hPc : va_P (dC, dI) vwCl (ct_o6 q) H := ct_Pm hP2 (fun _ h => List.mem_append_left _ h)
  have hDc : va_D A (ct_o6 q) := hD2.sub [0] (by decide) rfl
  have hFc := ct_free (wc := ct_o6 q) hD2 hS hA
  refine va_callv (va_runIN (As := []) (rest := .ref q :: rest) ⟨hx, hb, hml, hown, hts⟩ (ct_n6 l dC dI cI q H.size) ⟨va_cnB 0 hts (ct_gi (ct_m 37 rfl)) rfl rfl rfl (hE.2.1 _ hnl) (hts (.initialized RX6) (ct_m 38 rfl)) (by decide +kernel) ⟨by show 1 + 1 ≤ R.frames; omega, by show 8 + (1 + 11) + 12 ≤ R.locals; omega⟩, rfl, hts (.instanceMethod yX6_init) (ct_m 36 rfl)⟩ ⟨fun a U g mk q => by obtain ⟨q0, q1, qP, qK, qD⟩ := q; exact ⟨q0, q1, qP, va_K.moved (u := U) (U := U.calling g mk a) (Vm.Alike.refl U.vm) qK, qD⟩, fun U hU hW => ⟨rfl, by rw [hU], by rw [hU]; exact hPc, va_K.moved hW.alike hK, hDc.weaken (fun _ _ _ _ => trivial)⟩⟩ rfl rfl hls rfl (lv_room (hw q)) d3 ⟨by omega, by omega⟩) hS (fun q _ h => hFc q h) hFc (fun u t H1 locs ht hvm _ hB hz1 hk1 hS => ?_)
  obtain ⟨q0, q1, q2, q3, q4, hP1, hD1⟩ := hB
  rw [ht] at hP1
  obtain ⟨hP3, hD3⟩ := ct_join hP2 hD2 hk1 hFc hP1 hD1
  exact W.widen (k := cells + 6) (n := slots + 496) (by omega) (by omega) (kk H1 locs q q0 q1 q2 q3 q4 hP3 hD3 hS)
