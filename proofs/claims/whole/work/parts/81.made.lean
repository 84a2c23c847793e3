/-! wb -/
/-! WHAT IS MADE: words, and the constructors of the nested classes (names as the kit prints them) -/
abbrev cX0_init : ByteArray := prog_2_method_1_code
def yX0_init : MethodName := ⟨RX0, "<init>", "()V"⟩
abbrev cX1_init : ByteArray := prog_3_method_1_code
def yX1_init : MethodName := ⟨RX1, "<init>", "()V"⟩
abbrev cX2_init : ByteArray := prog_4_method_1_code
def yX2_init : MethodName := ⟨RX2, "<init>", "()V"⟩
abbrev cX3_init : ByteArray := prog_5_method_1_code
def yX3_init : MethodName := ⟨RX3, "<init>", "()V"⟩
abbrev cX4_init : ByteArray := prog_6_method_1_code
def yX4_init : MethodName := ⟨RX4, "<init>", "()V"⟩
abbrev cX5_init : ByteArray := prog_7_method_1_code
def yX5_init : MethodName := ⟨RX5, "<init>", "()V"⟩
abbrev cX6_init : ByteArray := prog_8_method_1_code
def yX6_init : MethodName := ⟨RX6, "<init>", "()V"⟩
def ct_more : List Jvm.Cond := [.instanceMethod Lib.objectInit, .code Lib.objectInit ⟨#[0xb1]⟩ 1 none, .arrayClass .int, .methodLink RX0 3 Lib.objectInit, .methodLink RX1 3 Lib.objectInit, .methodLink RX2 3 Lib.objectInit, .methodLink RX3 1 Lib.objectInit, .methodLink RX4 3 Lib.objectInit, .methodLink RX5 3 Lib.objectInit, .methodLink RX6 3 Lib.objectInit, .methodLink RX7 1 Lib.objectInit, .methodLink RX8 1 Lib.objectInit, .instanceMethod yX0_init, .code yX0_init cX0_init 1 none, .initialized RX0, .instantiable RX0 3, .instanceMethod yX1_init, .code yX1_init cX1_init 1 none, .initialized RX1, .instantiable RX1 6, .instanceMethod yX2_init, .code yX2_init cX2_init 1 none, .initialized RX2, .instantiable RX2 3, .instanceMethod yX3_init, .code yX3_init cX3_init 1 none, .initialized RX3, .instantiable RX3 9, .instanceMethod yX4_init, .code yX4_init cX4_init 1 none, .initialized RX4, .instantiable RX4 7, .instanceMethod yX5_init, .code yX5_init cX5_init 1 none, .initialized RX5, .instantiable RX5 6, .instanceMethod yX6_init, .code yX6_init cX6_init 1 none, .initialized RX6, .instantiable RX6 7, .fieldLink RX2 9 "JustFivePounds$Sheet" "sort" "I", .fieldLink RX2 15 "JustFivePounds$Sheet" "cells" "[I", .fieldLink RX3 7 "JustFivePounds$State" "mark" "I", .fieldLink RX3 13 "JustFivePounds$State" "drips" "I", .fieldLink RX3 16 "JustFivePounds$State" "price" "I", .fieldLink RX3 19 "JustFivePounds$State" "fullAt" "I", .fieldLink RX4 9 "JustFivePounds$Stop" "ends" "[I", .fieldLink RX4 15 "JustFivePounds$Stop" "tenths" "[I", .fieldLink RX4 18 "JustFivePounds$Stop" "often" "[I", .fieldLink RX5 9 "JustFivePounds$Tape" "bytes" "[I", .fieldLink RX6 9 "JustFivePounds$Text" "steps" "[I", .fieldLink RX6 15 "JustFivePounds$Text" "values" "[I", .fieldLink RX6 18 "JustFivePounds$Text" "stack" "[I", .fieldLink RX6 21 "JustFivePounds$Text" "partEnds" "[I", .fieldLink RX6 24 "JustFivePounds$Text" "names" "[I", .classLink RX7 7 RX3, .fieldLink RX7 10 "JustFivePounds" "now" "LJustFivePounds$State;", .fieldLink RX7 16 "JustFivePounds" "kept" "LJustFivePounds$State;", .classLink RX7 19 RX1, .fieldLink RX7 21 "JustFivePounds" "hands" "[LJustFivePounds$Hand;", .fieldLink RX7 26 "JustFivePounds" "trial" "LJustFivePounds$Hand;", .classLink RX7 30 RX6, .fieldLink RX7 32 "JustFivePounds" "texts" "[LJustFivePounds$Text;", .classLink RX7 36 RX5, .fieldLink RX7 39 "JustFivePounds" "tape" "LJustFivePounds$Tape;", .classLink RX7 43 RX2, .fieldLink RX7 45 "JustFivePounds" "sheets" "[LJustFivePounds$Sheet;", .classLink RX7 49 RX4, .fieldLink RX7 52 "JustFivePounds" "stop" "LJustFivePounds$Stop;", .classLink RX7 56 RX0, .fieldLink RX7 59 "JustFivePounds" "best" "LJustFivePounds$Best;", .fieldLink RX8 7 "JustFivePoundsModel" "pump" "[I", .fieldLink RX8 13 "JustFivePoundsModel" "kind" "[I", .fieldLink RX8 16 "JustFivePoundsModel" "moreOf" "[I", .fieldLink RX8 19 "JustFivePoundsModel" "trained" "[I", .fieldLink RX8 22 "JustFivePoundsModel" "booked" "[I", .fieldLink RX8 25 "JustFivePoundsModel" "tape" "[I", .fieldLink RX8 28 "JustFivePoundsModel" "codes" "[I", .fieldLink RX8 31 "JustFivePoundsModel" "starts" "[I", .fieldLink RX8 34 "JustFivePoundsModel" "imageRows" "[I", .fieldLink RX8 37 "JustFivePoundsModel" "sheetSort" "[I", .fieldLink RX8 40 "JustFivePoundsModel" "sheetSize" "[I", .fieldLink RX8 43 "JustFivePoundsModel" "cells" "[I", .fieldLink RX8 46 "JustFivePoundsModel" "law" "[I", .fieldLink RX8 49 "JustFivePoundsModel" "words" "[I", .fieldLink RX8 52 "JustFivePoundsModel" "held" "[I", .fieldLink RX8 55 "JustFivePoundsModel" "stack" "[I", .fieldLink RX8 58 "JustFivePoundsModel" "named" "[I", .fieldLink RX8 61 "JustFivePoundsModel" "ends0" "[I", .fieldLink RX8 64 "JustFivePoundsModel" "tenths0" "[I", .fieldLink RX8 67 "JustFivePoundsModel" "oftens" "[I", .fieldLink RX8 70 "JustFivePoundsModel" "taped" "I"]
set_option maxRecDepth 100000 in
theorem ct_l : ∀ w ∈ ct_more, w ∈ lw_tbl := tb_in_of [79, 80, 187, 225, 133, 269, 86, 195, 166, 242, 78, 872, 223, 224, 64, 221, 131, 132, 61, 129, 267, 268, 66, 265, 84, 85, 60, 82, 193, 194, 63, 191, 164, 165, 62, 162, 240, 241, 65, 238, 270, 274, 87, 89, 92, 95, 196, 197, 198, 167, 243, 244, 245, 246, 247, 81, 431, 432, 127, 434, 435, 159, 436, 161, 438, 188, 439, 190, 440, 220, 441, 920, 922, 923, 924, 925, 926, 928, 929, 935, 936, 937, 938, 939, 944, 945, 949, 950, 951, 952, 953, 927] rfl
def ct_ws : List Jvm.Cond := am_ws ++ ct_more
theorem ct_m {w : Jvm.Cond} (k : Nat) (h : ct_more[k]? = some w) : w ∈ ct_ws := List.mem_append_right _ (List.mem_of_getElem? h)
theorem ct_more_good : ct_more.all goodWord = true := by decide +kernel
theorem ct_good : ∀ w ∈ ct_ws, goodWord w = true := fun w hw => (List.mem_append.mp hw).elim (fun h => List.all_eq_true.mp am_ws_good w h) (fun h => List.all_eq_true.mp ct_more_good w h)
theorem ct_in : ∀ w ∈ ct_ws, w ∈ lw_tbl := fun w hw => (List.mem_append.mp hw).elim (am_ws_in w) (ct_l w)
theorem ct_gi {w : Jvm.Cond} (h : w ∈ ct_ws) : GoodIn ct_ws (w :: ct_ws) := by
  intro v hv
  have hm : v ∈ ct_ws := by
    rcases List.mem_cons.mp hv with e | e
    · rw [e]; exact h
    · exact e
  exact ⟨hm, good_of_word (ct_good v hm)⟩
theorem ct_u (ci : Nat) (h : ci < 9) : ∀ w ∈ u_ws (tb_vc ci).1 (tb_vc ci).2.1 (tb_vc ci).2.2, w ∈ ct_ws := by
  intro w hw
  refine List.mem_append_left _ ?_
  unfold am_ws
  exact List.mem_append_right _ (List.mem_append_right _ (List.mem_append_right _ (List.mem_append_left _ (List.mem_flatMap.mpr ⟨ci, List.mem_range.mpr h, hw⟩))))
def ct_nest : List Jvm.Cond := [.methodLinkNest RX7 9 yX3_init "JustFivePounds", .methodLinkNest RX7 25 yX1_init "JustFivePounds", .methodLinkNest RX7 38 yX5_init "JustFivePounds", .methodLinkNest RX7 51 yX4_init "JustFivePounds", .methodLinkNest RX7 58 yX0_init "JustFivePounds", .methodLinkNest RX7 63 yX6_init "JustFivePounds", .methodLinkNest RX7 64 yX2_init "JustFivePounds"]
set_option maxRecDepth 100000 in
theorem ct_ln : ∀ w ∈ ct_nest, w ∈ lw_tbl := tb_in_of [83, 130, 163, 192, 222, 239, 266] rfl
theorem ct_d0_0 : decode cX0_init 0 = .ok (.aload_n 0, 1) := by decide +kernel
theorem ct_d0_1 : decode cX0_init 1 = .ok (.invokespecial 3, 3) := by decide +kernel
theorem ct_d0_4 : decode cX0_init 4 = .ok (.return_, 1) := by decide +kernel
abbrev ct_o0 (h0 : Nat) : va_W := [(h0, .inr (0, [.int (i3 0), .long (i6 0), .long (i6 0)]))]
/-- behind its constructor -/
abbrev ct_w0 (h0 : Nat) : va_W := [(h0, .inr (0, [.int (i3 0), .long (i6 0), .long (i6 0)]))]
set_option maxHeartbeats 4000000 in
set_option maxRecDepth 100000 in
theorem ct_n0 (l : Launch) (dC : Nat → ClassId) (dI : Nat → Nat → Nat) (cI : ClassId) (h0 sz : Nat) : Met l yX0_init (.code yX0_init cX0_init 1 none :: ct_ws) ({ frames := 1, cells := 0, slots := 0, locals := 12 }) (va_Pc [.ref h0] (fun U => U.heap.size = sz ∧ va_P (dC, dI) vwCl (ct_o0 h0) U.heap ∧ va_K (dC, dI) vwCl [(cI, .int)] U ∧ va_D (fun _ => True) (ct_o0 h0))) (va_Qv (fun _ : Unit => True) (fun _ t => va_P (dC, dI) vwCl (ct_w0 h0) t.heap ∧ va_D (va_A (ct_o0 h0) sz) (ct_w0 h0)) (va_A (ct_o0 h0) sz)) 0 0 (va_A (ct_o0 h0) sz) := by
  refine Met.ofW (cc := cX0_init) (maxL := 1) (ret := none) (by decide) rfl ?_
  intro p e s m args below meth c s₁ B hml hv
  obtain ⟨rfl, hsz, hP, hK, hD0⟩ := hv
  have hx := B.exec
  have hb := B.bytes
  have hr := B.returns
  have hts0 := atoms_spec (ws := .code yX0_init cX0_init 1 none :: ct_ws) B.pre
  have hts : ∀ w ∈ ct_ws, w.before ([Value.ref h0].toArray) s = true := fun w hw => hts0 w (List.mem_cons_of_mem _ hw)
  have hown : s.vm.findClass RX0 = some m.cls := findClass_of_methodNamed B.named
  have hlocks := B.notSynchronized
  have hin : meth.name = "<init>" := (name_of_methodNamed B.named B.method).1
  subst hsz
  have hD := hD0.self (sz := s.heap.size)
  obtain ⟨A, hAe⟩ : ∃ A, A = va_A (ct_o0 h0) s.heap.size := ⟨_, rfl⟩
  rw [← hAe] at hD ⊢
  have hA : ∀ q : Nat, s.heap.size ≤ q → A q := fun q h => by rw [hAe]; exact Or.inr h
  have hS : va_S A s.heap s.heap [] := va_S.rf
  have hl := lv_entry ([.ref h0]) (n := 1) (Nat.le_of_ble_eq_true rfl)
  rw [lg_entry_eq]
  generalize (lg_sl ([.ref h0]) ++ List.replicate (1 - (lg_sl ([.ref h0])).length) Slot.unset).toArray = ls at hl ⊢
  have hl : lv_has ls 1 [(0, .ref h0)] := hl
  refine lv_aload_n hx hb ct_d0_0 rfl (lv_at hl 0 rfl) ?_
  refine W.objInit hx hb hown (hts _ (ct_m 3 rfl)) (hts _ (ct_m 0 rfl)) (hts _ (ct_m 1 rfl)) rfl (by rw [hml]; exact hl.1) rfl ct_d0_1 (Nat.le_of_ble_eq_true rfl) (Nat.le_of_ble_eq_true rfl) ?_
  refine W.eq (g2 := F0 m 4 ls []) rfl ?_
  exact W.vret hx hb hr (fun t ht hW => ⟨⟨(), rfl, trivial, by rw [ht]; exact hP, hD⟩, hS.F ht⟩) hS.2.2 ct_d0_4
theorem ct_d1_0 : decode cX1_init 0 = .ok (.aload_n 0, 1) := by decide +kernel
theorem ct_d1_1 : decode cX1_init 1 = .ok (.invokespecial 3, 3) := by decide +kernel
theorem ct_d1_4 : decode cX1_init 4 = .ok (.return_, 1) := by decide +kernel
abbrev ct_o1 (h0 : Nat) : va_W := [(h0, .inr (1, [.int (i3 0), .int (i3 0), .int (i3 0), .int (i3 0), .int (i3 0), .int (i3 0)]))]
/-- behind its constructor -/
abbrev ct_w1 (h0 : Nat) : va_W := [(h0, .inr (1, [.int (i3 0), .int (i3 0), .int (i3 0), .int (i3 0), .int (i3 0), .int (i3 0)]))]
set_option maxHeartbeats 4000000 in
set_option maxRecDepth 100000 in
theorem ct_n1 (l : Launch) (dC : Nat → ClassId) (dI : Nat → Nat → Nat) (cI : ClassId) (h0 sz : Nat) : Met l yX1_init (.code yX1_init cX1_init 1 none :: ct_ws) ({ frames := 1, cells := 0, slots := 0, locals := 12 }) (va_Pc [.ref h0] (fun U => U.heap.size = sz ∧ va_P (dC, dI) vwCl (ct_o1 h0) U.heap ∧ va_K (dC, dI) vwCl [(cI, .int)] U ∧ va_D (fun _ => True) (ct_o1 h0))) (va_Qv (fun _ : Unit => True) (fun _ t => va_P (dC, dI) vwCl (ct_w1 h0) t.heap ∧ va_D (va_A (ct_o1 h0) sz) (ct_w1 h0)) (va_A (ct_o1 h0) sz)) 0 0 (va_A (ct_o1 h0) sz) := by
  refine Met.ofW (cc := cX1_init) (maxL := 1) (ret := none) (by decide) rfl ?_
  intro p e s m args below meth c s₁ B hml hv
  obtain ⟨rfl, hsz, hP, hK, hD0⟩ := hv
  have hx := B.exec
  have hb := B.bytes
  have hr := B.returns
  have hts0 := atoms_spec (ws := .code yX1_init cX1_init 1 none :: ct_ws) B.pre
  have hts : ∀ w ∈ ct_ws, w.before ([Value.ref h0].toArray) s = true := fun w hw => hts0 w (List.mem_cons_of_mem _ hw)
  have hown : s.vm.findClass RX1 = some m.cls := findClass_of_methodNamed B.named
  have hlocks := B.notSynchronized
  have hin : meth.name = "<init>" := (name_of_methodNamed B.named B.method).1
  subst hsz
  have hD := hD0.self (sz := s.heap.size)
  obtain ⟨A, hAe⟩ : ∃ A, A = va_A (ct_o1 h0) s.heap.size := ⟨_, rfl⟩
  rw [← hAe] at hD ⊢
  have hA : ∀ q : Nat, s.heap.size ≤ q → A q := fun q h => by rw [hAe]; exact Or.inr h
  have hS : va_S A s.heap s.heap [] := va_S.rf
  have hl := lv_entry ([.ref h0]) (n := 1) (Nat.le_of_ble_eq_true rfl)
  rw [lg_entry_eq]
  generalize (lg_sl ([.ref h0]) ++ List.replicate (1 - (lg_sl ([.ref h0])).length) Slot.unset).toArray = ls at hl ⊢
  have hl : lv_has ls 1 [(0, .ref h0)] := hl
  refine lv_aload_n hx hb ct_d1_0 rfl (lv_at hl 0 rfl) ?_
  refine W.objInit hx hb hown (hts _ (ct_m 4 rfl)) (hts _ (ct_m 0 rfl)) (hts _ (ct_m 1 rfl)) rfl (by rw [hml]; exact hl.1) rfl ct_d1_1 (Nat.le_of_ble_eq_true rfl) (Nat.le_of_ble_eq_true rfl) ?_
  refine W.eq (g2 := F0 m 4 ls []) rfl ?_
  exact W.vret hx hb hr (fun t ht hW => ⟨⟨(), rfl, trivial, by rw [ht]; exact hP, hD⟩, hS.F ht⟩) hS.2.2 ct_d1_4
theorem ct_d2_0 : decode cX2_init 0 = .ok (.aload_n 0, 1) := by decide +kernel
theorem ct_d2_1 : decode cX2_init 1 = .ok (.invokespecial 3, 3) := by decide +kernel
theorem ct_d2_4 : decode cX2_init 4 = .ok (.aload_n 0, 1) := by decide +kernel
theorem ct_d2_5 : decode cX2_init 5 = .ok (.iconst (-1), 1) := by decide +kernel
theorem ct_d2_6 : decode cX2_init 6 = .ok (.putfield 9, 3) := by decide +kernel
theorem ct_d2_9 : decode cX2_init 9 = .ok (.aload_n 0, 1) := by decide +kernel
theorem ct_d2_10 : decode cX2_init 10 = .ok (.bipush 40, 2) := by decide +kernel
theorem ct_d2_12 : decode cX2_init 12 = .ok (.newarray .int, 2) := by decide +kernel
theorem ct_d2_14 : decode cX2_init 14 = .ok (.putfield 15, 3) := by decide +kernel
theorem ct_d2_17 : decode cX2_init 17 = .ok (.return_, 1) := by decide +kernel
abbrev ct_o2 (h0 : Nat) : va_W := [(h0, .inr (2, [.int (i3 0), .int (i3 0), .null]))]
/-- behind its constructor -/
abbrev ct_w2 (cI : ClassId) (h0 q0 : Nat) : va_W := [(h0, .inr (2, [.int (i3 (-1)), .int (i3 0), .ref q0])), (q0, .inl (cI, (40, .inl fun _ => i3 0)))]
set_option maxHeartbeats 4000000 in
set_option maxRecDepth 100000 in
theorem ct_n2 (l : Launch) (dC : Nat → ClassId) (dI : Nat → Nat → Nat) (cI : ClassId) (h0 sz : Nat) : Met l yX2_init (.code yX2_init cX2_init 1 none :: ct_ws) ({ frames := 1, cells := 1, slots := 40, locals := 12 }) (va_Pc [.ref h0] (fun U => U.heap.size = sz ∧ va_P (dC, dI) vwCl (ct_o2 h0) U.heap ∧ va_K (dC, dI) vwCl [(cI, .int)] U ∧ va_D (fun _ => True) (ct_o2 h0))) (va_Qv (fun _ : Unit => True) (fun _ t => ∃ q0 : Nat, va_P (dC, dI) vwCl (ct_w2 cI h0 q0) t.heap ∧ va_D (va_A (ct_o2 h0) sz) (ct_w2 cI h0 q0)) (va_A (ct_o2 h0) sz)) 1 40 (va_A (ct_o2 h0) sz) := by
  refine Met.ofW (cc := cX2_init) (maxL := 1) (ret := none) (by decide) rfl ?_
  intro p e s m args below meth c s₁ B hml hv
  obtain ⟨rfl, hsz, hP, hK, hD0⟩ := hv
  have hx := B.exec
  have hb := B.bytes
  have hr := B.returns
  have hts0 := atoms_spec (ws := .code yX2_init cX2_init 1 none :: ct_ws) B.pre
  have hts : ∀ w ∈ ct_ws, w.before ([Value.ref h0].toArray) s = true := fun w hw => hts0 w (List.mem_cons_of_mem _ hw)
  have hown : s.vm.findClass RX2 = some m.cls := findClass_of_methodNamed B.named
  have hlocks := B.notSynchronized
  have hin : meth.name = "<init>" := (name_of_methodNamed B.named B.method).1
  subst hsz
  have hD := hD0.self (sz := s.heap.size)
  obtain ⟨A, hAe⟩ : ∃ A, A = va_A (ct_o2 h0) s.heap.size := ⟨_, rfl⟩
  rw [← hAe] at hD ⊢
  have hA : ∀ q : Nat, s.heap.size ≤ q → A q := fun q h => by rw [hAe]; exact Or.inr h
  have hS : va_S A s.heap s.heap [] := va_S.rf
  have hl := lv_entry ([.ref h0]) (n := 1) (Nat.le_of_ble_eq_true rfl)
  rw [lg_entry_eq]
  generalize (lg_sl ([.ref h0]) ++ List.replicate (1 - (lg_sl ([.ref h0])).length) Slot.unset).toArray = ls at hl ⊢
  have hl : lv_has ls 1 [(0, .ref h0)] := hl
  refine lv_aload_n hx hb ct_d2_0 rfl (lv_at hl 0 rfl) ?_
  refine W.objInit hx hb hown (hts _ (ct_m 5 rfl)) (hts _ (ct_m 0 rfl)) (hts _ (ct_m 1 rfl)) rfl (by rw [hml]; exact hl.1) rfl ct_d2_1 (Nat.le_of_ble_eq_true rfl) (Nat.le_of_ble_eq_true rfl) ?_
  refine W.eq (g2 := F0 m 4 ls []) rfl ?_
  refine lv_aload_n hx hb ct_d2_4 rfl (lv_at hl 0 rfl) ?_
  refine lv_iconst (v := i3 (-1)) hx hb ct_d2_5 (by decide +kernel) ?_
  refine va_put (D := (dC, dI)) (ci := 2) (v := .int (i3 (-1))) (ty := .int) (C := RX2) (T := TX2) (N := 3) hx hb hts (ct_u 2 (by decide)) tyX2 tyX2_ok nmX2 hown hK hP hD hS 0 rfl rfl 0 (by decide) (hts (.fieldLink RX2 9 "JustFivePounds$Sheet" "sort" "I") (ct_m 40 rfl)) (fun _ h9 => h9) rfl (by decide +kernel) rfl rfl (Nat.le_of_ble_eq_true rfl) ct_d2_6 (fun H locs hP hD hS => ?_)
  have hP : va_P (dC, dI) vwCl [(h0, .inr (2, [.int (i3 (-1)), .int (i3 0), .null]))] H := hP
  have hD : va_D A [(h0, .inr (2, [.int (i3 (-1)), .int (i3 0), .null]))] := hD
  refine lv_aload_n hx hb ct_d2_9 rfl (lv_at hl 0 rfl) ?_
  refine lv_bipush (v := i3 40) hx hb ct_d2_10 (by decide +kernel) ?_
  refine va_newa (atype := .int) (a0 := (40, .inl fun _ => i3 0)) (N' := 40) hx hb (hts (.arrayClass .int) (ct_m 2 rfl)) rfl hK hP hD hS hA (fun cA => by rw [i3_zero]; rfl) (by decide +kernel) (by decide +kernel) (Nat.le_of_ble_eq_true rfl) (Nat.le_of_ble_eq_true rfl) (Nat.le_of_ble_eq_true rfl) ct_d2_12 (fun q0 c1 H hK hP hD hS => ?_)
  obtain rfl : cI = c1 := ct_int1 (hK.2 0 _ rfl).2 (hK.2 1 _ rfl).2
  have hK : va_K (dC, dI) vwCl [(cI, .int)] s := hK.sub [0] rfl
  have hP : va_P (dC, dI) vwCl [(h0, .inr (2, [.int (i3 (-1)), .int (i3 0), .null])), (q0, .inl (cI, (40, .inl fun _ => i3 0)))] H := hP
  have hD : va_D A [(h0, .inr (2, [.int (i3 (-1)), .int (i3 0), .null])), (q0, .inl (cI, (40, .inl fun _ => i3 0)))] := hD
  refine W.widen (k := 1) (n := 40) (by omega) (by omega) ?_
  refine va_putF (D := (dC, dI)) (ci := 2) (v := .ref q0) (ty := .array .int) (C := RX2) (T := TX2) (N := 3) hx hb hts (ct_u 2 (by decide)) tyX2 tyX2_ok nmX2 hown hK hP hD hS 0 rfl rfl 2 (by decide) (hts (.fieldLink RX2 15 "JustFivePounds$Sheet" "cells" "[I") (ct_m 41 rfl)) (fun _ h9 => h9) rfl hin rfl (by decide +kernel) rfl rfl (Nat.le_of_ble_eq_true rfl) ct_d2_14 (fun H locs hP hD hS => ?_)
  have hP : va_P (dC, dI) vwCl [(h0, .inr (2, [.int (i3 (-1)), .int (i3 0), .ref q0])), (q0, .inl (cI, (40, .inl fun _ => i3 0)))] H := hP
  have hD : va_D A [(h0, .inr (2, [.int (i3 (-1)), .int (i3 0), .ref q0])), (q0, .inl (cI, (40, .inl fun _ => i3 0)))] := hD
  refine W.widen (k := 1) (n := 40) (Nat.le_of_ble_eq_true rfl) (Nat.le_of_ble_eq_true rfl) ?_
  exact W.vret hx hb hr (fun t ht hW => ⟨⟨(), rfl, trivial, q0, by rw [ht]; exact hP, hD⟩, hS.F ht⟩) hS.2.2 ct_d2_17
theorem ct_d3_0 : decode cX3_init 0 = .ok (.aload_n 0, 1) := by decide +kernel
theorem ct_d3_1 : decode cX3_init 1 = .ok (.invokespecial 1, 3) := by decide +kernel
theorem ct_d3_4 : decode cX3_init 4 = .ok (.aload_n 0, 1) := by decide +kernel
theorem ct_d3_5 : decode cX3_init 5 = .ok (.sipush 500, 3) := by decide +kernel
theorem ct_d3_8 : decode cX3_init 8 = .ok (.putfield 7, 3) := by decide +kernel
theorem ct_d3_11 : decode cX3_init 11 = .ok (.aload_n 0, 1) := by decide +kernel
theorem ct_d3_12 : decode cX3_init 12 = .ok (.iconst 1, 1) := by decide +kernel
theorem ct_d3_13 : decode cX3_init 13 = .ok (.putfield 13, 3) := by decide +kernel
theorem ct_d3_16 : decode cX3_init 16 = .ok (.aload_n 0, 1) := by decide +kernel
theorem ct_d3_17 : decode cX3_init 17 = .ok (.bipush 40, 2) := by decide +kernel
theorem ct_d3_19 : decode cX3_init 19 = .ok (.putfield 16, 3) := by decide +kernel
theorem ct_d3_22 : decode cX3_init 22 = .ok (.aload_n 0, 1) := by decide +kernel
theorem ct_d3_23 : decode cX3_init 23 = .ok (.sipush 5000, 3) := by decide +kernel
theorem ct_d3_26 : decode cX3_init 26 = .ok (.putfield 19, 3) := by decide +kernel
theorem ct_d3_29 : decode cX3_init 29 = .ok (.return_, 1) := by decide +kernel
abbrev ct_o3 (h0 : Nat) : va_W := [(h0, .inr (3, [.int (i3 0), .int (i3 0), .int (i3 0), .int (i3 0), .int (i3 0), .int (i3 0), .int (i3 0), .int (i3 0), .int (i3 0)]))]
/-- behind its constructor -/
abbrev ct_w3 (h0 : Nat) : va_W := [(h0, .inr (3, [.int (i3 500), .int (i3 1), .int (i3 40), .int (i3 5000), .int (i3 0), .int (i3 0), .int (i3 0), .int (i3 0), .int (i3 0)]))]
set_option maxHeartbeats 4000000 in
set_option maxRecDepth 100000 in
theorem ct_n3 (l : Launch) (dC : Nat → ClassId) (dI : Nat → Nat → Nat) (cI : ClassId) (h0 sz : Nat) : Met l yX3_init (.code yX3_init cX3_init 1 none :: ct_ws) ({ frames := 1, cells := 0, slots := 0, locals := 12 }) (va_Pc [.ref h0] (fun U => U.heap.size = sz ∧ va_P (dC, dI) vwCl (ct_o3 h0) U.heap ∧ va_K (dC, dI) vwCl [(cI, .int)] U ∧ va_D (fun _ => True) (ct_o3 h0))) (va_Qv (fun _ : Unit => True) (fun _ t => va_P (dC, dI) vwCl (ct_w3 h0) t.heap ∧ va_D (va_A (ct_o3 h0) sz) (ct_w3 h0)) (va_A (ct_o3 h0) sz)) 0 0 (va_A (ct_o3 h0) sz) := by
  refine Met.ofW (cc := cX3_init) (maxL := 1) (ret := none) (by decide) rfl ?_
  intro p e s m args below meth c s₁ B hml hv
  obtain ⟨rfl, hsz, hP, hK, hD0⟩ := hv
  have hx := B.exec
  have hb := B.bytes
  have hr := B.returns
  have hts0 := atoms_spec (ws := .code yX3_init cX3_init 1 none :: ct_ws) B.pre
  have hts : ∀ w ∈ ct_ws, w.before ([Value.ref h0].toArray) s = true := fun w hw => hts0 w (List.mem_cons_of_mem _ hw)
  have hown : s.vm.findClass RX3 = some m.cls := findClass_of_methodNamed B.named
  have hlocks := B.notSynchronized
  have hin : meth.name = "<init>" := (name_of_methodNamed B.named B.method).1
  subst hsz
  have hD := hD0.self (sz := s.heap.size)
  obtain ⟨A, hAe⟩ : ∃ A, A = va_A (ct_o3 h0) s.heap.size := ⟨_, rfl⟩
  rw [← hAe] at hD ⊢
  have hA : ∀ q : Nat, s.heap.size ≤ q → A q := fun q h => by rw [hAe]; exact Or.inr h
  have hS : va_S A s.heap s.heap [] := va_S.rf
  have hl := lv_entry ([.ref h0]) (n := 1) (Nat.le_of_ble_eq_true rfl)
  rw [lg_entry_eq]
  generalize (lg_sl ([.ref h0]) ++ List.replicate (1 - (lg_sl ([.ref h0])).length) Slot.unset).toArray = ls at hl ⊢
  have hl : lv_has ls 1 [(0, .ref h0)] := hl
  refine lv_aload_n hx hb ct_d3_0 rfl (lv_at hl 0 rfl) ?_
  refine W.objInit hx hb hown (hts _ (ct_m 6 rfl)) (hts _ (ct_m 0 rfl)) (hts _ (ct_m 1 rfl)) rfl (by rw [hml]; exact hl.1) rfl ct_d3_1 (Nat.le_of_ble_eq_true rfl) (Nat.le_of_ble_eq_true rfl) ?_
  refine W.eq (g2 := F0 m 4 ls []) rfl ?_
  refine lv_aload_n hx hb ct_d3_4 rfl (lv_at hl 0 rfl) ?_
  refine lv_sipush (v := i3 500) hx hb ct_d3_5 (by decide +kernel) ?_
  refine va_put (D := (dC, dI)) (ci := 3) (v := .int (i3 500)) (ty := .int) (C := RX3) (T := TX3) (N := 9) hx hb hts (ct_u 3 (by decide)) tyX3 tyX3_ok nmX3 hown hK hP hD hS 0 rfl rfl 0 (by decide) (hts (.fieldLink RX3 7 "JustFivePounds$State" "mark" "I") (ct_m 42 rfl)) (fun _ h9 => h9) rfl (by decide +kernel) rfl rfl (Nat.le_of_ble_eq_true rfl) ct_d3_8 (fun H locs hP hD hS => ?_)
  have hP : va_P (dC, dI) vwCl [(h0, .inr (3, [.int (i3 500), .int (i3 0), .int (i3 0), .int (i3 0), .int (i3 0), .int (i3 0), .int (i3 0), .int (i3 0), .int (i3 0)]))] H := hP
  have hD : va_D A [(h0, .inr (3, [.int (i3 500), .int (i3 0), .int (i3 0), .int (i3 0), .int (i3 0), .int (i3 0), .int (i3 0), .int (i3 0), .int (i3 0)]))] := hD
  refine lv_aload_n hx hb ct_d3_11 rfl (lv_at hl 0 rfl) ?_
  refine lv_iconst (v := i3 1) hx hb ct_d3_12 (by decide +kernel) ?_
  refine va_put (D := (dC, dI)) (ci := 3) (v := .int (i3 1)) (ty := .int) (C := RX3) (T := TX3) (N := 9) hx hb hts (ct_u 3 (by decide)) tyX3 tyX3_ok nmX3 hown hK hP hD hS 0 rfl rfl 1 (by decide) (hts (.fieldLink RX3 13 "JustFivePounds$State" "drips" "I") (ct_m 43 rfl)) (fun _ h9 => h9) rfl (by decide +kernel) rfl rfl (Nat.le_of_ble_eq_true rfl) ct_d3_13 (fun H locs hP hD hS => ?_)
  have hP : va_P (dC, dI) vwCl [(h0, .inr (3, [.int (i3 500), .int (i3 1), .int (i3 0), .int (i3 0), .int (i3 0), .int (i3 0), .int (i3 0), .int (i3 0), .int (i3 0)]))] H := hP
  have hD : va_D A [(h0, .inr (3, [.int (i3 500), .int (i3 1), .int (i3 0), .int (i3 0), .int (i3 0), .int (i3 0), .int (i3 0), .int (i3 0), .int (i3 0)]))] := hD
  refine lv_aload_n hx hb ct_d3_16 rfl (lv_at hl 0 rfl) ?_
  refine lv_bipush (v := i3 40) hx hb ct_d3_17 (by decide +kernel) ?_
  refine va_put (D := (dC, dI)) (ci := 3) (v := .int (i3 40)) (ty := .int) (C := RX3) (T := TX3) (N := 9) hx hb hts (ct_u 3 (by decide)) tyX3 tyX3_ok nmX3 hown hK hP hD hS 0 rfl rfl 2 (by decide) (hts (.fieldLink RX3 16 "JustFivePounds$State" "price" "I") (ct_m 44 rfl)) (fun _ h9 => h9) rfl (by decide +kernel) rfl rfl (Nat.le_of_ble_eq_true rfl) ct_d3_19 (fun H locs hP hD hS => ?_)
  have hP : va_P (dC, dI) vwCl [(h0, .inr (3, [.int (i3 500), .int (i3 1), .int (i3 40), .int (i3 0), .int (i3 0), .int (i3 0), .int (i3 0), .int (i3 0), .int (i3 0)]))] H := hP
  have hD : va_D A [(h0, .inr (3, [.int (i3 500), .int (i3 1), .int (i3 40), .int (i3 0), .int (i3 0), .int (i3 0), .int (i3 0), .int (i3 0), .int (i3 0)]))] := hD
  refine lv_aload_n hx hb ct_d3_22 rfl (lv_at hl 0 rfl) ?_
  refine lv_sipush (v := i3 5000) hx hb ct_d3_23 (by decide +kernel) ?_
  refine va_put (D := (dC, dI)) (ci := 3) (v := .int (i3 5000)) (ty := .int) (C := RX3) (T := TX3) (N := 9) hx hb hts (ct_u 3 (by decide)) tyX3 tyX3_ok nmX3 hown hK hP hD hS 0 rfl rfl 3 (by decide) (hts (.fieldLink RX3 19 "JustFivePounds$State" "fullAt" "I") (ct_m 45 rfl)) (fun _ h9 => h9) rfl (by decide +kernel) rfl rfl (Nat.le_of_ble_eq_true rfl) ct_d3_26 (fun H locs hP hD hS => ?_)
  have hP : va_P (dC, dI) vwCl [(h0, .inr (3, [.int (i3 500), .int (i3 1), .int (i3 40), .int (i3 5000), .int (i3 0), .int (i3 0), .int (i3 0), .int (i3 0), .int (i3 0)]))] H := hP
  have hD : va_D A [(h0, .inr (3, [.int (i3 500), .int (i3 1), .int (i3 40), .int (i3 5000), .int (i3 0), .int (i3 0), .int (i3 0), .int (i3 0), .int (i3 0)]))] := hD
  exact W.vret hx hb hr (fun t ht hW => ⟨⟨(), rfl, trivial, by rw [ht]; exact hP, hD⟩, hS.F ht⟩) hS.2.2 ct_d3_29
theorem ct_d4_0 : decode cX4_init 0 = .ok (.aload_n 0, 1) := by decide +kernel
theorem ct_d4_1 : decode cX4_init 1 = .ok (.invokespecial 3, 3) := by decide +kernel
theorem ct_d4_4 : decode cX4_init 4 = .ok (.aload_n 0, 1) := by decide +kernel
theorem ct_d4_5 : decode cX4_init 5 = .ok (.iconst 5, 1) := by decide +kernel
theorem ct_d4_6 : decode cX4_init 6 = .ok (.newarray .int, 2) := by decide +kernel
theorem ct_d4_8 : decode cX4_init 8 = .ok (.putfield 9, 3) := by decide +kernel
theorem ct_d4_11 : decode cX4_init 11 = .ok (.aload_n 0, 1) := by decide +kernel
theorem ct_d4_12 : decode cX4_init 12 = .ok (.iconst 5, 1) := by decide +kernel
theorem ct_d4_13 : decode cX4_init 13 = .ok (.newarray .int, 2) := by decide +kernel
theorem ct_d4_15 : decode cX4_init 15 = .ok (.putfield 15, 3) := by decide +kernel
theorem ct_d4_18 : decode cX4_init 18 = .ok (.aload_n 0, 1) := by decide +kernel
theorem ct_d4_19 : decode cX4_init 19 = .ok (.iconst 5, 1) := by decide +kernel
theorem ct_d4_20 : decode cX4_init 20 = .ok (.newarray .int, 2) := by decide +kernel
theorem ct_d4_22 : decode cX4_init 22 = .ok (.putfield 18, 3) := by decide +kernel
theorem ct_d4_25 : decode cX4_init 25 = .ok (.return_, 1) := by decide +kernel
abbrev ct_o4 (h0 : Nat) : va_W := [(h0, .inr (4, [.null, .null, .null, .int (i3 0), .int (i3 0), .int (i3 0), .int (i3 0)]))]
/-- behind its constructor -/
abbrev ct_w4 (cI : ClassId) (h0 q0 q1 q2 : Nat) : va_W := [(h0, .inr (4, [.ref q0, .ref q1, .ref q2, .int (i3 0), .int (i3 0), .int (i3 0), .int (i3 0)])), (q0, .inl (cI, (5, .inl fun _ => i3 0))), (q1, .inl (cI, (5, .inl fun _ => i3 0))), (q2, .inl (cI, (5, .inl fun _ => i3 0)))]
set_option maxHeartbeats 4000000 in
set_option maxRecDepth 100000 in
theorem ct_n4 (l : Launch) (dC : Nat → ClassId) (dI : Nat → Nat → Nat) (cI : ClassId) (h0 sz : Nat) : Met l yX4_init (.code yX4_init cX4_init 1 none :: ct_ws) ({ frames := 1, cells := 3, slots := 15, locals := 12 }) (va_Pc [.ref h0] (fun U => U.heap.size = sz ∧ va_P (dC, dI) vwCl (ct_o4 h0) U.heap ∧ va_K (dC, dI) vwCl [(cI, .int)] U ∧ va_D (fun _ => True) (ct_o4 h0))) (va_Qv (fun _ : Unit => True) (fun _ t => ∃ q0 q1 q2 : Nat, va_P (dC, dI) vwCl (ct_w4 cI h0 q0 q1 q2) t.heap ∧ va_D (va_A (ct_o4 h0) sz) (ct_w4 cI h0 q0 q1 q2)) (va_A (ct_o4 h0) sz)) 3 15 (va_A (ct_o4 h0) sz) := by
  refine Met.ofW (cc := cX4_init) (maxL := 1) (ret := none) (by decide) rfl ?_
  intro p e s m args below meth c s₁ B hml hv
  obtain ⟨rfl, hsz, hP, hK, hD0⟩ := hv
  have hx := B.exec
  have hb := B.bytes
  have hr := B.returns
  have hts0 := atoms_spec (ws := .code yX4_init cX4_init 1 none :: ct_ws) B.pre
  have hts : ∀ w ∈ ct_ws, w.before ([Value.ref h0].toArray) s = true := fun w hw => hts0 w (List.mem_cons_of_mem _ hw)
  have hown : s.vm.findClass RX4 = some m.cls := findClass_of_methodNamed B.named
  have hlocks := B.notSynchronized
  have hin : meth.name = "<init>" := (name_of_methodNamed B.named B.method).1
  subst hsz
  have hD := hD0.self (sz := s.heap.size)
  obtain ⟨A, hAe⟩ : ∃ A, A = va_A (ct_o4 h0) s.heap.size := ⟨_, rfl⟩
  rw [← hAe] at hD ⊢
  have hA : ∀ q : Nat, s.heap.size ≤ q → A q := fun q h => by rw [hAe]; exact Or.inr h
  have hS : va_S A s.heap s.heap [] := va_S.rf
  have hl := lv_entry ([.ref h0]) (n := 1) (Nat.le_of_ble_eq_true rfl)
  rw [lg_entry_eq]
  generalize (lg_sl ([.ref h0]) ++ List.replicate (1 - (lg_sl ([.ref h0])).length) Slot.unset).toArray = ls at hl ⊢
  have hl : lv_has ls 1 [(0, .ref h0)] := hl
  refine lv_aload_n hx hb ct_d4_0 rfl (lv_at hl 0 rfl) ?_
  refine W.objInit hx hb hown (hts _ (ct_m 7 rfl)) (hts _ (ct_m 0 rfl)) (hts _ (ct_m 1 rfl)) rfl (by rw [hml]; exact hl.1) rfl ct_d4_1 (Nat.le_of_ble_eq_true rfl) (Nat.le_of_ble_eq_true rfl) ?_
  refine W.eq (g2 := F0 m 4 ls []) rfl ?_
  refine lv_aload_n hx hb ct_d4_4 rfl (lv_at hl 0 rfl) ?_
  refine lv_iconst (v := i3 5) hx hb ct_d4_5 (by decide +kernel) ?_
  refine va_newa (atype := .int) (a0 := (5, .inl fun _ => i3 0)) (N' := 5) hx hb (hts (.arrayClass .int) (ct_m 2 rfl)) rfl hK hP hD hS hA (fun cA => by rw [i3_zero]; rfl) (by decide +kernel) (by decide +kernel) (Nat.le_of_ble_eq_true rfl) (Nat.le_of_ble_eq_true rfl) (Nat.le_of_ble_eq_true rfl) ct_d4_6 (fun q0 c1 H hK hP hD hS => ?_)
  obtain rfl : cI = c1 := ct_int1 (hK.2 0 _ rfl).2 (hK.2 1 _ rfl).2
  have hK : va_K (dC, dI) vwCl [(cI, .int)] s := hK.sub [0] rfl
  have hP : va_P (dC, dI) vwCl [(h0, .inr (4, [.null, .null, .null, .int (i3 0), .int (i3 0), .int (i3 0), .int (i3 0)])), (q0, .inl (cI, (5, .inl fun _ => i3 0)))] H := hP
  have hD : va_D A [(h0, .inr (4, [.null, .null, .null, .int (i3 0), .int (i3 0), .int (i3 0), .int (i3 0)])), (q0, .inl (cI, (5, .inl fun _ => i3 0)))] := hD
  refine W.widen (k := 1) (n := 5) (by omega) (by omega) ?_
  refine va_putF (D := (dC, dI)) (ci := 4) (v := .ref q0) (ty := .array .int) (C := RX4) (T := TX4) (N := 7) hx hb hts (ct_u 4 (by decide)) tyX4 tyX4_ok nmX4 hown hK hP hD hS 0 rfl rfl 0 (by decide) (hts (.fieldLink RX4 9 "JustFivePounds$Stop" "ends" "[I") (ct_m 46 rfl)) (fun _ h9 => h9) rfl hin rfl (by decide +kernel) rfl rfl (Nat.le_of_ble_eq_true rfl) ct_d4_8 (fun H locs hP hD hS => ?_)
  have hP : va_P (dC, dI) vwCl [(h0, .inr (4, [.ref q0, .null, .null, .int (i3 0), .int (i3 0), .int (i3 0), .int (i3 0)])), (q0, .inl (cI, (5, .inl fun _ => i3 0)))] H := hP
  have hD : va_D A [(h0, .inr (4, [.ref q0, .null, .null, .int (i3 0), .int (i3 0), .int (i3 0), .int (i3 0)])), (q0, .inl (cI, (5, .inl fun _ => i3 0)))] := hD
  refine lv_aload_n hx hb ct_d4_11 rfl (lv_at hl 0 rfl) ?_
  refine lv_iconst (v := i3 5) hx hb ct_d4_12 (by decide +kernel) ?_
  refine va_newa (atype := .int) (a0 := (5, .inl fun _ => i3 0)) (N' := 5) hx hb (hts (.arrayClass .int) (ct_m 2 rfl)) rfl hK hP hD hS hA (fun cA => by rw [i3_zero]; rfl) (by decide +kernel) (by decide +kernel) (Nat.le_of_ble_eq_true rfl) (Nat.le_of_ble_eq_true rfl) (Nat.le_of_ble_eq_true rfl) ct_d4_13 (fun q1 c1 H hK hP hD hS => ?_)
  obtain rfl : cI = c1 := ct_int1 (hK.2 0 _ rfl).2 (hK.2 1 _ rfl).2
  have hK : va_K (dC, dI) vwCl [(cI, .int)] s := hK.sub [0] rfl
  have hP : va_P (dC, dI) vwCl [(h0, .inr (4, [.ref q0, .null, .null, .int (i3 0), .int (i3 0), .int (i3 0), .int (i3 0)])), (q0, .inl (cI, (5, .inl fun _ => i3 0))), (q1, .inl (cI, (5, .inl fun _ => i3 0)))] H := hP
  have hD : va_D A [(h0, .inr (4, [.ref q0, .null, .null, .int (i3 0), .int (i3 0), .int (i3 0), .int (i3 0)])), (q0, .inl (cI, (5, .inl fun _ => i3 0))), (q1, .inl (cI, (5, .inl fun _ => i3 0)))] := hD
  refine W.widen (k := 2) (n := 10) (by omega) (by omega) ?_
  refine va_putF (D := (dC, dI)) (ci := 4) (v := .ref q1) (ty := .array .int) (C := RX4) (T := TX4) (N := 7) hx hb hts (ct_u 4 (by decide)) tyX4 tyX4_ok nmX4 hown hK hP hD hS 0 rfl rfl 1 (by decide) (hts (.fieldLink RX4 15 "JustFivePounds$Stop" "tenths" "[I") (ct_m 47 rfl)) (fun _ h9 => h9) rfl hin rfl (by decide +kernel) rfl rfl (Nat.le_of_ble_eq_true rfl) ct_d4_15 (fun H locs hP hD hS => ?_)
  have hP : va_P (dC, dI) vwCl [(h0, .inr (4, [.ref q0, .ref q1, .null, .int (i3 0), .int (i3 0), .int (i3 0), .int (i3 0)])), (q0, .inl (cI, (5, .inl fun _ => i3 0))), (q1, .inl (cI, (5, .inl fun _ => i3 0)))] H := hP
  have hD : va_D A [(h0, .inr (4, [.ref q0, .ref q1, .null, .int (i3 0), .int (i3 0), .int (i3 0), .int (i3 0)])), (q0, .inl (cI, (5, .inl fun _ => i3 0))), (q1, .inl (cI, (5, .inl fun _ => i3 0)))] := hD
  refine lv_aload_n hx hb ct_d4_18 rfl (lv_at hl 0 rfl) ?_
  refine lv_iconst (v := i3 5) hx hb ct_d4_19 (by decide +kernel) ?_
  refine va_newa (atype := .int) (a0 := (5, .inl fun _ => i3 0)) (N' := 5) hx hb (hts (.arrayClass .int) (ct_m 2 rfl)) rfl hK hP hD hS hA (fun cA => by rw [i3_zero]; rfl) (by decide +kernel) (by decide +kernel) (Nat.le_of_ble_eq_true rfl) (Nat.le_of_ble_eq_true rfl) (Nat.le_of_ble_eq_true rfl) ct_d4_20 (fun q2 c1 H hK hP hD hS => ?_)
  obtain rfl : cI = c1 := ct_int1 (hK.2 0 _ rfl).2 (hK.2 1 _ rfl).2
  have hK : va_K (dC, dI) vwCl [(cI, .int)] s := hK.sub [0] rfl
  have hP : va_P (dC, dI) vwCl [(h0, .inr (4, [.ref q0, .ref q1, .null, .int (i3 0), .int (i3 0), .int (i3 0), .int (i3 0)])), (q0, .inl (cI, (5, .inl fun _ => i3 0))), (q1, .inl (cI, (5, .inl fun _ => i3 0))), (q2, .inl (cI, (5, .inl fun _ => i3 0)))] H := hP
  have hD : va_D A [(h0, .inr (4, [.ref q0, .ref q1, .null, .int (i3 0), .int (i3 0), .int (i3 0), .int (i3 0)])), (q0, .inl (cI, (5, .inl fun _ => i3 0))), (q1, .inl (cI, (5, .inl fun _ => i3 0))), (q2, .inl (cI, (5, .inl fun _ => i3 0)))] := hD
  refine W.widen (k := 3) (n := 15) (by omega) (by omega) ?_
  refine va_putF (D := (dC, dI)) (ci := 4) (v := .ref q2) (ty := .array .int) (C := RX4) (T := TX4) (N := 7) hx hb hts (ct_u 4 (by decide)) tyX4 tyX4_ok nmX4 hown hK hP hD hS 0 rfl rfl 2 (by decide) (hts (.fieldLink RX4 18 "JustFivePounds$Stop" "often" "[I") (ct_m 48 rfl)) (fun _ h9 => h9) rfl hin rfl (by decide +kernel) rfl rfl (Nat.le_of_ble_eq_true rfl) ct_d4_22 (fun H locs hP hD hS => ?_)
  have hP : va_P (dC, dI) vwCl [(h0, .inr (4, [.ref q0, .ref q1, .ref q2, .int (i3 0), .int (i3 0), .int (i3 0), .int (i3 0)])), (q0, .inl (cI, (5, .inl fun _ => i3 0))), (q1, .inl (cI, (5, .inl fun _ => i3 0))), (q2, .inl (cI, (5, .inl fun _ => i3 0)))] H := hP
  have hD : va_D A [(h0, .inr (4, [.ref q0, .ref q1, .ref q2, .int (i3 0), .int (i3 0), .int (i3 0), .int (i3 0)])), (q0, .inl (cI, (5, .inl fun _ => i3 0))), (q1, .inl (cI, (5, .inl fun _ => i3 0))), (q2, .inl (cI, (5, .inl fun _ => i3 0)))] := hD
  refine W.widen (k := 3) (n := 15) (Nat.le_of_ble_eq_true rfl) (Nat.le_of_ble_eq_true rfl) ?_
  exact W.vret hx hb hr (fun t ht hW => ⟨⟨(), rfl, trivial, q0, q1, q2, by rw [ht]; exact hP, hD⟩, hS.F ht⟩) hS.2.2 ct_d4_25
theorem ct_d5_0 : decode cX5_init 0 = .ok (.aload_n 0, 1) := by decide +kernel
theorem ct_d5_1 : decode cX5_init 1 = .ok (.invokespecial 3, 3) := by decide +kernel
theorem ct_d5_4 : decode cX5_init 4 = .ok (.aload_n 0, 1) := by decide +kernel
theorem ct_d5_5 : decode cX5_init 5 = .ok (.sipush 160, 3) := by decide +kernel
theorem ct_d5_8 : decode cX5_init 8 = .ok (.newarray .int, 2) := by decide +kernel
theorem ct_d5_10 : decode cX5_init 10 = .ok (.putfield 9, 3) := by decide +kernel
theorem ct_d5_13 : decode cX5_init 13 = .ok (.return_, 1) := by decide +kernel
abbrev ct_o5 (h0 : Nat) : va_W := [(h0, .inr (5, [.null, .int (i3 0), .int (i3 0), .int (i3 0), .int (i3 0), .int (i3 0)]))]
/-- behind its constructor -/
abbrev ct_w5 (cI : ClassId) (h0 q0 : Nat) : va_W := [(h0, .inr (5, [.ref q0, .int (i3 0), .int (i3 0), .int (i3 0), .int (i3 0), .int (i3 0)])), (q0, .inl (cI, (160, .inl fun _ => i3 0)))]
set_option maxHeartbeats 4000000 in
set_option maxRecDepth 100000 in
theorem ct_n5 (l : Launch) (dC : Nat → ClassId) (dI : Nat → Nat → Nat) (cI : ClassId) (h0 sz : Nat) : Met l yX5_init (.code yX5_init cX5_init 1 none :: ct_ws) ({ frames := 1, cells := 1, slots := 160, locals := 12 }) (va_Pc [.ref h0] (fun U => U.heap.size = sz ∧ va_P (dC, dI) vwCl (ct_o5 h0) U.heap ∧ va_K (dC, dI) vwCl [(cI, .int)] U ∧ va_D (fun _ => True) (ct_o5 h0))) (va_Qv (fun _ : Unit => True) (fun _ t => ∃ q0 : Nat, va_P (dC, dI) vwCl (ct_w5 cI h0 q0) t.heap ∧ va_D (va_A (ct_o5 h0) sz) (ct_w5 cI h0 q0)) (va_A (ct_o5 h0) sz)) 1 160 (va_A (ct_o5 h0) sz) := by
  refine Met.ofW (cc := cX5_init) (maxL := 1) (ret := none) (by decide) rfl ?_
  intro p e s m args below meth c s₁ B hml hv
  obtain ⟨rfl, hsz, hP, hK, hD0⟩ := hv
  have hx := B.exec
  have hb := B.bytes
  have hr := B.returns
  have hts0 := atoms_spec (ws := .code yX5_init cX5_init 1 none :: ct_ws) B.pre
  have hts : ∀ w ∈ ct_ws, w.before ([Value.ref h0].toArray) s = true := fun w hw => hts0 w (List.mem_cons_of_mem _ hw)
  have hown : s.vm.findClass RX5 = some m.cls := findClass_of_methodNamed B.named
  have hlocks := B.notSynchronized
  have hin : meth.name = "<init>" := (name_of_methodNamed B.named B.method).1
  subst hsz
  have hD := hD0.self (sz := s.heap.size)
  obtain ⟨A, hAe⟩ : ∃ A, A = va_A (ct_o5 h0) s.heap.size := ⟨_, rfl⟩
  rw [← hAe] at hD ⊢
  have hA : ∀ q : Nat, s.heap.size ≤ q → A q := fun q h => by rw [hAe]; exact Or.inr h
  have hS : va_S A s.heap s.heap [] := va_S.rf
  have hl := lv_entry ([.ref h0]) (n := 1) (Nat.le_of_ble_eq_true rfl)
  rw [lg_entry_eq]
  generalize (lg_sl ([.ref h0]) ++ List.replicate (1 - (lg_sl ([.ref h0])).length) Slot.unset).toArray = ls at hl ⊢
  have hl : lv_has ls 1 [(0, .ref h0)] := hl
  refine lv_aload_n hx hb ct_d5_0 rfl (lv_at hl 0 rfl) ?_
  refine W.objInit hx hb hown (hts _ (ct_m 8 rfl)) (hts _ (ct_m 0 rfl)) (hts _ (ct_m 1 rfl)) rfl (by rw [hml]; exact hl.1) rfl ct_d5_1 (Nat.le_of_ble_eq_true rfl) (Nat.le_of_ble_eq_true rfl) ?_
  refine W.eq (g2 := F0 m 4 ls []) rfl ?_
  refine lv_aload_n hx hb ct_d5_4 rfl (lv_at hl 0 rfl) ?_
  refine lv_sipush (v := i3 160) hx hb ct_d5_5 (by decide +kernel) ?_
  refine va_newa (atype := .int) (a0 := (160, .inl fun _ => i3 0)) (N' := 160) hx hb (hts (.arrayClass .int) (ct_m 2 rfl)) rfl hK hP hD hS hA (fun cA => by rw [i3_zero]; rfl) (by decide +kernel) (by decide +kernel) (Nat.le_of_ble_eq_true rfl) (Nat.le_of_ble_eq_true rfl) (Nat.le_of_ble_eq_true rfl) ct_d5_8 (fun q0 c1 H hK hP hD hS => ?_)
  obtain rfl : cI = c1 := ct_int1 (hK.2 0 _ rfl).2 (hK.2 1 _ rfl).2
  have hK : va_K (dC, dI) vwCl [(cI, .int)] s := hK.sub [0] rfl
  have hP : va_P (dC, dI) vwCl [(h0, .inr (5, [.null, .int (i3 0), .int (i3 0), .int (i3 0), .int (i3 0), .int (i3 0)])), (q0, .inl (cI, (160, .inl fun _ => i3 0)))] H := hP
  have hD : va_D A [(h0, .inr (5, [.null, .int (i3 0), .int (i3 0), .int (i3 0), .int (i3 0), .int (i3 0)])), (q0, .inl (cI, (160, .inl fun _ => i3 0)))] := hD
  refine W.widen (k := 1) (n := 160) (by omega) (by omega) ?_
  refine va_putF (D := (dC, dI)) (ci := 5) (v := .ref q0) (ty := .array .int) (C := RX5) (T := TX5) (N := 6) hx hb hts (ct_u 5 (by decide)) tyX5 tyX5_ok nmX5 hown hK hP hD hS 0 rfl rfl 0 (by decide) (hts (.fieldLink RX5 9 "JustFivePounds$Tape" "bytes" "[I") (ct_m 49 rfl)) (fun _ h9 => h9) rfl hin rfl (by decide +kernel) rfl rfl (Nat.le_of_ble_eq_true rfl) ct_d5_10 (fun H locs hP hD hS => ?_)
  have hP : va_P (dC, dI) vwCl [(h0, .inr (5, [.ref q0, .int (i3 0), .int (i3 0), .int (i3 0), .int (i3 0), .int (i3 0)])), (q0, .inl (cI, (160, .inl fun _ => i3 0)))] H := hP
  have hD : va_D A [(h0, .inr (5, [.ref q0, .int (i3 0), .int (i3 0), .int (i3 0), .int (i3 0), .int (i3 0)])), (q0, .inl (cI, (160, .inl fun _ => i3 0)))] := hD
  refine W.widen (k := 1) (n := 160) (Nat.le_of_ble_eq_true rfl) (Nat.le_of_ble_eq_true rfl) ?_
  exact W.vret hx hb hr (fun t ht hW => ⟨⟨(), rfl, trivial, q0, by rw [ht]; exact hP, hD⟩, hS.F ht⟩) hS.2.2 ct_d5_13
theorem ct_d6_0 : decode cX6_init 0 = .ok (.aload_n 0, 1) := by decide +kernel
theorem ct_d6_1 : decode cX6_init 1 = .ok (.invokespecial 3, 3) := by decide +kernel
theorem ct_d6_4 : decode cX6_init 4 = .ok (.aload_n 0, 1) := by decide +kernel
theorem ct_d6_5 : decode cX6_init 5 = .ok (.sipush 160, 3) := by decide +kernel
theorem ct_d6_8 : decode cX6_init 8 = .ok (.newarray .int, 2) := by decide +kernel
theorem ct_d6_10 : decode cX6_init 10 = .ok (.putfield 9, 3) := by decide +kernel
theorem ct_d6_13 : decode cX6_init 13 = .ok (.aload_n 0, 1) := by decide +kernel
theorem ct_d6_14 : decode cX6_init 14 = .ok (.sipush 160, 3) := by decide +kernel
theorem ct_d6_17 : decode cX6_init 17 = .ok (.newarray .int, 2) := by decide +kernel
theorem ct_d6_19 : decode cX6_init 19 = .ok (.putfield 15, 3) := by decide +kernel
theorem ct_d6_22 : decode cX6_init 22 = .ok (.aload_n 0, 1) := by decide +kernel
theorem ct_d6_23 : decode cX6_init 23 = .ok (.sipush 160, 3) := by decide +kernel
theorem ct_d6_26 : decode cX6_init 26 = .ok (.newarray .int, 2) := by decide +kernel
theorem ct_d6_28 : decode cX6_init 28 = .ok (.putfield 18, 3) := by decide +kernel
theorem ct_d6_31 : decode cX6_init 31 = .ok (.aload_n 0, 1) := by decide +kernel
theorem ct_d6_32 : decode cX6_init 32 = .ok (.iconst 3, 1) := by decide +kernel
theorem ct_d6_33 : decode cX6_init 33 = .ok (.newarray .int, 2) := by decide +kernel
theorem ct_d6_35 : decode cX6_init 35 = .ok (.putfield 21, 3) := by decide +kernel
theorem ct_d6_38 : decode cX6_init 38 = .ok (.aload_n 0, 1) := by decide +kernel
theorem ct_d6_39 : decode cX6_init 39 = .ok (.bipush 6, 2) := by decide +kernel
theorem ct_d6_41 : decode cX6_init 41 = .ok (.newarray .int, 2) := by decide +kernel
theorem ct_d6_43 : decode cX6_init 43 = .ok (.putfield 24, 3) := by decide +kernel
theorem ct_d6_46 : decode cX6_init 46 = .ok (.return_, 1) := by decide +kernel
abbrev ct_o6 (h0 : Nat) : va_W := [(h0, .inr (6, [.null, .null, .null, .null, .null, .int (i3 0), .int (i3 0)]))]
/-- behind its constructor -/
abbrev ct_w6 (cI : ClassId) (h0 q0 q1 q2 q3 q4 : Nat) : va_W := [(h0, .inr (6, [.ref q0, .ref q1, .ref q2, .ref q3, .ref q4, .int (i3 0), .int (i3 0)])), (q0, .inl (cI, (160, .inl fun _ => i3 0))), (q1, .inl (cI, (160, .inl fun _ => i3 0))), (q2, .inl (cI, (160, .inl fun _ => i3 0))), (q3, .inl (cI, (3, .inl fun _ => i3 0))), (q4, .inl (cI, (6, .inl fun _ => i3 0)))]
set_option maxHeartbeats 4000000 in
set_option maxRecDepth 100000 in
theorem ct_n6 (l : Launch) (dC : Nat → ClassId) (dI : Nat → Nat → Nat) (cI : ClassId) (h0 sz : Nat) : Met l yX6_init (.code yX6_init cX6_init 1 none :: ct_ws) ({ frames := 1, cells := 5, slots := 489, locals := 12 }) (va_Pc [.ref h0] (fun U => U.heap.size = sz ∧ va_P (dC, dI) vwCl (ct_o6 h0) U.heap ∧ va_K (dC, dI) vwCl [(cI, .int)] U ∧ va_D (fun _ => True) (ct_o6 h0))) (va_Qv (fun _ : Unit => True) (fun _ t => ∃ q0 q1 q2 q3 q4 : Nat, va_P (dC, dI) vwCl (ct_w6 cI h0 q0 q1 q2 q3 q4) t.heap ∧ va_D (va_A (ct_o6 h0) sz) (ct_w6 cI h0 q0 q1 q2 q3 q4)) (va_A (ct_o6 h0) sz)) 5 489 (va_A (ct_o6 h0) sz) := by
  refine Met.ofW (cc := cX6_init) (maxL := 1) (ret := none) (by decide) rfl ?_
  intro p e s m args below meth c s₁ B hml hv
  obtain ⟨rfl, hsz, hP, hK, hD0⟩ := hv
  have hx := B.exec
  have hb := B.bytes
  have hr := B.returns
  have hts0 := atoms_spec (ws := .code yX6_init cX6_init 1 none :: ct_ws) B.pre
  have hts : ∀ w ∈ ct_ws, w.before ([Value.ref h0].toArray) s = true := fun w hw => hts0 w (List.mem_cons_of_mem _ hw)
  have hown : s.vm.findClass RX6 = some m.cls := findClass_of_methodNamed B.named
  have hlocks := B.notSynchronized
  have hin : meth.name = "<init>" := (name_of_methodNamed B.named B.method).1
  subst hsz
  have hD := hD0.self (sz := s.heap.size)
  obtain ⟨A, hAe⟩ : ∃ A, A = va_A (ct_o6 h0) s.heap.size := ⟨_, rfl⟩
  rw [← hAe] at hD ⊢
  have hA : ∀ q : Nat, s.heap.size ≤ q → A q := fun q h => by rw [hAe]; exact Or.inr h
  have hS : va_S A s.heap s.heap [] := va_S.rf
  have hl := lv_entry ([.ref h0]) (n := 1) (Nat.le_of_ble_eq_true rfl)
  rw [lg_entry_eq]
  generalize (lg_sl ([.ref h0]) ++ List.replicate (1 - (lg_sl ([.ref h0])).length) Slot.unset).toArray = ls at hl ⊢
  have hl : lv_has ls 1 [(0, .ref h0)] := hl
  refine lv_aload_n hx hb ct_d6_0 rfl (lv_at hl 0 rfl) ?_
  refine W.objInit hx hb hown (hts _ (ct_m 9 rfl)) (hts _ (ct_m 0 rfl)) (hts _ (ct_m 1 rfl)) rfl (by rw [hml]; exact hl.1) rfl ct_d6_1 (Nat.le_of_ble_eq_true rfl) (Nat.le_of_ble_eq_true rfl) ?_
  refine W.eq (g2 := F0 m 4 ls []) rfl ?_
  refine lv_aload_n hx hb ct_d6_4 rfl (lv_at hl 0 rfl) ?_
  refine lv_sipush (v := i3 160) hx hb ct_d6_5 (by decide +kernel) ?_
  refine va_newa (atype := .int) (a0 := (160, .inl fun _ => i3 0)) (N' := 160) hx hb (hts (.arrayClass .int) (ct_m 2 rfl)) rfl hK hP hD hS hA (fun cA => by rw [i3_zero]; rfl) (by decide +kernel) (by decide +kernel) (Nat.le_of_ble_eq_true rfl) (Nat.le_of_ble_eq_true rfl) (Nat.le_of_ble_eq_true rfl) ct_d6_8 (fun q0 c1 H hK hP hD hS => ?_)
  obtain rfl : cI = c1 := ct_int1 (hK.2 0 _ rfl).2 (hK.2 1 _ rfl).2
  have hK : va_K (dC, dI) vwCl [(cI, .int)] s := hK.sub [0] rfl
  have hP : va_P (dC, dI) vwCl [(h0, .inr (6, [.null, .null, .null, .null, .null, .int (i3 0), .int (i3 0)])), (q0, .inl (cI, (160, .inl fun _ => i3 0)))] H := hP
  have hD : va_D A [(h0, .inr (6, [.null, .null, .null, .null, .null, .int (i3 0), .int (i3 0)])), (q0, .inl (cI, (160, .inl fun _ => i3 0)))] := hD
  refine W.widen (k := 1) (n := 160) (by omega) (by omega) ?_
  refine va_putF (D := (dC, dI)) (ci := 6) (v := .ref q0) (ty := .array .int) (C := RX6) (T := TX6) (N := 7) hx hb hts (ct_u 6 (by decide)) tyX6 tyX6_ok nmX6 hown hK hP hD hS 0 rfl rfl 0 (by decide) (hts (.fieldLink RX6 9 "JustFivePounds$Text" "steps" "[I") (ct_m 50 rfl)) (fun _ h9 => h9) rfl hin rfl (by decide +kernel) rfl rfl (Nat.le_of_ble_eq_true rfl) ct_d6_10 (fun H locs hP hD hS => ?_)
  have hP : va_P (dC, dI) vwCl [(h0, .inr (6, [.ref q0, .null, .null, .null, .null, .int (i3 0), .int (i3 0)])), (q0, .inl (cI, (160, .inl fun _ => i3 0)))] H := hP
  have hD : va_D A [(h0, .inr (6, [.ref q0, .null, .null, .null, .null, .int (i3 0), .int (i3 0)])), (q0, .inl (cI, (160, .inl fun _ => i3 0)))] := hD
  refine lv_aload_n hx hb ct_d6_13 rfl (lv_at hl 0 rfl) ?_
  refine lv_sipush (v := i3 160) hx hb ct_d6_14 (by decide +kernel) ?_
  refine va_newa (atype := .int) (a0 := (160, .inl fun _ => i3 0)) (N' := 160) hx hb (hts (.arrayClass .int) (ct_m 2 rfl)) rfl hK hP hD hS hA (fun cA => by rw [i3_zero]; rfl) (by decide +kernel) (by decide +kernel) (Nat.le_of_ble_eq_true rfl) (Nat.le_of_ble_eq_true rfl) (Nat.le_of_ble_eq_true rfl) ct_d6_17 (fun q1 c1 H hK hP hD hS => ?_)
  obtain rfl : cI = c1 := ct_int1 (hK.2 0 _ rfl).2 (hK.2 1 _ rfl).2
  have hK : va_K (dC, dI) vwCl [(cI, .int)] s := hK.sub [0] rfl
  have hP : va_P (dC, dI) vwCl [(h0, .inr (6, [.ref q0, .null, .null, .null, .null, .int (i3 0), .int (i3 0)])), (q0, .inl (cI, (160, .inl fun _ => i3 0))), (q1, .inl (cI, (160, .inl fun _ => i3 0)))] H := hP
  have hD : va_D A [(h0, .inr (6, [.ref q0, .null, .null, .null, .null, .int (i3 0), .int (i3 0)])), (q0, .inl (cI, (160, .inl fun _ => i3 0))), (q1, .inl (cI, (160, .inl fun _ => i3 0)))] := hD
  refine W.widen (k := 2) (n := 320) (by omega) (by omega) ?_
  refine va_putF (D := (dC, dI)) (ci := 6) (v := .ref q1) (ty := .array .int) (C := RX6) (T := TX6) (N := 7) hx hb hts (ct_u 6 (by decide)) tyX6 tyX6_ok nmX6 hown hK hP hD hS 0 rfl rfl 1 (by decide) (hts (.fieldLink RX6 15 "JustFivePounds$Text" "values" "[I") (ct_m 51 rfl)) (fun _ h9 => h9) rfl hin rfl (by decide +kernel) rfl rfl (Nat.le_of_ble_eq_true rfl) ct_d6_19 (fun H locs hP hD hS => ?_)
  have hP : va_P (dC, dI) vwCl [(h0, .inr (6, [.ref q0, .ref q1, .null, .null, .null, .int (i3 0), .int (i3 0)])), (q0, .inl (cI, (160, .inl fun _ => i3 0))), (q1, .inl (cI, (160, .inl fun _ => i3 0)))] H := hP
  have hD : va_D A [(h0, .inr (6, [.ref q0, .ref q1, .null, .null, .null, .int (i3 0), .int (i3 0)])), (q0, .inl (cI, (160, .inl fun _ => i3 0))), (q1, .inl (cI, (160, .inl fun _ => i3 0)))] := hD
  refine lv_aload_n hx hb ct_d6_22 rfl (lv_at hl 0 rfl) ?_
  refine lv_sipush (v := i3 160) hx hb ct_d6_23 (by decide +kernel) ?_
  refine va_newa (atype := .int) (a0 := (160, .inl fun _ => i3 0)) (N' := 160) hx hb (hts (.arrayClass .int) (ct_m 2 rfl)) rfl hK hP hD hS hA (fun cA => by rw [i3_zero]; rfl) (by decide +kernel) (by decide +kernel) (Nat.le_of_ble_eq_true rfl) (Nat.le_of_ble_eq_true rfl) (Nat.le_of_ble_eq_true rfl) ct_d6_26 (fun q2 c1 H hK hP hD hS => ?_)
  obtain rfl : cI = c1 := ct_int1 (hK.2 0 _ rfl).2 (hK.2 1 _ rfl).2
  have hK : va_K (dC, dI) vwCl [(cI, .int)] s := hK.sub [0] rfl
  have hP : va_P (dC, dI) vwCl [(h0, .inr (6, [.ref q0, .ref q1, .null, .null, .null, .int (i3 0), .int (i3 0)])), (q0, .inl (cI, (160, .inl fun _ => i3 0))), (q1, .inl (cI, (160, .inl fun _ => i3 0))), (q2, .inl (cI, (160, .inl fun _ => i3 0)))] H := hP
  have hD : va_D A [(h0, .inr (6, [.ref q0, .ref q1, .null, .null, .null, .int (i3 0), .int (i3 0)])), (q0, .inl (cI, (160, .inl fun _ => i3 0))), (q1, .inl (cI, (160, .inl fun _ => i3 0))), (q2, .inl (cI, (160, .inl fun _ => i3 0)))] := hD
  refine W.widen (k := 3) (n := 480) (by omega) (by omega) ?_
  refine va_putF (D := (dC, dI)) (ci := 6) (v := .ref q2) (ty := .array .int) (C := RX6) (T := TX6) (N := 7) hx hb hts (ct_u 6 (by decide)) tyX6 tyX6_ok nmX6 hown hK hP hD hS 0 rfl rfl 2 (by decide) (hts (.fieldLink RX6 18 "JustFivePounds$Text" "stack" "[I") (ct_m 52 rfl)) (fun _ h9 => h9) rfl hin rfl (by decide +kernel) rfl rfl (Nat.le_of_ble_eq_true rfl) ct_d6_28 (fun H locs hP hD hS => ?_)
  have hP : va_P (dC, dI) vwCl [(h0, .inr (6, [.ref q0, .ref q1, .ref q2, .null, .null, .int (i3 0), .int (i3 0)])), (q0, .inl (cI, (160, .inl fun _ => i3 0))), (q1, .inl (cI, (160, .inl fun _ => i3 0))), (q2, .inl (cI, (160, .inl fun _ => i3 0)))] H := hP
  have hD : va_D A [(h0, .inr (6, [.ref q0, .ref q1, .ref q2, .null, .null, .int (i3 0), .int (i3 0)])), (q0, .inl (cI, (160, .inl fun _ => i3 0))), (q1, .inl (cI, (160, .inl fun _ => i3 0))), (q2, .inl (cI, (160, .inl fun _ => i3 0)))] := hD
  refine lv_aload_n hx hb ct_d6_31 rfl (lv_at hl 0 rfl) ?_
  refine lv_iconst (v := i3 3) hx hb ct_d6_32 (by decide +kernel) ?_
  refine va_newa (atype := .int) (a0 := (3, .inl fun _ => i3 0)) (N' := 3) hx hb (hts (.arrayClass .int) (ct_m 2 rfl)) rfl hK hP hD hS hA (fun cA => by rw [i3_zero]; rfl) (by decide +kernel) (by decide +kernel) (Nat.le_of_ble_eq_true rfl) (Nat.le_of_ble_eq_true rfl) (Nat.le_of_ble_eq_true rfl) ct_d6_33 (fun q3 c1 H hK hP hD hS => ?_)
  obtain rfl : cI = c1 := ct_int1 (hK.2 0 _ rfl).2 (hK.2 1 _ rfl).2
  have hK : va_K (dC, dI) vwCl [(cI, .int)] s := hK.sub [0] rfl
  have hP : va_P (dC, dI) vwCl [(h0, .inr (6, [.ref q0, .ref q1, .ref q2, .null, .null, .int (i3 0), .int (i3 0)])), (q0, .inl (cI, (160, .inl fun _ => i3 0))), (q1, .inl (cI, (160, .inl fun _ => i3 0))), (q2, .inl (cI, (160, .inl fun _ => i3 0))), (q3, .inl (cI, (3, .inl fun _ => i3 0)))] H := hP
  have hD : va_D A [(h0, .inr (6, [.ref q0, .ref q1, .ref q2, .null, .null, .int (i3 0), .int (i3 0)])), (q0, .inl (cI, (160, .inl fun _ => i3 0))), (q1, .inl (cI, (160, .inl fun _ => i3 0))), (q2, .inl (cI, (160, .inl fun _ => i3 0))), (q3, .inl (cI, (3, .inl fun _ => i3 0)))] := hD
  refine W.widen (k := 4) (n := 483) (by omega) (by omega) ?_
  refine va_putF (D := (dC, dI)) (ci := 6) (v := .ref q3) (ty := .array .int) (C := RX6) (T := TX6) (N := 7) hx hb hts (ct_u 6 (by decide)) tyX6 tyX6_ok nmX6 hown hK hP hD hS 0 rfl rfl 3 (by decide) (hts (.fieldLink RX6 21 "JustFivePounds$Text" "partEnds" "[I") (ct_m 53 rfl)) (fun _ h9 => h9) rfl hin rfl (by decide +kernel) rfl rfl (Nat.le_of_ble_eq_true rfl) ct_d6_35 (fun H locs hP hD hS => ?_)
  have hP : va_P (dC, dI) vwCl [(h0, .inr (6, [.ref q0, .ref q1, .ref q2, .ref q3, .null, .int (i3 0), .int (i3 0)])), (q0, .inl (cI, (160, .inl fun _ => i3 0))), (q1, .inl (cI, (160, .inl fun _ => i3 0))), (q2, .inl (cI, (160, .inl fun _ => i3 0))), (q3, .inl (cI, (3, .inl fun _ => i3 0)))] H := hP
  have hD : va_D A [(h0, .inr (6, [.ref q0, .ref q1, .ref q2, .ref q3, .null, .int (i3 0), .int (i3 0)])), (q0, .inl (cI, (160, .inl fun _ => i3 0))), (q1, .inl (cI, (160, .inl fun _ => i3 0))), (q2, .inl (cI, (160, .inl fun _ => i3 0))), (q3, .inl (cI, (3, .inl fun _ => i3 0)))] := hD
  refine lv_aload_n hx hb ct_d6_38 rfl (lv_at hl 0 rfl) ?_
  refine lv_bipush (v := i3 6) hx hb ct_d6_39 (by decide +kernel) ?_
  refine va_newa (atype := .int) (a0 := (6, .inl fun _ => i3 0)) (N' := 6) hx hb (hts (.arrayClass .int) (ct_m 2 rfl)) rfl hK hP hD hS hA (fun cA => by rw [i3_zero]; rfl) (by decide +kernel) (by decide +kernel) (Nat.le_of_ble_eq_true rfl) (Nat.le_of_ble_eq_true rfl) (Nat.le_of_ble_eq_true rfl) ct_d6_41 (fun q4 c1 H hK hP hD hS => ?_)
  obtain rfl : cI = c1 := ct_int1 (hK.2 0 _ rfl).2 (hK.2 1 _ rfl).2
  have hK : va_K (dC, dI) vwCl [(cI, .int)] s := hK.sub [0] rfl
  have hP : va_P (dC, dI) vwCl [(h0, .inr (6, [.ref q0, .ref q1, .ref q2, .ref q3, .null, .int (i3 0), .int (i3 0)])), (q0, .inl (cI, (160, .inl fun _ => i3 0))), (q1, .inl (cI, (160, .inl fun _ => i3 0))), (q2, .inl (cI, (160, .inl fun _ => i3 0))), (q3, .inl (cI, (3, .inl fun _ => i3 0))), (q4, .inl (cI, (6, .inl fun _ => i3 0)))] H := hP
  have hD : va_D A [(h0, .inr (6, [.ref q0, .ref q1, .ref q2, .ref q3, .null, .int (i3 0), .int (i3 0)])), (q0, .inl (cI, (160, .inl fun _ => i3 0))), (q1, .inl (cI, (160, .inl fun _ => i3 0))), (q2, .inl (cI, (160, .inl fun _ => i3 0))), (q3, .inl (cI, (3, .inl fun _ => i3 0))), (q4, .inl (cI, (6, .inl fun _ => i3 0)))] := hD
  refine W.widen (k := 5) (n := 489) (by omega) (by omega) ?_
  refine va_putF (D := (dC, dI)) (ci := 6) (v := .ref q4) (ty := .array .int) (C := RX6) (T := TX6) (N := 7) hx hb hts (ct_u 6 (by decide)) tyX6 tyX6_ok nmX6 hown hK hP hD hS 0 rfl rfl 4 (by decide) (hts (.fieldLink RX6 24 "JustFivePounds$Text" "names" "[I") (ct_m 54 rfl)) (fun _ h9 => h9) rfl hin rfl (by decide +kernel) rfl rfl (Nat.le_of_ble_eq_true rfl) ct_d6_43 (fun H locs hP hD hS => ?_)
  have hP : va_P (dC, dI) vwCl [(h0, .inr (6, [.ref q0, .ref q1, .ref q2, .ref q3, .ref q4, .int (i3 0), .int (i3 0)])), (q0, .inl (cI, (160, .inl fun _ => i3 0))), (q1, .inl (cI, (160, .inl fun _ => i3 0))), (q2, .inl (cI, (160, .inl fun _ => i3 0))), (q3, .inl (cI, (3, .inl fun _ => i3 0))), (q4, .inl (cI, (6, .inl fun _ => i3 0)))] H := hP
  have hD : va_D A [(h0, .inr (6, [.ref q0, .ref q1, .ref q2, .ref q3, .ref q4, .int (i3 0), .int (i3 0)])), (q0, .inl (cI, (160, .inl fun _ => i3 0))), (q1, .inl (cI, (160, .inl fun _ => i3 0))), (q2, .inl (cI, (160, .inl fun _ => i3 0))), (q3, .inl (cI, (3, .inl fun _ => i3 0))), (q4, .inl (cI, (6, .inl fun _ => i3 0)))] := hD
  refine W.widen (k := 5) (n := 489) (Nat.le_of_ble_eq_true rfl) (Nat.le_of_ble_eq_true rfl) ?_
  exact W.vret hx hb hr (fun t ht hW => ⟨⟨(), rfl, trivial, q0, q1, q2, q3, q4, by rw [ht]; exact hP, hD⟩, hS.F ht⟩) hS.2.2 ct_d6_46
