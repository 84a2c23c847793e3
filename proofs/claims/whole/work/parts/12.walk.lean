/-! wb -/
variable {wb : Bool}
section AMW
variable {p : Program} {l : Launch} {e : Env} {R : Room} {s : State} {m : MethodId} {args : Array Value} {below : List Frame} {meth : Method} {c0 : Code} {cells slots : Nat} {Q : State → Prop}
variable {dC : Nat → ClassId} {dI : Nat → Nat → Nat} {ad : Nat → Nat → Nat} {ca : Nat → Nat → ClassId} {fm : Value} {L : Nat} {xs : Nat → Int} {A : Nat → Prop}

set_option maxHeartbeats 1000000 in
set_option maxRecDepth 100000 in
theorem am_c_iconst {i d : Nat} {K : am_K} (hi : i < tb_n)
    (hx : p.tables.exec = Jvm.exec) (hb : c0.code = tb_cc i) (hml : c0.maxLocals = tb_ml i) (hown : s.vm.findClass (tb_cn (tb_own i)) = some m.cls) (hts : ∀ w ∈ am_ws, w.before args s = true) (hE : am_E wb dC dI ad ca fm L xs A s s.heap) (hA : ∀ q, s.heap.size ≤ q → A q)
    (hR : d + 1 ≤ R.frames ∧ 80 * d + 80 ≤ R.locals) (hcs : cells ≤ R.cells ∧ slots ≤ R.slots)
    (hC : ∀ (j : Nat) (as : List am_V) (M : am_M) (k : am_K), 0 < j → j < tb_n → am_Call wb d j as M k → am_Cal wb l d dC dI ad ca fm L xs j as M k)
    (hret : ∀ (pc : Nat) (H : Heap) (locs : List Loc) (ls : Array Slot) (v : Option am_V) (M : am_M), am_retOK (tb_rt i) pc (tb_cc i) v → K v M → va_P (dC, dI) vwCl (am_W wb ad ca M) H → va_S A s.heap H locs → am_scr L xs M → W p l e R s m args below meth c0 H locs cells slots Q (F0 m pc ls ((am_ps v []).map (am_tr ad fm))))
    {pc len : Nat} {ls : List (Option am_V)} {st : List am_V} {M : am_M} {ax : List Nat} {H : Heap} {locs : List Loc} {ls' : Array Slot} {n : Int} (hfm : fm.isRef = true)
    (hP : va_P (dC, dI) vwCl (am_W wb ad ca M) H) (hS : va_S A s.heap H locs) (hL : am_L ad fm (tb_ml i) ls ls') (hM : am_scr L xs M) (hdg : decode (tb_cc i) pc = .ok ((.iconst n), len)) (hok : tb_okx (tb_own i) pc len (.iconst n) ax = true)
    (h : am_ex wb (tb_rt i) (am_Call wb d) K (am_J wb p l e R s m args below meth c0 cells slots Q dC dI ad ca fm L xs A (tb_ml i)) (.iconst n) len ax pc ls st M) : W p l e R s m args below meth c0 H locs cells slots Q (F0 m pc ls' (st.map (am_tr ad fm))) := by
  have hlen : len = 1 := Nat.eq_of_beq_eq_true hok
  subst hlen
  exact lv_iconst hx hb hdg rfl (h H locs ls' hP hS hL hM)
set_option maxHeartbeats 1000000 in
set_option maxRecDepth 100000 in
theorem am_c_bipush {i d : Nat} {K : am_K} (hi : i < tb_n)
    (hx : p.tables.exec = Jvm.exec) (hb : c0.code = tb_cc i) (hml : c0.maxLocals = tb_ml i) (hown : s.vm.findClass (tb_cn (tb_own i)) = some m.cls) (hts : ∀ w ∈ am_ws, w.before args s = true) (hE : am_E wb dC dI ad ca fm L xs A s s.heap) (hA : ∀ q, s.heap.size ≤ q → A q)
    (hR : d + 1 ≤ R.frames ∧ 80 * d + 80 ≤ R.locals) (hcs : cells ≤ R.cells ∧ slots ≤ R.slots)
    (hC : ∀ (j : Nat) (as : List am_V) (M : am_M) (k : am_K), 0 < j → j < tb_n → am_Call wb d j as M k → am_Cal wb l d dC dI ad ca fm L xs j as M k)
    (hret : ∀ (pc : Nat) (H : Heap) (locs : List Loc) (ls : Array Slot) (v : Option am_V) (M : am_M), am_retOK (tb_rt i) pc (tb_cc i) v → K v M → va_P (dC, dI) vwCl (am_W wb ad ca M) H → va_S A s.heap H locs → am_scr L xs M → W p l e R s m args below meth c0 H locs cells slots Q (F0 m pc ls ((am_ps v []).map (am_tr ad fm))))
    {pc len : Nat} {ls : List (Option am_V)} {st : List am_V} {M : am_M} {ax : List Nat} {H : Heap} {locs : List Loc} {ls' : Array Slot} {n : Int} (hfm : fm.isRef = true)
    (hP : va_P (dC, dI) vwCl (am_W wb ad ca M) H) (hS : va_S A s.heap H locs) (hL : am_L ad fm (tb_ml i) ls ls') (hM : am_scr L xs M) (hdg : decode (tb_cc i) pc = .ok ((.bipush n), len)) (hok : tb_okx (tb_own i) pc len (.bipush n) ax = true)
    (h : am_ex wb (tb_rt i) (am_Call wb d) K (am_J wb p l e R s m args below meth c0 cells slots Q dC dI ad ca fm L xs A (tb_ml i)) (.bipush n) len ax pc ls st M) : W p l e R s m args below meth c0 H locs cells slots Q (F0 m pc ls' (st.map (am_tr ad fm))) := by
  replace hok : (Nat.beq len 2 && decide ((Int8.ofInt n).toInt32 = Int32.ofInt n)) = true := hok
  simp only [Bool.and_eq_true, decide_eq_true_eq] at hok
  have hlen : len = 2 := Nat.eq_of_beq_eq_true hok.1
  subst hlen
  exact lv_bipush hx hb hdg hok.2 (h H locs ls' hP hS hL hM)
set_option maxHeartbeats 1000000 in
set_option maxRecDepth 100000 in
theorem am_c_sipush {i d : Nat} {K : am_K} (hi : i < tb_n)
    (hx : p.tables.exec = Jvm.exec) (hb : c0.code = tb_cc i) (hml : c0.maxLocals = tb_ml i) (hown : s.vm.findClass (tb_cn (tb_own i)) = some m.cls) (hts : ∀ w ∈ am_ws, w.before args s = true) (hE : am_E wb dC dI ad ca fm L xs A s s.heap) (hA : ∀ q, s.heap.size ≤ q → A q)
    (hR : d + 1 ≤ R.frames ∧ 80 * d + 80 ≤ R.locals) (hcs : cells ≤ R.cells ∧ slots ≤ R.slots)
    (hC : ∀ (j : Nat) (as : List am_V) (M : am_M) (k : am_K), 0 < j → j < tb_n → am_Call wb d j as M k → am_Cal wb l d dC dI ad ca fm L xs j as M k)
    (hret : ∀ (pc : Nat) (H : Heap) (locs : List Loc) (ls : Array Slot) (v : Option am_V) (M : am_M), am_retOK (tb_rt i) pc (tb_cc i) v → K v M → va_P (dC, dI) vwCl (am_W wb ad ca M) H → va_S A s.heap H locs → am_scr L xs M → W p l e R s m args below meth c0 H locs cells slots Q (F0 m pc ls ((am_ps v []).map (am_tr ad fm))))
    {pc len : Nat} {ls : List (Option am_V)} {st : List am_V} {M : am_M} {ax : List Nat} {H : Heap} {locs : List Loc} {ls' : Array Slot} {n : Int} (hfm : fm.isRef = true)
    (hP : va_P (dC, dI) vwCl (am_W wb ad ca M) H) (hS : va_S A s.heap H locs) (hL : am_L ad fm (tb_ml i) ls ls') (hM : am_scr L xs M) (hdg : decode (tb_cc i) pc = .ok ((.sipush n), len)) (hok : tb_okx (tb_own i) pc len (.sipush n) ax = true)
    (h : am_ex wb (tb_rt i) (am_Call wb d) K (am_J wb p l e R s m args below meth c0 cells slots Q dC dI ad ca fm L xs A (tb_ml i)) (.sipush n) len ax pc ls st M) : W p l e R s m args below meth c0 H locs cells slots Q (F0 m pc ls' (st.map (am_tr ad fm))) := by
  replace hok : (Nat.beq len 3 && decide ((Int16.ofInt n).toInt32 = Int32.ofInt n)) = true := hok
  simp only [Bool.and_eq_true, decide_eq_true_eq] at hok
  have hlen : len = 3 := Nat.eq_of_beq_eq_true hok.1
  subst hlen
  exact lv_sipush hx hb hdg hok.2 (h H locs ls' hP hS hL hM)
set_option maxHeartbeats 1000000 in
set_option maxRecDepth 100000 in
theorem am_c_lconst {i d : Nat} {K : am_K} (hi : i < tb_n)
    (hx : p.tables.exec = Jvm.exec) (hb : c0.code = tb_cc i) (hml : c0.maxLocals = tb_ml i) (hown : s.vm.findClass (tb_cn (tb_own i)) = some m.cls) (hts : ∀ w ∈ am_ws, w.before args s = true) (hE : am_E wb dC dI ad ca fm L xs A s s.heap) (hA : ∀ q, s.heap.size ≤ q → A q)
    (hR : d + 1 ≤ R.frames ∧ 80 * d + 80 ≤ R.locals) (hcs : cells ≤ R.cells ∧ slots ≤ R.slots)
    (hC : ∀ (j : Nat) (as : List am_V) (M : am_M) (k : am_K), 0 < j → j < tb_n → am_Call wb d j as M k → am_Cal wb l d dC dI ad ca fm L xs j as M k)
    (hret : ∀ (pc : Nat) (H : Heap) (locs : List Loc) (ls : Array Slot) (v : Option am_V) (M : am_M), am_retOK (tb_rt i) pc (tb_cc i) v → K v M → va_P (dC, dI) vwCl (am_W wb ad ca M) H → va_S A s.heap H locs → am_scr L xs M → W p l e R s m args below meth c0 H locs cells slots Q (F0 m pc ls ((am_ps v []).map (am_tr ad fm))))
    {pc len : Nat} {ls : List (Option am_V)} {st : List am_V} {M : am_M} {ax : List Nat} {H : Heap} {locs : List Loc} {ls' : Array Slot} {n : Fin 2} (hfm : fm.isRef = true)
    (hP : va_P (dC, dI) vwCl (am_W wb ad ca M) H) (hS : va_S A s.heap H locs) (hL : am_L ad fm (tb_ml i) ls ls') (hM : am_scr L xs M) (hdg : decode (tb_cc i) pc = .ok ((.lconst n), len)) (hok : tb_okx (tb_own i) pc len (.lconst n) ax = true)
    (h : am_ex wb (tb_rt i) (am_Call wb d) K (am_J wb p l e R s m args below meth c0 cells slots Q dC dI ad ca fm L xs A (tb_ml i)) (.lconst n) len ax pc ls st M) : W p l e R s m args below meth c0 H locs cells slots Q (F0 m pc ls' (st.map (am_tr ad fm))) := by
  have hlen : len = 1 := Nat.eq_of_beq_eq_true hok
  subst hlen
  refine lv_lconst (v := i6 (n.val : Int)) hx hb hdg ?_ (h H locs ls' hP hS hL hM)
  have : ∀ n : Fin 2, Int64.ofNat n.val = i6 (n.val : Int) := by decide +kernel
  exact this n
set_option maxHeartbeats 1000000 in
set_option maxRecDepth 100000 in
theorem am_c_aconst_null {i d : Nat} {K : am_K} (hi : i < tb_n)
    (hx : p.tables.exec = Jvm.exec) (hb : c0.code = tb_cc i) (hml : c0.maxLocals = tb_ml i) (hown : s.vm.findClass (tb_cn (tb_own i)) = some m.cls) (hts : ∀ w ∈ am_ws, w.before args s = true) (hE : am_E wb dC dI ad ca fm L xs A s s.heap) (hA : ∀ q, s.heap.size ≤ q → A q)
    (hR : d + 1 ≤ R.frames ∧ 80 * d + 80 ≤ R.locals) (hcs : cells ≤ R.cells ∧ slots ≤ R.slots)
    (hC : ∀ (j : Nat) (as : List am_V) (M : am_M) (k : am_K), 0 < j → j < tb_n → am_Call wb d j as M k → am_Cal wb l d dC dI ad ca fm L xs j as M k)
    (hret : ∀ (pc : Nat) (H : Heap) (locs : List Loc) (ls : Array Slot) (v : Option am_V) (M : am_M), am_retOK (tb_rt i) pc (tb_cc i) v → K v M → va_P (dC, dI) vwCl (am_W wb ad ca M) H → va_S A s.heap H locs → am_scr L xs M → W p l e R s m args below meth c0 H locs cells slots Q (F0 m pc ls ((am_ps v []).map (am_tr ad fm))))
    {pc len : Nat} {ls : List (Option am_V)} {st : List am_V} {M : am_M} {ax : List Nat} {H : Heap} {locs : List Loc} {ls' : Array Slot}  (hfm : fm.isRef = true)
    (hP : va_P (dC, dI) vwCl (am_W wb ad ca M) H) (hS : va_S A s.heap H locs) (hL : am_L ad fm (tb_ml i) ls ls') (hM : am_scr L xs M) (hdg : decode (tb_cc i) pc = .ok ((.aconst_null), len)) (hok : tb_okx (tb_own i) pc len (.aconst_null) ax = true)
    (h : am_ex wb (tb_rt i) (am_Call wb d) K (am_J wb p l e R s m args below meth c0 cells slots Q dC dI ad ca fm L xs A (tb_ml i)) (.aconst_null) len ax pc ls st M) : W p l e R s m args below meth c0 H locs cells slots Q (F0 m pc ls' (st.map (am_tr ad fm))) := by
  have hlen : len = 1 := Nat.eq_of_beq_eq_true hok
  subst hlen
  exact lv_null hx hb hdg (h H locs ls' hP hS hL hM)
set_option maxHeartbeats 1000000 in
set_option maxRecDepth 100000 in
theorem am_c_ldc {i d : Nat} {K : am_K} (hi : i < tb_n)
    (hx : p.tables.exec = Jvm.exec) (hb : c0.code = tb_cc i) (hml : c0.maxLocals = tb_ml i) (hown : s.vm.findClass (tb_cn (tb_own i)) = some m.cls) (hts : ∀ w ∈ am_ws, w.before args s = true) (hE : am_E wb dC dI ad ca fm L xs A s s.heap) (hA : ∀ q, s.heap.size ≤ q → A q)
    (hR : d + 1 ≤ R.frames ∧ 80 * d + 80 ≤ R.locals) (hcs : cells ≤ R.cells ∧ slots ≤ R.slots)
    (hC : ∀ (j : Nat) (as : List am_V) (M : am_M) (k : am_K), 0 < j → j < tb_n → am_Call wb d j as M k → am_Cal wb l d dC dI ad ca fm L xs j as M k)
    (hret : ∀ (pc : Nat) (H : Heap) (locs : List Loc) (ls : Array Slot) (v : Option am_V) (M : am_M), am_retOK (tb_rt i) pc (tb_cc i) v → K v M → va_P (dC, dI) vwCl (am_W wb ad ca M) H → va_S A s.heap H locs → am_scr L xs M → W p l e R s m args below meth c0 H locs cells slots Q (F0 m pc ls ((am_ps v []).map (am_tr ad fm))))
    {pc len : Nat} {ls : List (Option am_V)} {st : List am_V} {M : am_M} {ax : List Nat} {H : Heap} {locs : List Loc} {ls' : Array Slot} {idx : Nat} (hfm : fm.isRef = true)
    (hP : va_P (dC, dI) vwCl (am_W wb ad ca M) H) (hS : va_S A s.heap H locs) (hL : am_L ad fm (tb_ml i) ls ls') (hM : am_scr L xs M) (hdg : decode (tb_cc i) pc = .ok ((.ldc idx), len)) (hok : tb_okx (tb_own i) pc len (.ldc idx) ax = true)
    (h : am_ex wb (tb_rt i) (am_Call wb d) K (am_J wb p l e R s m args below meth c0 cells slots Q dC dI ad ca fm L xs A (tb_ml i)) (.ldc idx) len ax pc ls st M) : W p l e R s m args below meth c0 H locs cells slots Q (F0 m pc ls' (st.map (am_tr ad fm))) := by
  replace h := am_a2_spec (show am_a2 ax _ from h)
  obtain ⟨g, n, rfl, h⟩ := h
  replace hok : (Nat.beq len 2 && (bif Nat.beq g 0 then tb_c1.elem (tb_own i, idx, n) else tb_sr.elem (tb_own i, idx, n))) = true := hok
  simp only [Bool.and_eq_true] at hok
  obtain ⟨hok1, hok⟩ := hok
  have hlen : len = 2 := Nat.eq_of_beq_eq_true hok1
  subst hlen
  cases hg : Nat.beq g 0 with
  | true =>
    rw [hg] at hok h
    have hm : (tb_own i, idx, n) ∈ tb_c1 := List.mem_of_elem_eq_true hok
    exact lv_ldc hx hb hown (hts _ (am_c1_in hm)) hdg (h H locs ls' hP hS hL hM)
  | false =>
    rw [hg] at hok h
    have hm : (tb_own i, idx, n) ∈ tb_sr := List.mem_of_elem_eq_true hok
    have h2 := (am_cond h).2
    have hZ : vk_R (tb_cn (tb_own i)) idx (tb_tx n) (ad 52 n) s := hE.2.2.2.2.2.2.2.2.1 (tb_own i, idx, n) hm
    have h3 := h2 H locs ls' hP hS hL hM
    (try dsimp only at h3)
    rw [List.map_cons, am_tr_ref (by rfl)] at h3
    exact va_ldcS hx hb hown hZ hdg h3
set_option maxHeartbeats 1000000 in
set_option maxRecDepth 100000 in
theorem am_c_ldc_w {i d : Nat} {K : am_K} (hi : i < tb_n)
    (hx : p.tables.exec = Jvm.exec) (hb : c0.code = tb_cc i) (hml : c0.maxLocals = tb_ml i) (hown : s.vm.findClass (tb_cn (tb_own i)) = some m.cls) (hts : ∀ w ∈ am_ws, w.before args s = true) (hE : am_E wb dC dI ad ca fm L xs A s s.heap) (hA : ∀ q, s.heap.size ≤ q → A q)
    (hR : d + 1 ≤ R.frames ∧ 80 * d + 80 ≤ R.locals) (hcs : cells ≤ R.cells ∧ slots ≤ R.slots)
    (hC : ∀ (j : Nat) (as : List am_V) (M : am_M) (k : am_K), 0 < j → j < tb_n → am_Call wb d j as M k → am_Cal wb l d dC dI ad ca fm L xs j as M k)
    (hret : ∀ (pc : Nat) (H : Heap) (locs : List Loc) (ls : Array Slot) (v : Option am_V) (M : am_M), am_retOK (tb_rt i) pc (tb_cc i) v → K v M → va_P (dC, dI) vwCl (am_W wb ad ca M) H → va_S A s.heap H locs → am_scr L xs M → W p l e R s m args below meth c0 H locs cells slots Q (F0 m pc ls ((am_ps v []).map (am_tr ad fm))))
    {pc len : Nat} {ls : List (Option am_V)} {st : List am_V} {M : am_M} {ax : List Nat} {H : Heap} {locs : List Loc} {ls' : Array Slot} {idx : Nat} (hfm : fm.isRef = true)
    (hP : va_P (dC, dI) vwCl (am_W wb ad ca M) H) (hS : va_S A s.heap H locs) (hL : am_L ad fm (tb_ml i) ls ls') (hM : am_scr L xs M) (hdg : decode (tb_cc i) pc = .ok ((.ldc_w idx), len)) (hok : tb_okx (tb_own i) pc len (.ldc_w idx) ax = true)
    (h : am_ex wb (tb_rt i) (am_Call wb d) K (am_J wb p l e R s m args below meth c0 cells slots Q dC dI ad ca fm L xs A (tb_ml i)) (.ldc_w idx) len ax pc ls st M) : W p l e R s m args below meth c0 H locs cells slots Q (F0 m pc ls' (st.map (am_tr ad fm))) := by
  replace h := am_a2_spec (show am_a2 ax _ from h)
  obtain ⟨g, n, rfl, h⟩ := h
  replace hok : (Nat.beq len 3 && tb_c1.elem (tb_own i, idx, n)) = true := hok
  simp only [Bool.and_eq_true] at hok
  obtain ⟨hok1, hok⟩ := hok
  have hlen : len = 3 := Nat.eq_of_beq_eq_true hok1
  subst hlen
  have hm : (tb_own i, idx, n) ∈ tb_c1 := List.mem_of_elem_eq_true hok
  exact lv_ldcw hx hb hown (hts _ (am_c1_in hm)) hdg (h H locs ls' hP hS hL hM)
set_option maxHeartbeats 1000000 in
set_option maxRecDepth 100000 in
theorem am_c_ldc2_w {i d : Nat} {K : am_K} (hi : i < tb_n)
    (hx : p.tables.exec = Jvm.exec) (hb : c0.code = tb_cc i) (hml : c0.maxLocals = tb_ml i) (hown : s.vm.findClass (tb_cn (tb_own i)) = some m.cls) (hts : ∀ w ∈ am_ws, w.before args s = true) (hE : am_E wb dC dI ad ca fm L xs A s s.heap) (hA : ∀ q, s.heap.size ≤ q → A q)
    (hR : d + 1 ≤ R.frames ∧ 80 * d + 80 ≤ R.locals) (hcs : cells ≤ R.cells ∧ slots ≤ R.slots)
    (hC : ∀ (j : Nat) (as : List am_V) (M : am_M) (k : am_K), 0 < j → j < tb_n → am_Call wb d j as M k → am_Cal wb l d dC dI ad ca fm L xs j as M k)
    (hret : ∀ (pc : Nat) (H : Heap) (locs : List Loc) (ls : Array Slot) (v : Option am_V) (M : am_M), am_retOK (tb_rt i) pc (tb_cc i) v → K v M → va_P (dC, dI) vwCl (am_W wb ad ca M) H → va_S A s.heap H locs → am_scr L xs M → W p l e R s m args below meth c0 H locs cells slots Q (F0 m pc ls ((am_ps v []).map (am_tr ad fm))))
    {pc len : Nat} {ls : List (Option am_V)} {st : List am_V} {M : am_M} {ax : List Nat} {H : Heap} {locs : List Loc} {ls' : Array Slot} {idx : Nat} (hfm : fm.isRef = true)
    (hP : va_P (dC, dI) vwCl (am_W wb ad ca M) H) (hS : va_S A s.heap H locs) (hL : am_L ad fm (tb_ml i) ls ls') (hM : am_scr L xs M) (hdg : decode (tb_cc i) pc = .ok ((.ldc2_w idx), len)) (hok : tb_okx (tb_own i) pc len (.ldc2_w idx) ax = true)
    (h : am_ex wb (tb_rt i) (am_Call wb d) K (am_J wb p l e R s m args below meth c0 cells slots Q dC dI ad ca fm L xs A (tb_ml i)) (.ldc2_w idx) len ax pc ls st M) : W p l e R s m args below meth c0 H locs cells slots Q (F0 m pc ls' (st.map (am_tr ad fm))) := by
  replace h := am_a2_spec (show am_a2 ax _ from h)
  obtain ⟨g, n, rfl, h⟩ := h
  replace hok : (Nat.beq len 3 && (bif Nat.beq g 0 then tb_c2.elem (tb_own i, idx, (n : Int)) else tb_c2.elem (tb_own i, idx, -(n : Int)))) = true := hok
  simp only [Bool.and_eq_true] at hok
  obtain ⟨hok1, hok⟩ := hok
  have hlen : len = 3 := Nat.eq_of_beq_eq_true hok1
  subst hlen
  cases hg : Nat.beq g 0 with
  | true =>
    rw [hg] at hok h
    have hm : (tb_own i, idx, (n : Int)) ∈ tb_c2 := List.mem_of_elem_eq_true hok
    exact lv_ldc2 hx hb hown (hts _ (am_c2_in hm)) hdg (h H locs ls' hP hS hL hM)
  | false =>
    rw [hg] at hok h
    have hm : (tb_own i, idx, -(n : Int)) ∈ tb_c2 := List.mem_of_elem_eq_true hok
    exact lv_ldc2 hx hb hown (hts _ (am_c2_in hm)) hdg (h H locs ls' hP hS hL hM)
set_option maxHeartbeats 1000000 in
set_option maxRecDepth 100000 in
theorem am_c_getfield {i d : Nat} {K : am_K} (hi : i < tb_n)
    (hx : p.tables.exec = Jvm.exec) (hb : c0.code = tb_cc i) (hml : c0.maxLocals = tb_ml i) (hown : s.vm.findClass (tb_cn (tb_own i)) = some m.cls) (hts : ∀ w ∈ am_ws, w.before args s = true) (hE : am_E wb dC dI ad ca fm L xs A s s.heap) (hA : ∀ q, s.heap.size ≤ q → A q)
    (hR : d + 1 ≤ R.frames ∧ 80 * d + 80 ≤ R.locals) (hcs : cells ≤ R.cells ∧ slots ≤ R.slots)
    (hC : ∀ (j : Nat) (as : List am_V) (M : am_M) (k : am_K), 0 < j → j < tb_n → am_Call wb d j as M k → am_Cal wb l d dC dI ad ca fm L xs j as M k)
    (hret : ∀ (pc : Nat) (H : Heap) (locs : List Loc) (ls : Array Slot) (v : Option am_V) (M : am_M), am_retOK (tb_rt i) pc (tb_cc i) v → K v M → va_P (dC, dI) vwCl (am_W wb ad ca M) H → va_S A s.heap H locs → am_scr L xs M → W p l e R s m args below meth c0 H locs cells slots Q (F0 m pc ls ((am_ps v []).map (am_tr ad fm))))
    {pc len : Nat} {ls : List (Option am_V)} {st : List am_V} {M : am_M} {ax : List Nat} {H : Heap} {locs : List Loc} {ls' : Array Slot} {idx : Nat} (hfm : fm.isRef = true)
    (hP : va_P (dC, dI) vwCl (am_W wb ad ca M) H) (hS : va_S A s.heap H locs) (hL : am_L ad fm (tb_ml i) ls ls') (hM : am_scr L xs M) (hdg : decode (tb_cc i) pc = .ok ((.getfield idx), len)) (hok : tb_okx (tb_own i) pc len (.getfield idx) ax = true)
    (h : am_ex wb (tb_rt i) (am_Call wb d) K (am_J wb p l e R s m args below meth c0 cells slots Q dC dI ad ca fm L xs A (tb_ml i)) (.getfield idx) len ax pc ls st M) : W p l e R s m args below meth c0 H locs cells slots Q (F0 m pc ls' (st.map (am_tr ad fm))) := by
  replace h := am_a5_spec (show am_a5 ax _ from h)
  obtain ⟨ci, sl, t, a, b, rfl, h⟩ := h
  replace hok : (Nat.beq len 3 && (bif Nat.beq ci 52 then ((tb_psf.elem (tb_own i, idx, 0) && decide (t = 4 ∧ a = 53)) || (tb_psf.elem (tb_own i, idx, 1) && decide (t = 7))) else tb_pf.elem (tb_own i, idx, ci, sl) && decide (am_slot ci sl = (t, a, b)))) = true := hok
  simp only [Bool.and_eq_true] at hok
  obtain ⟨hok1, hok⟩ := hok
  have hlen : len = 3 := Nat.eq_of_beq_eq_true hok1
  subst hlen
  replace h := am_r1_spec h
  obtain ⟨k, ii, r, rfl, h⟩ := h
  replace h := am_cond h
  obtain ⟨hk, h⟩ := h
  replace hk := Nat.eq_of_beq_eq_true hk
  subst hk
  replace h := am_cond h
  obtain ⟨hi2, h⟩ := h
  replace hi2 : ii < am_cnt wb k := Nat.blt_eq.mp hi2
  cases h52 : Nat.beq k 52 with
  | true =>
    have hk52 := Nat.eq_of_beq_eq_true h52
    subst hk52
    rw [h52] at hok
    simp only [cond_true, Bool.or_eq_true, Bool.and_eq_true, decide_eq_true_eq] at hok
    have hi3 : ii < 13 := hi2
    have hstr := (hE.2.2.2.2.2.2.2.1).1 ii hi3
    rcases hok with ⟨g1, rfl, rfl⟩ | ⟨g1, rfl⟩
    · have hm : (tb_own i, idx, 0) ∈ tb_psf := List.mem_of_elem_eq_true g1
      exact vk_getf hx hb hstr.2.2.1 hS hown (hts _ (am_w7_in (List.mem_append_left _ ((tb_sfok _ hm).1 rfl)))) (fun _ z => z) hdg (h H locs ls' hP hS hL hM)
    · have hm : (tb_own i, idx, 1) ∈ tb_psf := List.mem_of_elem_eq_true g1
      refine vk_getf hx hb hstr.2.1 hS hown (hts _ (am_w7_in (List.mem_append_left _ ((tb_sfok _ hm).2 rfl)))) (fun _ z => z) hdg ?_
      rw [← i3_zero]
      exact h H locs ls' hP hS hL hM
  | false =>
    rw [h52] at hok
    simp only [cond_false, Bool.and_eq_true, decide_eq_true_eq] at hok
    have hm : (tb_own i, idx, k, sl) ∈ tb_pf := List.mem_of_elem_eq_true hok.1
    obtain ⟨hk9, hsl⟩ := tb_pf_ok _ hm
    replace hk9 : k < 9 := hk9
    replace hsl : sl < am_nf k := hsl
    have hlk := hts _ (am_wf_in hm)
    have h54 : Nat.beq k 54 = false := am_ne54 (by omega)
    (try dsimp only)
    rw [List.map_cons, am_tr_ref h54]
    refine va_get (D := (dC, dI)) (ci := k) (tys := []) (v := am_fv ad M ii (t, a, b)) (C := (tb_vc k).1) (T := (tb_vc k).2.1) (N := (tb_vc k).2.2) hx hb hts (am_u_in hk9) hown hE.1 hP (am_pos k ii) (by rw [am_W_get (by omega) hi2, am_cell_obj hk9]) (tb_vcn k hk9).1 sl (by rw [← am_cells_nf k hk9]; exact hsl) hlk (fun _ z => z) (by rw [am_flds_get hsl, hok.2]) hdg ?_
    have hs4 := (am_slot_all k hk9 sl (Nat.lt_of_lt_of_le hsl (am_nf40 k hk9)) hsl).1
    rw [hok.2] at hs4
    have hto := tb_slot_to k hk9 sl (Nat.lt_of_lt_of_le hsl (am_nf40 k hk9)) hsl
    rw [hok.2] at hto
    match t, h, hs4, hto with
    | 0, h, _, _ => exact h H locs ls' hP hS hL hM
    | 1, h, _, _ => exact h H locs ls' hP hS hL hM
    | 2, h, _, _ => exact h H locs ls' hP hS hL hM
    | 3, h, _, hto =>
      replace h := h H locs ls' hP hS hL hM
      (try dsimp only at h)
      rwa [List.map_cons, am_tr_ref (am_ne54 (by have h42 : a < 42 := hto (by simp); omega))] at h
    | 4, h, _, hto =>
      replace h := h H locs ls' hP hS hL hM
      (try dsimp only at h)
      rwa [List.map_cons, am_tr_ref (am_ne54 (by have h42 : a < 42 := hto (by simp); omega))] at h
    | n + 5, _, hs4, _ => exact absurd hs4 (by simp)
set_option maxHeartbeats 1000000 in
set_option maxRecDepth 100000 in
theorem am_c_putfield {i d : Nat} {K : am_K} (hi : i < tb_n)
    (hx : p.tables.exec = Jvm.exec) (hb : c0.code = tb_cc i) (hml : c0.maxLocals = tb_ml i) (hown : s.vm.findClass (tb_cn (tb_own i)) = some m.cls) (hts : ∀ w ∈ am_ws, w.before args s = true) (hE : am_E wb dC dI ad ca fm L xs A s s.heap) (hA : ∀ q, s.heap.size ≤ q → A q)
    (hR : d + 1 ≤ R.frames ∧ 80 * d + 80 ≤ R.locals) (hcs : cells ≤ R.cells ∧ slots ≤ R.slots)
    (hC : ∀ (j : Nat) (as : List am_V) (M : am_M) (k : am_K), 0 < j → j < tb_n → am_Call wb d j as M k → am_Cal wb l d dC dI ad ca fm L xs j as M k)
    (hret : ∀ (pc : Nat) (H : Heap) (locs : List Loc) (ls : Array Slot) (v : Option am_V) (M : am_M), am_retOK (tb_rt i) pc (tb_cc i) v → K v M → va_P (dC, dI) vwCl (am_W wb ad ca M) H → va_S A s.heap H locs → am_scr L xs M → W p l e R s m args below meth c0 H locs cells slots Q (F0 m pc ls ((am_ps v []).map (am_tr ad fm))))
    {pc len : Nat} {ls : List (Option am_V)} {st : List am_V} {M : am_M} {ax : List Nat} {H : Heap} {locs : List Loc} {ls' : Array Slot} {idx : Nat} (hfm : fm.isRef = true)
    (hP : va_P (dC, dI) vwCl (am_W wb ad ca M) H) (hS : va_S A s.heap H locs) (hL : am_L ad fm (tb_ml i) ls ls') (hM : am_scr L xs M) (hdg : decode (tb_cc i) pc = .ok ((.putfield idx), len)) (hok : tb_okx (tb_own i) pc len (.putfield idx) ax = true)
    (h : am_ex wb (tb_rt i) (am_Call wb d) K (am_J wb p l e R s m args below meth c0 cells slots Q dC dI ad ca fm L xs A (tb_ml i)) (.putfield idx) len ax pc ls st M) : W p l e R s m args below meth c0 H locs cells slots Q (F0 m pc ls' (st.map (am_tr ad fm))) := by
  replace h := am_a5_spec (show am_a5 ax _ from h)
  obtain ⟨ci, sl, t, a, b, rfl, h⟩ := h
  replace hok : (Nat.beq len 3 && (tb_pf.elem (tb_own i, idx, ci, sl) && decide (am_slot ci sl = (t, a, b)))) = true := hok
  simp only [Bool.and_eq_true, decide_eq_true_eq] at hok
  obtain ⟨hok1, hok⟩ := hok
  have hlen : len = 3 := Nat.eq_of_beq_eq_true hok1
  subst hlen
  have hm : (tb_own i, idx, ci, sl) ∈ tb_pf := List.mem_of_elem_eq_true hok.1
  obtain ⟨hk9, hsl⟩ := tb_pf_ok _ hm
  replace hk9 : ci < 9 := hk9
  replace hsl : sl < am_nf ci := hsl
  have hlk := hts _ (am_wf_in hm)
  rcases st with _ | ⟨(x | (x | (_ | ⟨a0, b0⟩))), _ | ⟨(y | (y | (_ | ⟨k, ii⟩))), r⟩⟩ <;> try exact False.elim h
  · revert h
    intro h
    replace h := am_cond h
    obtain ⟨hk, h⟩ := h
    replace hk := Nat.eq_of_beq_eq_true hk
    subst hk
    replace h := am_cond h
    obtain ⟨hi2, h⟩ := h
    replace hi2 : ii < am_cnt wb k := Nat.blt_eq.mp hi2
    have h54 : Nat.beq k 54 = false := am_ne54 (by omega)
    match t, h, hok with
    | 0, h, hok =>
      (try dsimp only)
      rw [List.map_cons, List.map_cons, am_tr_ref h54]
      have hsl40 := Nat.lt_of_lt_of_le hsl (am_nf40 k hk9)
      obtain ⟨hfin, hty⟩ := tb_slot_ty k hk9 sl hsl40 hsl (by rw [hok.2]; simp)
      rw [hok.2] at hty
      have hv := (am_slot_all k hk9 sl hsl40 hsl).2 (by rw [hok.2]; simp)
      rw [hok.2] at hv
      have hv : a = 100 + 40 * k + sl := hv
      refine va_put (D := (dC, dI)) (ci := k) (tys := []) (v := .int (i3 x)) (ty := .int) (C := (tb_vc k).1) (T := (tb_vc k).2.1) (N := (tb_vc k).2.2) hx hb hts (am_u_in hk9) (tb_ty k) (tb_ty_ok k hk9).1 (tb_ty_ok k hk9).2 hown hE.1 hP (hE.2.2.1 M) hS (am_pos k ii) (by rw [am_W_get (by omega) hi2, am_cell_obj hk9]) (tb_vcn k hk9).1 sl (by rw [← am_cells_nf k hk9]; exact hsl) hlk (fun _ z => z) hfin (by simpa using hty) rfl rfl (by simp [am_flds]; exact hsl) hdg (fun H1 locs1 hP1 hD1 hS1 => ?_)
      have hset := am_W_putf (ad := ad) (ca := ca) (M := M) (x := x) hk9 hi2 hsl hok.2 (by simp)
      rw [show (if 0 = 2 then Value.long (i6 x) else Value.int (i3 x)) = Value.int (i3 x) from rfl] at hset
      rw [hset] at hP1
      exact h H1 locs1 ls' hP1 hS1 hL (hM.wr (by omega) (by omega))
    | 1, h, hok =>
      (try dsimp only)
      rw [List.map_cons, List.map_cons, am_tr_ref h54]
      have hsl40 := Nat.lt_of_lt_of_le hsl (am_nf40 k hk9)
      obtain ⟨hfin, hty⟩ := tb_slot_ty k hk9 sl hsl40 hsl (by rw [hok.2]; simp)
      rw [hok.2] at hty
      have hv := (am_slot_all k hk9 sl hsl40 hsl).2 (by rw [hok.2]; simp)
      rw [hok.2] at hv
      have hv : a = 100 + 40 * k + sl := hv
      refine va_put (D := (dC, dI)) (ci := k) (tys := []) (v := .int (i3 x)) (ty := .boolean) (C := (tb_vc k).1) (T := (tb_vc k).2.1) (N := (tb_vc k).2.2) hx hb hts (am_u_in hk9) (tb_ty k) (tb_ty_ok k hk9).1 (tb_ty_ok k hk9).2 hown hE.1 hP (hE.2.2.1 M) hS (am_pos k ii) (by rw [am_W_get (by omega) hi2, am_cell_obj hk9]) (tb_vcn k hk9).1 sl (by rw [← am_cells_nf k hk9]; exact hsl) hlk (fun _ z => z) hfin (by simpa using hty) (am_nb h.1) (am_fb h.1) (by simp [am_flds]; exact hsl) hdg (fun H1 locs1 hP1 hD1 hS1 => ?_)
      have hset := am_W_putf (ad := ad) (ca := ca) (M := M) (x := x) hk9 hi2 hsl hok.2 (by simp)
      rw [show (if 1 = 2 then Value.long (i6 x) else Value.int (i3 x)) = Value.int (i3 x) from rfl] at hset
      rw [hset] at hP1
      exact h.2 H1 locs1 ls' hP1 hS1 hL (hM.wr (by omega) (by omega))
    | n + 2, h, _ => exact False.elim h
  · revert h
    intro h
    replace h := am_cond h
    obtain ⟨hk, h⟩ := h
    replace hk := Nat.eq_of_beq_eq_true hk
    subst hk
    replace h := am_cond h
    obtain ⟨hi2, h⟩ := h
    replace hi2 : ii < am_cnt wb k := Nat.blt_eq.mp hi2
    have h54 : Nat.beq k 54 = false := am_ne54 (by omega)
    match t, h, hok with
    | 2, h, hok =>
      (try dsimp only)
      rw [List.map_cons, List.map_cons, am_tr_ref h54]
      have hsl40 := Nat.lt_of_lt_of_le hsl (am_nf40 k hk9)
      obtain ⟨hfin, hty⟩ := tb_slot_ty k hk9 sl hsl40 hsl (by rw [hok.2]; simp)
      rw [hok.2] at hty
      have hv := (am_slot_all k hk9 sl hsl40 hsl).2 (by rw [hok.2]; simp)
      rw [hok.2] at hv
      have hv : a = 100 + 40 * k + sl := hv
      refine va_put (D := (dC, dI)) (ci := k) (tys := []) (v := .long (i6 x)) (ty := .long) (C := (tb_vc k).1) (T := (tb_vc k).2.1) (N := (tb_vc k).2.2) hx hb hts (am_u_in hk9) (tb_ty k) (tb_ty_ok k hk9).1 (tb_ty_ok k hk9).2 hown hE.1 hP (hE.2.2.1 M) hS (am_pos k ii) (by rw [am_W_get (by omega) hi2, am_cell_obj hk9]) (tb_vcn k hk9).1 sl (by rw [← am_cells_nf k hk9]; exact hsl) hlk (fun _ z => z) hfin (by simpa using hty) rfl rfl (by simp [am_flds]; exact hsl) hdg (fun H1 locs1 hP1 hD1 hS1 => ?_)
      have hset := am_W_putf (ad := ad) (ca := ca) (M := M) (x := x) hk9 hi2 hsl hok.2 (by simp)
      rw [show (if 2 = 2 then Value.long (i6 x) else Value.int (i3 x)) = Value.long (i6 x) from rfl] at hset
      rw [hset] at hP1
      exact h H1 locs1 ls' hP1 hS1 hL (hM.wr (by omega) (by omega))
    | 0, h, _ => exact False.elim h
    | 1, h, _ => exact False.elim h
    | n + 3, h, _ => exact False.elim h
set_option maxHeartbeats 1000000 in
set_option maxRecDepth 100000 in
theorem am_c_getstatic {i d : Nat} {K : am_K} (hi : i < tb_n)
    (hx : p.tables.exec = Jvm.exec) (hb : c0.code = tb_cc i) (hml : c0.maxLocals = tb_ml i) (hown : s.vm.findClass (tb_cn (tb_own i)) = some m.cls) (hts : ∀ w ∈ am_ws, w.before args s = true) (hE : am_E wb dC dI ad ca fm L xs A s s.heap) (hA : ∀ q, s.heap.size ≤ q → A q)
    (hR : d + 1 ≤ R.frames ∧ 80 * d + 80 ≤ R.locals) (hcs : cells ≤ R.cells ∧ slots ≤ R.slots)
    (hC : ∀ (j : Nat) (as : List am_V) (M : am_M) (k : am_K), 0 < j → j < tb_n → am_Call wb d j as M k → am_Cal wb l d dC dI ad ca fm L xs j as M k)
    (hret : ∀ (pc : Nat) (H : Heap) (locs : List Loc) (ls : Array Slot) (v : Option am_V) (M : am_M), am_retOK (tb_rt i) pc (tb_cc i) v → K v M → va_P (dC, dI) vwCl (am_W wb ad ca M) H → va_S A s.heap H locs → am_scr L xs M → W p l e R s m args below meth c0 H locs cells slots Q (F0 m pc ls ((am_ps v []).map (am_tr ad fm))))
    {pc len : Nat} {ls : List (Option am_V)} {st : List am_V} {M : am_M} {ax : List Nat} {H : Heap} {locs : List Loc} {ls' : Array Slot} {idx : Nat} (hfm : fm.isRef = true)
    (hP : va_P (dC, dI) vwCl (am_W wb ad ca M) H) (hS : va_S A s.heap H locs) (hL : am_L ad fm (tb_ml i) ls ls') (hM : am_scr L xs M) (hdg : decode (tb_cc i) pc = .ok ((.getstatic idx), len)) (hok : tb_okx (tb_own i) pc len (.getstatic idx) ax = true)
    (h : am_ex wb (tb_rt i) (am_Call wb d) K (am_J wb p l e R s m args below meth c0 cells slots Q dC dI ad ca fm L xs A (tb_ml i)) (.getstatic idx) len ax pc ls st M) : W p l e R s m args below meth c0 H locs cells slots Q (F0 m pc ls' (st.map (am_tr ad fm))) := by
  replace h := am_a2_spec (show am_a2 ax _ from h)
  obtain ⟨g, j, rfl, h⟩ := h
  replace hok : (Nat.beq len 3 && tb_pst.elem (tb_own i, idx, g, j)) = true := hok
  simp only [Bool.and_eq_true] at hok
  obtain ⟨hok1, hok⟩ := hok
  have hlen : len = 3 := Nat.eq_of_beq_eq_true hok1
  subst hlen
  have hm : (tb_own i, idx, g, j) ∈ tb_pst := List.mem_of_elem_eq_true hok
  obtain ⟨s0, s1, s2, s3⟩ := tb_stok _ hm
  match g, h, s0, s1, s2, s3 with
  | 0, h, s0, _, _, _ => exact va_gets hx hb hE.2.2.2.2.1 hS hown (hts _ (am_w7_in (List.mem_append_right _ (s0 rfl)))) (fun _ z => z) hdg (h H locs ls' hP hS hL hM)
  | 1, h, _, s1, _, _ => exact va_gets hx hb hE.2.2.2.2.2.1.2 hS hown (hts _ (am_w7_in (List.mem_append_right _ (s1 rfl)))) (fun _ z => z) hdg (h H locs ls' hP hS hL hM)
  | 2, h, _, _, s2, _ => exact va_gets hx hb (hE.2.2.2.2.2.2.1 j (s2 rfl).1).1 hS hown (hts _ (am_w7_in (List.mem_append_right _ (s2 rfl).2))) (fun _ z => z) hdg (h H locs ls' hP hS hL hM)
  | n + 3, _, _, _, _, s3 => exact absurd s3 (by simp)
set_option maxHeartbeats 1000000 in
set_option maxRecDepth 100000 in
theorem am_c_iaload {i d : Nat} {K : am_K} (hi : i < tb_n)
    (hx : p.tables.exec = Jvm.exec) (hb : c0.code = tb_cc i) (hml : c0.maxLocals = tb_ml i) (hown : s.vm.findClass (tb_cn (tb_own i)) = some m.cls) (hts : ∀ w ∈ am_ws, w.before args s = true) (hE : am_E wb dC dI ad ca fm L xs A s s.heap) (hA : ∀ q, s.heap.size ≤ q → A q)
    (hR : d + 1 ≤ R.frames ∧ 80 * d + 80 ≤ R.locals) (hcs : cells ≤ R.cells ∧ slots ≤ R.slots)
    (hC : ∀ (j : Nat) (as : List am_V) (M : am_M) (k : am_K), 0 < j → j < tb_n → am_Call wb d j as M k → am_Cal wb l d dC dI ad ca fm L xs j as M k)
    (hret : ∀ (pc : Nat) (H : Heap) (locs : List Loc) (ls : Array Slot) (v : Option am_V) (M : am_M), am_retOK (tb_rt i) pc (tb_cc i) v → K v M → va_P (dC, dI) vwCl (am_W wb ad ca M) H → va_S A s.heap H locs → am_scr L xs M → W p l e R s m args below meth c0 H locs cells slots Q (F0 m pc ls ((am_ps v []).map (am_tr ad fm))))
    {pc len : Nat} {ls : List (Option am_V)} {st : List am_V} {M : am_M} {ax : List Nat} {H : Heap} {locs : List Loc} {ls' : Array Slot}  (hfm : fm.isRef = true)
    (hP : va_P (dC, dI) vwCl (am_W wb ad ca M) H) (hS : va_S A s.heap H locs) (hL : am_L ad fm (tb_ml i) ls ls') (hM : am_scr L xs M) (hdg : decode (tb_cc i) pc = .ok ((.iaload), len)) (hok : tb_okx (tb_own i) pc len (.iaload) ax = true)
    (h : am_ex wb (tb_rt i) (am_Call wb d) K (am_J wb p l e R s m args below meth c0 cells slots Q dC dI ad ca fm L xs A (tb_ml i)) (.iaload) len ax pc ls st M) : W p l e R s m args below meth c0 H locs cells slots Q (F0 m pc ls' (st.map (am_tr ad fm))) := by
  have hlen : len = 1 := Nat.eq_of_beq_eq_true hok
  subst hlen
  replace h := am_ri_spec (show am_ri st _ from h)
  obtain ⟨k, ii, x, r, rfl, h⟩ := h
  unfold am_ld at h
  cases h1 : (Nat.ble 12 k && Nat.ble k 41) with
  | true =>
    rw [h1] at h
    simp only [Bool.and_eq_true] at h1
    have h12 := Nat.le_of_ble_eq_true h1.1
    have h41 := Nat.le_of_ble_eq_true h1.2
    replace h := am_cond h
    obtain ⟨hi2, ⟨g1, h⟩⟩ := h
    replace hi2 : ii < am_cnt wb k := Nat.blt_eq.mp hi2
    have h31 := am_len31 k (by omega)
    (try dsimp only)
    rw [List.map_cons, List.map_cons, am_tr_ref (am_ne54 (by omega))]
    have hA2 := hE.2.1 k ii (by omega) (by omega) hi2
    rw [show am_aty k = .int by unfold am_aty; rw [if_neg (by omega), if_neg (by omega), if_neg (by omega)]] at hA2
    refine va_iald (D := (dC, dI)) hx hb (am_K1 hE.1 hA2.1 hA2.2) hP (am_pos k ii) 0 (by rw [am_W_get (by omega) hi2, am_cell_ia h12]) rfl (i3_vp h31 g1) hdg ?_
    rw [i3_clamp (by omega)]
    exact h H locs ls' hP hS hL hM
  | false =>
    rw [h1] at h
    cases h2 : Nat.beq k 50 with
    | true =>
      rw [h2] at h
      have hk := Nat.eq_of_beq_eq_true h2
      subst hk
      obtain ⟨g1, h⟩ := h
      rw [hM.1] at g1
      have hsc := hE.2.2.2.2.2.2.2.2.2
      (try dsimp only)
      rw [List.map_cons, List.map_cons, am_tr_ref (am_ne54 (by omega)), hsc.2.2.2.1 ii]
      refine va_sld hx hb hsc.1 hsc.2.1 hsc.2.2.1 hS (i3_vp hsc.2.2.2.2 g1) hdg ?_
      replace h := h H locs ls' hP hS hL hM
      (try dsimp only at h)
      rw [hM.2] at h
      rw [i3_clamp (by have := hsc.2.2.2.2; omega)]
      exact h
    | false =>
      rw [h2] at h
      replace h := am_cond h
      obtain ⟨h3, ⟨g1, h⟩⟩ := h
      have hk := Nat.eq_of_beq_eq_true h3
      subst hk
      have hj : ii < 3 := by
        rcases Nat.lt_or_ge ii 3 with q | q
        · exact q
        · rw [am_stat3 ii (by omega)] at g1
          simp at g1
          omega
      have hT := (hE.2.2.2.2.2.2.1 ii hj).2
      refine va_ti hx hb hT hS (i3_vp (am_stat31 ii hj) g1) (v := .int (i3 ((am_stat ii).getD x.toNat 0))) ?_ hdg (h H locs ls' hP hS hL hM)
      rw [i3_clamp (by have := am_stat31 ii hj; omega)]
set_option maxHeartbeats 1000000 in
set_option maxRecDepth 100000 in
theorem am_c_baload {i d : Nat} {K : am_K} (hi : i < tb_n)
    (hx : p.tables.exec = Jvm.exec) (hb : c0.code = tb_cc i) (hml : c0.maxLocals = tb_ml i) (hown : s.vm.findClass (tb_cn (tb_own i)) = some m.cls) (hts : ∀ w ∈ am_ws, w.before args s = true) (hE : am_E wb dC dI ad ca fm L xs A s s.heap) (hA : ∀ q, s.heap.size ≤ q → A q)
    (hR : d + 1 ≤ R.frames ∧ 80 * d + 80 ≤ R.locals) (hcs : cells ≤ R.cells ∧ slots ≤ R.slots)
    (hC : ∀ (j : Nat) (as : List am_V) (M : am_M) (k : am_K), 0 < j → j < tb_n → am_Call wb d j as M k → am_Cal wb l d dC dI ad ca fm L xs j as M k)
    (hret : ∀ (pc : Nat) (H : Heap) (locs : List Loc) (ls : Array Slot) (v : Option am_V) (M : am_M), am_retOK (tb_rt i) pc (tb_cc i) v → K v M → va_P (dC, dI) vwCl (am_W wb ad ca M) H → va_S A s.heap H locs → am_scr L xs M → W p l e R s m args below meth c0 H locs cells slots Q (F0 m pc ls ((am_ps v []).map (am_tr ad fm))))
    {pc len : Nat} {ls : List (Option am_V)} {st : List am_V} {M : am_M} {ax : List Nat} {H : Heap} {locs : List Loc} {ls' : Array Slot}  (hfm : fm.isRef = true)
    (hP : va_P (dC, dI) vwCl (am_W wb ad ca M) H) (hS : va_S A s.heap H locs) (hL : am_L ad fm (tb_ml i) ls ls') (hM : am_scr L xs M) (hdg : decode (tb_cc i) pc = .ok ((.baload), len)) (hok : tb_okx (tb_own i) pc len (.baload) ax = true)
    (h : am_ex wb (tb_rt i) (am_Call wb d) K (am_J wb p l e R s m args below meth c0 cells slots Q dC dI ad ca fm L xs A (tb_ml i)) (.baload) len ax pc ls st M) : W p l e R s m args below meth c0 H locs cells slots Q (F0 m pc ls' (st.map (am_tr ad fm))) := by
  have hlen : len = 1 := Nat.eq_of_beq_eq_true hok
  subst hlen
  replace h := am_ri_spec (show am_ri st _ from h)
  obtain ⟨k, ii, x, r, rfl, h⟩ := h
  replace h := am_cond h
  obtain ⟨h3, h⟩ := h
  have hk := Nat.eq_of_beq_eq_true h3
  subst hk
  replace h := am_cond h
  obtain ⟨hi2, ⟨g1, h⟩⟩ := h
  replace hi2 : ii < 13 := Nat.blt_eq.mp hi2
  have hT := ((hE.2.2.2.2.2.2.2.1).1 ii hi2).2.2.2
  rw [am_tlen_at hi2] at hT
  have h31 := am_text31 ii hi2
  refine va_tb hx hb hT hS (i3_vp h31 g1) (v := .int (i3 ((am_text ii).getD x.toNat 0))) ?_ hdg (h H locs ls' hP hS hL hM)
  rw [i3_clamp (by omega)]
  rw [am_tbyt_at hi2 (by omega)]
set_option maxHeartbeats 1000000 in
set_option maxRecDepth 100000 in
theorem am_c_aaload {i d : Nat} {K : am_K} (hi : i < tb_n)
    (hx : p.tables.exec = Jvm.exec) (hb : c0.code = tb_cc i) (hml : c0.maxLocals = tb_ml i) (hown : s.vm.findClass (tb_cn (tb_own i)) = some m.cls) (hts : ∀ w ∈ am_ws, w.before args s = true) (hE : am_E wb dC dI ad ca fm L xs A s s.heap) (hA : ∀ q, s.heap.size ≤ q → A q)
    (hR : d + 1 ≤ R.frames ∧ 80 * d + 80 ≤ R.locals) (hcs : cells ≤ R.cells ∧ slots ≤ R.slots)
    (hC : ∀ (j : Nat) (as : List am_V) (M : am_M) (k : am_K), 0 < j → j < tb_n → am_Call wb d j as M k → am_Cal wb l d dC dI ad ca fm L xs j as M k)
    (hret : ∀ (pc : Nat) (H : Heap) (locs : List Loc) (ls : Array Slot) (v : Option am_V) (M : am_M), am_retOK (tb_rt i) pc (tb_cc i) v → K v M → va_P (dC, dI) vwCl (am_W wb ad ca M) H → va_S A s.heap H locs → am_scr L xs M → W p l e R s m args below meth c0 H locs cells slots Q (F0 m pc ls ((am_ps v []).map (am_tr ad fm))))
    {pc len : Nat} {ls : List (Option am_V)} {st : List am_V} {M : am_M} {ax : List Nat} {H : Heap} {locs : List Loc} {ls' : Array Slot}  (hfm : fm.isRef = true)
    (hP : va_P (dC, dI) vwCl (am_W wb ad ca M) H) (hS : va_S A s.heap H locs) (hL : am_L ad fm (tb_ml i) ls ls') (hM : am_scr L xs M) (hdg : decode (tb_cc i) pc = .ok ((.aaload), len)) (hok : tb_okx (tb_own i) pc len (.aaload) ax = true)
    (h : am_ex wb (tb_rt i) (am_Call wb d) K (am_J wb p l e R s m args below meth c0 cells slots Q dC dI ad ca fm L xs A (tb_ml i)) (.aaload) len ax pc ls st M) : W p l e R s m args below meth c0 H locs cells slots Q (F0 m pc ls' (st.map (am_tr ad fm))) := by
  have hlen : len = 1 := Nat.eq_of_beq_eq_true hok
  subst hlen
  replace h := am_ri_spec (show am_ri st _ from h)
  obtain ⟨k, ii, x, r, rfl, h⟩ := h
  replace h := am_cond h
  obtain ⟨h1, h⟩ := h
  simp only [Bool.and_eq_true] at h1
  have h9 := Nat.le_of_ble_eq_true h1.1
  have h11 := Nat.le_of_ble_eq_true h1.2
  replace h := am_cond h
  obtain ⟨hi2, ⟨g1, h⟩⟩ := h
  replace hi2 : ii < am_cnt wb k := Nat.blt_eq.mp hi2
  have h31 := am_rlen31 k (by omega)
  (try dsimp only)
  rw [List.map_cons, List.map_cons, am_tr_ref (am_ne54 (by omega))]
  have hA2 := hE.2.1 k ii (by omega) (by omega) hi2
  obtain ⟨C, hC2⟩ : ∃ C, am_aty k = .object C := by
    rcases (show k = 9 ∨ k = 10 ∨ k = 11 by omega) with rfl | rfl | rfl <;> exact ⟨_, rfl⟩
  rw [hC2] at hA2
  refine va_aldq (D := (dC, dI)) hx hb (am_K1 hE.1 hA2.1 hA2.2) hP (am_pos k ii) 0 (by rw [am_W_get (by omega) hi2, am_cell_ra h9 (by omega)]) rfl (i3_vp h31 g1) hdg ?_
  rw [i3_clamp (by omega)]
  replace h := h H locs ls' hP hS hL hM
  (try dsimp only at h)
  rwa [List.map_cons, am_tr_ref (am_ne54 (by rcases (show k = 9 ∨ k = 10 ∨ k = 11 by omega) with rfl | rfl | rfl <;> decide))] at h
set_option maxHeartbeats 1000000 in
set_option maxRecDepth 100000 in
theorem am_c_arraylength {i d : Nat} {K : am_K} (hi : i < tb_n)
    (hx : p.tables.exec = Jvm.exec) (hb : c0.code = tb_cc i) (hml : c0.maxLocals = tb_ml i) (hown : s.vm.findClass (tb_cn (tb_own i)) = some m.cls) (hts : ∀ w ∈ am_ws, w.before args s = true) (hE : am_E wb dC dI ad ca fm L xs A s s.heap) (hA : ∀ q, s.heap.size ≤ q → A q)
    (hR : d + 1 ≤ R.frames ∧ 80 * d + 80 ≤ R.locals) (hcs : cells ≤ R.cells ∧ slots ≤ R.slots)
    (hC : ∀ (j : Nat) (as : List am_V) (M : am_M) (k : am_K), 0 < j → j < tb_n → am_Call wb d j as M k → am_Cal wb l d dC dI ad ca fm L xs j as M k)
    (hret : ∀ (pc : Nat) (H : Heap) (locs : List Loc) (ls : Array Slot) (v : Option am_V) (M : am_M), am_retOK (tb_rt i) pc (tb_cc i) v → K v M → va_P (dC, dI) vwCl (am_W wb ad ca M) H → va_S A s.heap H locs → am_scr L xs M → W p l e R s m args below meth c0 H locs cells slots Q (F0 m pc ls ((am_ps v []).map (am_tr ad fm))))
    {pc len : Nat} {ls : List (Option am_V)} {st : List am_V} {M : am_M} {ax : List Nat} {H : Heap} {locs : List Loc} {ls' : Array Slot}  (hfm : fm.isRef = true)
    (hP : va_P (dC, dI) vwCl (am_W wb ad ca M) H) (hS : va_S A s.heap H locs) (hL : am_L ad fm (tb_ml i) ls ls') (hM : am_scr L xs M) (hdg : decode (tb_cc i) pc = .ok ((.arraylength), len)) (hok : tb_okx (tb_own i) pc len (.arraylength) ax = true)
    (h : am_ex wb (tb_rt i) (am_Call wb d) K (am_J wb p l e R s m args below meth c0 cells slots Q dC dI ad ca fm L xs A (tb_ml i)) (.arraylength) len ax pc ls st M) : W p l e R s m args below meth c0 H locs cells slots Q (F0 m pc ls' (st.map (am_tr ad fm))) := by
  have hlen : len = 1 := Nat.eq_of_beq_eq_true hok
  subst hlen
  replace h := am_r1_spec (show am_r1 st _ from h)
  obtain ⟨k, ii, r, rfl, h⟩ := h
  unfold am_al at h
  have hof : ∀ n : Nat, Int32.ofNat n = i3 (n : Int) := fun n => Int32.ofInt_eq_ofNat.symm
  cases h1 : (Nat.ble 12 k && Nat.ble k 41) with
  | true =>
    rw [h1] at h
    simp only [Bool.and_eq_true] at h1
    have h12 := Nat.le_of_ble_eq_true h1.1
    have h41 := Nat.le_of_ble_eq_true h1.2
    replace h := am_cond h
    obtain ⟨hi2, h⟩ := h
    replace hi2 : ii < am_cnt wb k := Nat.blt_eq.mp hi2
    (try dsimp only)
    rw [List.map_cons, am_tr_ref (am_ne54 (by omega))]
    have hA2 := hE.2.1 k ii (by omega) (by omega) hi2
    exact va_alen (D := (dC, dI)) (x := (am_len k, .inl fun j => i3 (M k ii j))) hx hb (am_K1 hE.1 hA2.1 hA2.2) hP (am_pos k ii) 0 (by rw [am_W_get (by omega) hi2, am_cell_ia h12]) rfl (hof _) hdg (h H locs ls' hP hS hL hM)
  | false =>
    rw [h1] at h
    cases h2 : (Nat.ble 9 k && Nat.ble k 11) with
    | true =>
      rw [h2] at h
      simp only [Bool.and_eq_true] at h2
      have h9 := Nat.le_of_ble_eq_true h2.1
      have h11 := Nat.le_of_ble_eq_true h2.2
      replace h := am_cond h
      obtain ⟨hi2, h⟩ := h
      replace hi2 : ii < am_cnt wb k := Nat.blt_eq.mp hi2
      (try dsimp only)
      rw [List.map_cons, am_tr_ref (am_ne54 (by omega))]
      have hA2 := hE.2.1 k ii (by omega) (by omega) hi2
      exact va_alen (D := (dC, dI)) (x := (am_rlen k, .inr (.inr (.inr (.inr fun j => some (ad (am_rto k) j)))))) hx hb (am_K1 hE.1 hA2.1 hA2.2) hP (am_pos k ii) 0 (by rw [am_W_get (by omega) hi2, am_cell_ra h9 (by omega)]) rfl (hof _) hdg (h H locs ls' hP hS hL hM)
    | false =>
      rw [h2] at h
      cases h3 : Nat.beq k 50 with
      | true =>
        rw [h3] at h
        have hk := Nat.eq_of_beq_eq_true h3
        subst hk
        have hsc := hE.2.2.2.2.2.2.2.2.2
        (try dsimp only)
        rw [List.map_cons, am_tr_ref (am_ne54 (by omega)), hsc.2.2.2.1 ii]
        refine va_slen hx hb hsc.1 hsc.2.1 hsc.2.2.1 hS hdg ?_
        replace h := h H locs ls' hP hS hL hM
        (try dsimp only at h)
        rw [hM.1] at h
        rw [hof]
        exact h
      | false =>
        rw [h3] at h
        cases h4 : Nat.beq k 51 with
        | true =>
          rw [h4] at h
          have hk := Nat.eq_of_beq_eq_true h4
          subst hk
          replace h := am_cond h
          obtain ⟨hi2, h⟩ := h
          have hj : ii < 3 := Nat.blt_eq.mp hi2
          exact va_tlen hx hb (hE.2.2.2.2.2.2.1 ii hj).2 hS (hof _) hdg (h H locs ls' hP hS hL hM)
        | false =>
          rw [h4] at h
          replace h := am_cond h
          obtain ⟨h5, h⟩ := h
          have hk := Nat.eq_of_beq_eq_true h5
          subst hk
          replace h := am_cond h
          obtain ⟨hi2, h⟩ := h
          have hj : ii < 13 := Nat.blt_eq.mp hi2
          have hT := ((hE.2.2.2.2.2.2.2.1).1 ii hj).2.2.2
          rw [am_tlen_at hj] at hT
          exact va_tlen hx hb hT hS (hof _) hdg (h H locs ls' hP hS hL hM)
set_option maxHeartbeats 1000000 in
set_option maxRecDepth 100000 in
theorem am_c_iastore {i d : Nat} {K : am_K} (hi : i < tb_n)
    (hx : p.tables.exec = Jvm.exec) (hb : c0.code = tb_cc i) (hml : c0.maxLocals = tb_ml i) (hown : s.vm.findClass (tb_cn (tb_own i)) = some m.cls) (hts : ∀ w ∈ am_ws, w.before args s = true) (hE : am_E wb dC dI ad ca fm L xs A s s.heap) (hA : ∀ q, s.heap.size ≤ q → A q)
    (hR : d + 1 ≤ R.frames ∧ 80 * d + 80 ≤ R.locals) (hcs : cells ≤ R.cells ∧ slots ≤ R.slots)
    (hC : ∀ (j : Nat) (as : List am_V) (M : am_M) (k : am_K), 0 < j → j < tb_n → am_Call wb d j as M k → am_Cal wb l d dC dI ad ca fm L xs j as M k)
    (hret : ∀ (pc : Nat) (H : Heap) (locs : List Loc) (ls : Array Slot) (v : Option am_V) (M : am_M), am_retOK (tb_rt i) pc (tb_cc i) v → K v M → va_P (dC, dI) vwCl (am_W wb ad ca M) H → va_S A s.heap H locs → am_scr L xs M → W p l e R s m args below meth c0 H locs cells slots Q (F0 m pc ls ((am_ps v []).map (am_tr ad fm))))
    {pc len : Nat} {ls : List (Option am_V)} {st : List am_V} {M : am_M} {ax : List Nat} {H : Heap} {locs : List Loc} {ls' : Array Slot}  (hfm : fm.isRef = true)
    (hP : va_P (dC, dI) vwCl (am_W wb ad ca M) H) (hS : va_S A s.heap H locs) (hL : am_L ad fm (tb_ml i) ls ls') (hM : am_scr L xs M) (hdg : decode (tb_cc i) pc = .ok ((.iastore), len)) (hok : tb_okx (tb_own i) pc len (.iastore) ax = true)
    (h : am_ex wb (tb_rt i) (am_Call wb d) K (am_J wb p l e R s m args below meth c0 cells slots Q dC dI ad ca fm L xs A (tb_ml i)) (.iastore) len ax pc ls st M) : W p l e R s m args below meth c0 H locs cells slots Q (F0 m pc ls' (st.map (am_tr ad fm))) := by
  have hlen : len = 1 := Nat.eq_of_beq_eq_true hok
  subst hlen
  match st, h with
  | Sum.inl z :: st', h =>
    replace h := am_ri_spec (show am_ri st' _ from h)
    obtain ⟨k, ii, x, r, rfl, h⟩ := h
    unfold am_sd at h
    replace h := am_cond h
    obtain ⟨h1, h⟩ := h
    simp only [Bool.and_eq_true] at h1
    have h12 := Nat.le_of_ble_eq_true h1.1
    have h41 := Nat.le_of_ble_eq_true h1.2
    replace h := am_cond h
    obtain ⟨hi2, ⟨g1, h⟩⟩ := h
    replace hi2 : ii < am_cnt wb k := Nat.blt_eq.mp hi2
    have h31 := am_len31 k (by omega)
    (try dsimp only)
    rw [List.map_cons, List.map_cons, List.map_cons, am_tr_ref (am_ne54 (by omega))]
    have hA2 := hE.2.1 k ii (by omega) (by omega) hi2
    rw [show am_aty k = .int by unfold am_aty; rw [if_neg (by omega), if_neg (by omega), if_neg (by omega)]] at hA2
    refine va_iast (D := (dC, dI)) hx hb (am_K1 hE.1 hA2.1 hA2.2) hP (hE.2.2.1 M) hS (am_pos k ii) 0 (by rw [am_W_get (by omega) hi2, am_cell_ia h12]) rfl (i3_vp h31 g1) hdg (fun H1 locs1 hP1 hD1 hS1 => ?_)
    rw [i3_clamp (by omega), am_W_puta h12 (by omega) hi2] at hP1
    exact h H1 locs1 ls' hP1 hS1 hL (hM.wr (by omega) (by omega))
  | [], h => exact False.elim h
  | Sum.inr _ :: _, h => exact False.elim h
set_option maxHeartbeats 1000000 in
set_option maxRecDepth 100000 in
theorem am_c_invokestatic {i d : Nat} {K : am_K} (hi : i < tb_n)
    (hx : p.tables.exec = Jvm.exec) (hb : c0.code = tb_cc i) (hml : c0.maxLocals = tb_ml i) (hown : s.vm.findClass (tb_cn (tb_own i)) = some m.cls) (hts : ∀ w ∈ am_ws, w.before args s = true) (hE : am_E wb dC dI ad ca fm L xs A s s.heap) (hA : ∀ q, s.heap.size ≤ q → A q)
    (hR : d + 1 ≤ R.frames ∧ 80 * d + 80 ≤ R.locals) (hcs : cells ≤ R.cells ∧ slots ≤ R.slots)
    (hC : ∀ (j : Nat) (as : List am_V) (M : am_M) (k : am_K), 0 < j → j < tb_n → am_Call wb d j as M k → am_Cal wb l d dC dI ad ca fm L xs j as M k)
    (hret : ∀ (pc : Nat) (H : Heap) (locs : List Loc) (ls : Array Slot) (v : Option am_V) (M : am_M), am_retOK (tb_rt i) pc (tb_cc i) v → K v M → va_P (dC, dI) vwCl (am_W wb ad ca M) H → va_S A s.heap H locs → am_scr L xs M → W p l e R s m args below meth c0 H locs cells slots Q (F0 m pc ls ((am_ps v []).map (am_tr ad fm))))
    {pc len : Nat} {ls : List (Option am_V)} {st : List am_V} {M : am_M} {ax : List Nat} {H : Heap} {locs : List Loc} {ls' : Array Slot} {idx : Nat} (hfm : fm.isRef = true)
    (hP : va_P (dC, dI) vwCl (am_W wb ad ca M) H) (hS : va_S A s.heap H locs) (hL : am_L ad fm (tb_ml i) ls ls') (hM : am_scr L xs M) (hdg : decode (tb_cc i) pc = .ok ((.invokestatic idx), len)) (hok : tb_okx (tb_own i) pc len (.invokestatic idx) ax = true)
    (h : am_ex wb (tb_rt i) (am_Call wb d) K (am_J wb p l e R s m args below meth c0 cells slots Q dC dI ad ca fm L xs A (tb_ml i)) (.invokestatic idx) len ax pc ls st M) : W p l e R s m args below meth c0 H locs cells slots Q (F0 m pc ls' (st.map (am_tr ad fm))) := by
  match ax, h, hok with
  | [j, n], h, hok =>
    replace hok : (Nat.beq len 3 && ((tb_pm.elem (tb_own i, idx, j) || tb_pn.elem (tb_own i, idx, j)) && Nat.beq (tb_st j) 1 && Nat.beq (tb_na j) n && Nat.blt 0 j && Nat.blt j tb_n)) = true := hok
    simp only [Bool.and_eq_true, Bool.or_eq_true] at hok
    obtain ⟨hok1, ⟨⟨⟨g1, g2⟩, g3⟩, g4⟩, g5⟩ := hok
    have hlen : len = 3 := Nat.eq_of_beq_eq_true hok1
    subst hlen
    have hpm : (tb_own i, idx, j) ∈ tb_pm ∨ (tb_own i, idx, j) ∈ tb_pn := g1.imp (fun z => List.mem_of_elem_eq_true z) (fun z => List.mem_of_elem_eq_true z)
    have g2 := Nat.eq_of_beq_eq_true g2
    have g3 := Nat.eq_of_beq_eq_true g3
    replace g4 : 0 < j := Nat.blt_eq.mp g4
    replace g5 : j < tb_n := Nat.blt_eq.mp g5
    replace h := am_pop_spec (show am_pop n [] st _ from h)
    obtain ⟨as, r, rfl, has, h⟩ := h
    rw [List.append_nil] at h
    replace h := am_cond h
    obtain ⟨hw, h⟩ := h
    have hw := Nat.le_of_ble_eq_true hw
    (try dsimp only)
    rw [List.map_append, show as.map (am_tr ad fm) = ((as.reverse).map (am_tr ad fm)).reverse by rw [List.map_reverse, List.reverse_reverse]]
    exact am_static hx hb hml hown hts hE hA hR hcs g4 g5 g2 g3 hpm hdg (hC j _ M _ g4 g5 h) (by rw [List.length_reverse]; exact has) hw hL.2.1 hP hS hM (fun v M' H1 locs1 q1 q2 q3 q4 => q1 H1 locs1 ls' q3 q4 hL q2)
  | [g, a, b], h, hok =>
    replace hok : (Nat.beq len 3 && (tb_pmm.elem (tb_own i, idx, g) && Nat.blt g 4)) = true := hok
    simp only [Bool.and_eq_true] at hok
    obtain ⟨hok1, g1, g2⟩ := hok
    have hlen : len = 3 := Nat.eq_of_beq_eq_true hok1
    subst hlen
    have g0 : (tb_own i, idx, g) ∈ tb_pmm := List.mem_of_elem_eq_true g1
    replace g2 : g < 4 := Nat.blt_eq.mp g2
    match g, h, g0 with
    | 0, hh, g0 =>
      have hw1 : tb_mlw (tb_own i, idx, 0) ∈ tb_w8 := List.mem_cons_of_mem _ (List.mem_append_right _ (List.mem_append_right _ (List.mem_map.mpr ⟨_, g0, rfl⟩)))
      have hw2 : Cond.static (tb_my 0) ∈ tb_w8 := List.mem_cons_of_mem _ (List.mem_append_right _ (List.mem_append_left _ (List.mem_map.mpr ⟨0, by decide, rfl⟩)))
      have hw3 : tb_mcw 0 ∈ tb_w8 := List.mem_cons_of_mem _ (List.mem_append_left _ (List.mem_map.mpr ⟨0, by decide, rfl⟩))
      have hw4 : Cond.initialized "java/lang/Math" ∈ tb_w8 := List.mem_cons_self
      obtain ⟨x, y, r, rfl, h2⟩ := am_u2_spec (show am_u2 st _ from hh)
      obtain ⟨hw, g3, h3⟩ := am_cond h2
      have hw := Nat.le_of_ble_eq_true hw
      refine va_mmax hx hb (by rw [hml]; exact hL.2.1.symm) hown (hts _ (am_w8_in hw1)) (hts _ (am_w8_in hw2)) (hts _ (am_w8_in hw4)) (hts _ (am_w8_in hw3)) (by omega) (by rw [am_wsum_spec hfm]; omega) hcs.1 hcs.2 hdg ?_
      rw [am_max g3.1 g3.2]
      exact h3 H locs ls' hP hS hL hM
    | 1, hh, g0 =>
      have hw1 : tb_mlw (tb_own i, idx, 1) ∈ tb_w8 := List.mem_cons_of_mem _ (List.mem_append_right _ (List.mem_append_right _ (List.mem_map.mpr ⟨_, g0, rfl⟩)))
      have hw2 : Cond.static (tb_my 1) ∈ tb_w8 := List.mem_cons_of_mem _ (List.mem_append_right _ (List.mem_append_left _ (List.mem_map.mpr ⟨1, by decide, rfl⟩)))
      have hw3 : tb_mcw 1 ∈ tb_w8 := List.mem_cons_of_mem _ (List.mem_append_left _ (List.mem_map.mpr ⟨1, by decide, rfl⟩))
      have hw4 : Cond.initialized "java/lang/Math" ∈ tb_w8 := List.mem_cons_self
      obtain ⟨x, y, r, rfl, h2⟩ := am_u2_spec (show am_u2 st _ from hh)
      obtain ⟨hw, g3, h3⟩ := am_cond h2
      have hw := Nat.le_of_ble_eq_true hw
      refine va_mmin hx hb (by rw [hml]; exact hL.2.1.symm) hown (hts _ (am_w8_in hw1)) (hts _ (am_w8_in hw2)) (hts _ (am_w8_in hw4)) (hts _ (am_w8_in hw3)) (by omega) (by rw [am_wsum_spec hfm]; omega) hcs.1 hcs.2 hdg ?_
      rw [am_min g3.1 g3.2]
      exact h3 H locs ls' hP hS hL hM
    | 2, hh, g0 =>
      have hw1 : tb_mlw (tb_own i, idx, 2) ∈ tb_w8 := List.mem_cons_of_mem _ (List.mem_append_right _ (List.mem_append_right _ (List.mem_map.mpr ⟨_, g0, rfl⟩)))
      have hw2 : Cond.static (tb_my 2) ∈ tb_w8 := List.mem_cons_of_mem _ (List.mem_append_right _ (List.mem_append_left _ (List.mem_map.mpr ⟨2, by decide, rfl⟩)))
      have hw3 : tb_mcw 2 ∈ tb_w8 := List.mem_cons_of_mem _ (List.mem_append_left _ (List.mem_map.mpr ⟨2, by decide, rfl⟩))
      have hw4 : Cond.initialized "java/lang/Math" ∈ tb_w8 := List.mem_cons_self
      obtain ⟨x, r, rfl, h2⟩ := am_u1_spec (show am_u1 st _ from hh)
      obtain ⟨hw, g3, h3⟩ := am_cond h2
      have hw := Nat.le_of_ble_eq_true hw
      refine va_mabs hx hb (by rw [hml]; exact hL.2.1.symm) hown (hts _ (am_w8_in hw1)) (hts _ (am_w8_in hw2)) (hts _ (am_w8_in hw4)) (hts _ (am_w8_in hw3)) (by omega) (by rw [am_wsum_spec hfm]; omega) hcs.1 hcs.2 hdg ?_
      rw [am_abs g3]
      exact h3 H locs ls' hP hS hL hM
    | 3, hh, g0 =>
      have hw1 : tb_mlw (tb_own i, idx, 3) ∈ tb_w8 := List.mem_cons_of_mem _ (List.mem_append_right _ (List.mem_append_right _ (List.mem_map.mpr ⟨_, g0, rfl⟩)))
      have hw2 : Cond.static (tb_my 3) ∈ tb_w8 := List.mem_cons_of_mem _ (List.mem_append_right _ (List.mem_append_left _ (List.mem_map.mpr ⟨3, by decide, rfl⟩)))
      have hw3 : tb_mcw 3 ∈ tb_w8 := List.mem_cons_of_mem _ (List.mem_append_left _ (List.mem_map.mpr ⟨3, by decide, rfl⟩))
      have hw4 : Cond.initialized "java/lang/Math" ∈ tb_w8 := List.mem_cons_self
      obtain ⟨x, r, rfl, h2⟩ := am_l1_spec (show am_l1 st _ from hh)
      obtain ⟨hw, g3, h3⟩ := am_cond h2
      have hw := Nat.le_of_ble_eq_true hw
      refine va_mabs_long hx hb (by rw [hml]; exact hL.2.1.symm) hown (hts _ (am_w8_in hw1)) (hts _ (am_w8_in hw2)) (hts _ (am_w8_in hw4)) (hts _ (am_w8_in hw3)) (by omega) (by rw [am_wsum_spec hfm]; omega) hcs.1 hcs.2 hdg ?_
      rw [am_abs6 g3]
      exact h3 H locs ls' hP hS hL hM
    | n + 4, h, _ => exact False.elim h
  | [], h, _ => exact False.elim h
  | [_], h, _ => exact False.elim h
  | _ :: _ :: _ :: _ :: _, h, _ => exact False.elim h
set_option maxHeartbeats 1000000 in
set_option maxRecDepth 100000 in
theorem am_c_invokevirtual {i d : Nat} {K : am_K} (hi : i < tb_n)
    (hx : p.tables.exec = Jvm.exec) (hb : c0.code = tb_cc i) (hml : c0.maxLocals = tb_ml i) (hown : s.vm.findClass (tb_cn (tb_own i)) = some m.cls) (hts : ∀ w ∈ am_ws, w.before args s = true) (hE : am_E wb dC dI ad ca fm L xs A s s.heap) (hA : ∀ q, s.heap.size ≤ q → A q)
    (hR : d + 1 ≤ R.frames ∧ 80 * d + 80 ≤ R.locals) (hcs : cells ≤ R.cells ∧ slots ≤ R.slots)
    (hC : ∀ (j : Nat) (as : List am_V) (M : am_M) (k : am_K), 0 < j → j < tb_n → am_Call wb d j as M k → am_Cal wb l d dC dI ad ca fm L xs j as M k)
    (hret : ∀ (pc : Nat) (H : Heap) (locs : List Loc) (ls : Array Slot) (v : Option am_V) (M : am_M), am_retOK (tb_rt i) pc (tb_cc i) v → K v M → va_P (dC, dI) vwCl (am_W wb ad ca M) H → va_S A s.heap H locs → am_scr L xs M → W p l e R s m args below meth c0 H locs cells slots Q (F0 m pc ls ((am_ps v []).map (am_tr ad fm))))
    {pc len : Nat} {ls : List (Option am_V)} {st : List am_V} {M : am_M} {ax : List Nat} {H : Heap} {locs : List Loc} {ls' : Array Slot} {idx : Nat} (hfm : fm.isRef = true)
    (hP : va_P (dC, dI) vwCl (am_W wb ad ca M) H) (hS : va_S A s.heap H locs) (hL : am_L ad fm (tb_ml i) ls ls') (hM : am_scr L xs M) (hdg : decode (tb_cc i) pc = .ok ((.invokevirtual idx), len)) (hok : tb_okx (tb_own i) pc len (.invokevirtual idx) ax = true)
    (h : am_ex wb (tb_rt i) (am_Call wb d) K (am_J wb p l e R s m args below meth c0 cells slots Q dC dI ad ca fm L xs A (tb_ml i)) (.invokevirtual idx) len ax pc ls st M) : W p l e R s m args below meth c0 H locs cells slots Q (F0 m pc ls' (st.map (am_tr ad fm))) := by
  replace h := am_a3_spec (show am_a3 ax _ from h)
  obtain ⟨j, n, ci, rfl, h⟩ := h
  replace hok : (Nat.beq len 3 && (tb_pm.elem (tb_own i, idx, j) && Nat.beq (tb_st j) 0 && Nat.beq (tb_na j) n && Nat.blt 0 j && Nat.blt j tb_n && (bif Nat.beq ci 52 then Nat.beq (tb_own j) 10 else Nat.blt ci 9 && Nat.beq (tb_own j) ci))) = true := hok
  simp only [Bool.and_eq_true] at hok
  obtain ⟨hok1, ⟨⟨⟨⟨g1, g2⟩, g3⟩, g4⟩, g5⟩, g6⟩ := hok
  have hlen : len = 3 := Nat.eq_of_beq_eq_true hok1
  subst hlen
  have hpm : (tb_own i, idx, j) ∈ tb_pm := List.mem_of_elem_eq_true g1
  have g2 := Nat.eq_of_beq_eq_true g2
  have g3 := Nat.eq_of_beq_eq_true g3
  replace g4 : 0 < j := Nat.blt_eq.mp g4
  replace g5 : j < tb_n := Nat.blt_eq.mp g5
  have hci : (ci = 52 ∧ tb_own j = 10) ∨ (ci < 9 ∧ tb_own j = ci) := by
    cases h52 : Nat.beq ci 52 with
    | true =>
      rw [h52] at g6
      exact Or.inl ⟨Nat.eq_of_beq_eq_true h52, Nat.eq_of_beq_eq_true g6⟩
    | false =>
      rw [h52] at g6
      simp only [cond_false, Bool.and_eq_true] at g6
      exact Or.inr ⟨Nat.blt_eq.mp g6.1, Nat.eq_of_beq_eq_true g6.2⟩
  replace h := am_pop_spec h
  obtain ⟨as, r, rfl, has, h⟩ := h
  rw [List.append_nil] at h
  match r, h with
  | Sum.inr (Sum.inr (some (k, ii))) :: r', h =>
    replace h := am_cond h
    obtain ⟨hk, h⟩ := h
    simp only [Bool.and_eq_true] at hk
    have hw := Nat.le_of_ble_eq_true hk.2
    replace hk := Nat.eq_of_beq_eq_true hk.1
    replace h := am_cond h
    obtain ⟨hi2, h⟩ := h
    replace hi2 : ii < am_cnt wb k := Nat.blt_eq.mp hi2
    have h54 : Nat.beq k 54 = false := am_ne54 (by omega)
    (try dsimp only)
    rw [List.map_append, List.map_cons, am_tr_ref h54, show as.map (am_tr ad fm) = ((as.reverse).map (am_tr ad fm)).reverse by rw [List.map_reverse, List.reverse_reverse]]
    exact am_virtual hx hb hml hown hts hE hA hR hcs g4 g5 g2 g3 hpm hci hk hi2 hdg (hC j _ M _ g4 g5 h) (by rw [List.length_reverse]; exact has) hw hL.2.1 hP hS hM (fun v M' H1 locs1 q1 q2 q3 q4 => q1 H1 locs1 ls' q3 q4 hL q2)
  | [], h => exact False.elim h
  | Sum.inl _ :: _, h => exact False.elim h
  | Sum.inr (Sum.inl _) :: _, h => exact False.elim h
  | Sum.inr (Sum.inr none) :: _, h => exact False.elim h
set_option maxHeartbeats 1000000 in
set_option maxRecDepth 100000 in
theorem am_c_ireturn {i d : Nat} {K : am_K} (hi : i < tb_n)
    (hx : p.tables.exec = Jvm.exec) (hb : c0.code = tb_cc i) (hml : c0.maxLocals = tb_ml i) (hown : s.vm.findClass (tb_cn (tb_own i)) = some m.cls) (hts : ∀ w ∈ am_ws, w.before args s = true) (hE : am_E wb dC dI ad ca fm L xs A s s.heap) (hA : ∀ q, s.heap.size ≤ q → A q)
    (hR : d + 1 ≤ R.frames ∧ 80 * d + 80 ≤ R.locals) (hcs : cells ≤ R.cells ∧ slots ≤ R.slots)
    (hC : ∀ (j : Nat) (as : List am_V) (M : am_M) (k : am_K), 0 < j → j < tb_n → am_Call wb d j as M k → am_Cal wb l d dC dI ad ca fm L xs j as M k)
    (hret : ∀ (pc : Nat) (H : Heap) (locs : List Loc) (ls : Array Slot) (v : Option am_V) (M : am_M), am_retOK (tb_rt i) pc (tb_cc i) v → K v M → va_P (dC, dI) vwCl (am_W wb ad ca M) H → va_S A s.heap H locs → am_scr L xs M → W p l e R s m args below meth c0 H locs cells slots Q (F0 m pc ls ((am_ps v []).map (am_tr ad fm))))
    {pc len : Nat} {ls : List (Option am_V)} {st : List am_V} {M : am_M} {ax : List Nat} {H : Heap} {locs : List Loc} {ls' : Array Slot}  (hfm : fm.isRef = true)
    (hP : va_P (dC, dI) vwCl (am_W wb ad ca M) H) (hS : va_S A s.heap H locs) (hL : am_L ad fm (tb_ml i) ls ls') (hM : am_scr L xs M) (hdg : decode (tb_cc i) pc = .ok ((.ireturn), len)) (hok : tb_okx (tb_own i) pc len (.ireturn) ax = true)
    (h : am_ex wb (tb_rt i) (am_Call wb d) K (am_J wb p l e R s m args below meth c0 cells slots Q dC dI ad ca fm L xs A (tb_ml i)) (.ireturn) len ax pc ls st M) : W p l e R s m args below meth c0 H locs cells slots Q (F0 m pc ls' (st.map (am_tr ad fm))) := by
  have hlen : len = 1 := Nat.eq_of_beq_eq_true hok
  subst hlen
  rcases st with _ | ⟨(x | (x | (_ | ⟨a0, b0⟩))), _ | ⟨w, r⟩⟩ <;> try exact False.elim h
  obtain ⟨q1, q2⟩ := am_rt_spec hdg (show am_rt (tb_rt i) x (K (some (aI x)) M) from h)
  exact hret pc H locs ls' (some (aI x)) M q1 q2 hP hS hM
set_option maxHeartbeats 1000000 in
set_option maxRecDepth 100000 in
theorem am_c_lreturn {i d : Nat} {K : am_K} (hi : i < tb_n)
    (hx : p.tables.exec = Jvm.exec) (hb : c0.code = tb_cc i) (hml : c0.maxLocals = tb_ml i) (hown : s.vm.findClass (tb_cn (tb_own i)) = some m.cls) (hts : ∀ w ∈ am_ws, w.before args s = true) (hE : am_E wb dC dI ad ca fm L xs A s s.heap) (hA : ∀ q, s.heap.size ≤ q → A q)
    (hR : d + 1 ≤ R.frames ∧ 80 * d + 80 ≤ R.locals) (hcs : cells ≤ R.cells ∧ slots ≤ R.slots)
    (hC : ∀ (j : Nat) (as : List am_V) (M : am_M) (k : am_K), 0 < j → j < tb_n → am_Call wb d j as M k → am_Cal wb l d dC dI ad ca fm L xs j as M k)
    (hret : ∀ (pc : Nat) (H : Heap) (locs : List Loc) (ls : Array Slot) (v : Option am_V) (M : am_M), am_retOK (tb_rt i) pc (tb_cc i) v → K v M → va_P (dC, dI) vwCl (am_W wb ad ca M) H → va_S A s.heap H locs → am_scr L xs M → W p l e R s m args below meth c0 H locs cells slots Q (F0 m pc ls ((am_ps v []).map (am_tr ad fm))))
    {pc len : Nat} {ls : List (Option am_V)} {st : List am_V} {M : am_M} {ax : List Nat} {H : Heap} {locs : List Loc} {ls' : Array Slot}  (hfm : fm.isRef = true)
    (hP : va_P (dC, dI) vwCl (am_W wb ad ca M) H) (hS : va_S A s.heap H locs) (hL : am_L ad fm (tb_ml i) ls ls') (hM : am_scr L xs M) (hdg : decode (tb_cc i) pc = .ok ((.lreturn), len)) (hok : tb_okx (tb_own i) pc len (.lreturn) ax = true)
    (h : am_ex wb (tb_rt i) (am_Call wb d) K (am_J wb p l e R s m args below meth c0 cells slots Q dC dI ad ca fm L xs A (tb_ml i)) (.lreturn) len ax pc ls st M) : W p l e R s m args below meth c0 H locs cells slots Q (F0 m pc ls' (st.map (am_tr ad fm))) := by
  have hlen : len = 1 := Nat.eq_of_beq_eq_true hok
  subst hlen
  rcases st with _ | ⟨(x | (x | (_ | ⟨a0, b0⟩))), _ | ⟨w, r⟩⟩ <;> try exact False.elim h
  obtain ⟨q1, q2⟩ := am_cond (show (bif Nat.beq (tb_rt i) 5 then K (some (aL x)) M else False) from h)
  exact hret pc H locs ls' (some (aL x)) M ⟨Nat.eq_of_beq_eq_true q1, hdg⟩ q2 hP hS hM
set_option maxHeartbeats 1000000 in
set_option maxRecDepth 100000 in
theorem am_c_areturn {i d : Nat} {K : am_K} (hi : i < tb_n)
    (hx : p.tables.exec = Jvm.exec) (hb : c0.code = tb_cc i) (hml : c0.maxLocals = tb_ml i) (hown : s.vm.findClass (tb_cn (tb_own i)) = some m.cls) (hts : ∀ w ∈ am_ws, w.before args s = true) (hE : am_E wb dC dI ad ca fm L xs A s s.heap) (hA : ∀ q, s.heap.size ≤ q → A q)
    (hR : d + 1 ≤ R.frames ∧ 80 * d + 80 ≤ R.locals) (hcs : cells ≤ R.cells ∧ slots ≤ R.slots)
    (hC : ∀ (j : Nat) (as : List am_V) (M : am_M) (k : am_K), 0 < j → j < tb_n → am_Call wb d j as M k → am_Cal wb l d dC dI ad ca fm L xs j as M k)
    (hret : ∀ (pc : Nat) (H : Heap) (locs : List Loc) (ls : Array Slot) (v : Option am_V) (M : am_M), am_retOK (tb_rt i) pc (tb_cc i) v → K v M → va_P (dC, dI) vwCl (am_W wb ad ca M) H → va_S A s.heap H locs → am_scr L xs M → W p l e R s m args below meth c0 H locs cells slots Q (F0 m pc ls ((am_ps v []).map (am_tr ad fm))))
    {pc len : Nat} {ls : List (Option am_V)} {st : List am_V} {M : am_M} {ax : List Nat} {H : Heap} {locs : List Loc} {ls' : Array Slot}  (hfm : fm.isRef = true)
    (hP : va_P (dC, dI) vwCl (am_W wb ad ca M) H) (hS : va_S A s.heap H locs) (hL : am_L ad fm (tb_ml i) ls ls') (hM : am_scr L xs M) (hdg : decode (tb_cc i) pc = .ok ((.areturn), len)) (hok : tb_okx (tb_own i) pc len (.areturn) ax = true)
    (h : am_ex wb (tb_rt i) (am_Call wb d) K (am_J wb p l e R s m args below meth c0 cells slots Q dC dI ad ca fm L xs A (tb_ml i)) (.areturn) len ax pc ls st M) : W p l e R s m args below meth c0 H locs cells slots Q (F0 m pc ls' (st.map (am_tr ad fm))) := by
  have hlen : len = 1 := Nat.eq_of_beq_eq_true hok
  subst hlen
  rcases st with _ | ⟨(x | (x | (_ | ⟨k, ii⟩))), _ | ⟨w, r⟩⟩ <;> try exact False.elim h
  · obtain ⟨q1, q2⟩ := am_cond (show (bif Nat.beq (tb_rt i) 6 then K (some aN) M else False) from h)
    exact hret pc H locs ls' (some aN) M ⟨Nat.eq_of_beq_eq_true q1, hdg⟩ q2 hP hS hM
  · obtain ⟨q1, q2⟩ := am_cond (show (bif Nat.beq (tb_rt i) 6 then (bif Nat.beq k 54 then False else K (some (aR k ii)) M) else False) from h)
    obtain ⟨q3, q4⟩ := am_condF q2
    exact hret pc H locs ls' (some (aR k ii)) M ⟨⟨Nat.eq_of_beq_eq_true q1, fun z => by rw [z] at q3; cases q3⟩, hdg⟩ q4 hP hS hM
set_option maxHeartbeats 1000000 in
set_option maxRecDepth 100000 in
theorem am_c_return_ {i d : Nat} {K : am_K} (hi : i < tb_n)
    (hx : p.tables.exec = Jvm.exec) (hb : c0.code = tb_cc i) (hml : c0.maxLocals = tb_ml i) (hown : s.vm.findClass (tb_cn (tb_own i)) = some m.cls) (hts : ∀ w ∈ am_ws, w.before args s = true) (hE : am_E wb dC dI ad ca fm L xs A s s.heap) (hA : ∀ q, s.heap.size ≤ q → A q)
    (hR : d + 1 ≤ R.frames ∧ 80 * d + 80 ≤ R.locals) (hcs : cells ≤ R.cells ∧ slots ≤ R.slots)
    (hC : ∀ (j : Nat) (as : List am_V) (M : am_M) (k : am_K), 0 < j → j < tb_n → am_Call wb d j as M k → am_Cal wb l d dC dI ad ca fm L xs j as M k)
    (hret : ∀ (pc : Nat) (H : Heap) (locs : List Loc) (ls : Array Slot) (v : Option am_V) (M : am_M), am_retOK (tb_rt i) pc (tb_cc i) v → K v M → va_P (dC, dI) vwCl (am_W wb ad ca M) H → va_S A s.heap H locs → am_scr L xs M → W p l e R s m args below meth c0 H locs cells slots Q (F0 m pc ls ((am_ps v []).map (am_tr ad fm))))
    {pc len : Nat} {ls : List (Option am_V)} {st : List am_V} {M : am_M} {ax : List Nat} {H : Heap} {locs : List Loc} {ls' : Array Slot}  (hfm : fm.isRef = true)
    (hP : va_P (dC, dI) vwCl (am_W wb ad ca M) H) (hS : va_S A s.heap H locs) (hL : am_L ad fm (tb_ml i) ls ls') (hM : am_scr L xs M) (hdg : decode (tb_cc i) pc = .ok ((.return_), len)) (hok : tb_okx (tb_own i) pc len (.return_) ax = true)
    (h : am_ex wb (tb_rt i) (am_Call wb d) K (am_J wb p l e R s m args below meth c0 cells slots Q dC dI ad ca fm L xs A (tb_ml i)) (.return_) len ax pc ls st M) : W p l e R s m args below meth c0 H locs cells slots Q (F0 m pc ls' (st.map (am_tr ad fm))) := by
  have hlen : len = 1 := Nat.eq_of_beq_eq_true hok
  subst hlen
  match st, h with
  | [], h =>
    replace h := am_cond h
    obtain ⟨q1, q2⟩ := h
    exact hret pc H locs ls' none M ⟨Nat.eq_of_beq_eq_true q1, hdg⟩ q2 hP hS hM
  | _ :: _, h => exact False.elim h
set_option maxHeartbeats 1000000 in
set_option maxRecDepth 100000 in
theorem am_c_iload_n {i d : Nat} {K : am_K} (hi : i < tb_n)
    (hx : p.tables.exec = Jvm.exec) (hb : c0.code = tb_cc i) (hml : c0.maxLocals = tb_ml i) (hown : s.vm.findClass (tb_cn (tb_own i)) = some m.cls) (hts : ∀ w ∈ am_ws, w.before args s = true) (hE : am_E wb dC dI ad ca fm L xs A s s.heap) (hA : ∀ q, s.heap.size ≤ q → A q)
    (hR : d + 1 ≤ R.frames ∧ 80 * d + 80 ≤ R.locals) (hcs : cells ≤ R.cells ∧ slots ≤ R.slots)
    (hC : ∀ (j : Nat) (as : List am_V) (M : am_M) (k : am_K), 0 < j → j < tb_n → am_Call wb d j as M k → am_Cal wb l d dC dI ad ca fm L xs j as M k)
    (hret : ∀ (pc : Nat) (H : Heap) (locs : List Loc) (ls : Array Slot) (v : Option am_V) (M : am_M), am_retOK (tb_rt i) pc (tb_cc i) v → K v M → va_P (dC, dI) vwCl (am_W wb ad ca M) H → va_S A s.heap H locs → am_scr L xs M → W p l e R s m args below meth c0 H locs cells slots Q (F0 m pc ls ((am_ps v []).map (am_tr ad fm))))
    {pc len : Nat} {ls : List (Option am_V)} {st : List am_V} {M : am_M} {ax : List Nat} {H : Heap} {locs : List Loc} {ls' : Array Slot} {k : Fin 4} (hfm : fm.isRef = true)
    (hP : va_P (dC, dI) vwCl (am_W wb ad ca M) H) (hS : va_S A s.heap H locs) (hL : am_L ad fm (tb_ml i) ls ls') (hM : am_scr L xs M) (hdg : decode (tb_cc i) pc = .ok ((.iload_n k), len)) (hok : tb_okx (tb_own i) pc len (.iload_n k) ax = true)
    (h : am_ex wb (tb_rt i) (am_Call wb d) K (am_J wb p l e R s m args below meth c0 cells slots Q dC dI ad ca fm L xs A (tb_ml i)) (.iload_n k) len ax pc ls st M) : W p l e R s m args below meth c0 H locs cells slots Q (F0 m pc ls' (st.map (am_tr ad fm))) := by
  have ldI : ∀ k x, am_g ls k = some (aI x) → ls'[k]? = some (.val (.int (i3 x))) := fun k x hg => hL.get hg
  have ldL : ∀ k x, am_g ls k = some (aL x) → ls'[k]? = some (.val (.long (i6 x))) := fun k x hg => hL.get hg
  have ldN : ∀ k, am_g ls k = some aN → ls'[k]? = some (.val .null) := fun k hg => hL.get hg
  have ldR : ∀ k a b, Nat.beq a 54 = false → am_g ls k = some (aR a b) → ls'[k]? = some (.val (.ref (ad a b))) := fun k a b h54 hg => by
    have := hL.get hg
    rwa [am_tr_ref h54] at this
  have hlen : len = 1 := Nat.eq_of_beq_eq_true hok
  subst hlen
  unfold am_ex at h
  dsimp only at h
  rcases hg : am_g ls k.val with _ | (x | (x | (_ | ⟨a, b⟩))) <;> rw [hg] at h <;> try exact False.elim h
  exact lv_iload_n hx hb hdg rfl (ldI _ _ hg) (h H locs ls' hP hS hL hM)
set_option maxHeartbeats 1000000 in
set_option maxRecDepth 100000 in
theorem am_c_iload {i d : Nat} {K : am_K} (hi : i < tb_n)
    (hx : p.tables.exec = Jvm.exec) (hb : c0.code = tb_cc i) (hml : c0.maxLocals = tb_ml i) (hown : s.vm.findClass (tb_cn (tb_own i)) = some m.cls) (hts : ∀ w ∈ am_ws, w.before args s = true) (hE : am_E wb dC dI ad ca fm L xs A s s.heap) (hA : ∀ q, s.heap.size ≤ q → A q)
    (hR : d + 1 ≤ R.frames ∧ 80 * d + 80 ≤ R.locals) (hcs : cells ≤ R.cells ∧ slots ≤ R.slots)
    (hC : ∀ (j : Nat) (as : List am_V) (M : am_M) (k : am_K), 0 < j → j < tb_n → am_Call wb d j as M k → am_Cal wb l d dC dI ad ca fm L xs j as M k)
    (hret : ∀ (pc : Nat) (H : Heap) (locs : List Loc) (ls : Array Slot) (v : Option am_V) (M : am_M), am_retOK (tb_rt i) pc (tb_cc i) v → K v M → va_P (dC, dI) vwCl (am_W wb ad ca M) H → va_S A s.heap H locs → am_scr L xs M → W p l e R s m args below meth c0 H locs cells slots Q (F0 m pc ls ((am_ps v []).map (am_tr ad fm))))
    {pc len : Nat} {ls : List (Option am_V)} {st : List am_V} {M : am_M} {ax : List Nat} {H : Heap} {locs : List Loc} {ls' : Array Slot} {k : Nat} (hfm : fm.isRef = true)
    (hP : va_P (dC, dI) vwCl (am_W wb ad ca M) H) (hS : va_S A s.heap H locs) (hL : am_L ad fm (tb_ml i) ls ls') (hM : am_scr L xs M) (hdg : decode (tb_cc i) pc = .ok ((.iload k), len)) (hok : tb_okx (tb_own i) pc len (.iload k) ax = true)
    (h : am_ex wb (tb_rt i) (am_Call wb d) K (am_J wb p l e R s m args below meth c0 cells slots Q dC dI ad ca fm L xs A (tb_ml i)) (.iload k) len ax pc ls st M) : W p l e R s m args below meth c0 H locs cells slots Q (F0 m pc ls' (st.map (am_tr ad fm))) := by
  have ldI : ∀ k x, am_g ls k = some (aI x) → ls'[k]? = some (.val (.int (i3 x))) := fun k x hg => hL.get hg
  have ldL : ∀ k x, am_g ls k = some (aL x) → ls'[k]? = some (.val (.long (i6 x))) := fun k x hg => hL.get hg
  have ldN : ∀ k, am_g ls k = some aN → ls'[k]? = some (.val .null) := fun k hg => hL.get hg
  have ldR : ∀ k a b, Nat.beq a 54 = false → am_g ls k = some (aR a b) → ls'[k]? = some (.val (.ref (ad a b))) := fun k a b h54 hg => by
    have := hL.get hg
    rwa [am_tr_ref h54] at this
  have hlen : len = 2 := Nat.eq_of_beq_eq_true hok
  subst hlen
  unfold am_ex at h
  dsimp only at h
  rcases hg : am_g ls k with _ | (x | (x | (_ | ⟨a, b⟩))) <;> rw [hg] at h <;> try exact False.elim h
  exact lv_iload hx hb hdg (ldI _ _ hg) (h H locs ls' hP hS hL hM)
set_option maxHeartbeats 1000000 in
set_option maxRecDepth 100000 in
theorem am_c_lload_n {i d : Nat} {K : am_K} (hi : i < tb_n)
    (hx : p.tables.exec = Jvm.exec) (hb : c0.code = tb_cc i) (hml : c0.maxLocals = tb_ml i) (hown : s.vm.findClass (tb_cn (tb_own i)) = some m.cls) (hts : ∀ w ∈ am_ws, w.before args s = true) (hE : am_E wb dC dI ad ca fm L xs A s s.heap) (hA : ∀ q, s.heap.size ≤ q → A q)
    (hR : d + 1 ≤ R.frames ∧ 80 * d + 80 ≤ R.locals) (hcs : cells ≤ R.cells ∧ slots ≤ R.slots)
    (hC : ∀ (j : Nat) (as : List am_V) (M : am_M) (k : am_K), 0 < j → j < tb_n → am_Call wb d j as M k → am_Cal wb l d dC dI ad ca fm L xs j as M k)
    (hret : ∀ (pc : Nat) (H : Heap) (locs : List Loc) (ls : Array Slot) (v : Option am_V) (M : am_M), am_retOK (tb_rt i) pc (tb_cc i) v → K v M → va_P (dC, dI) vwCl (am_W wb ad ca M) H → va_S A s.heap H locs → am_scr L xs M → W p l e R s m args below meth c0 H locs cells slots Q (F0 m pc ls ((am_ps v []).map (am_tr ad fm))))
    {pc len : Nat} {ls : List (Option am_V)} {st : List am_V} {M : am_M} {ax : List Nat} {H : Heap} {locs : List Loc} {ls' : Array Slot} {k : Fin 4} (hfm : fm.isRef = true)
    (hP : va_P (dC, dI) vwCl (am_W wb ad ca M) H) (hS : va_S A s.heap H locs) (hL : am_L ad fm (tb_ml i) ls ls') (hM : am_scr L xs M) (hdg : decode (tb_cc i) pc = .ok ((.lload_n k), len)) (hok : tb_okx (tb_own i) pc len (.lload_n k) ax = true)
    (h : am_ex wb (tb_rt i) (am_Call wb d) K (am_J wb p l e R s m args below meth c0 cells slots Q dC dI ad ca fm L xs A (tb_ml i)) (.lload_n k) len ax pc ls st M) : W p l e R s m args below meth c0 H locs cells slots Q (F0 m pc ls' (st.map (am_tr ad fm))) := by
  have ldI : ∀ k x, am_g ls k = some (aI x) → ls'[k]? = some (.val (.int (i3 x))) := fun k x hg => hL.get hg
  have ldL : ∀ k x, am_g ls k = some (aL x) → ls'[k]? = some (.val (.long (i6 x))) := fun k x hg => hL.get hg
  have ldN : ∀ k, am_g ls k = some aN → ls'[k]? = some (.val .null) := fun k hg => hL.get hg
  have ldR : ∀ k a b, Nat.beq a 54 = false → am_g ls k = some (aR a b) → ls'[k]? = some (.val (.ref (ad a b))) := fun k a b h54 hg => by
    have := hL.get hg
    rwa [am_tr_ref h54] at this
  have hlen : len = 1 := Nat.eq_of_beq_eq_true hok
  subst hlen
  unfold am_ex at h
  dsimp only at h
  rcases hg : am_g ls k.val with _ | (x | (x | (_ | ⟨a, b⟩))) <;> rw [hg] at h <;> try exact False.elim h
  exact lv_lload_n hx hb hdg rfl (ldL _ _ hg) (h H locs ls' hP hS hL hM)
set_option maxHeartbeats 1000000 in
set_option maxRecDepth 100000 in
theorem am_c_lload {i d : Nat} {K : am_K} (hi : i < tb_n)
    (hx : p.tables.exec = Jvm.exec) (hb : c0.code = tb_cc i) (hml : c0.maxLocals = tb_ml i) (hown : s.vm.findClass (tb_cn (tb_own i)) = some m.cls) (hts : ∀ w ∈ am_ws, w.before args s = true) (hE : am_E wb dC dI ad ca fm L xs A s s.heap) (hA : ∀ q, s.heap.size ≤ q → A q)
    (hR : d + 1 ≤ R.frames ∧ 80 * d + 80 ≤ R.locals) (hcs : cells ≤ R.cells ∧ slots ≤ R.slots)
    (hC : ∀ (j : Nat) (as : List am_V) (M : am_M) (k : am_K), 0 < j → j < tb_n → am_Call wb d j as M k → am_Cal wb l d dC dI ad ca fm L xs j as M k)
    (hret : ∀ (pc : Nat) (H : Heap) (locs : List Loc) (ls : Array Slot) (v : Option am_V) (M : am_M), am_retOK (tb_rt i) pc (tb_cc i) v → K v M → va_P (dC, dI) vwCl (am_W wb ad ca M) H → va_S A s.heap H locs → am_scr L xs M → W p l e R s m args below meth c0 H locs cells slots Q (F0 m pc ls ((am_ps v []).map (am_tr ad fm))))
    {pc len : Nat} {ls : List (Option am_V)} {st : List am_V} {M : am_M} {ax : List Nat} {H : Heap} {locs : List Loc} {ls' : Array Slot} {k : Nat} (hfm : fm.isRef = true)
    (hP : va_P (dC, dI) vwCl (am_W wb ad ca M) H) (hS : va_S A s.heap H locs) (hL : am_L ad fm (tb_ml i) ls ls') (hM : am_scr L xs M) (hdg : decode (tb_cc i) pc = .ok ((.lload k), len)) (hok : tb_okx (tb_own i) pc len (.lload k) ax = true)
    (h : am_ex wb (tb_rt i) (am_Call wb d) K (am_J wb p l e R s m args below meth c0 cells slots Q dC dI ad ca fm L xs A (tb_ml i)) (.lload k) len ax pc ls st M) : W p l e R s m args below meth c0 H locs cells slots Q (F0 m pc ls' (st.map (am_tr ad fm))) := by
  have ldI : ∀ k x, am_g ls k = some (aI x) → ls'[k]? = some (.val (.int (i3 x))) := fun k x hg => hL.get hg
  have ldL : ∀ k x, am_g ls k = some (aL x) → ls'[k]? = some (.val (.long (i6 x))) := fun k x hg => hL.get hg
  have ldN : ∀ k, am_g ls k = some aN → ls'[k]? = some (.val .null) := fun k hg => hL.get hg
  have ldR : ∀ k a b, Nat.beq a 54 = false → am_g ls k = some (aR a b) → ls'[k]? = some (.val (.ref (ad a b))) := fun k a b h54 hg => by
    have := hL.get hg
    rwa [am_tr_ref h54] at this
  have hlen : len = 2 := Nat.eq_of_beq_eq_true hok
  subst hlen
  unfold am_ex at h
  dsimp only at h
  rcases hg : am_g ls k with _ | (x | (x | (_ | ⟨a, b⟩))) <;> rw [hg] at h <;> try exact False.elim h
  exact lv_lload hx hb hdg (ldL _ _ hg) (h H locs ls' hP hS hL hM)
set_option maxHeartbeats 1000000 in
set_option maxRecDepth 100000 in
theorem am_c_aload_n {i d : Nat} {K : am_K} (hi : i < tb_n)
    (hx : p.tables.exec = Jvm.exec) (hb : c0.code = tb_cc i) (hml : c0.maxLocals = tb_ml i) (hown : s.vm.findClass (tb_cn (tb_own i)) = some m.cls) (hts : ∀ w ∈ am_ws, w.before args s = true) (hE : am_E wb dC dI ad ca fm L xs A s s.heap) (hA : ∀ q, s.heap.size ≤ q → A q)
    (hR : d + 1 ≤ R.frames ∧ 80 * d + 80 ≤ R.locals) (hcs : cells ≤ R.cells ∧ slots ≤ R.slots)
    (hC : ∀ (j : Nat) (as : List am_V) (M : am_M) (k : am_K), 0 < j → j < tb_n → am_Call wb d j as M k → am_Cal wb l d dC dI ad ca fm L xs j as M k)
    (hret : ∀ (pc : Nat) (H : Heap) (locs : List Loc) (ls : Array Slot) (v : Option am_V) (M : am_M), am_retOK (tb_rt i) pc (tb_cc i) v → K v M → va_P (dC, dI) vwCl (am_W wb ad ca M) H → va_S A s.heap H locs → am_scr L xs M → W p l e R s m args below meth c0 H locs cells slots Q (F0 m pc ls ((am_ps v []).map (am_tr ad fm))))
    {pc len : Nat} {ls : List (Option am_V)} {st : List am_V} {M : am_M} {ax : List Nat} {H : Heap} {locs : List Loc} {ls' : Array Slot} {k : Fin 4} (hfm : fm.isRef = true)
    (hP : va_P (dC, dI) vwCl (am_W wb ad ca M) H) (hS : va_S A s.heap H locs) (hL : am_L ad fm (tb_ml i) ls ls') (hM : am_scr L xs M) (hdg : decode (tb_cc i) pc = .ok ((.aload_n k), len)) (hok : tb_okx (tb_own i) pc len (.aload_n k) ax = true)
    (h : am_ex wb (tb_rt i) (am_Call wb d) K (am_J wb p l e R s m args below meth c0 cells slots Q dC dI ad ca fm L xs A (tb_ml i)) (.aload_n k) len ax pc ls st M) : W p l e R s m args below meth c0 H locs cells slots Q (F0 m pc ls' (st.map (am_tr ad fm))) := by
  have ldI : ∀ k x, am_g ls k = some (aI x) → ls'[k]? = some (.val (.int (i3 x))) := fun k x hg => hL.get hg
  have ldL : ∀ k x, am_g ls k = some (aL x) → ls'[k]? = some (.val (.long (i6 x))) := fun k x hg => hL.get hg
  have ldN : ∀ k, am_g ls k = some aN → ls'[k]? = some (.val .null) := fun k hg => hL.get hg
  have ldR : ∀ k a b, Nat.beq a 54 = false → am_g ls k = some (aR a b) → ls'[k]? = some (.val (.ref (ad a b))) := fun k a b h54 hg => by
    have := hL.get hg
    rwa [am_tr_ref h54] at this
  have hlen : len = 1 := Nat.eq_of_beq_eq_true hok
  subst hlen
  unfold am_ex at h
  dsimp only at h
  rcases hg : am_g ls k.val with _ | (x | (x | (_ | ⟨a, b⟩))) <;> rw [hg] at h <;> try exact False.elim h
  · exact lv_aload_nN hx hb hdg rfl (ldN _ hg) (h H locs ls' hP hS hL hM)
  · obtain ⟨h54, h2⟩ := am_condF h
    refine lv_aload_n hx hb hdg rfl (ldR _ _ _ h54 hg) ?_
    have h3 := h2 H locs ls' hP hS hL hM
    (try dsimp only at h3)
    rwa [List.map_cons, am_tr_ref h54] at h3
set_option maxHeartbeats 1000000 in
set_option maxRecDepth 100000 in
theorem am_c_aload {i d : Nat} {K : am_K} (hi : i < tb_n)
    (hx : p.tables.exec = Jvm.exec) (hb : c0.code = tb_cc i) (hml : c0.maxLocals = tb_ml i) (hown : s.vm.findClass (tb_cn (tb_own i)) = some m.cls) (hts : ∀ w ∈ am_ws, w.before args s = true) (hE : am_E wb dC dI ad ca fm L xs A s s.heap) (hA : ∀ q, s.heap.size ≤ q → A q)
    (hR : d + 1 ≤ R.frames ∧ 80 * d + 80 ≤ R.locals) (hcs : cells ≤ R.cells ∧ slots ≤ R.slots)
    (hC : ∀ (j : Nat) (as : List am_V) (M : am_M) (k : am_K), 0 < j → j < tb_n → am_Call wb d j as M k → am_Cal wb l d dC dI ad ca fm L xs j as M k)
    (hret : ∀ (pc : Nat) (H : Heap) (locs : List Loc) (ls : Array Slot) (v : Option am_V) (M : am_M), am_retOK (tb_rt i) pc (tb_cc i) v → K v M → va_P (dC, dI) vwCl (am_W wb ad ca M) H → va_S A s.heap H locs → am_scr L xs M → W p l e R s m args below meth c0 H locs cells slots Q (F0 m pc ls ((am_ps v []).map (am_tr ad fm))))
    {pc len : Nat} {ls : List (Option am_V)} {st : List am_V} {M : am_M} {ax : List Nat} {H : Heap} {locs : List Loc} {ls' : Array Slot} {k : Nat} (hfm : fm.isRef = true)
    (hP : va_P (dC, dI) vwCl (am_W wb ad ca M) H) (hS : va_S A s.heap H locs) (hL : am_L ad fm (tb_ml i) ls ls') (hM : am_scr L xs M) (hdg : decode (tb_cc i) pc = .ok ((.aload k), len)) (hok : tb_okx (tb_own i) pc len (.aload k) ax = true)
    (h : am_ex wb (tb_rt i) (am_Call wb d) K (am_J wb p l e R s m args below meth c0 cells slots Q dC dI ad ca fm L xs A (tb_ml i)) (.aload k) len ax pc ls st M) : W p l e R s m args below meth c0 H locs cells slots Q (F0 m pc ls' (st.map (am_tr ad fm))) := by
  have ldI : ∀ k x, am_g ls k = some (aI x) → ls'[k]? = some (.val (.int (i3 x))) := fun k x hg => hL.get hg
  have ldL : ∀ k x, am_g ls k = some (aL x) → ls'[k]? = some (.val (.long (i6 x))) := fun k x hg => hL.get hg
  have ldN : ∀ k, am_g ls k = some aN → ls'[k]? = some (.val .null) := fun k hg => hL.get hg
  have ldR : ∀ k a b, Nat.beq a 54 = false → am_g ls k = some (aR a b) → ls'[k]? = some (.val (.ref (ad a b))) := fun k a b h54 hg => by
    have := hL.get hg
    rwa [am_tr_ref h54] at this
  have hlen : len = 2 := Nat.eq_of_beq_eq_true hok
  subst hlen
  unfold am_ex at h
  dsimp only at h
  rcases hg : am_g ls k with _ | (x | (x | (_ | ⟨a, b⟩))) <;> rw [hg] at h <;> try exact False.elim h
  · exact lv_aloadN hx hb hdg (ldN _ hg) (h H locs ls' hP hS hL hM)
  · obtain ⟨h54, h2⟩ := am_condF h
    refine lv_aload hx hb hdg (ldR _ _ _ h54 hg) ?_
    have h3 := h2 H locs ls' hP hS hL hM
    (try dsimp only at h3)
    rwa [List.map_cons, am_tr_ref h54] at h3
set_option maxHeartbeats 1000000 in
set_option maxRecDepth 100000 in
theorem am_c_istore_n {i d : Nat} {K : am_K} (hi : i < tb_n)
    (hx : p.tables.exec = Jvm.exec) (hb : c0.code = tb_cc i) (hml : c0.maxLocals = tb_ml i) (hown : s.vm.findClass (tb_cn (tb_own i)) = some m.cls) (hts : ∀ w ∈ am_ws, w.before args s = true) (hE : am_E wb dC dI ad ca fm L xs A s s.heap) (hA : ∀ q, s.heap.size ≤ q → A q)
    (hR : d + 1 ≤ R.frames ∧ 80 * d + 80 ≤ R.locals) (hcs : cells ≤ R.cells ∧ slots ≤ R.slots)
    (hC : ∀ (j : Nat) (as : List am_V) (M : am_M) (k : am_K), 0 < j → j < tb_n → am_Call wb d j as M k → am_Cal wb l d dC dI ad ca fm L xs j as M k)
    (hret : ∀ (pc : Nat) (H : Heap) (locs : List Loc) (ls : Array Slot) (v : Option am_V) (M : am_M), am_retOK (tb_rt i) pc (tb_cc i) v → K v M → va_P (dC, dI) vwCl (am_W wb ad ca M) H → va_S A s.heap H locs → am_scr L xs M → W p l e R s m args below meth c0 H locs cells slots Q (F0 m pc ls ((am_ps v []).map (am_tr ad fm))))
    {pc len : Nat} {ls : List (Option am_V)} {st : List am_V} {M : am_M} {ax : List Nat} {H : Heap} {locs : List Loc} {ls' : Array Slot} {k : Fin 4} (hfm : fm.isRef = true)
    (hP : va_P (dC, dI) vwCl (am_W wb ad ca M) H) (hS : va_S A s.heap H locs) (hL : am_L ad fm (tb_ml i) ls ls') (hM : am_scr L xs M) (hdg : decode (tb_cc i) pc = .ok ((.istore_n k), len)) (hok : tb_okx (tb_own i) pc len (.istore_n k) ax = true)
    (h : am_ex wb (tb_rt i) (am_Call wb d) K (am_J wb p l e R s m args below meth c0 cells slots Q dC dI ad ca fm L xs A (tb_ml i)) (.istore_n k) len ax pc ls st M) : W p l e R s m args below meth c0 H locs cells slots Q (F0 m pc ls' (st.map (am_tr ad fm))) := by
  have hlen : len = 1 := Nat.eq_of_beq_eq_true hok
  subst hlen
  rcases st with _ | ⟨(x | (x | (_ | ⟨a, b⟩))), r⟩ <;> try exact False.elim h
  obtain ⟨ls2, hs, h2⟩ := am_om_spec (o := am_s1 ls k.val (aI x)) (P := fun ls2 => am_J wb p l e R s m args below meth c0 cells slots Q dC dI ad ca fm L xs A (tb_ml i) (pc + 1, ls2, r, M)) h
  exact lv_istore_n hx hb hdg rfl hL.2 (by have := (am_s1_spec _ _ _ _ hs).2.1; have := hL.1; omega) rfl (fun ls1 hl1 => h2 H locs ls1 hP hS (am_L.set1 hfm hL.1 hs hl1) hM)
set_option maxHeartbeats 1000000 in
set_option maxRecDepth 100000 in
theorem am_c_istore {i d : Nat} {K : am_K} (hi : i < tb_n)
    (hx : p.tables.exec = Jvm.exec) (hb : c0.code = tb_cc i) (hml : c0.maxLocals = tb_ml i) (hown : s.vm.findClass (tb_cn (tb_own i)) = some m.cls) (hts : ∀ w ∈ am_ws, w.before args s = true) (hE : am_E wb dC dI ad ca fm L xs A s s.heap) (hA : ∀ q, s.heap.size ≤ q → A q)
    (hR : d + 1 ≤ R.frames ∧ 80 * d + 80 ≤ R.locals) (hcs : cells ≤ R.cells ∧ slots ≤ R.slots)
    (hC : ∀ (j : Nat) (as : List am_V) (M : am_M) (k : am_K), 0 < j → j < tb_n → am_Call wb d j as M k → am_Cal wb l d dC dI ad ca fm L xs j as M k)
    (hret : ∀ (pc : Nat) (H : Heap) (locs : List Loc) (ls : Array Slot) (v : Option am_V) (M : am_M), am_retOK (tb_rt i) pc (tb_cc i) v → K v M → va_P (dC, dI) vwCl (am_W wb ad ca M) H → va_S A s.heap H locs → am_scr L xs M → W p l e R s m args below meth c0 H locs cells slots Q (F0 m pc ls ((am_ps v []).map (am_tr ad fm))))
    {pc len : Nat} {ls : List (Option am_V)} {st : List am_V} {M : am_M} {ax : List Nat} {H : Heap} {locs : List Loc} {ls' : Array Slot} {k : Nat} (hfm : fm.isRef = true)
    (hP : va_P (dC, dI) vwCl (am_W wb ad ca M) H) (hS : va_S A s.heap H locs) (hL : am_L ad fm (tb_ml i) ls ls') (hM : am_scr L xs M) (hdg : decode (tb_cc i) pc = .ok ((.istore k), len)) (hok : tb_okx (tb_own i) pc len (.istore k) ax = true)
    (h : am_ex wb (tb_rt i) (am_Call wb d) K (am_J wb p l e R s m args below meth c0 cells slots Q dC dI ad ca fm L xs A (tb_ml i)) (.istore k) len ax pc ls st M) : W p l e R s m args below meth c0 H locs cells slots Q (F0 m pc ls' (st.map (am_tr ad fm))) := by
  have hlen : len = 2 := Nat.eq_of_beq_eq_true hok
  subst hlen
  rcases st with _ | ⟨(x | (x | (_ | ⟨a, b⟩))), r⟩ <;> try exact False.elim h
  obtain ⟨ls2, hs, h2⟩ := am_om_spec (o := am_s1 ls k (aI x)) (P := fun ls2 => am_J wb p l e R s m args below meth c0 cells slots Q dC dI ad ca fm L xs A (tb_ml i) (pc + 2, ls2, r, M)) h
  exact lv_istore hx hb hdg hL.2 (by have := (am_s1_spec _ _ _ _ hs).2.1; have := hL.1; omega) rfl (fun ls1 hl1 => h2 H locs ls1 hP hS (am_L.set1 hfm hL.1 hs hl1) hM)
set_option maxHeartbeats 1000000 in
set_option maxRecDepth 100000 in
theorem am_c_lstore_n {i d : Nat} {K : am_K} (hi : i < tb_n)
    (hx : p.tables.exec = Jvm.exec) (hb : c0.code = tb_cc i) (hml : c0.maxLocals = tb_ml i) (hown : s.vm.findClass (tb_cn (tb_own i)) = some m.cls) (hts : ∀ w ∈ am_ws, w.before args s = true) (hE : am_E wb dC dI ad ca fm L xs A s s.heap) (hA : ∀ q, s.heap.size ≤ q → A q)
    (hR : d + 1 ≤ R.frames ∧ 80 * d + 80 ≤ R.locals) (hcs : cells ≤ R.cells ∧ slots ≤ R.slots)
    (hC : ∀ (j : Nat) (as : List am_V) (M : am_M) (k : am_K), 0 < j → j < tb_n → am_Call wb d j as M k → am_Cal wb l d dC dI ad ca fm L xs j as M k)
    (hret : ∀ (pc : Nat) (H : Heap) (locs : List Loc) (ls : Array Slot) (v : Option am_V) (M : am_M), am_retOK (tb_rt i) pc (tb_cc i) v → K v M → va_P (dC, dI) vwCl (am_W wb ad ca M) H → va_S A s.heap H locs → am_scr L xs M → W p l e R s m args below meth c0 H locs cells slots Q (F0 m pc ls ((am_ps v []).map (am_tr ad fm))))
    {pc len : Nat} {ls : List (Option am_V)} {st : List am_V} {M : am_M} {ax : List Nat} {H : Heap} {locs : List Loc} {ls' : Array Slot} {k : Fin 4} (hfm : fm.isRef = true)
    (hP : va_P (dC, dI) vwCl (am_W wb ad ca M) H) (hS : va_S A s.heap H locs) (hL : am_L ad fm (tb_ml i) ls ls') (hM : am_scr L xs M) (hdg : decode (tb_cc i) pc = .ok ((.lstore_n k), len)) (hok : tb_okx (tb_own i) pc len (.lstore_n k) ax = true)
    (h : am_ex wb (tb_rt i) (am_Call wb d) K (am_J wb p l e R s m args below meth c0 cells slots Q dC dI ad ca fm L xs A (tb_ml i)) (.lstore_n k) len ax pc ls st M) : W p l e R s m args below meth c0 H locs cells slots Q (F0 m pc ls' (st.map (am_tr ad fm))) := by
  have hlen : len = 1 := Nat.eq_of_beq_eq_true hok
  subst hlen
  rcases st with _ | ⟨(x | (x | (_ | ⟨a, b⟩))), r⟩ <;> try exact False.elim h
  obtain ⟨ls2, hs, h2⟩ := am_om_spec (o := am_s2 ls k.val (aL x)) (P := fun ls2 => am_J wb p l e R s m args below meth c0 cells slots Q dC dI ad ca fm L xs A (tb_ml i) (pc + 1, ls2, r, M)) h
  exact lv_lstore_n hx hb hdg rfl hL.2 (by have := (am_s2_spec _ _ _ _ hs).2.1; have := hL.1; omega) rfl (fun ls1 hl1 => h2 H locs ls1 hP hS (am_L.set2 hfm hL.1 hs hl1) hM)
set_option maxHeartbeats 1000000 in
set_option maxRecDepth 100000 in
theorem am_c_lstore {i d : Nat} {K : am_K} (hi : i < tb_n)
    (hx : p.tables.exec = Jvm.exec) (hb : c0.code = tb_cc i) (hml : c0.maxLocals = tb_ml i) (hown : s.vm.findClass (tb_cn (tb_own i)) = some m.cls) (hts : ∀ w ∈ am_ws, w.before args s = true) (hE : am_E wb dC dI ad ca fm L xs A s s.heap) (hA : ∀ q, s.heap.size ≤ q → A q)
    (hR : d + 1 ≤ R.frames ∧ 80 * d + 80 ≤ R.locals) (hcs : cells ≤ R.cells ∧ slots ≤ R.slots)
    (hC : ∀ (j : Nat) (as : List am_V) (M : am_M) (k : am_K), 0 < j → j < tb_n → am_Call wb d j as M k → am_Cal wb l d dC dI ad ca fm L xs j as M k)
    (hret : ∀ (pc : Nat) (H : Heap) (locs : List Loc) (ls : Array Slot) (v : Option am_V) (M : am_M), am_retOK (tb_rt i) pc (tb_cc i) v → K v M → va_P (dC, dI) vwCl (am_W wb ad ca M) H → va_S A s.heap H locs → am_scr L xs M → W p l e R s m args below meth c0 H locs cells slots Q (F0 m pc ls ((am_ps v []).map (am_tr ad fm))))
    {pc len : Nat} {ls : List (Option am_V)} {st : List am_V} {M : am_M} {ax : List Nat} {H : Heap} {locs : List Loc} {ls' : Array Slot} {k : Nat} (hfm : fm.isRef = true)
    (hP : va_P (dC, dI) vwCl (am_W wb ad ca M) H) (hS : va_S A s.heap H locs) (hL : am_L ad fm (tb_ml i) ls ls') (hM : am_scr L xs M) (hdg : decode (tb_cc i) pc = .ok ((.lstore k), len)) (hok : tb_okx (tb_own i) pc len (.lstore k) ax = true)
    (h : am_ex wb (tb_rt i) (am_Call wb d) K (am_J wb p l e R s m args below meth c0 cells slots Q dC dI ad ca fm L xs A (tb_ml i)) (.lstore k) len ax pc ls st M) : W p l e R s m args below meth c0 H locs cells slots Q (F0 m pc ls' (st.map (am_tr ad fm))) := by
  have hlen : len = 2 := Nat.eq_of_beq_eq_true hok
  subst hlen
  rcases st with _ | ⟨(x | (x | (_ | ⟨a, b⟩))), r⟩ <;> try exact False.elim h
  obtain ⟨ls2, hs, h2⟩ := am_om_spec (o := am_s2 ls k (aL x)) (P := fun ls2 => am_J wb p l e R s m args below meth c0 cells slots Q dC dI ad ca fm L xs A (tb_ml i) (pc + 2, ls2, r, M)) h
  exact lv_lstore hx hb hdg hL.2 (by have := (am_s2_spec _ _ _ _ hs).2.1; have := hL.1; omega) rfl (fun ls1 hl1 => h2 H locs ls1 hP hS (am_L.set2 hfm hL.1 hs hl1) hM)
set_option maxHeartbeats 1000000 in
set_option maxRecDepth 100000 in
theorem am_c_astore_n {i d : Nat} {K : am_K} (hi : i < tb_n)
    (hx : p.tables.exec = Jvm.exec) (hb : c0.code = tb_cc i) (hml : c0.maxLocals = tb_ml i) (hown : s.vm.findClass (tb_cn (tb_own i)) = some m.cls) (hts : ∀ w ∈ am_ws, w.before args s = true) (hE : am_E wb dC dI ad ca fm L xs A s s.heap) (hA : ∀ q, s.heap.size ≤ q → A q)
    (hR : d + 1 ≤ R.frames ∧ 80 * d + 80 ≤ R.locals) (hcs : cells ≤ R.cells ∧ slots ≤ R.slots)
    (hC : ∀ (j : Nat) (as : List am_V) (M : am_M) (k : am_K), 0 < j → j < tb_n → am_Call wb d j as M k → am_Cal wb l d dC dI ad ca fm L xs j as M k)
    (hret : ∀ (pc : Nat) (H : Heap) (locs : List Loc) (ls : Array Slot) (v : Option am_V) (M : am_M), am_retOK (tb_rt i) pc (tb_cc i) v → K v M → va_P (dC, dI) vwCl (am_W wb ad ca M) H → va_S A s.heap H locs → am_scr L xs M → W p l e R s m args below meth c0 H locs cells slots Q (F0 m pc ls ((am_ps v []).map (am_tr ad fm))))
    {pc len : Nat} {ls : List (Option am_V)} {st : List am_V} {M : am_M} {ax : List Nat} {H : Heap} {locs : List Loc} {ls' : Array Slot} {k : Fin 4} (hfm : fm.isRef = true)
    (hP : va_P (dC, dI) vwCl (am_W wb ad ca M) H) (hS : va_S A s.heap H locs) (hL : am_L ad fm (tb_ml i) ls ls') (hM : am_scr L xs M) (hdg : decode (tb_cc i) pc = .ok ((.astore_n k), len)) (hok : tb_okx (tb_own i) pc len (.astore_n k) ax = true)
    (h : am_ex wb (tb_rt i) (am_Call wb d) K (am_J wb p l e R s m args below meth c0 cells slots Q dC dI ad ca fm L xs A (tb_ml i)) (.astore_n k) len ax pc ls st M) : W p l e R s m args below meth c0 H locs cells slots Q (F0 m pc ls' (st.map (am_tr ad fm))) := by
  have hlen : len = 1 := Nat.eq_of_beq_eq_true hok
  subst hlen
  rcases st with _ | ⟨(x | (x | (_ | ⟨a, b⟩))), r⟩ <;> try exact False.elim h
  · skip
    obtain ⟨ls2, hs, h2⟩ := am_om_spec (o := am_s1 ls k.val (aN)) (P := fun ls2 => am_J wb p l e R s m args below meth c0 cells slots Q dC dI ad ca fm L xs A (tb_ml i) (pc + 1, ls2, r, M)) h
    exact lv_astore_nN hx hb hdg rfl hL.2 (by have := (am_s1_spec _ _ _ _ hs).2.1; have := hL.1; omega) rfl (fun ls1 hl1 => h2 H locs ls1 hP hS (am_L.set1 hfm hL.1 hs hl1) hM)
  · obtain ⟨ls2, hs, h1⟩ := am_om_spec (o := am_s1 ls k.val (aR a b)) (P := fun ls2 => bif Nat.beq a 54 then False else am_J wb p l e R s m args below meth c0 cells slots Q dC dI ad ca fm L xs A (tb_ml i) (pc + 1, ls2, r, M)) h
    obtain ⟨h54, h2⟩ := am_condF h1
    rw [List.map_cons, am_tr_ref h54]
    refine lv_astore_n hx hb hdg rfl hL.2 (by have := (am_s1_spec _ _ _ _ hs).2.1; have := hL.1; omega) rfl (fun ls1 hl1 => h2 H locs ls1 hP hS (am_L.set1 hfm hL.1 hs ?_) hM)
    rw [am_tr_ref h54]
    exact hl1
set_option maxHeartbeats 1000000 in
set_option maxRecDepth 100000 in
theorem am_c_astore {i d : Nat} {K : am_K} (hi : i < tb_n)
    (hx : p.tables.exec = Jvm.exec) (hb : c0.code = tb_cc i) (hml : c0.maxLocals = tb_ml i) (hown : s.vm.findClass (tb_cn (tb_own i)) = some m.cls) (hts : ∀ w ∈ am_ws, w.before args s = true) (hE : am_E wb dC dI ad ca fm L xs A s s.heap) (hA : ∀ q, s.heap.size ≤ q → A q)
    (hR : d + 1 ≤ R.frames ∧ 80 * d + 80 ≤ R.locals) (hcs : cells ≤ R.cells ∧ slots ≤ R.slots)
    (hC : ∀ (j : Nat) (as : List am_V) (M : am_M) (k : am_K), 0 < j → j < tb_n → am_Call wb d j as M k → am_Cal wb l d dC dI ad ca fm L xs j as M k)
    (hret : ∀ (pc : Nat) (H : Heap) (locs : List Loc) (ls : Array Slot) (v : Option am_V) (M : am_M), am_retOK (tb_rt i) pc (tb_cc i) v → K v M → va_P (dC, dI) vwCl (am_W wb ad ca M) H → va_S A s.heap H locs → am_scr L xs M → W p l e R s m args below meth c0 H locs cells slots Q (F0 m pc ls ((am_ps v []).map (am_tr ad fm))))
    {pc len : Nat} {ls : List (Option am_V)} {st : List am_V} {M : am_M} {ax : List Nat} {H : Heap} {locs : List Loc} {ls' : Array Slot} {k : Nat} (hfm : fm.isRef = true)
    (hP : va_P (dC, dI) vwCl (am_W wb ad ca M) H) (hS : va_S A s.heap H locs) (hL : am_L ad fm (tb_ml i) ls ls') (hM : am_scr L xs M) (hdg : decode (tb_cc i) pc = .ok ((.astore k), len)) (hok : tb_okx (tb_own i) pc len (.astore k) ax = true)
    (h : am_ex wb (tb_rt i) (am_Call wb d) K (am_J wb p l e R s m args below meth c0 cells slots Q dC dI ad ca fm L xs A (tb_ml i)) (.astore k) len ax pc ls st M) : W p l e R s m args below meth c0 H locs cells slots Q (F0 m pc ls' (st.map (am_tr ad fm))) := by
  have hlen : len = 2 := Nat.eq_of_beq_eq_true hok
  subst hlen
  rcases st with _ | ⟨(x | (x | (_ | ⟨a, b⟩))), r⟩ <;> try exact False.elim h
  · skip
    obtain ⟨ls2, hs, h2⟩ := am_om_spec (o := am_s1 ls k (aN)) (P := fun ls2 => am_J wb p l e R s m args below meth c0 cells slots Q dC dI ad ca fm L xs A (tb_ml i) (pc + 2, ls2, r, M)) h
    exact lv_astoreN hx hb hdg hL.2 (by have := (am_s1_spec _ _ _ _ hs).2.1; have := hL.1; omega) rfl (fun ls1 hl1 => h2 H locs ls1 hP hS (am_L.set1 hfm hL.1 hs hl1) hM)
  · obtain ⟨ls2, hs, h1⟩ := am_om_spec (o := am_s1 ls k (aR a b)) (P := fun ls2 => bif Nat.beq a 54 then False else am_J wb p l e R s m args below meth c0 cells slots Q dC dI ad ca fm L xs A (tb_ml i) (pc + 2, ls2, r, M)) h
    obtain ⟨h54, h2⟩ := am_condF h1
    rw [List.map_cons, am_tr_ref h54]
    refine lv_astore hx hb hdg hL.2 (by have := (am_s1_spec _ _ _ _ hs).2.1; have := hL.1; omega) rfl (fun ls1 hl1 => h2 H locs ls1 hP hS (am_L.set1 hfm hL.1 hs ?_) hM)
    rw [am_tr_ref h54]
    exact hl1
set_option maxHeartbeats 1000000 in
set_option maxRecDepth 100000 in
theorem am_c_iinc {i d : Nat} {K : am_K} (hi : i < tb_n)
    (hx : p.tables.exec = Jvm.exec) (hb : c0.code = tb_cc i) (hml : c0.maxLocals = tb_ml i) (hown : s.vm.findClass (tb_cn (tb_own i)) = some m.cls) (hts : ∀ w ∈ am_ws, w.before args s = true) (hE : am_E wb dC dI ad ca fm L xs A s s.heap) (hA : ∀ q, s.heap.size ≤ q → A q)
    (hR : d + 1 ≤ R.frames ∧ 80 * d + 80 ≤ R.locals) (hcs : cells ≤ R.cells ∧ slots ≤ R.slots)
    (hC : ∀ (j : Nat) (as : List am_V) (M : am_M) (k : am_K), 0 < j → j < tb_n → am_Call wb d j as M k → am_Cal wb l d dC dI ad ca fm L xs j as M k)
    (hret : ∀ (pc : Nat) (H : Heap) (locs : List Loc) (ls : Array Slot) (v : Option am_V) (M : am_M), am_retOK (tb_rt i) pc (tb_cc i) v → K v M → va_P (dC, dI) vwCl (am_W wb ad ca M) H → va_S A s.heap H locs → am_scr L xs M → W p l e R s m args below meth c0 H locs cells slots Q (F0 m pc ls ((am_ps v []).map (am_tr ad fm))))
    {pc len : Nat} {ls : List (Option am_V)} {st : List am_V} {M : am_M} {ax : List Nat} {H : Heap} {locs : List Loc} {ls' : Array Slot} {k : Nat} {n : Int} (hfm : fm.isRef = true)
    (hP : va_P (dC, dI) vwCl (am_W wb ad ca M) H) (hS : va_S A s.heap H locs) (hL : am_L ad fm (tb_ml i) ls ls') (hM : am_scr L xs M) (hdg : decode (tb_cc i) pc = .ok ((.iinc k n), len)) (hok : tb_okx (tb_own i) pc len (.iinc k n) ax = true)
    (h : am_ex wb (tb_rt i) (am_Call wb d) K (am_J wb p l e R s m args below meth c0 cells slots Q dC dI ad ca fm L xs A (tb_ml i)) (.iinc k n) len ax pc ls st M) : W p l e R s m args below meth c0 H locs cells slots Q (F0 m pc ls' (st.map (am_tr ad fm))) := by
  have hlen : len = 3 := Nat.eq_of_beq_eq_true hok
  subst hlen
  unfold am_ex at h
  (try dsimp only at h)
  rcases hg : am_g ls k with _ | (x | (x | (_ | ⟨a, b⟩))) <;> rw [hg] at h <;> try exact False.elim h
  obtain ⟨ls2, hs, h2⟩ := am_om_spec (o := am_s1 ls k (aI (x + n))) (P := fun ls2 => am_J wb p l e R s m args below meth c0 cells slots Q dC dI ad ca fm L xs A (tb_ml i) (pc + 3, ls2, st, M)) h
  have hmem : (k, am_tr ad fm (aI x)) ∈ am_lvs ad fm 0 ls := (am_lvs_mem ls 0 _).mpr ⟨k, aI x, am_g_get ls k _ hg, by simp⟩
  obtain ⟨kk, hkk⟩ := List.getElem?_of_mem hmem
  exact lv_iinc (v := i3 (x + n)) hx hb hdg hL.2 (k := kk) hkk (i3_add x n) (by have := (am_s1_spec _ _ _ _ hs).2.1; have := hL.1; omega) rfl (fun ls1 hl1 => h2 H locs ls1 hP hS (am_L.set1 hfm hL.1 hs hl1) hM)
set_option maxHeartbeats 1000000 in
set_option maxRecDepth 100000 in
theorem am_c_iadd {i d : Nat} {K : am_K} (hi : i < tb_n)
    (hx : p.tables.exec = Jvm.exec) (hb : c0.code = tb_cc i) (hml : c0.maxLocals = tb_ml i) (hown : s.vm.findClass (tb_cn (tb_own i)) = some m.cls) (hts : ∀ w ∈ am_ws, w.before args s = true) (hE : am_E wb dC dI ad ca fm L xs A s s.heap) (hA : ∀ q, s.heap.size ≤ q → A q)
    (hR : d + 1 ≤ R.frames ∧ 80 * d + 80 ≤ R.locals) (hcs : cells ≤ R.cells ∧ slots ≤ R.slots)
    (hC : ∀ (j : Nat) (as : List am_V) (M : am_M) (k : am_K), 0 < j → j < tb_n → am_Call wb d j as M k → am_Cal wb l d dC dI ad ca fm L xs j as M k)
    (hret : ∀ (pc : Nat) (H : Heap) (locs : List Loc) (ls : Array Slot) (v : Option am_V) (M : am_M), am_retOK (tb_rt i) pc (tb_cc i) v → K v M → va_P (dC, dI) vwCl (am_W wb ad ca M) H → va_S A s.heap H locs → am_scr L xs M → W p l e R s m args below meth c0 H locs cells slots Q (F0 m pc ls ((am_ps v []).map (am_tr ad fm))))
    {pc len : Nat} {ls : List (Option am_V)} {st : List am_V} {M : am_M} {ax : List Nat} {H : Heap} {locs : List Loc} {ls' : Array Slot}  (hfm : fm.isRef = true)
    (hP : va_P (dC, dI) vwCl (am_W wb ad ca M) H) (hS : va_S A s.heap H locs) (hL : am_L ad fm (tb_ml i) ls ls') (hM : am_scr L xs M) (hdg : decode (tb_cc i) pc = .ok ((.iadd), len)) (hok : tb_okx (tb_own i) pc len (.iadd) ax = true)
    (h : am_ex wb (tb_rt i) (am_Call wb d) K (am_J wb p l e R s m args below meth c0 cells slots Q dC dI ad ca fm L xs A (tb_ml i)) (.iadd) len ax pc ls st M) : W p l e R s m args below meth c0 H locs cells slots Q (F0 m pc ls' (st.map (am_tr ad fm))) := by
  have hlen : len = 1 := Nat.eq_of_beq_eq_true hok
  subst hlen
  replace h := am_u2_spec (show am_u2 st _ from h)
  obtain ⟨x, y, r, rfl, h⟩ := h
  refine lv_iadd hx hb hdg ?_
  rw [i3_add]
  exact h H locs ls' hP hS hL hM
set_option maxHeartbeats 1000000 in
set_option maxRecDepth 100000 in
theorem am_c_ladd {i d : Nat} {K : am_K} (hi : i < tb_n)
    (hx : p.tables.exec = Jvm.exec) (hb : c0.code = tb_cc i) (hml : c0.maxLocals = tb_ml i) (hown : s.vm.findClass (tb_cn (tb_own i)) = some m.cls) (hts : ∀ w ∈ am_ws, w.before args s = true) (hE : am_E wb dC dI ad ca fm L xs A s s.heap) (hA : ∀ q, s.heap.size ≤ q → A q)
    (hR : d + 1 ≤ R.frames ∧ 80 * d + 80 ≤ R.locals) (hcs : cells ≤ R.cells ∧ slots ≤ R.slots)
    (hC : ∀ (j : Nat) (as : List am_V) (M : am_M) (k : am_K), 0 < j → j < tb_n → am_Call wb d j as M k → am_Cal wb l d dC dI ad ca fm L xs j as M k)
    (hret : ∀ (pc : Nat) (H : Heap) (locs : List Loc) (ls : Array Slot) (v : Option am_V) (M : am_M), am_retOK (tb_rt i) pc (tb_cc i) v → K v M → va_P (dC, dI) vwCl (am_W wb ad ca M) H → va_S A s.heap H locs → am_scr L xs M → W p l e R s m args below meth c0 H locs cells slots Q (F0 m pc ls ((am_ps v []).map (am_tr ad fm))))
    {pc len : Nat} {ls : List (Option am_V)} {st : List am_V} {M : am_M} {ax : List Nat} {H : Heap} {locs : List Loc} {ls' : Array Slot}  (hfm : fm.isRef = true)
    (hP : va_P (dC, dI) vwCl (am_W wb ad ca M) H) (hS : va_S A s.heap H locs) (hL : am_L ad fm (tb_ml i) ls ls') (hM : am_scr L xs M) (hdg : decode (tb_cc i) pc = .ok ((.ladd), len)) (hok : tb_okx (tb_own i) pc len (.ladd) ax = true)
    (h : am_ex wb (tb_rt i) (am_Call wb d) K (am_J wb p l e R s m args below meth c0 cells slots Q dC dI ad ca fm L xs A (tb_ml i)) (.ladd) len ax pc ls st M) : W p l e R s m args below meth c0 H locs cells slots Q (F0 m pc ls' (st.map (am_tr ad fm))) := by
  have hlen : len = 1 := Nat.eq_of_beq_eq_true hok
  subst hlen
  replace h := am_l2_spec (show am_l2 st _ from h)
  obtain ⟨x, y, r, rfl, h⟩ := h
  refine lv_ladd hx hb hdg ?_
  rw [i6_add]
  exact h H locs ls' hP hS hL hM
set_option maxHeartbeats 1000000 in
set_option maxRecDepth 100000 in
theorem am_c_isub {i d : Nat} {K : am_K} (hi : i < tb_n)
    (hx : p.tables.exec = Jvm.exec) (hb : c0.code = tb_cc i) (hml : c0.maxLocals = tb_ml i) (hown : s.vm.findClass (tb_cn (tb_own i)) = some m.cls) (hts : ∀ w ∈ am_ws, w.before args s = true) (hE : am_E wb dC dI ad ca fm L xs A s s.heap) (hA : ∀ q, s.heap.size ≤ q → A q)
    (hR : d + 1 ≤ R.frames ∧ 80 * d + 80 ≤ R.locals) (hcs : cells ≤ R.cells ∧ slots ≤ R.slots)
    (hC : ∀ (j : Nat) (as : List am_V) (M : am_M) (k : am_K), 0 < j → j < tb_n → am_Call wb d j as M k → am_Cal wb l d dC dI ad ca fm L xs j as M k)
    (hret : ∀ (pc : Nat) (H : Heap) (locs : List Loc) (ls : Array Slot) (v : Option am_V) (M : am_M), am_retOK (tb_rt i) pc (tb_cc i) v → K v M → va_P (dC, dI) vwCl (am_W wb ad ca M) H → va_S A s.heap H locs → am_scr L xs M → W p l e R s m args below meth c0 H locs cells slots Q (F0 m pc ls ((am_ps v []).map (am_tr ad fm))))
    {pc len : Nat} {ls : List (Option am_V)} {st : List am_V} {M : am_M} {ax : List Nat} {H : Heap} {locs : List Loc} {ls' : Array Slot}  (hfm : fm.isRef = true)
    (hP : va_P (dC, dI) vwCl (am_W wb ad ca M) H) (hS : va_S A s.heap H locs) (hL : am_L ad fm (tb_ml i) ls ls') (hM : am_scr L xs M) (hdg : decode (tb_cc i) pc = .ok ((.isub), len)) (hok : tb_okx (tb_own i) pc len (.isub) ax = true)
    (h : am_ex wb (tb_rt i) (am_Call wb d) K (am_J wb p l e R s m args below meth c0 cells slots Q dC dI ad ca fm L xs A (tb_ml i)) (.isub) len ax pc ls st M) : W p l e R s m args below meth c0 H locs cells slots Q (F0 m pc ls' (st.map (am_tr ad fm))) := by
  have hlen : len = 1 := Nat.eq_of_beq_eq_true hok
  subst hlen
  replace h := am_u2_spec (show am_u2 st _ from h)
  obtain ⟨x, y, r, rfl, h⟩ := h
  refine lv_isub hx hb hdg ?_
  rw [i3_sub]
  exact h H locs ls' hP hS hL hM
set_option maxHeartbeats 1000000 in
set_option maxRecDepth 100000 in
theorem am_c_lsub {i d : Nat} {K : am_K} (hi : i < tb_n)
    (hx : p.tables.exec = Jvm.exec) (hb : c0.code = tb_cc i) (hml : c0.maxLocals = tb_ml i) (hown : s.vm.findClass (tb_cn (tb_own i)) = some m.cls) (hts : ∀ w ∈ am_ws, w.before args s = true) (hE : am_E wb dC dI ad ca fm L xs A s s.heap) (hA : ∀ q, s.heap.size ≤ q → A q)
    (hR : d + 1 ≤ R.frames ∧ 80 * d + 80 ≤ R.locals) (hcs : cells ≤ R.cells ∧ slots ≤ R.slots)
    (hC : ∀ (j : Nat) (as : List am_V) (M : am_M) (k : am_K), 0 < j → j < tb_n → am_Call wb d j as M k → am_Cal wb l d dC dI ad ca fm L xs j as M k)
    (hret : ∀ (pc : Nat) (H : Heap) (locs : List Loc) (ls : Array Slot) (v : Option am_V) (M : am_M), am_retOK (tb_rt i) pc (tb_cc i) v → K v M → va_P (dC, dI) vwCl (am_W wb ad ca M) H → va_S A s.heap H locs → am_scr L xs M → W p l e R s m args below meth c0 H locs cells slots Q (F0 m pc ls ((am_ps v []).map (am_tr ad fm))))
    {pc len : Nat} {ls : List (Option am_V)} {st : List am_V} {M : am_M} {ax : List Nat} {H : Heap} {locs : List Loc} {ls' : Array Slot}  (hfm : fm.isRef = true)
    (hP : va_P (dC, dI) vwCl (am_W wb ad ca M) H) (hS : va_S A s.heap H locs) (hL : am_L ad fm (tb_ml i) ls ls') (hM : am_scr L xs M) (hdg : decode (tb_cc i) pc = .ok ((.lsub), len)) (hok : tb_okx (tb_own i) pc len (.lsub) ax = true)
    (h : am_ex wb (tb_rt i) (am_Call wb d) K (am_J wb p l e R s m args below meth c0 cells slots Q dC dI ad ca fm L xs A (tb_ml i)) (.lsub) len ax pc ls st M) : W p l e R s m args below meth c0 H locs cells slots Q (F0 m pc ls' (st.map (am_tr ad fm))) := by
  have hlen : len = 1 := Nat.eq_of_beq_eq_true hok
  subst hlen
  replace h := am_l2_spec (show am_l2 st _ from h)
  obtain ⟨x, y, r, rfl, h⟩ := h
  refine lv_lsub hx hb hdg ?_
  rw [i6_sub]
  exact h H locs ls' hP hS hL hM
set_option maxHeartbeats 1000000 in
set_option maxRecDepth 100000 in
theorem am_c_imul {i d : Nat} {K : am_K} (hi : i < tb_n)
    (hx : p.tables.exec = Jvm.exec) (hb : c0.code = tb_cc i) (hml : c0.maxLocals = tb_ml i) (hown : s.vm.findClass (tb_cn (tb_own i)) = some m.cls) (hts : ∀ w ∈ am_ws, w.before args s = true) (hE : am_E wb dC dI ad ca fm L xs A s s.heap) (hA : ∀ q, s.heap.size ≤ q → A q)
    (hR : d + 1 ≤ R.frames ∧ 80 * d + 80 ≤ R.locals) (hcs : cells ≤ R.cells ∧ slots ≤ R.slots)
    (hC : ∀ (j : Nat) (as : List am_V) (M : am_M) (k : am_K), 0 < j → j < tb_n → am_Call wb d j as M k → am_Cal wb l d dC dI ad ca fm L xs j as M k)
    (hret : ∀ (pc : Nat) (H : Heap) (locs : List Loc) (ls : Array Slot) (v : Option am_V) (M : am_M), am_retOK (tb_rt i) pc (tb_cc i) v → K v M → va_P (dC, dI) vwCl (am_W wb ad ca M) H → va_S A s.heap H locs → am_scr L xs M → W p l e R s m args below meth c0 H locs cells slots Q (F0 m pc ls ((am_ps v []).map (am_tr ad fm))))
    {pc len : Nat} {ls : List (Option am_V)} {st : List am_V} {M : am_M} {ax : List Nat} {H : Heap} {locs : List Loc} {ls' : Array Slot}  (hfm : fm.isRef = true)
    (hP : va_P (dC, dI) vwCl (am_W wb ad ca M) H) (hS : va_S A s.heap H locs) (hL : am_L ad fm (tb_ml i) ls ls') (hM : am_scr L xs M) (hdg : decode (tb_cc i) pc = .ok ((.imul), len)) (hok : tb_okx (tb_own i) pc len (.imul) ax = true)
    (h : am_ex wb (tb_rt i) (am_Call wb d) K (am_J wb p l e R s m args below meth c0 cells slots Q dC dI ad ca fm L xs A (tb_ml i)) (.imul) len ax pc ls st M) : W p l e R s m args below meth c0 H locs cells slots Q (F0 m pc ls' (st.map (am_tr ad fm))) := by
  have hlen : len = 1 := Nat.eq_of_beq_eq_true hok
  subst hlen
  replace h := am_u2_spec (show am_u2 st _ from h)
  obtain ⟨x, y, r, rfl, h⟩ := h
  refine lv_imul hx hb hdg ?_
  rw [i3_mul]
  exact h H locs ls' hP hS hL hM
set_option maxHeartbeats 1000000 in
set_option maxRecDepth 100000 in
theorem am_c_lmul {i d : Nat} {K : am_K} (hi : i < tb_n)
    (hx : p.tables.exec = Jvm.exec) (hb : c0.code = tb_cc i) (hml : c0.maxLocals = tb_ml i) (hown : s.vm.findClass (tb_cn (tb_own i)) = some m.cls) (hts : ∀ w ∈ am_ws, w.before args s = true) (hE : am_E wb dC dI ad ca fm L xs A s s.heap) (hA : ∀ q, s.heap.size ≤ q → A q)
    (hR : d + 1 ≤ R.frames ∧ 80 * d + 80 ≤ R.locals) (hcs : cells ≤ R.cells ∧ slots ≤ R.slots)
    (hC : ∀ (j : Nat) (as : List am_V) (M : am_M) (k : am_K), 0 < j → j < tb_n → am_Call wb d j as M k → am_Cal wb l d dC dI ad ca fm L xs j as M k)
    (hret : ∀ (pc : Nat) (H : Heap) (locs : List Loc) (ls : Array Slot) (v : Option am_V) (M : am_M), am_retOK (tb_rt i) pc (tb_cc i) v → K v M → va_P (dC, dI) vwCl (am_W wb ad ca M) H → va_S A s.heap H locs → am_scr L xs M → W p l e R s m args below meth c0 H locs cells slots Q (F0 m pc ls ((am_ps v []).map (am_tr ad fm))))
    {pc len : Nat} {ls : List (Option am_V)} {st : List am_V} {M : am_M} {ax : List Nat} {H : Heap} {locs : List Loc} {ls' : Array Slot}  (hfm : fm.isRef = true)
    (hP : va_P (dC, dI) vwCl (am_W wb ad ca M) H) (hS : va_S A s.heap H locs) (hL : am_L ad fm (tb_ml i) ls ls') (hM : am_scr L xs M) (hdg : decode (tb_cc i) pc = .ok ((.lmul), len)) (hok : tb_okx (tb_own i) pc len (.lmul) ax = true)
    (h : am_ex wb (tb_rt i) (am_Call wb d) K (am_J wb p l e R s m args below meth c0 cells slots Q dC dI ad ca fm L xs A (tb_ml i)) (.lmul) len ax pc ls st M) : W p l e R s m args below meth c0 H locs cells slots Q (F0 m pc ls' (st.map (am_tr ad fm))) := by
  have hlen : len = 1 := Nat.eq_of_beq_eq_true hok
  subst hlen
  replace h := am_l2_spec (show am_l2 st _ from h)
  obtain ⟨x, y, r, rfl, h⟩ := h
  refine lv_lmul hx hb hdg ?_
  rw [i6_mul]
  exact h H locs ls' hP hS hL hM
set_option maxHeartbeats 1000000 in
set_option maxRecDepth 100000 in
theorem am_c_idiv {i d : Nat} {K : am_K} (hi : i < tb_n)
    (hx : p.tables.exec = Jvm.exec) (hb : c0.code = tb_cc i) (hml : c0.maxLocals = tb_ml i) (hown : s.vm.findClass (tb_cn (tb_own i)) = some m.cls) (hts : ∀ w ∈ am_ws, w.before args s = true) (hE : am_E wb dC dI ad ca fm L xs A s s.heap) (hA : ∀ q, s.heap.size ≤ q → A q)
    (hR : d + 1 ≤ R.frames ∧ 80 * d + 80 ≤ R.locals) (hcs : cells ≤ R.cells ∧ slots ≤ R.slots)
    (hC : ∀ (j : Nat) (as : List am_V) (M : am_M) (k : am_K), 0 < j → j < tb_n → am_Call wb d j as M k → am_Cal wb l d dC dI ad ca fm L xs j as M k)
    (hret : ∀ (pc : Nat) (H : Heap) (locs : List Loc) (ls : Array Slot) (v : Option am_V) (M : am_M), am_retOK (tb_rt i) pc (tb_cc i) v → K v M → va_P (dC, dI) vwCl (am_W wb ad ca M) H → va_S A s.heap H locs → am_scr L xs M → W p l e R s m args below meth c0 H locs cells slots Q (F0 m pc ls ((am_ps v []).map (am_tr ad fm))))
    {pc len : Nat} {ls : List (Option am_V)} {st : List am_V} {M : am_M} {ax : List Nat} {H : Heap} {locs : List Loc} {ls' : Array Slot}  (hfm : fm.isRef = true)
    (hP : va_P (dC, dI) vwCl (am_W wb ad ca M) H) (hS : va_S A s.heap H locs) (hL : am_L ad fm (tb_ml i) ls ls') (hM : am_scr L xs M) (hdg : decode (tb_cc i) pc = .ok ((.idiv), len)) (hok : tb_okx (tb_own i) pc len (.idiv) ax = true)
    (h : am_ex wb (tb_rt i) (am_Call wb d) K (am_J wb p l e R s m args below meth c0 cells slots Q dC dI ad ca fm L xs A (tb_ml i)) (.idiv) len ax pc ls st M) : W p l e R s m args below meth c0 H locs cells slots Q (F0 m pc ls' (st.map (am_tr ad fm))) := by
  have hlen : len = 1 := Nat.eq_of_beq_eq_true hok
  subst hlen
  replace h := am_u2_spec (show am_u2 st _ from h)
  obtain ⟨x, y, r, rfl, ⟨h1, h2, h3⟩, h⟩ := h
  refine lv_idiv hx hb hdg (i3_ne0 h2 h3) ?_
  rw [i3_div h1 h2]
  exact h H locs ls' hP hS hL hM
set_option maxHeartbeats 1000000 in
set_option maxRecDepth 100000 in
theorem am_c_irem {i d : Nat} {K : am_K} (hi : i < tb_n)
    (hx : p.tables.exec = Jvm.exec) (hb : c0.code = tb_cc i) (hml : c0.maxLocals = tb_ml i) (hown : s.vm.findClass (tb_cn (tb_own i)) = some m.cls) (hts : ∀ w ∈ am_ws, w.before args s = true) (hE : am_E wb dC dI ad ca fm L xs A s s.heap) (hA : ∀ q, s.heap.size ≤ q → A q)
    (hR : d + 1 ≤ R.frames ∧ 80 * d + 80 ≤ R.locals) (hcs : cells ≤ R.cells ∧ slots ≤ R.slots)
    (hC : ∀ (j : Nat) (as : List am_V) (M : am_M) (k : am_K), 0 < j → j < tb_n → am_Call wb d j as M k → am_Cal wb l d dC dI ad ca fm L xs j as M k)
    (hret : ∀ (pc : Nat) (H : Heap) (locs : List Loc) (ls : Array Slot) (v : Option am_V) (M : am_M), am_retOK (tb_rt i) pc (tb_cc i) v → K v M → va_P (dC, dI) vwCl (am_W wb ad ca M) H → va_S A s.heap H locs → am_scr L xs M → W p l e R s m args below meth c0 H locs cells slots Q (F0 m pc ls ((am_ps v []).map (am_tr ad fm))))
    {pc len : Nat} {ls : List (Option am_V)} {st : List am_V} {M : am_M} {ax : List Nat} {H : Heap} {locs : List Loc} {ls' : Array Slot}  (hfm : fm.isRef = true)
    (hP : va_P (dC, dI) vwCl (am_W wb ad ca M) H) (hS : va_S A s.heap H locs) (hL : am_L ad fm (tb_ml i) ls ls') (hM : am_scr L xs M) (hdg : decode (tb_cc i) pc = .ok ((.irem), len)) (hok : tb_okx (tb_own i) pc len (.irem) ax = true)
    (h : am_ex wb (tb_rt i) (am_Call wb d) K (am_J wb p l e R s m args below meth c0 cells slots Q dC dI ad ca fm L xs A (tb_ml i)) (.irem) len ax pc ls st M) : W p l e R s m args below meth c0 H locs cells slots Q (F0 m pc ls' (st.map (am_tr ad fm))) := by
  have hlen : len = 1 := Nat.eq_of_beq_eq_true hok
  subst hlen
  replace h := am_u2_spec (show am_u2 st _ from h)
  obtain ⟨x, y, r, rfl, ⟨h1, h2, h3⟩, h⟩ := h
  refine lv_irem hx hb hdg (i3_ne0 h2 h3) ?_
  rw [i3_rem h1 h2]
  exact h H locs ls' hP hS hL hM
set_option maxHeartbeats 1000000 in
set_option maxRecDepth 100000 in
theorem am_c_ldiv {i d : Nat} {K : am_K} (hi : i < tb_n)
    (hx : p.tables.exec = Jvm.exec) (hb : c0.code = tb_cc i) (hml : c0.maxLocals = tb_ml i) (hown : s.vm.findClass (tb_cn (tb_own i)) = some m.cls) (hts : ∀ w ∈ am_ws, w.before args s = true) (hE : am_E wb dC dI ad ca fm L xs A s s.heap) (hA : ∀ q, s.heap.size ≤ q → A q)
    (hR : d + 1 ≤ R.frames ∧ 80 * d + 80 ≤ R.locals) (hcs : cells ≤ R.cells ∧ slots ≤ R.slots)
    (hC : ∀ (j : Nat) (as : List am_V) (M : am_M) (k : am_K), 0 < j → j < tb_n → am_Call wb d j as M k → am_Cal wb l d dC dI ad ca fm L xs j as M k)
    (hret : ∀ (pc : Nat) (H : Heap) (locs : List Loc) (ls : Array Slot) (v : Option am_V) (M : am_M), am_retOK (tb_rt i) pc (tb_cc i) v → K v M → va_P (dC, dI) vwCl (am_W wb ad ca M) H → va_S A s.heap H locs → am_scr L xs M → W p l e R s m args below meth c0 H locs cells slots Q (F0 m pc ls ((am_ps v []).map (am_tr ad fm))))
    {pc len : Nat} {ls : List (Option am_V)} {st : List am_V} {M : am_M} {ax : List Nat} {H : Heap} {locs : List Loc} {ls' : Array Slot}  (hfm : fm.isRef = true)
    (hP : va_P (dC, dI) vwCl (am_W wb ad ca M) H) (hS : va_S A s.heap H locs) (hL : am_L ad fm (tb_ml i) ls ls') (hM : am_scr L xs M) (hdg : decode (tb_cc i) pc = .ok ((.ldiv), len)) (hok : tb_okx (tb_own i) pc len (.ldiv) ax = true)
    (h : am_ex wb (tb_rt i) (am_Call wb d) K (am_J wb p l e R s m args below meth c0 cells slots Q dC dI ad ca fm L xs A (tb_ml i)) (.ldiv) len ax pc ls st M) : W p l e R s m args below meth c0 H locs cells slots Q (F0 m pc ls' (st.map (am_tr ad fm))) := by
  have hlen : len = 1 := Nat.eq_of_beq_eq_true hok
  subst hlen
  replace h := am_l2_spec (show am_l2 st _ from h)
  obtain ⟨x, y, r, rfl, ⟨h1, h2, h3⟩, h⟩ := h
  refine lv_ldiv hx hb hdg (i6_ne0 h2 h3) ?_
  rw [i6_div h1 h2]
  exact h H locs ls' hP hS hL hM
set_option maxHeartbeats 1000000 in
set_option maxRecDepth 100000 in
theorem am_c_lrem {i d : Nat} {K : am_K} (hi : i < tb_n)
    (hx : p.tables.exec = Jvm.exec) (hb : c0.code = tb_cc i) (hml : c0.maxLocals = tb_ml i) (hown : s.vm.findClass (tb_cn (tb_own i)) = some m.cls) (hts : ∀ w ∈ am_ws, w.before args s = true) (hE : am_E wb dC dI ad ca fm L xs A s s.heap) (hA : ∀ q, s.heap.size ≤ q → A q)
    (hR : d + 1 ≤ R.frames ∧ 80 * d + 80 ≤ R.locals) (hcs : cells ≤ R.cells ∧ slots ≤ R.slots)
    (hC : ∀ (j : Nat) (as : List am_V) (M : am_M) (k : am_K), 0 < j → j < tb_n → am_Call wb d j as M k → am_Cal wb l d dC dI ad ca fm L xs j as M k)
    (hret : ∀ (pc : Nat) (H : Heap) (locs : List Loc) (ls : Array Slot) (v : Option am_V) (M : am_M), am_retOK (tb_rt i) pc (tb_cc i) v → K v M → va_P (dC, dI) vwCl (am_W wb ad ca M) H → va_S A s.heap H locs → am_scr L xs M → W p l e R s m args below meth c0 H locs cells slots Q (F0 m pc ls ((am_ps v []).map (am_tr ad fm))))
    {pc len : Nat} {ls : List (Option am_V)} {st : List am_V} {M : am_M} {ax : List Nat} {H : Heap} {locs : List Loc} {ls' : Array Slot}  (hfm : fm.isRef = true)
    (hP : va_P (dC, dI) vwCl (am_W wb ad ca M) H) (hS : va_S A s.heap H locs) (hL : am_L ad fm (tb_ml i) ls ls') (hM : am_scr L xs M) (hdg : decode (tb_cc i) pc = .ok ((.lrem), len)) (hok : tb_okx (tb_own i) pc len (.lrem) ax = true)
    (h : am_ex wb (tb_rt i) (am_Call wb d) K (am_J wb p l e R s m args below meth c0 cells slots Q dC dI ad ca fm L xs A (tb_ml i)) (.lrem) len ax pc ls st M) : W p l e R s m args below meth c0 H locs cells slots Q (F0 m pc ls' (st.map (am_tr ad fm))) := by
  have hlen : len = 1 := Nat.eq_of_beq_eq_true hok
  subst hlen
  replace h := am_l2_spec (show am_l2 st _ from h)
  obtain ⟨x, y, r, rfl, ⟨h1, h2, h3⟩, h⟩ := h
  refine lv_lrem hx hb hdg (i6_ne0 h2 h3) ?_
  rw [i6_rem h1 h2]
  exact h H locs ls' hP hS hL hM
set_option maxHeartbeats 1000000 in
set_option maxRecDepth 100000 in
theorem am_c_iand {i d : Nat} {K : am_K} (hi : i < tb_n)
    (hx : p.tables.exec = Jvm.exec) (hb : c0.code = tb_cc i) (hml : c0.maxLocals = tb_ml i) (hown : s.vm.findClass (tb_cn (tb_own i)) = some m.cls) (hts : ∀ w ∈ am_ws, w.before args s = true) (hE : am_E wb dC dI ad ca fm L xs A s s.heap) (hA : ∀ q, s.heap.size ≤ q → A q)
    (hR : d + 1 ≤ R.frames ∧ 80 * d + 80 ≤ R.locals) (hcs : cells ≤ R.cells ∧ slots ≤ R.slots)
    (hC : ∀ (j : Nat) (as : List am_V) (M : am_M) (k : am_K), 0 < j → j < tb_n → am_Call wb d j as M k → am_Cal wb l d dC dI ad ca fm L xs j as M k)
    (hret : ∀ (pc : Nat) (H : Heap) (locs : List Loc) (ls : Array Slot) (v : Option am_V) (M : am_M), am_retOK (tb_rt i) pc (tb_cc i) v → K v M → va_P (dC, dI) vwCl (am_W wb ad ca M) H → va_S A s.heap H locs → am_scr L xs M → W p l e R s m args below meth c0 H locs cells slots Q (F0 m pc ls ((am_ps v []).map (am_tr ad fm))))
    {pc len : Nat} {ls : List (Option am_V)} {st : List am_V} {M : am_M} {ax : List Nat} {H : Heap} {locs : List Loc} {ls' : Array Slot}  (hfm : fm.isRef = true)
    (hP : va_P (dC, dI) vwCl (am_W wb ad ca M) H) (hS : va_S A s.heap H locs) (hL : am_L ad fm (tb_ml i) ls ls') (hM : am_scr L xs M) (hdg : decode (tb_cc i) pc = .ok ((.iand), len)) (hok : tb_okx (tb_own i) pc len (.iand) ax = true)
    (h : am_ex wb (tb_rt i) (am_Call wb d) K (am_J wb p l e R s m args below meth c0 cells slots Q dC dI ad ca fm L xs A (tb_ml i)) (.iand) len ax pc ls st M) : W p l e R s m args below meth c0 H locs cells slots Q (F0 m pc ls' (st.map (am_tr ad fm))) := by
  have hlen : len = 1 := Nat.eq_of_beq_eq_true hok
  subst hlen
  replace h := am_u2_spec (show am_u2 st _ from h)
  obtain ⟨x, y, r, rfl, h⟩ := h
  refine lv_iand hx hb hdg ?_
  rw [show i3 x &&& i3 y = i3 (am_and x y) from (i3_of _).symm]
  exact h H locs ls' hP hS hL hM
set_option maxHeartbeats 1000000 in
set_option maxRecDepth 100000 in
theorem am_c_ior {i d : Nat} {K : am_K} (hi : i < tb_n)
    (hx : p.tables.exec = Jvm.exec) (hb : c0.code = tb_cc i) (hml : c0.maxLocals = tb_ml i) (hown : s.vm.findClass (tb_cn (tb_own i)) = some m.cls) (hts : ∀ w ∈ am_ws, w.before args s = true) (hE : am_E wb dC dI ad ca fm L xs A s s.heap) (hA : ∀ q, s.heap.size ≤ q → A q)
    (hR : d + 1 ≤ R.frames ∧ 80 * d + 80 ≤ R.locals) (hcs : cells ≤ R.cells ∧ slots ≤ R.slots)
    (hC : ∀ (j : Nat) (as : List am_V) (M : am_M) (k : am_K), 0 < j → j < tb_n → am_Call wb d j as M k → am_Cal wb l d dC dI ad ca fm L xs j as M k)
    (hret : ∀ (pc : Nat) (H : Heap) (locs : List Loc) (ls : Array Slot) (v : Option am_V) (M : am_M), am_retOK (tb_rt i) pc (tb_cc i) v → K v M → va_P (dC, dI) vwCl (am_W wb ad ca M) H → va_S A s.heap H locs → am_scr L xs M → W p l e R s m args below meth c0 H locs cells slots Q (F0 m pc ls ((am_ps v []).map (am_tr ad fm))))
    {pc len : Nat} {ls : List (Option am_V)} {st : List am_V} {M : am_M} {ax : List Nat} {H : Heap} {locs : List Loc} {ls' : Array Slot}  (hfm : fm.isRef = true)
    (hP : va_P (dC, dI) vwCl (am_W wb ad ca M) H) (hS : va_S A s.heap H locs) (hL : am_L ad fm (tb_ml i) ls ls') (hM : am_scr L xs M) (hdg : decode (tb_cc i) pc = .ok ((.ior), len)) (hok : tb_okx (tb_own i) pc len (.ior) ax = true)
    (h : am_ex wb (tb_rt i) (am_Call wb d) K (am_J wb p l e R s m args below meth c0 cells slots Q dC dI ad ca fm L xs A (tb_ml i)) (.ior) len ax pc ls st M) : W p l e R s m args below meth c0 H locs cells slots Q (F0 m pc ls' (st.map (am_tr ad fm))) := by
  have hlen : len = 1 := Nat.eq_of_beq_eq_true hok
  subst hlen
  replace h := am_u2_spec (show am_u2 st _ from h)
  obtain ⟨x, y, r, rfl, h⟩ := h
  refine lv_ior hx hb hdg ?_
  rw [show i3 x ||| i3 y = i3 (am_or x y) from (i3_of _).symm]
  exact h H locs ls' hP hS hL hM
set_option maxHeartbeats 1000000 in
set_option maxRecDepth 100000 in
theorem am_c_ishl {i d : Nat} {K : am_K} (hi : i < tb_n)
    (hx : p.tables.exec = Jvm.exec) (hb : c0.code = tb_cc i) (hml : c0.maxLocals = tb_ml i) (hown : s.vm.findClass (tb_cn (tb_own i)) = some m.cls) (hts : ∀ w ∈ am_ws, w.before args s = true) (hE : am_E wb dC dI ad ca fm L xs A s s.heap) (hA : ∀ q, s.heap.size ≤ q → A q)
    (hR : d + 1 ≤ R.frames ∧ 80 * d + 80 ≤ R.locals) (hcs : cells ≤ R.cells ∧ slots ≤ R.slots)
    (hC : ∀ (j : Nat) (as : List am_V) (M : am_M) (k : am_K), 0 < j → j < tb_n → am_Call wb d j as M k → am_Cal wb l d dC dI ad ca fm L xs j as M k)
    (hret : ∀ (pc : Nat) (H : Heap) (locs : List Loc) (ls : Array Slot) (v : Option am_V) (M : am_M), am_retOK (tb_rt i) pc (tb_cc i) v → K v M → va_P (dC, dI) vwCl (am_W wb ad ca M) H → va_S A s.heap H locs → am_scr L xs M → W p l e R s m args below meth c0 H locs cells slots Q (F0 m pc ls ((am_ps v []).map (am_tr ad fm))))
    {pc len : Nat} {ls : List (Option am_V)} {st : List am_V} {M : am_M} {ax : List Nat} {H : Heap} {locs : List Loc} {ls' : Array Slot}  (hfm : fm.isRef = true)
    (hP : va_P (dC, dI) vwCl (am_W wb ad ca M) H) (hS : va_S A s.heap H locs) (hL : am_L ad fm (tb_ml i) ls ls') (hM : am_scr L xs M) (hdg : decode (tb_cc i) pc = .ok ((.ishl), len)) (hok : tb_okx (tb_own i) pc len (.ishl) ax = true)
    (h : am_ex wb (tb_rt i) (am_Call wb d) K (am_J wb p l e R s m args below meth c0 cells slots Q dC dI ad ca fm L xs A (tb_ml i)) (.ishl) len ax pc ls st M) : W p l e R s m args below meth c0 H locs cells slots Q (F0 m pc ls' (st.map (am_tr ad fm))) := by
  have hlen : len = 1 := Nat.eq_of_beq_eq_true hok
  subst hlen
  replace h := am_u2_spec (show am_u2 st _ from h)
  obtain ⟨x, y, r, rfl, h0, h⟩ := h
  refine lv_ishl hx hb hdg ?_
  rw [i3_shl h0]
  exact h H locs ls' hP hS hL hM
set_option maxHeartbeats 1000000 in
set_option maxRecDepth 100000 in
theorem am_c_ishr {i d : Nat} {K : am_K} (hi : i < tb_n)
    (hx : p.tables.exec = Jvm.exec) (hb : c0.code = tb_cc i) (hml : c0.maxLocals = tb_ml i) (hown : s.vm.findClass (tb_cn (tb_own i)) = some m.cls) (hts : ∀ w ∈ am_ws, w.before args s = true) (hE : am_E wb dC dI ad ca fm L xs A s s.heap) (hA : ∀ q, s.heap.size ≤ q → A q)
    (hR : d + 1 ≤ R.frames ∧ 80 * d + 80 ≤ R.locals) (hcs : cells ≤ R.cells ∧ slots ≤ R.slots)
    (hC : ∀ (j : Nat) (as : List am_V) (M : am_M) (k : am_K), 0 < j → j < tb_n → am_Call wb d j as M k → am_Cal wb l d dC dI ad ca fm L xs j as M k)
    (hret : ∀ (pc : Nat) (H : Heap) (locs : List Loc) (ls : Array Slot) (v : Option am_V) (M : am_M), am_retOK (tb_rt i) pc (tb_cc i) v → K v M → va_P (dC, dI) vwCl (am_W wb ad ca M) H → va_S A s.heap H locs → am_scr L xs M → W p l e R s m args below meth c0 H locs cells slots Q (F0 m pc ls ((am_ps v []).map (am_tr ad fm))))
    {pc len : Nat} {ls : List (Option am_V)} {st : List am_V} {M : am_M} {ax : List Nat} {H : Heap} {locs : List Loc} {ls' : Array Slot}  (hfm : fm.isRef = true)
    (hP : va_P (dC, dI) vwCl (am_W wb ad ca M) H) (hS : va_S A s.heap H locs) (hL : am_L ad fm (tb_ml i) ls ls') (hM : am_scr L xs M) (hdg : decode (tb_cc i) pc = .ok ((.ishr), len)) (hok : tb_okx (tb_own i) pc len (.ishr) ax = true)
    (h : am_ex wb (tb_rt i) (am_Call wb d) K (am_J wb p l e R s m args below meth c0 cells slots Q dC dI ad ca fm L xs A (tb_ml i)) (.ishr) len ax pc ls st M) : W p l e R s m args below meth c0 H locs cells slots Q (F0 m pc ls' (st.map (am_tr ad fm))) := by
  have hlen : len = 1 := Nat.eq_of_beq_eq_true hok
  subst hlen
  replace h := am_u2_spec (show am_u2 st _ from h)
  obtain ⟨x, y, r, rfl, ⟨h0, rfl⟩, h⟩ := h
  refine lv_ishr hx hb hdg ?_
  rw [i3_shr0]
  exact h H locs ls' hP hS hL hM
set_option maxHeartbeats 1000000 in
set_option maxRecDepth 100000 in
theorem am_c_ineg {i d : Nat} {K : am_K} (hi : i < tb_n)
    (hx : p.tables.exec = Jvm.exec) (hb : c0.code = tb_cc i) (hml : c0.maxLocals = tb_ml i) (hown : s.vm.findClass (tb_cn (tb_own i)) = some m.cls) (hts : ∀ w ∈ am_ws, w.before args s = true) (hE : am_E wb dC dI ad ca fm L xs A s s.heap) (hA : ∀ q, s.heap.size ≤ q → A q)
    (hR : d + 1 ≤ R.frames ∧ 80 * d + 80 ≤ R.locals) (hcs : cells ≤ R.cells ∧ slots ≤ R.slots)
    (hC : ∀ (j : Nat) (as : List am_V) (M : am_M) (k : am_K), 0 < j → j < tb_n → am_Call wb d j as M k → am_Cal wb l d dC dI ad ca fm L xs j as M k)
    (hret : ∀ (pc : Nat) (H : Heap) (locs : List Loc) (ls : Array Slot) (v : Option am_V) (M : am_M), am_retOK (tb_rt i) pc (tb_cc i) v → K v M → va_P (dC, dI) vwCl (am_W wb ad ca M) H → va_S A s.heap H locs → am_scr L xs M → W p l e R s m args below meth c0 H locs cells slots Q (F0 m pc ls ((am_ps v []).map (am_tr ad fm))))
    {pc len : Nat} {ls : List (Option am_V)} {st : List am_V} {M : am_M} {ax : List Nat} {H : Heap} {locs : List Loc} {ls' : Array Slot}  (hfm : fm.isRef = true)
    (hP : va_P (dC, dI) vwCl (am_W wb ad ca M) H) (hS : va_S A s.heap H locs) (hL : am_L ad fm (tb_ml i) ls ls') (hM : am_scr L xs M) (hdg : decode (tb_cc i) pc = .ok ((.ineg), len)) (hok : tb_okx (tb_own i) pc len (.ineg) ax = true)
    (h : am_ex wb (tb_rt i) (am_Call wb d) K (am_J wb p l e R s m args below meth c0 cells slots Q dC dI ad ca fm L xs A (tb_ml i)) (.ineg) len ax pc ls st M) : W p l e R s m args below meth c0 H locs cells slots Q (F0 m pc ls' (st.map (am_tr ad fm))) := by
  have hlen : len = 1 := Nat.eq_of_beq_eq_true hok
  subst hlen
  replace h := am_u1_spec (show am_u1 st _ from h)
  obtain ⟨x, r, rfl, h⟩ := h
  refine lv_ineg hx hb hdg ?_
  rw [i3_neg]
  exact h H locs ls' hP hS hL hM
set_option maxHeartbeats 1000000 in
set_option maxRecDepth 100000 in
theorem am_c_lneg {i d : Nat} {K : am_K} (hi : i < tb_n)
    (hx : p.tables.exec = Jvm.exec) (hb : c0.code = tb_cc i) (hml : c0.maxLocals = tb_ml i) (hown : s.vm.findClass (tb_cn (tb_own i)) = some m.cls) (hts : ∀ w ∈ am_ws, w.before args s = true) (hE : am_E wb dC dI ad ca fm L xs A s s.heap) (hA : ∀ q, s.heap.size ≤ q → A q)
    (hR : d + 1 ≤ R.frames ∧ 80 * d + 80 ≤ R.locals) (hcs : cells ≤ R.cells ∧ slots ≤ R.slots)
    (hC : ∀ (j : Nat) (as : List am_V) (M : am_M) (k : am_K), 0 < j → j < tb_n → am_Call wb d j as M k → am_Cal wb l d dC dI ad ca fm L xs j as M k)
    (hret : ∀ (pc : Nat) (H : Heap) (locs : List Loc) (ls : Array Slot) (v : Option am_V) (M : am_M), am_retOK (tb_rt i) pc (tb_cc i) v → K v M → va_P (dC, dI) vwCl (am_W wb ad ca M) H → va_S A s.heap H locs → am_scr L xs M → W p l e R s m args below meth c0 H locs cells slots Q (F0 m pc ls ((am_ps v []).map (am_tr ad fm))))
    {pc len : Nat} {ls : List (Option am_V)} {st : List am_V} {M : am_M} {ax : List Nat} {H : Heap} {locs : List Loc} {ls' : Array Slot}  (hfm : fm.isRef = true)
    (hP : va_P (dC, dI) vwCl (am_W wb ad ca M) H) (hS : va_S A s.heap H locs) (hL : am_L ad fm (tb_ml i) ls ls') (hM : am_scr L xs M) (hdg : decode (tb_cc i) pc = .ok ((.lneg), len)) (hok : tb_okx (tb_own i) pc len (.lneg) ax = true)
    (h : am_ex wb (tb_rt i) (am_Call wb d) K (am_J wb p l e R s m args below meth c0 cells slots Q dC dI ad ca fm L xs A (tb_ml i)) (.lneg) len ax pc ls st M) : W p l e R s m args below meth c0 H locs cells slots Q (F0 m pc ls' (st.map (am_tr ad fm))) := by
  have hlen : len = 1 := Nat.eq_of_beq_eq_true hok
  subst hlen
  replace h := am_l1_spec (show am_l1 st _ from h)
  obtain ⟨x, r, rfl, h⟩ := h
  refine lv_lneg hx hb hdg ?_
  rw [i6_neg]
  exact h H locs ls' hP hS hL hM
set_option maxHeartbeats 1000000 in
set_option maxRecDepth 100000 in
theorem am_c_i2l {i d : Nat} {K : am_K} (hi : i < tb_n)
    (hx : p.tables.exec = Jvm.exec) (hb : c0.code = tb_cc i) (hml : c0.maxLocals = tb_ml i) (hown : s.vm.findClass (tb_cn (tb_own i)) = some m.cls) (hts : ∀ w ∈ am_ws, w.before args s = true) (hE : am_E wb dC dI ad ca fm L xs A s s.heap) (hA : ∀ q, s.heap.size ≤ q → A q)
    (hR : d + 1 ≤ R.frames ∧ 80 * d + 80 ≤ R.locals) (hcs : cells ≤ R.cells ∧ slots ≤ R.slots)
    (hC : ∀ (j : Nat) (as : List am_V) (M : am_M) (k : am_K), 0 < j → j < tb_n → am_Call wb d j as M k → am_Cal wb l d dC dI ad ca fm L xs j as M k)
    (hret : ∀ (pc : Nat) (H : Heap) (locs : List Loc) (ls : Array Slot) (v : Option am_V) (M : am_M), am_retOK (tb_rt i) pc (tb_cc i) v → K v M → va_P (dC, dI) vwCl (am_W wb ad ca M) H → va_S A s.heap H locs → am_scr L xs M → W p l e R s m args below meth c0 H locs cells slots Q (F0 m pc ls ((am_ps v []).map (am_tr ad fm))))
    {pc len : Nat} {ls : List (Option am_V)} {st : List am_V} {M : am_M} {ax : List Nat} {H : Heap} {locs : List Loc} {ls' : Array Slot}  (hfm : fm.isRef = true)
    (hP : va_P (dC, dI) vwCl (am_W wb ad ca M) H) (hS : va_S A s.heap H locs) (hL : am_L ad fm (tb_ml i) ls ls') (hM : am_scr L xs M) (hdg : decode (tb_cc i) pc = .ok ((.i2l), len)) (hok : tb_okx (tb_own i) pc len (.i2l) ax = true)
    (h : am_ex wb (tb_rt i) (am_Call wb d) K (am_J wb p l e R s m args below meth c0 cells slots Q dC dI ad ca fm L xs A (tb_ml i)) (.i2l) len ax pc ls st M) : W p l e R s m args below meth c0 H locs cells slots Q (F0 m pc ls' (st.map (am_tr ad fm))) := by
  have hlen : len = 1 := Nat.eq_of_beq_eq_true hok
  subst hlen
  replace h := am_u1_spec (show am_u1 st _ from h)
  obtain ⟨x, r, rfl, h0, h⟩ := h
  exact lv_i2l hx hb hdg (i3_long h0) (h H locs ls' hP hS hL hM)
set_option maxHeartbeats 1000000 in
set_option maxRecDepth 100000 in
theorem am_c_i2b {i d : Nat} {K : am_K} (hi : i < tb_n)
    (hx : p.tables.exec = Jvm.exec) (hb : c0.code = tb_cc i) (hml : c0.maxLocals = tb_ml i) (hown : s.vm.findClass (tb_cn (tb_own i)) = some m.cls) (hts : ∀ w ∈ am_ws, w.before args s = true) (hE : am_E wb dC dI ad ca fm L xs A s s.heap) (hA : ∀ q, s.heap.size ≤ q → A q)
    (hR : d + 1 ≤ R.frames ∧ 80 * d + 80 ≤ R.locals) (hcs : cells ≤ R.cells ∧ slots ≤ R.slots)
    (hC : ∀ (j : Nat) (as : List am_V) (M : am_M) (k : am_K), 0 < j → j < tb_n → am_Call wb d j as M k → am_Cal wb l d dC dI ad ca fm L xs j as M k)
    (hret : ∀ (pc : Nat) (H : Heap) (locs : List Loc) (ls : Array Slot) (v : Option am_V) (M : am_M), am_retOK (tb_rt i) pc (tb_cc i) v → K v M → va_P (dC, dI) vwCl (am_W wb ad ca M) H → va_S A s.heap H locs → am_scr L xs M → W p l e R s m args below meth c0 H locs cells slots Q (F0 m pc ls ((am_ps v []).map (am_tr ad fm))))
    {pc len : Nat} {ls : List (Option am_V)} {st : List am_V} {M : am_M} {ax : List Nat} {H : Heap} {locs : List Loc} {ls' : Array Slot}  (hfm : fm.isRef = true)
    (hP : va_P (dC, dI) vwCl (am_W wb ad ca M) H) (hS : va_S A s.heap H locs) (hL : am_L ad fm (tb_ml i) ls ls') (hM : am_scr L xs M) (hdg : decode (tb_cc i) pc = .ok ((.i2b), len)) (hok : tb_okx (tb_own i) pc len (.i2b) ax = true)
    (h : am_ex wb (tb_rt i) (am_Call wb d) K (am_J wb p l e R s m args below meth c0 cells slots Q dC dI ad ca fm L xs A (tb_ml i)) (.i2b) len ax pc ls st M) : W p l e R s m args below meth c0 H locs cells slots Q (F0 m pc ls' (st.map (am_tr ad fm))) := by
  have hlen : len = 1 := Nat.eq_of_beq_eq_true hok
  subst hlen
  replace h := am_u1_spec (show am_u1 st _ from h)
  obtain ⟨x, r, rfl, h⟩ := h
  exact lv_i2b hx hb hdg (i3_of _).symm (h H locs ls' hP hS hL hM)
set_option maxHeartbeats 1000000 in
set_option maxRecDepth 100000 in
theorem am_c_i2s {i d : Nat} {K : am_K} (hi : i < tb_n)
    (hx : p.tables.exec = Jvm.exec) (hb : c0.code = tb_cc i) (hml : c0.maxLocals = tb_ml i) (hown : s.vm.findClass (tb_cn (tb_own i)) = some m.cls) (hts : ∀ w ∈ am_ws, w.before args s = true) (hE : am_E wb dC dI ad ca fm L xs A s s.heap) (hA : ∀ q, s.heap.size ≤ q → A q)
    (hR : d + 1 ≤ R.frames ∧ 80 * d + 80 ≤ R.locals) (hcs : cells ≤ R.cells ∧ slots ≤ R.slots)
    (hC : ∀ (j : Nat) (as : List am_V) (M : am_M) (k : am_K), 0 < j → j < tb_n → am_Call wb d j as M k → am_Cal wb l d dC dI ad ca fm L xs j as M k)
    (hret : ∀ (pc : Nat) (H : Heap) (locs : List Loc) (ls : Array Slot) (v : Option am_V) (M : am_M), am_retOK (tb_rt i) pc (tb_cc i) v → K v M → va_P (dC, dI) vwCl (am_W wb ad ca M) H → va_S A s.heap H locs → am_scr L xs M → W p l e R s m args below meth c0 H locs cells slots Q (F0 m pc ls ((am_ps v []).map (am_tr ad fm))))
    {pc len : Nat} {ls : List (Option am_V)} {st : List am_V} {M : am_M} {ax : List Nat} {H : Heap} {locs : List Loc} {ls' : Array Slot}  (hfm : fm.isRef = true)
    (hP : va_P (dC, dI) vwCl (am_W wb ad ca M) H) (hS : va_S A s.heap H locs) (hL : am_L ad fm (tb_ml i) ls ls') (hM : am_scr L xs M) (hdg : decode (tb_cc i) pc = .ok ((.i2s), len)) (hok : tb_okx (tb_own i) pc len (.i2s) ax = true)
    (h : am_ex wb (tb_rt i) (am_Call wb d) K (am_J wb p l e R s m args below meth c0 cells slots Q dC dI ad ca fm L xs A (tb_ml i)) (.i2s) len ax pc ls st M) : W p l e R s m args below meth c0 H locs cells slots Q (F0 m pc ls' (st.map (am_tr ad fm))) := by
  have hlen : len = 1 := Nat.eq_of_beq_eq_true hok
  subst hlen
  replace h := am_u1_spec (show am_u1 st _ from h)
  obtain ⟨x, r, rfl, h⟩ := h
  exact lv_i2s hx hb hdg (i3_of _).symm (h H locs ls' hP hS hL hM)
set_option maxHeartbeats 1000000 in
set_option maxRecDepth 100000 in
theorem am_c_i2c {i d : Nat} {K : am_K} (hi : i < tb_n)
    (hx : p.tables.exec = Jvm.exec) (hb : c0.code = tb_cc i) (hml : c0.maxLocals = tb_ml i) (hown : s.vm.findClass (tb_cn (tb_own i)) = some m.cls) (hts : ∀ w ∈ am_ws, w.before args s = true) (hE : am_E wb dC dI ad ca fm L xs A s s.heap) (hA : ∀ q, s.heap.size ≤ q → A q)
    (hR : d + 1 ≤ R.frames ∧ 80 * d + 80 ≤ R.locals) (hcs : cells ≤ R.cells ∧ slots ≤ R.slots)
    (hC : ∀ (j : Nat) (as : List am_V) (M : am_M) (k : am_K), 0 < j → j < tb_n → am_Call wb d j as M k → am_Cal wb l d dC dI ad ca fm L xs j as M k)
    (hret : ∀ (pc : Nat) (H : Heap) (locs : List Loc) (ls : Array Slot) (v : Option am_V) (M : am_M), am_retOK (tb_rt i) pc (tb_cc i) v → K v M → va_P (dC, dI) vwCl (am_W wb ad ca M) H → va_S A s.heap H locs → am_scr L xs M → W p l e R s m args below meth c0 H locs cells slots Q (F0 m pc ls ((am_ps v []).map (am_tr ad fm))))
    {pc len : Nat} {ls : List (Option am_V)} {st : List am_V} {M : am_M} {ax : List Nat} {H : Heap} {locs : List Loc} {ls' : Array Slot}  (hfm : fm.isRef = true)
    (hP : va_P (dC, dI) vwCl (am_W wb ad ca M) H) (hS : va_S A s.heap H locs) (hL : am_L ad fm (tb_ml i) ls ls') (hM : am_scr L xs M) (hdg : decode (tb_cc i) pc = .ok ((.i2c), len)) (hok : tb_okx (tb_own i) pc len (.i2c) ax = true)
    (h : am_ex wb (tb_rt i) (am_Call wb d) K (am_J wb p l e R s m args below meth c0 cells slots Q dC dI ad ca fm L xs A (tb_ml i)) (.i2c) len ax pc ls st M) : W p l e R s m args below meth c0 H locs cells slots Q (F0 m pc ls' (st.map (am_tr ad fm))) := by
  have hlen : len = 1 := Nat.eq_of_beq_eq_true hok
  subst hlen
  replace h := am_u1_spec (show am_u1 st _ from h)
  obtain ⟨x, r, rfl, h⟩ := h
  exact lv_i2c hx hb hdg (i3_of _).symm (h H locs ls' hP hS hL hM)
set_option maxHeartbeats 1000000 in
set_option maxRecDepth 100000 in
theorem am_c_lcmp {i d : Nat} {K : am_K} (hi : i < tb_n)
    (hx : p.tables.exec = Jvm.exec) (hb : c0.code = tb_cc i) (hml : c0.maxLocals = tb_ml i) (hown : s.vm.findClass (tb_cn (tb_own i)) = some m.cls) (hts : ∀ w ∈ am_ws, w.before args s = true) (hE : am_E wb dC dI ad ca fm L xs A s s.heap) (hA : ∀ q, s.heap.size ≤ q → A q)
    (hR : d + 1 ≤ R.frames ∧ 80 * d + 80 ≤ R.locals) (hcs : cells ≤ R.cells ∧ slots ≤ R.slots)
    (hC : ∀ (j : Nat) (as : List am_V) (M : am_M) (k : am_K), 0 < j → j < tb_n → am_Call wb d j as M k → am_Cal wb l d dC dI ad ca fm L xs j as M k)
    (hret : ∀ (pc : Nat) (H : Heap) (locs : List Loc) (ls : Array Slot) (v : Option am_V) (M : am_M), am_retOK (tb_rt i) pc (tb_cc i) v → K v M → va_P (dC, dI) vwCl (am_W wb ad ca M) H → va_S A s.heap H locs → am_scr L xs M → W p l e R s m args below meth c0 H locs cells slots Q (F0 m pc ls ((am_ps v []).map (am_tr ad fm))))
    {pc len : Nat} {ls : List (Option am_V)} {st : List am_V} {M : am_M} {ax : List Nat} {H : Heap} {locs : List Loc} {ls' : Array Slot}  (hfm : fm.isRef = true)
    (hP : va_P (dC, dI) vwCl (am_W wb ad ca M) H) (hS : va_S A s.heap H locs) (hL : am_L ad fm (tb_ml i) ls ls') (hM : am_scr L xs M) (hdg : decode (tb_cc i) pc = .ok ((.lcmp), len)) (hok : tb_okx (tb_own i) pc len (.lcmp) ax = true)
    (h : am_ex wb (tb_rt i) (am_Call wb d) K (am_J wb p l e R s m args below meth c0 cells slots Q dC dI ad ca fm L xs A (tb_ml i)) (.lcmp) len ax pc ls st M) : W p l e R s m args below meth c0 H locs cells slots Q (F0 m pc ls' (st.map (am_tr ad fm))) := by
  have hlen : len = 1 := Nat.eq_of_beq_eq_true hok
  subst hlen
  replace h := am_l2_spec (show am_l2 st _ from h)
  obtain ⟨x, y, r, rfl, ⟨h1, h2⟩, h3, h4, h5⟩ := h
  refine W.lcmp hx hb hdg ?_
  rcases Int.lt_trichotomy x y with q | q | q
  · rw [am_lcmp_lt h1 h2 q]
    exact h3 q H locs ls' hP hS hL hM
  · rw [am_lcmp_eq q]
    exact h4 q H locs ls' hP hS hL hM
  · rw [am_lcmp_gt h1 h2 q]
    exact h5 q H locs ls' hP hS hL hM
set_option maxHeartbeats 1000000 in
set_option maxRecDepth 100000 in
theorem am_c_dup {i d : Nat} {K : am_K} (hi : i < tb_n)
    (hx : p.tables.exec = Jvm.exec) (hb : c0.code = tb_cc i) (hml : c0.maxLocals = tb_ml i) (hown : s.vm.findClass (tb_cn (tb_own i)) = some m.cls) (hts : ∀ w ∈ am_ws, w.before args s = true) (hE : am_E wb dC dI ad ca fm L xs A s s.heap) (hA : ∀ q, s.heap.size ≤ q → A q)
    (hR : d + 1 ≤ R.frames ∧ 80 * d + 80 ≤ R.locals) (hcs : cells ≤ R.cells ∧ slots ≤ R.slots)
    (hC : ∀ (j : Nat) (as : List am_V) (M : am_M) (k : am_K), 0 < j → j < tb_n → am_Call wb d j as M k → am_Cal wb l d dC dI ad ca fm L xs j as M k)
    (hret : ∀ (pc : Nat) (H : Heap) (locs : List Loc) (ls : Array Slot) (v : Option am_V) (M : am_M), am_retOK (tb_rt i) pc (tb_cc i) v → K v M → va_P (dC, dI) vwCl (am_W wb ad ca M) H → va_S A s.heap H locs → am_scr L xs M → W p l e R s m args below meth c0 H locs cells slots Q (F0 m pc ls ((am_ps v []).map (am_tr ad fm))))
    {pc len : Nat} {ls : List (Option am_V)} {st : List am_V} {M : am_M} {ax : List Nat} {H : Heap} {locs : List Loc} {ls' : Array Slot}  (hfm : fm.isRef = true)
    (hP : va_P (dC, dI) vwCl (am_W wb ad ca M) H) (hS : va_S A s.heap H locs) (hL : am_L ad fm (tb_ml i) ls ls') (hM : am_scr L xs M) (hdg : decode (tb_cc i) pc = .ok ((.dup), len)) (hok : tb_okx (tb_own i) pc len (.dup) ax = true)
    (h : am_ex wb (tb_rt i) (am_Call wb d) K (am_J wb p l e R s m args below meth c0 cells slots Q dC dI ad ca fm L xs A (tb_ml i)) (.dup) len ax pc ls st M) : W p l e R s m args below meth c0 H locs cells slots Q (F0 m pc ls' (st.map (am_tr ad fm))) := by
  have hlen : len = 1 := Nat.eq_of_beq_eq_true hok
  subst hlen
  rcases st with _ | ⟨v, r⟩ <;> try exact False.elim h
  obtain ⟨hc, h2⟩ := am_cond (show (bif am_c1 v then _ else False) from h)
  exact lv_dup hx hb hdg (by rw [am_tr_cat1 hfm, hc]; rfl) (h2 H locs ls' hP hS hL hM)
set_option maxHeartbeats 1000000 in
set_option maxRecDepth 100000 in
theorem am_c_pop {i d : Nat} {K : am_K} (hi : i < tb_n)
    (hx : p.tables.exec = Jvm.exec) (hb : c0.code = tb_cc i) (hml : c0.maxLocals = tb_ml i) (hown : s.vm.findClass (tb_cn (tb_own i)) = some m.cls) (hts : ∀ w ∈ am_ws, w.before args s = true) (hE : am_E wb dC dI ad ca fm L xs A s s.heap) (hA : ∀ q, s.heap.size ≤ q → A q)
    (hR : d + 1 ≤ R.frames ∧ 80 * d + 80 ≤ R.locals) (hcs : cells ≤ R.cells ∧ slots ≤ R.slots)
    (hC : ∀ (j : Nat) (as : List am_V) (M : am_M) (k : am_K), 0 < j → j < tb_n → am_Call wb d j as M k → am_Cal wb l d dC dI ad ca fm L xs j as M k)
    (hret : ∀ (pc : Nat) (H : Heap) (locs : List Loc) (ls : Array Slot) (v : Option am_V) (M : am_M), am_retOK (tb_rt i) pc (tb_cc i) v → K v M → va_P (dC, dI) vwCl (am_W wb ad ca M) H → va_S A s.heap H locs → am_scr L xs M → W p l e R s m args below meth c0 H locs cells slots Q (F0 m pc ls ((am_ps v []).map (am_tr ad fm))))
    {pc len : Nat} {ls : List (Option am_V)} {st : List am_V} {M : am_M} {ax : List Nat} {H : Heap} {locs : List Loc} {ls' : Array Slot}  (hfm : fm.isRef = true)
    (hP : va_P (dC, dI) vwCl (am_W wb ad ca M) H) (hS : va_S A s.heap H locs) (hL : am_L ad fm (tb_ml i) ls ls') (hM : am_scr L xs M) (hdg : decode (tb_cc i) pc = .ok ((.pop), len)) (hok : tb_okx (tb_own i) pc len (.pop) ax = true)
    (h : am_ex wb (tb_rt i) (am_Call wb d) K (am_J wb p l e R s m args below meth c0 cells slots Q dC dI ad ca fm L xs A (tb_ml i)) (.pop) len ax pc ls st M) : W p l e R s m args below meth c0 H locs cells slots Q (F0 m pc ls' (st.map (am_tr ad fm))) := by
  have hlen : len = 1 := Nat.eq_of_beq_eq_true hok
  subst hlen
  rcases st with _ | ⟨v, r⟩ <;> try exact False.elim h
  obtain ⟨hc, h2⟩ := am_cond (show (bif am_c1 v then _ else False) from h)
  exact lv_pop hx hb hdg (by rw [am_tr_cat1 hfm, hc]; rfl) (h2 H locs ls' hP hS hL hM)
set_option maxHeartbeats 1000000 in
set_option maxRecDepth 100000 in
theorem am_c_dup2 {i d : Nat} {K : am_K} (hi : i < tb_n)
    (hx : p.tables.exec = Jvm.exec) (hb : c0.code = tb_cc i) (hml : c0.maxLocals = tb_ml i) (hown : s.vm.findClass (tb_cn (tb_own i)) = some m.cls) (hts : ∀ w ∈ am_ws, w.before args s = true) (hE : am_E wb dC dI ad ca fm L xs A s s.heap) (hA : ∀ q, s.heap.size ≤ q → A q)
    (hR : d + 1 ≤ R.frames ∧ 80 * d + 80 ≤ R.locals) (hcs : cells ≤ R.cells ∧ slots ≤ R.slots)
    (hC : ∀ (j : Nat) (as : List am_V) (M : am_M) (k : am_K), 0 < j → j < tb_n → am_Call wb d j as M k → am_Cal wb l d dC dI ad ca fm L xs j as M k)
    (hret : ∀ (pc : Nat) (H : Heap) (locs : List Loc) (ls : Array Slot) (v : Option am_V) (M : am_M), am_retOK (tb_rt i) pc (tb_cc i) v → K v M → va_P (dC, dI) vwCl (am_W wb ad ca M) H → va_S A s.heap H locs → am_scr L xs M → W p l e R s m args below meth c0 H locs cells slots Q (F0 m pc ls ((am_ps v []).map (am_tr ad fm))))
    {pc len : Nat} {ls : List (Option am_V)} {st : List am_V} {M : am_M} {ax : List Nat} {H : Heap} {locs : List Loc} {ls' : Array Slot}  (hfm : fm.isRef = true)
    (hP : va_P (dC, dI) vwCl (am_W wb ad ca M) H) (hS : va_S A s.heap H locs) (hL : am_L ad fm (tb_ml i) ls ls') (hM : am_scr L xs M) (hdg : decode (tb_cc i) pc = .ok ((.dup2), len)) (hok : tb_okx (tb_own i) pc len (.dup2) ax = true)
    (h : am_ex wb (tb_rt i) (am_Call wb d) K (am_J wb p l e R s m args below meth c0 cells slots Q dC dI ad ca fm L xs A (tb_ml i)) (.dup2) len ax pc ls st M) : W p l e R s m args below meth c0 H locs cells slots Q (F0 m pc ls' (st.map (am_tr ad fm))) := by
  have hlen : len = 1 := Nat.eq_of_beq_eq_true hok
  subst hlen
  rcases st with _ | ⟨v, _ | ⟨w, r⟩⟩ <;> try exact False.elim h
  obtain ⟨hc, h2⟩ := am_cond (show (bif am_c1 v && am_c1 w then _ else False) from h)
  simp only [Bool.and_eq_true] at hc
  exact lv_dup2_11 hx hb hdg (by rw [am_tr_cat1 hfm, hc.1]; rfl) (by rw [am_tr_cat1 hfm, hc.2]; rfl) (h2 H locs ls' hP hS hL hM)
set_option maxHeartbeats 1000000 in
set_option maxRecDepth 100000 in
theorem am_c_goto {i d : Nat} {K : am_K} (hi : i < tb_n)
    (hx : p.tables.exec = Jvm.exec) (hb : c0.code = tb_cc i) (hml : c0.maxLocals = tb_ml i) (hown : s.vm.findClass (tb_cn (tb_own i)) = some m.cls) (hts : ∀ w ∈ am_ws, w.before args s = true) (hE : am_E wb dC dI ad ca fm L xs A s s.heap) (hA : ∀ q, s.heap.size ≤ q → A q)
    (hR : d + 1 ≤ R.frames ∧ 80 * d + 80 ≤ R.locals) (hcs : cells ≤ R.cells ∧ slots ≤ R.slots)
    (hC : ∀ (j : Nat) (as : List am_V) (M : am_M) (k : am_K), 0 < j → j < tb_n → am_Call wb d j as M k → am_Cal wb l d dC dI ad ca fm L xs j as M k)
    (hret : ∀ (pc : Nat) (H : Heap) (locs : List Loc) (ls : Array Slot) (v : Option am_V) (M : am_M), am_retOK (tb_rt i) pc (tb_cc i) v → K v M → va_P (dC, dI) vwCl (am_W wb ad ca M) H → va_S A s.heap H locs → am_scr L xs M → W p l e R s m args below meth c0 H locs cells slots Q (F0 m pc ls ((am_ps v []).map (am_tr ad fm))))
    {pc len : Nat} {ls : List (Option am_V)} {st : List am_V} {M : am_M} {ax : List Nat} {H : Heap} {locs : List Loc} {ls' : Array Slot} {off : Int} (hfm : fm.isRef = true)
    (hP : va_P (dC, dI) vwCl (am_W wb ad ca M) H) (hS : va_S A s.heap H locs) (hL : am_L ad fm (tb_ml i) ls ls') (hM : am_scr L xs M) (hdg : decode (tb_cc i) pc = .ok ((.goto off), len)) (hok : tb_okx (tb_own i) pc len (.goto off) ax = true)
    (h : am_ex wb (tb_rt i) (am_Call wb d) K (am_J wb p l e R s m args below meth c0 cells slots Q dC dI ad ca fm L xs A (tb_ml i)) (.goto off) len ax pc ls st M) : W p l e R s m args below meth c0 H locs cells slots Q (F0 m pc ls' (st.map (am_tr ad fm))) := by
  replace h := am_a1_spec (show am_a1 ax _ from h)
  obtain ⟨t, rfl, h⟩ := h
  replace hok : (Nat.beq len 3 && decide ((pc : Int) + off = (t : Int))) = true := hok
  simp only [Bool.and_eq_true] at hok
  have hlen : len = 3 := Nat.eq_of_beq_eq_true hok.1
  subst hlen
  have ht : (pc : Int) + off = (t : Int) := of_decide_eq_true hok.2
  exact lv_goto hx hb hdg ht (h H locs ls' hP hS hL hM)
set_option maxHeartbeats 1000000 in
set_option maxRecDepth 100000 in
theorem am_c_ifCond {i d : Nat} {K : am_K} (hi : i < tb_n)
    (hx : p.tables.exec = Jvm.exec) (hb : c0.code = tb_cc i) (hml : c0.maxLocals = tb_ml i) (hown : s.vm.findClass (tb_cn (tb_own i)) = some m.cls) (hts : ∀ w ∈ am_ws, w.before args s = true) (hE : am_E wb dC dI ad ca fm L xs A s s.heap) (hA : ∀ q, s.heap.size ≤ q → A q)
    (hR : d + 1 ≤ R.frames ∧ 80 * d + 80 ≤ R.locals) (hcs : cells ≤ R.cells ∧ slots ≤ R.slots)
    (hC : ∀ (j : Nat) (as : List am_V) (M : am_M) (k : am_K), 0 < j → j < tb_n → am_Call wb d j as M k → am_Cal wb l d dC dI ad ca fm L xs j as M k)
    (hret : ∀ (pc : Nat) (H : Heap) (locs : List Loc) (ls : Array Slot) (v : Option am_V) (M : am_M), am_retOK (tb_rt i) pc (tb_cc i) v → K v M → va_P (dC, dI) vwCl (am_W wb ad ca M) H → va_S A s.heap H locs → am_scr L xs M → W p l e R s m args below meth c0 H locs cells slots Q (F0 m pc ls ((am_ps v []).map (am_tr ad fm))))
    {pc len : Nat} {ls : List (Option am_V)} {st : List am_V} {M : am_M} {ax : List Nat} {H : Heap} {locs : List Loc} {ls' : Array Slot} {c : Jvm.ClassFile.Cond} {off : Int} (hfm : fm.isRef = true)
    (hP : va_P (dC, dI) vwCl (am_W wb ad ca M) H) (hS : va_S A s.heap H locs) (hL : am_L ad fm (tb_ml i) ls ls') (hM : am_scr L xs M) (hdg : decode (tb_cc i) pc = .ok ((.ifCond c off), len)) (hok : tb_okx (tb_own i) pc len (.ifCond c off) ax = true)
    (h : am_ex wb (tb_rt i) (am_Call wb d) K (am_J wb p l e R s m args below meth c0 cells slots Q dC dI ad ca fm L xs A (tb_ml i)) (.ifCond c off) len ax pc ls st M) : W p l e R s m args below meth c0 H locs cells slots Q (F0 m pc ls' (st.map (am_tr ad fm))) := by
  replace h := am_a1_spec (show am_a1 ax _ from h)
  obtain ⟨t, rfl, h⟩ := h
  replace hok : (Nat.beq len 3 && decide ((pc : Int) + off = (t : Int))) = true := hok
  simp only [Bool.and_eq_true] at hok
  have hlen : len = 3 := Nat.eq_of_beq_eq_true hok.1
  subst hlen
  have ht : (pc : Int) + off = (t : Int) := of_decide_eq_true hok.2
  replace h := am_u1_spec (show am_u1 st _ from h)
  obtain ⟨x, r, rfl, ⟨q1, h1, h2⟩⟩ := h
  cases c
  · exact lv_if_eq hx hb hdg ht (fun z => h1 ((am_z_eq q1).mp z) H locs ls' hP hS hL hM) (fun z => h2 (fun zz => z ((am_z_eq q1).mpr zz)) H locs ls' hP hS hL hM)
  · exact lv_if_ne hx hb hdg ht (fun z => h1 ((not_congr (am_z_eq q1)).mp z) H locs ls' hP hS hL hM) (fun z => h2 (fun zz => zz ((am_z_eq q1).mp z)) H locs ls' hP hS hL hM)
  · exact lv_if_lt hx hb hdg ht (fun z => h1 ((am_z_lt q1).mp z) H locs ls' hP hS hL hM) (fun z => h2 (fun zz => z ((am_z_lt q1).mpr zz)) H locs ls' hP hS hL hM)
  · exact lv_if_ge hx hb hdg ht (fun z => h1 ((am_z_ge q1).mp z) H locs ls' hP hS hL hM) (fun z => h2 (fun zz => z ((am_z_ge q1).mpr zz)) H locs ls' hP hS hL hM)
  · exact lv_if_gt hx hb hdg ht (fun z => h1 ((am_z_gt q1).mp z) H locs ls' hP hS hL hM) (fun z => h2 (fun zz => z ((am_z_gt q1).mpr zz)) H locs ls' hP hS hL hM)
  · exact lv_if_le hx hb hdg ht (fun z => h1 ((am_z_le q1).mp z) H locs ls' hP hS hL hM) (fun z => h2 (fun zz => z ((am_z_le q1).mpr zz)) H locs ls' hP hS hL hM)
set_option maxHeartbeats 1000000 in
set_option maxRecDepth 100000 in
theorem am_c_if_icmp {i d : Nat} {K : am_K} (hi : i < tb_n)
    (hx : p.tables.exec = Jvm.exec) (hb : c0.code = tb_cc i) (hml : c0.maxLocals = tb_ml i) (hown : s.vm.findClass (tb_cn (tb_own i)) = some m.cls) (hts : ∀ w ∈ am_ws, w.before args s = true) (hE : am_E wb dC dI ad ca fm L xs A s s.heap) (hA : ∀ q, s.heap.size ≤ q → A q)
    (hR : d + 1 ≤ R.frames ∧ 80 * d + 80 ≤ R.locals) (hcs : cells ≤ R.cells ∧ slots ≤ R.slots)
    (hC : ∀ (j : Nat) (as : List am_V) (M : am_M) (k : am_K), 0 < j → j < tb_n → am_Call wb d j as M k → am_Cal wb l d dC dI ad ca fm L xs j as M k)
    (hret : ∀ (pc : Nat) (H : Heap) (locs : List Loc) (ls : Array Slot) (v : Option am_V) (M : am_M), am_retOK (tb_rt i) pc (tb_cc i) v → K v M → va_P (dC, dI) vwCl (am_W wb ad ca M) H → va_S A s.heap H locs → am_scr L xs M → W p l e R s m args below meth c0 H locs cells slots Q (F0 m pc ls ((am_ps v []).map (am_tr ad fm))))
    {pc len : Nat} {ls : List (Option am_V)} {st : List am_V} {M : am_M} {ax : List Nat} {H : Heap} {locs : List Loc} {ls' : Array Slot} {c : Jvm.ClassFile.Cond} {off : Int} (hfm : fm.isRef = true)
    (hP : va_P (dC, dI) vwCl (am_W wb ad ca M) H) (hS : va_S A s.heap H locs) (hL : am_L ad fm (tb_ml i) ls ls') (hM : am_scr L xs M) (hdg : decode (tb_cc i) pc = .ok ((.if_icmp c off), len)) (hok : tb_okx (tb_own i) pc len (.if_icmp c off) ax = true)
    (h : am_ex wb (tb_rt i) (am_Call wb d) K (am_J wb p l e R s m args below meth c0 cells slots Q dC dI ad ca fm L xs A (tb_ml i)) (.if_icmp c off) len ax pc ls st M) : W p l e R s m args below meth c0 H locs cells slots Q (F0 m pc ls' (st.map (am_tr ad fm))) := by
  replace h := am_a1_spec (show am_a1 ax _ from h)
  obtain ⟨t, rfl, h⟩ := h
  replace hok : (Nat.beq len 3 && decide ((pc : Int) + off = (t : Int))) = true := hok
  simp only [Bool.and_eq_true] at hok
  have hlen : len = 3 := Nat.eq_of_beq_eq_true hok.1
  subst hlen
  have ht : (pc : Int) + off = (t : Int) := of_decide_eq_true hok.2
  replace h := am_u2_spec (show am_u2 st _ from h)
  obtain ⟨x, y, r, rfl, ⟨⟨q1, q2⟩, h1, h2⟩⟩ := h
  cases c
  · exact lv_icmp_eq hx hb hdg ht (fun z => h1 ((i3_eq q1 q2).mp z) H locs ls' hP hS hL hM) (fun z => h2 (fun zz => z ((i3_eq q1 q2).mpr zz)) H locs ls' hP hS hL hM)
  · exact lv_icmp_ne hx hb hdg ht (fun z => h1 ((not_congr (i3_eq q1 q2)).mp z) H locs ls' hP hS hL hM) (fun z => h2 (fun zz => zz ((i3_eq q1 q2).mp z)) H locs ls' hP hS hL hM)
  · exact lv_icmp_lt hx hb hdg ht (fun z => h1 ((i3_lt q1 q2).mp z) H locs ls' hP hS hL hM) (fun z => h2 (fun zz => z ((i3_lt q1 q2).mpr zz)) H locs ls' hP hS hL hM)
  · exact lv_icmp_ge hx hb hdg ht (fun z => h1 ((i3_le q2 q1).mp z) H locs ls' hP hS hL hM) (fun z => h2 (fun zz => z ((i3_le q2 q1).mpr zz)) H locs ls' hP hS hL hM)
  · exact lv_icmp_gt hx hb hdg ht (fun z => h1 ((i3_lt q2 q1).mp z) H locs ls' hP hS hL hM) (fun z => h2 (fun zz => z ((i3_lt q2 q1).mpr zz)) H locs ls' hP hS hL hM)
  · exact lv_icmp_le hx hb hdg ht (fun z => h1 ((i3_le q1 q2).mp z) H locs ls' hP hS hL hM) (fun z => h2 (fun zz => z ((i3_le q1 q2).mpr zz)) H locs ls' hP hS hL hM)
set_option maxHeartbeats 1000000 in
set_option maxRecDepth 100000 in
theorem am_c_ifnull {i d : Nat} {K : am_K} (hi : i < tb_n)
    (hx : p.tables.exec = Jvm.exec) (hb : c0.code = tb_cc i) (hml : c0.maxLocals = tb_ml i) (hown : s.vm.findClass (tb_cn (tb_own i)) = some m.cls) (hts : ∀ w ∈ am_ws, w.before args s = true) (hE : am_E wb dC dI ad ca fm L xs A s s.heap) (hA : ∀ q, s.heap.size ≤ q → A q)
    (hR : d + 1 ≤ R.frames ∧ 80 * d + 80 ≤ R.locals) (hcs : cells ≤ R.cells ∧ slots ≤ R.slots)
    (hC : ∀ (j : Nat) (as : List am_V) (M : am_M) (k : am_K), 0 < j → j < tb_n → am_Call wb d j as M k → am_Cal wb l d dC dI ad ca fm L xs j as M k)
    (hret : ∀ (pc : Nat) (H : Heap) (locs : List Loc) (ls : Array Slot) (v : Option am_V) (M : am_M), am_retOK (tb_rt i) pc (tb_cc i) v → K v M → va_P (dC, dI) vwCl (am_W wb ad ca M) H → va_S A s.heap H locs → am_scr L xs M → W p l e R s m args below meth c0 H locs cells slots Q (F0 m pc ls ((am_ps v []).map (am_tr ad fm))))
    {pc len : Nat} {ls : List (Option am_V)} {st : List am_V} {M : am_M} {ax : List Nat} {H : Heap} {locs : List Loc} {ls' : Array Slot} {off : Int} (hfm : fm.isRef = true)
    (hP : va_P (dC, dI) vwCl (am_W wb ad ca M) H) (hS : va_S A s.heap H locs) (hL : am_L ad fm (tb_ml i) ls ls') (hM : am_scr L xs M) (hdg : decode (tb_cc i) pc = .ok ((.ifnull off), len)) (hok : tb_okx (tb_own i) pc len (.ifnull off) ax = true)
    (h : am_ex wb (tb_rt i) (am_Call wb d) K (am_J wb p l e R s m args below meth c0 cells slots Q dC dI ad ca fm L xs A (tb_ml i)) (.ifnull off) len ax pc ls st M) : W p l e R s m args below meth c0 H locs cells slots Q (F0 m pc ls' (st.map (am_tr ad fm))) := by
  replace h := am_a1_spec (show am_a1 ax _ from h)
  obtain ⟨t, rfl, h⟩ := h
  replace hok : (Nat.beq len 3 && decide ((pc : Int) + off = (t : Int))) = true := hok
  simp only [Bool.and_eq_true] at hok
  have hlen : len = 3 := Nat.eq_of_beq_eq_true hok.1
  subst hlen
  have ht : (pc : Int) + off = (t : Int) := of_decide_eq_true hok.2
  rcases st with _ | ⟨(x | (x | (_ | ⟨a, b⟩))), r⟩ <;> try exact False.elim h
  · exact lv_ifnullN hx hb hdg ht (h H locs ls' hP hS hL hM)
  · obtain ⟨h54, h2⟩ := am_condF (show (bif Nat.beq a 54 then False else _) from h)
    rw [List.map_cons, am_tr_ref h54]
    exact lv_ifnull hx hb hdg (h2 H locs ls' hP hS hL hM)
set_option maxHeartbeats 1000000 in
set_option maxRecDepth 100000 in
theorem am_c_ifnonnull {i d : Nat} {K : am_K} (hi : i < tb_n)
    (hx : p.tables.exec = Jvm.exec) (hb : c0.code = tb_cc i) (hml : c0.maxLocals = tb_ml i) (hown : s.vm.findClass (tb_cn (tb_own i)) = some m.cls) (hts : ∀ w ∈ am_ws, w.before args s = true) (hE : am_E wb dC dI ad ca fm L xs A s s.heap) (hA : ∀ q, s.heap.size ≤ q → A q)
    (hR : d + 1 ≤ R.frames ∧ 80 * d + 80 ≤ R.locals) (hcs : cells ≤ R.cells ∧ slots ≤ R.slots)
    (hC : ∀ (j : Nat) (as : List am_V) (M : am_M) (k : am_K), 0 < j → j < tb_n → am_Call wb d j as M k → am_Cal wb l d dC dI ad ca fm L xs j as M k)
    (hret : ∀ (pc : Nat) (H : Heap) (locs : List Loc) (ls : Array Slot) (v : Option am_V) (M : am_M), am_retOK (tb_rt i) pc (tb_cc i) v → K v M → va_P (dC, dI) vwCl (am_W wb ad ca M) H → va_S A s.heap H locs → am_scr L xs M → W p l e R s m args below meth c0 H locs cells slots Q (F0 m pc ls ((am_ps v []).map (am_tr ad fm))))
    {pc len : Nat} {ls : List (Option am_V)} {st : List am_V} {M : am_M} {ax : List Nat} {H : Heap} {locs : List Loc} {ls' : Array Slot} {off : Int} (hfm : fm.isRef = true)
    (hP : va_P (dC, dI) vwCl (am_W wb ad ca M) H) (hS : va_S A s.heap H locs) (hL : am_L ad fm (tb_ml i) ls ls') (hM : am_scr L xs M) (hdg : decode (tb_cc i) pc = .ok ((.ifnonnull off), len)) (hok : tb_okx (tb_own i) pc len (.ifnonnull off) ax = true)
    (h : am_ex wb (tb_rt i) (am_Call wb d) K (am_J wb p l e R s m args below meth c0 cells slots Q dC dI ad ca fm L xs A (tb_ml i)) (.ifnonnull off) len ax pc ls st M) : W p l e R s m args below meth c0 H locs cells slots Q (F0 m pc ls' (st.map (am_tr ad fm))) := by
  replace h := am_a1_spec (show am_a1 ax _ from h)
  obtain ⟨t, rfl, h⟩ := h
  replace hok : (Nat.beq len 3 && decide ((pc : Int) + off = (t : Int))) = true := hok
  simp only [Bool.and_eq_true] at hok
  have hlen : len = 3 := Nat.eq_of_beq_eq_true hok.1
  subst hlen
  have ht : (pc : Int) + off = (t : Int) := of_decide_eq_true hok.2
  rcases st with _ | ⟨(x | (x | (_ | ⟨a, b⟩))), r⟩ <;> try exact False.elim h
  · exact lv_ifnonnullN hx hb hdg (h H locs ls' hP hS hL hM)
  · obtain ⟨h54, h2⟩ := am_condF (show (bif Nat.beq a 54 then False else _) from h)
    rw [List.map_cons, am_tr_ref h54]
    exact lv_ifnonnull hx hb hdg ht (h2 H locs ls' hP hS hL hM)
set_option maxHeartbeats 1000000 in
set_option maxRecDepth 100000 in
theorem am_c_tableswitch {i dd : Nat} {K : am_K} (hi : i < tb_n)
    (hx : p.tables.exec = Jvm.exec) (hb : c0.code = tb_cc i) (hml : c0.maxLocals = tb_ml i) (hown : s.vm.findClass (tb_cn (tb_own i)) = some m.cls) (hts : ∀ w ∈ am_ws, w.before args s = true) (hE : am_E wb dC dI ad ca fm L xs A s s.heap) (hA : ∀ q, s.heap.size ≤ q → A q)
    (hR : dd + 1 ≤ R.frames ∧ 80 * dd + 80 ≤ R.locals) (hcs : cells ≤ R.cells ∧ slots ≤ R.slots)
    (hC : ∀ (j : Nat) (as : List am_V) (M : am_M) (k : am_K), 0 < j → j < tb_n → am_Call wb dd j as M k → am_Cal wb l dd dC dI ad ca fm L xs j as M k)
    (hret : ∀ (pc : Nat) (H : Heap) (locs : List Loc) (ls : Array Slot) (v : Option am_V) (M : am_M), am_retOK (tb_rt i) pc (tb_cc i) v → K v M → va_P (dC, dI) vwCl (am_W wb ad ca M) H → va_S A s.heap H locs → am_scr L xs M → W p l e R s m args below meth c0 H locs cells slots Q (F0 m pc ls ((am_ps v []).map (am_tr ad fm))))
    {pc len : Nat} {ls : List (Option am_V)} {st : List am_V} {M : am_M} {ax : List Nat} {H : Heap} {locs : List Loc} {ls' : Array Slot} {d : Int} {lo : Int} {hi : Int} {offs : Array Int} (hfm : fm.isRef = true)
    (hP : va_P (dC, dI) vwCl (am_W wb ad ca M) H) (hS : va_S A s.heap H locs) (hL : am_L ad fm (tb_ml i) ls ls') (hM : am_scr L xs M) (hdg : decode (tb_cc i) pc = .ok ((.tableswitch d lo hi offs), len)) (hok : tb_okx (tb_own i) pc len (.tableswitch d lo hi offs) ax = true)
    (h : am_ex wb (tb_rt i) (am_Call wb dd) K (am_J wb p l e R s m args below meth c0 cells slots Q dC dI ad ca fm L xs A (tb_ml i)) (.tableswitch d lo hi offs) len ax pc ls st M) : W p l e R s m args below meth c0 H locs cells slots Q (F0 m pc ls' (st.map (am_tr ad fm))) := by
  replace h := am_ac_spec (show am_ac ax _ from h)
  obtain ⟨t, ts, rfl, h⟩ := h
  replace h := am_u1_spec (show am_u1 st _ from h)
  obtain ⟨x, r, rfl, h1, h2, h3⟩ := h
  replace hok : (decide ((pc : Int) + d = (t : Int)) && decide (offs.toList.map (fun o => (pc : Int) + o) = ts.map (fun t : Nat => (t : Int))) && decide (lo + (offs.size : Int) = hi + 1)) = true := hok
  simp only [Bool.and_eq_true, decide_eq_true_eq] at hok
  obtain ⟨⟨g1, g2⟩, g3⟩ := hok
  by_cases hin : x < lo ∨ hi < x
  · exact lv_tableOut hx hb hdg (by rw [i3_toInt h1]; exact hin) g1 (h3 hin H locs ls' hP hS hL hM)
  · have hj : (x - lo).toNat < offs.size := by omega
    obtain ⟨off, hoff⟩ : ∃ off, offs[(x - lo).toNat]? = some off := ⟨_, Array.getElem?_eq_getElem hj⟩
    have g4 := congrArg (fun l => l[(x - lo).toNat]?) g2
    simp only [List.getElem?_map, Array.getElem?_toList, hoff, Option.map_some] at g4
    obtain ⟨t2, ht2, ht3⟩ : ∃ t2 : Nat, ts[(x - lo).toNat]? = some t2 ∧ (pc : Int) + off = (t2 : Int) := by
      cases hq : ts[(x - lo).toNat]? with
      | none => rw [hq] at g4; simp at g4
      | some t2 =>
        rw [hq] at g4
        exact ⟨t2, rfl, by simpa using g4⟩
    exact lv_tableIn hx hb hdg (by rw [i3_toInt h1]; omega) (by rw [i3_toInt h1]; omega) (by rw [i3_toInt h1]; exact hoff) ht3 (am_sw_spec h2 (x - lo).toNat (by omega) t2 ht2 H locs ls' hP hS hL hM)
set_option maxHeartbeats 1000000 in
set_option maxRecDepth 100000 in
theorem am_c_lookupswitch {i dd : Nat} {K : am_K} (hi : i < tb_n)
    (hx : p.tables.exec = Jvm.exec) (hb : c0.code = tb_cc i) (hml : c0.maxLocals = tb_ml i) (hown : s.vm.findClass (tb_cn (tb_own i)) = some m.cls) (hts : ∀ w ∈ am_ws, w.before args s = true) (hE : am_E wb dC dI ad ca fm L xs A s s.heap) (hA : ∀ q, s.heap.size ≤ q → A q)
    (hR : dd + 1 ≤ R.frames ∧ 80 * dd + 80 ≤ R.locals) (hcs : cells ≤ R.cells ∧ slots ≤ R.slots)
    (hC : ∀ (j : Nat) (as : List am_V) (M : am_M) (k : am_K), 0 < j → j < tb_n → am_Call wb dd j as M k → am_Cal wb l dd dC dI ad ca fm L xs j as M k)
    (hret : ∀ (pc : Nat) (H : Heap) (locs : List Loc) (ls : Array Slot) (v : Option am_V) (M : am_M), am_retOK (tb_rt i) pc (tb_cc i) v → K v M → va_P (dC, dI) vwCl (am_W wb ad ca M) H → va_S A s.heap H locs → am_scr L xs M → W p l e R s m args below meth c0 H locs cells slots Q (F0 m pc ls ((am_ps v []).map (am_tr ad fm))))
    {pc len : Nat} {ls : List (Option am_V)} {st : List am_V} {M : am_M} {ax : List Nat} {H : Heap} {locs : List Loc} {ls' : Array Slot} {d : Int} {ps : Array (Int × Int)} (hfm : fm.isRef = true)
    (hP : va_P (dC, dI) vwCl (am_W wb ad ca M) H) (hS : va_S A s.heap H locs) (hL : am_L ad fm (tb_ml i) ls ls') (hM : am_scr L xs M) (hdg : decode (tb_cc i) pc = .ok ((.lookupswitch d ps), len)) (hok : tb_okx (tb_own i) pc len (.lookupswitch d ps) ax = true)
    (h : am_ex wb (tb_rt i) (am_Call wb dd) K (am_J wb p l e R s m args below meth c0 cells slots Q dC dI ad ca fm L xs A (tb_ml i)) (.lookupswitch d ps) len ax pc ls st M) : W p l e R s m args below meth c0 H locs cells slots Q (F0 m pc ls' (st.map (am_tr ad fm))) := by
  replace h := am_ac_spec (show am_ac ax _ from h)
  obtain ⟨t, ts, rfl, h⟩ := h
  replace h := am_u1_spec (show am_u1 st _ from h)
  obtain ⟨x, r, rfl, h1, h2⟩ := h
  replace hok : (decide ((pc : Int) + d = (t : Int)) && decide (ps.toList.map (fun o => (pc : Int) + o.2) = ts.map (fun t : Nat => (t : Int))) && (ps.toList.zip (ps.toList.drop 1)).all (fun (a, next) => a.1 < next.1) && ps.toList.all (fun a => decide (-2147483648 ≤ a.1 ∧ a.1 ≤ 2147483647))) = true := hok
  simp only [Bool.and_eq_true, decide_eq_true_eq] at hok
  obtain ⟨⟨⟨g1, g2⟩, g3⟩, g4⟩ := hok
  obtain ⟨t2, q1, q2⟩ := am_lw_spec (pc := pc) (f := fun t => am_J wb p l e R s m args below meth c0 cells slots Q dC dI ad ca fm L xs A (tb_ml i) (t, ls, r, M)) (d := t) h1 (dd := d) g1 g2 h2 (fun z => z)
  exact lv_lookup hx hb hdg g3 (by rw [i3_toInt h1]) q1 (q2 H locs ls' hP hS hL hM)
set_option maxHeartbeats 4000000 in
set_option maxRecDepth 100000 in
theorem am_step {i d : Nat} {K : am_K} (hi : i < tb_n)
    (hx : p.tables.exec = Jvm.exec) (hb : c0.code = tb_cc i) (hml : c0.maxLocals = tb_ml i) (hown : s.vm.findClass (tb_cn (tb_own i)) = some m.cls) (hts : ∀ w ∈ am_ws, w.before args s = true) (hE : am_E wb dC dI ad ca fm L xs A s s.heap) (hA : ∀ q, s.heap.size ≤ q → A q)
    (hR : d + 1 ≤ R.frames ∧ 80 * d + 80 ≤ R.locals) (hcs : cells ≤ R.cells ∧ slots ≤ R.slots)
    (hC : ∀ (j : Nat) (as : List am_V) (M : am_M) (k : am_K), 0 < j → j < tb_n → am_Call wb d j as M k → am_Cal wb l d dC dI ad ca fm L xs j as M k)
    (hret : ∀ (pc : Nat) (H : Heap) (locs : List Loc) (ls : Array Slot) (v : Option am_V) (M : am_M), am_retOK (tb_rt i) pc (tb_cc i) v → K v M → va_P (dC, dI) vwCl (am_W wb ad ca M) H → va_S A s.heap H locs → am_scr L xs M → W p l e R s m args below meth c0 H locs cells slots Q (F0 m pc ls ((am_ps v []).map (am_tr ad fm)))) :
    ∀ c, am_F wb (tb_ft i) (tb_rt i) (am_Call wb d) K (am_J wb p l e R s m args below meth c0 cells slots Q dC dI ad ca fm L xs A (tb_ml i)) c → am_J wb p l e R s m args below meth c0 cells slots Q dC dI ad ca fm L xs A (tb_ml i) c := by
  rintro ⟨pc, ls, st, M⟩ h H locs ls' hP hS hL hM
  have hfm : fm.isRef = true := hE.2.2.2.2.2.1.1
  dsimp only at hP hL hM ⊢
  unfold am_F at h
  (try dsimp only at h)
  cases hft : tb_ft i pc with
  | none => rw [hft] at h; exact h.elim
  | some z =>
  obtain ⟨ins, len, ax⟩ := z
  rw [hft] at h
  (try dsimp only at h)
  obtain ⟨hdg, hok⟩ := tb_spec hi hft
  cases ins
  case iconst n => exact am_c_iconst hi hx hb hml hown hts hE hA hR hcs hC hret hfm hP hS hL hM hdg hok h
  case bipush n => exact am_c_bipush hi hx hb hml hown hts hE hA hR hcs hC hret hfm hP hS hL hM hdg hok h
  case sipush n => exact am_c_sipush hi hx hb hml hown hts hE hA hR hcs hC hret hfm hP hS hL hM hdg hok h
  case lconst n => exact am_c_lconst hi hx hb hml hown hts hE hA hR hcs hC hret hfm hP hS hL hM hdg hok h
  case aconst_null => exact am_c_aconst_null hi hx hb hml hown hts hE hA hR hcs hC hret hfm hP hS hL hM hdg hok h
  case ldc idx => exact am_c_ldc hi hx hb hml hown hts hE hA hR hcs hC hret hfm hP hS hL hM hdg hok h
  case ldc_w idx => exact am_c_ldc_w hi hx hb hml hown hts hE hA hR hcs hC hret hfm hP hS hL hM hdg hok h
  case ldc2_w idx => exact am_c_ldc2_w hi hx hb hml hown hts hE hA hR hcs hC hret hfm hP hS hL hM hdg hok h
  case getfield idx => exact am_c_getfield hi hx hb hml hown hts hE hA hR hcs hC hret hfm hP hS hL hM hdg hok h
  case putfield idx => exact am_c_putfield hi hx hb hml hown hts hE hA hR hcs hC hret hfm hP hS hL hM hdg hok h
  case getstatic idx => exact am_c_getstatic hi hx hb hml hown hts hE hA hR hcs hC hret hfm hP hS hL hM hdg hok h
  case iaload => exact am_c_iaload hi hx hb hml hown hts hE hA hR hcs hC hret hfm hP hS hL hM hdg hok h
  case baload => exact am_c_baload hi hx hb hml hown hts hE hA hR hcs hC hret hfm hP hS hL hM hdg hok h
  case aaload => exact am_c_aaload hi hx hb hml hown hts hE hA hR hcs hC hret hfm hP hS hL hM hdg hok h
  case arraylength => exact am_c_arraylength hi hx hb hml hown hts hE hA hR hcs hC hret hfm hP hS hL hM hdg hok h
  case iastore => exact am_c_iastore hi hx hb hml hown hts hE hA hR hcs hC hret hfm hP hS hL hM hdg hok h
  case invokestatic idx => exact am_c_invokestatic hi hx hb hml hown hts hE hA hR hcs hC hret hfm hP hS hL hM hdg hok h
  case invokevirtual idx => exact am_c_invokevirtual hi hx hb hml hown hts hE hA hR hcs hC hret hfm hP hS hL hM hdg hok h
  case ireturn => exact am_c_ireturn hi hx hb hml hown hts hE hA hR hcs hC hret hfm hP hS hL hM hdg hok h
  case lreturn => exact am_c_lreturn hi hx hb hml hown hts hE hA hR hcs hC hret hfm hP hS hL hM hdg hok h
  case areturn => exact am_c_areturn hi hx hb hml hown hts hE hA hR hcs hC hret hfm hP hS hL hM hdg hok h
  case return_ => exact am_c_return_ hi hx hb hml hown hts hE hA hR hcs hC hret hfm hP hS hL hM hdg hok h
  case iload_n k => exact am_c_iload_n hi hx hb hml hown hts hE hA hR hcs hC hret hfm hP hS hL hM hdg hok h
  case iload k => exact am_c_iload hi hx hb hml hown hts hE hA hR hcs hC hret hfm hP hS hL hM hdg hok h
  case lload_n k => exact am_c_lload_n hi hx hb hml hown hts hE hA hR hcs hC hret hfm hP hS hL hM hdg hok h
  case lload k => exact am_c_lload hi hx hb hml hown hts hE hA hR hcs hC hret hfm hP hS hL hM hdg hok h
  case aload_n k => exact am_c_aload_n hi hx hb hml hown hts hE hA hR hcs hC hret hfm hP hS hL hM hdg hok h
  case aload k => exact am_c_aload hi hx hb hml hown hts hE hA hR hcs hC hret hfm hP hS hL hM hdg hok h
  case istore_n k => exact am_c_istore_n hi hx hb hml hown hts hE hA hR hcs hC hret hfm hP hS hL hM hdg hok h
  case istore k => exact am_c_istore hi hx hb hml hown hts hE hA hR hcs hC hret hfm hP hS hL hM hdg hok h
  case lstore_n k => exact am_c_lstore_n hi hx hb hml hown hts hE hA hR hcs hC hret hfm hP hS hL hM hdg hok h
  case lstore k => exact am_c_lstore hi hx hb hml hown hts hE hA hR hcs hC hret hfm hP hS hL hM hdg hok h
  case astore_n k => exact am_c_astore_n hi hx hb hml hown hts hE hA hR hcs hC hret hfm hP hS hL hM hdg hok h
  case astore k => exact am_c_astore hi hx hb hml hown hts hE hA hR hcs hC hret hfm hP hS hL hM hdg hok h
  case iinc k n => exact am_c_iinc hi hx hb hml hown hts hE hA hR hcs hC hret hfm hP hS hL hM hdg hok h
  case iadd => exact am_c_iadd hi hx hb hml hown hts hE hA hR hcs hC hret hfm hP hS hL hM hdg hok h
  case ladd => exact am_c_ladd hi hx hb hml hown hts hE hA hR hcs hC hret hfm hP hS hL hM hdg hok h
  case isub => exact am_c_isub hi hx hb hml hown hts hE hA hR hcs hC hret hfm hP hS hL hM hdg hok h
  case lsub => exact am_c_lsub hi hx hb hml hown hts hE hA hR hcs hC hret hfm hP hS hL hM hdg hok h
  case imul => exact am_c_imul hi hx hb hml hown hts hE hA hR hcs hC hret hfm hP hS hL hM hdg hok h
  case lmul => exact am_c_lmul hi hx hb hml hown hts hE hA hR hcs hC hret hfm hP hS hL hM hdg hok h
  case idiv => exact am_c_idiv hi hx hb hml hown hts hE hA hR hcs hC hret hfm hP hS hL hM hdg hok h
  case irem => exact am_c_irem hi hx hb hml hown hts hE hA hR hcs hC hret hfm hP hS hL hM hdg hok h
  case ldiv => exact am_c_ldiv hi hx hb hml hown hts hE hA hR hcs hC hret hfm hP hS hL hM hdg hok h
  case lrem => exact am_c_lrem hi hx hb hml hown hts hE hA hR hcs hC hret hfm hP hS hL hM hdg hok h
  case iand => exact am_c_iand hi hx hb hml hown hts hE hA hR hcs hC hret hfm hP hS hL hM hdg hok h
  case ior => exact am_c_ior hi hx hb hml hown hts hE hA hR hcs hC hret hfm hP hS hL hM hdg hok h
  case ishl => exact am_c_ishl hi hx hb hml hown hts hE hA hR hcs hC hret hfm hP hS hL hM hdg hok h
  case ishr => exact am_c_ishr hi hx hb hml hown hts hE hA hR hcs hC hret hfm hP hS hL hM hdg hok h
  case ineg => exact am_c_ineg hi hx hb hml hown hts hE hA hR hcs hC hret hfm hP hS hL hM hdg hok h
  case lneg => exact am_c_lneg hi hx hb hml hown hts hE hA hR hcs hC hret hfm hP hS hL hM hdg hok h
  case i2l => exact am_c_i2l hi hx hb hml hown hts hE hA hR hcs hC hret hfm hP hS hL hM hdg hok h
  case i2b => exact am_c_i2b hi hx hb hml hown hts hE hA hR hcs hC hret hfm hP hS hL hM hdg hok h
  case i2s => exact am_c_i2s hi hx hb hml hown hts hE hA hR hcs hC hret hfm hP hS hL hM hdg hok h
  case i2c => exact am_c_i2c hi hx hb hml hown hts hE hA hR hcs hC hret hfm hP hS hL hM hdg hok h
  case lcmp => exact am_c_lcmp hi hx hb hml hown hts hE hA hR hcs hC hret hfm hP hS hL hM hdg hok h
  case dup => exact am_c_dup hi hx hb hml hown hts hE hA hR hcs hC hret hfm hP hS hL hM hdg hok h
  case pop => exact am_c_pop hi hx hb hml hown hts hE hA hR hcs hC hret hfm hP hS hL hM hdg hok h
  case dup2 => exact am_c_dup2 hi hx hb hml hown hts hE hA hR hcs hC hret hfm hP hS hL hM hdg hok h
  case goto off => exact am_c_goto hi hx hb hml hown hts hE hA hR hcs hC hret hfm hP hS hL hM hdg hok h
  case ifCond c off => exact am_c_ifCond hi hx hb hml hown hts hE hA hR hcs hC hret hfm hP hS hL hM hdg hok h
  case if_icmp c off => exact am_c_if_icmp hi hx hb hml hown hts hE hA hR hcs hC hret hfm hP hS hL hM hdg hok h
  case ifnull off => exact am_c_ifnull hi hx hb hml hown hts hE hA hR hcs hC hret hfm hP hS hL hM hdg hok h
  case ifnonnull off => exact am_c_ifnonnull hi hx hb hml hown hts hE hA hR hcs hC hret hfm hP hS hL hM hdg hok h
  case tableswitch d lo hj offs => exact am_c_tableswitch hi hx hb hml hown hts hE hA hR hcs hC hret hfm hP hS hL hM hdg hok h
  case lookupswitch d ps => exact am_c_lookupswitch hi hx hb hml hown hts hE hA hR hcs hC hret hfm hP hS hL hM hdg hok h
  all_goals exact False.elim h
end AMW
