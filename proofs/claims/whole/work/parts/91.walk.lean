/-! wb -/
/-! THE CLAIM OUT OF ONE WALK OF THE LAW'S BODY. Your part is whole_start (and what it stands on); all else here is the same for every law, but numbers. -/
def R_law : String := "JustFivePoundsLaw"
def lw_P (b : Addr) (xs : List Int32) (args : Array Value) (s : State) : Prop := args = #[.ref b] ∧ s.IntsAt b xs ∧ xs.length ≤ 3584 ∧ (Jvm.Cond.and given_1 narrow_1).before args s = true
def lw_Q (_ : Array Value) (s : State) (o : Outcome) (t : State) : Prop := o = .returned (some (.int 1)) ∧ Framed s o t [] 600000 7302250
def lw_Z (below : List Frame) (a : Array Value) (s : State) : State → Prop := fun t => ∃ o, t.status = .running ∧ Ended t below o ∧ lw_Q a s o t
/-- the law's own end, with 1 on the stack, nothing written that was there before, its room as the claim has it -/
theorem lw_ret {p : Program} {l : Launch} {e : Env} {s : State} {m : MethodId} {below : List Frame} {meth : Method} {c : Code} {b : Nat} (hx : p.tables.exec = Jvm.exec) (hb : c.code = code) (hr : meth.sig.returnType = ret) (hlocks : meth.locks = false) {pc : Nat} {H : Heap} {ls : Array Slot} (hdg : decode code pc = .ok (.ireturn, 1)) : W p l e room_1 s m #[Value.ref b] below meth c H [] 600000 7302250 (lw_Z below #[Value.ref b] s) (F0 m pc ls [.int 1]) := by
  intro T hT X
  obtain ⟨fs, hret, hrun, hended, hW, hframe⟩ := X.leave (v := some (.int 1)) (hlocks := hlocks) (fun h => by rw [hr] at h; cases h)
  have hmeth' : T.vm.method? m = some meth := X.method'
  refine ⟨T.setFrames fs, ?_, .returned (some (.int 1)), hrun, hended, rfl, ⟨_, rfl⟩, hW, hframe⟩
  jvm_step X.here [X.here.top, hx, hb, hdg, hmeth', hr, ret, narrow_b1]
  (try refine ⟨rfl, ?_⟩); (try refine ⟨rfl, ?_⟩)
  first | (intro acts; rw [hret _ acts rfl rfl rfl]) | rw [hret _ _ rfl rfl rfl]
  exact Steps.refl _
/-- what holds at the law's entry: the machine, the code, the tables' words (any of lw_tbl by 'hts w (by decide +kernel)'), the script of L ints xs at the cell b, what the Statement gives of the start (any of its parts by flat_of_before) -/
def lw_At (p : Program) (s : State) (m : MethodId) (meth : Method) (c : Code) (b L : Nat) (xs : Nat → Int32) : Prop :=
  p.tables.exec = Jvm.exec ∧ c.code = code ∧ meth.sig.returnType = ret ∧ c.maxLocals = 4 ∧ s.vm.findClass R_law = some m.cls ∧ (∀ w ∈ lw_tbl, w.before #[Value.ref b] s = true) ∧ va_X b L xs s s.heap ∧ b < s.heap.size ∧ meth.locks = false ∧ (Jvm.Cond.and given_1 narrow_1).before #[Value.ref b] s = true

theorem ct_z0 : decode (tb_cc 0) 0 = .ok (.new 7, 3) := (tb_spec (i := 0) (by decide) (show tb_ft 0 0 = some (.new 7, 3, []) from rfl)).1
theorem ct_z3 : decode (tb_cc 0) 3 = .ok (.dup, 1) := (tb_spec (i := 0) (by decide) (show tb_ft 0 3 = some (.dup, 1, []) from rfl)).1
theorem ct_z4 : decode (tb_cc 0) 4 = .ok (.invokespecial 9, 3) := (tb_spec (i := 0) (by decide) (show tb_ft 0 4 = some (.invokespecial 9, 3, []) from rfl)).1
theorem ct_z7 : decode (tb_cc 0) 7 = .ok (.astore_n 1, 1) := (tb_spec (i := 0) (by decide) (show tb_ft 0 7 = some (.astore_n 1, 1, []) from rfl)).1
theorem ct_z8 : decode (tb_cc 0) 8 = .ok (.new 10, 3) := (tb_spec (i := 0) (by decide) (show tb_ft 0 8 = some (.new 10, 3, []) from rfl)).1
theorem ct_z11 : decode (tb_cc 0) 11 = .ok (.dup, 1) := (tb_spec (i := 0) (by decide) (show tb_ft 0 11 = some (.dup, 1, []) from rfl)).1
theorem ct_z12 : decode (tb_cc 0) 12 = .ok (.invokespecial 12, 3) := (tb_spec (i := 0) (by decide) (show tb_ft 0 12 = some (.invokespecial 12, 3, []) from rfl)).1
theorem ct_z15 : decode (tb_cc 0) 15 = .ok (.astore_n 2, 1) := (tb_spec (i := 0) (by decide) (show tb_ft 0 15 = some (.astore_n 2, 1, []) from rfl)).1
theorem ct_z16 : decode (tb_cc 0) 16 = .ok (.iconst 0, 1) := (tb_spec (i := 0) (by decide) (show tb_ft 0 16 = some (.iconst 0, 1, []) from rfl)).1
theorem ct_z17 : decode (tb_cc 0) 17 = .ok (.istore_n 3, 1) := (tb_spec (i := 0) (by decide) (show tb_ft 0 17 = some (.istore_n 3, 1, []) from rfl)).1
theorem ct_fr7 : ∀ j, j < 11 → defaultValue (tyX7 j) = vp_V [.null, .null, .int (i3 0), .null, .null, .null, .int (i3 0), .null, .null, .null, .null] j := by
  intro j hj
  match j, hj with
  | 0, _ => first | rfl | exact congrArg Value.int ct_0 | exact congrArg Value.long i6_zero.symm
  | 1, _ => first | rfl | exact congrArg Value.int ct_0 | exact congrArg Value.long i6_zero.symm
  | 2, _ => first | rfl | exact congrArg Value.int ct_0 | exact congrArg Value.long i6_zero.symm
  | 3, _ => first | rfl | exact congrArg Value.int ct_0 | exact congrArg Value.long i6_zero.symm
  | 4, _ => first | rfl | exact congrArg Value.int ct_0 | exact congrArg Value.long i6_zero.symm
  | 5, _ => first | rfl | exact congrArg Value.int ct_0 | exact congrArg Value.long i6_zero.symm
  | 6, _ => first | rfl | exact congrArg Value.int ct_0 | exact congrArg Value.long i6_zero.symm
  | 7, _ => first | rfl | exact congrArg Value.int ct_0 | exact congrArg Value.long i6_zero.symm
  | 8, _ => first | rfl | exact congrArg Value.int ct_0 | exact congrArg Value.long i6_zero.symm
  | 9, _ => first | rfl | exact congrArg Value.int ct_0 | exact congrArg Value.long i6_zero.symm
  | 10, _ => first | rfl | exact congrArg Value.int ct_0 | exact congrArg Value.long i6_zero.symm
  | n + 11, h => exact absurd h (by omega)
theorem ct_fr8 : ∀ j, j < 36 → defaultValue (tyX8 j) = vp_V [.null, .int (i3 0), .null, .null, .null, .null, .null, .int (i3 0), .null, .null, .int (i3 0), .int (i3 0), .int (i3 0), .int (i3 0), .int (i3 0), .null, .null, .null, .null, .null, .int (i3 0), .int (i3 0), .int (i3 0), .int (i3 0), .null, .null, .int (i3 0), .int (i3 0), .int (i3 0), .null, .null, .null, .null, .null, .int (i3 0), .int (i3 0)] j := by
  intro j hj
  match j, hj with
  | 0, _ => first | rfl | exact congrArg Value.int ct_0 | exact congrArg Value.long i6_zero.symm
  | 1, _ => first | rfl | exact congrArg Value.int ct_0 | exact congrArg Value.long i6_zero.symm
  | 2, _ => first | rfl | exact congrArg Value.int ct_0 | exact congrArg Value.long i6_zero.symm
  | 3, _ => first | rfl | exact congrArg Value.int ct_0 | exact congrArg Value.long i6_zero.symm
  | 4, _ => first | rfl | exact congrArg Value.int ct_0 | exact congrArg Value.long i6_zero.symm
  | 5, _ => first | rfl | exact congrArg Value.int ct_0 | exact congrArg Value.long i6_zero.symm
  | 6, _ => first | rfl | exact congrArg Value.int ct_0 | exact congrArg Value.long i6_zero.symm
  | 7, _ => first | rfl | exact congrArg Value.int ct_0 | exact congrArg Value.long i6_zero.symm
  | 8, _ => first | rfl | exact congrArg Value.int ct_0 | exact congrArg Value.long i6_zero.symm
  | 9, _ => first | rfl | exact congrArg Value.int ct_0 | exact congrArg Value.long i6_zero.symm
  | 10, _ => first | rfl | exact congrArg Value.int ct_0 | exact congrArg Value.long i6_zero.symm
  | 11, _ => first | rfl | exact congrArg Value.int ct_0 | exact congrArg Value.long i6_zero.symm
  | 12, _ => first | rfl | exact congrArg Value.int ct_0 | exact congrArg Value.long i6_zero.symm
  | 13, _ => first | rfl | exact congrArg Value.int ct_0 | exact congrArg Value.long i6_zero.symm
  | 14, _ => first | rfl | exact congrArg Value.int ct_0 | exact congrArg Value.long i6_zero.symm
  | 15, _ => first | rfl | exact congrArg Value.int ct_0 | exact congrArg Value.long i6_zero.symm
  | 16, _ => first | rfl | exact congrArg Value.int ct_0 | exact congrArg Value.long i6_zero.symm
  | 17, _ => first | rfl | exact congrArg Value.int ct_0 | exact congrArg Value.long i6_zero.symm
  | 18, _ => first | rfl | exact congrArg Value.int ct_0 | exact congrArg Value.long i6_zero.symm
  | 19, _ => first | rfl | exact congrArg Value.int ct_0 | exact congrArg Value.long i6_zero.symm
  | 20, _ => first | rfl | exact congrArg Value.int ct_0 | exact congrArg Value.long i6_zero.symm
  | 21, _ => first | rfl | exact congrArg Value.int ct_0 | exact congrArg Value.long i6_zero.symm
  | 22, _ => first | rfl | exact congrArg Value.int ct_0 | exact congrArg Value.long i6_zero.symm
  | 23, _ => first | rfl | exact congrArg Value.int ct_0 | exact congrArg Value.long i6_zero.symm
  | 24, _ => first | rfl | exact congrArg Value.int ct_0 | exact congrArg Value.long i6_zero.symm
  | 25, _ => first | rfl | exact congrArg Value.int ct_0 | exact congrArg Value.long i6_zero.symm
  | 26, _ => first | rfl | exact congrArg Value.int ct_0 | exact congrArg Value.long i6_zero.symm
  | 27, _ => first | rfl | exact congrArg Value.int ct_0 | exact congrArg Value.long i6_zero.symm
  | 28, _ => first | rfl | exact congrArg Value.int ct_0 | exact congrArg Value.long i6_zero.symm
  | 29, _ => first | rfl | exact congrArg Value.int ct_0 | exact congrArg Value.long i6_zero.symm
  | 30, _ => first | rfl | exact congrArg Value.int ct_0 | exact congrArg Value.long i6_zero.symm
  | 31, _ => first | rfl | exact congrArg Value.int ct_0 | exact congrArg Value.long i6_zero.symm
  | 32, _ => first | rfl | exact congrArg Value.int ct_0 | exact congrArg Value.long i6_zero.symm
  | 33, _ => first | rfl | exact congrArg Value.int ct_0 | exact congrArg Value.long i6_zero.symm
  | 34, _ => first | rfl | exact congrArg Value.int ct_0 | exact congrArg Value.long i6_zero.symm
  | 35, _ => first | rfl | exact congrArg Value.int ct_0 | exact congrArg Value.long i6_zero.symm
  | n + 36, h => exact absurd h (by omega)
theorem ct_gl {j : Nat} (h1 : 0 < j) (h2 : j < tb_n) : GoodIn lw_tbl (.code (tb_y j) (tb_cc j) (tb_ml j) (tb_ret j) :: ct_ws) := by
  intro w hw
  have hm : w ∈ ct_ws := by
    rcases List.mem_cons.mp hw with h | h
    · exact List.mem_append_left _ (tb_mw_in h1 h2 (by rw [h]; exact List.mem_cons_self))
    · exact h
  exact ⟨ct_in w hm, good_of_word (ct_good w hm)⟩
theorem ct_k1 : Jvm.Cond.classLink R_law 7 RX7 ∈ lw_tbl ∧ Jvm.Cond.instantiable RX7 11 ∈ lw_tbl ∧ Jvm.Cond.initialized RX7 ∈ lw_tbl ∧ Jvm.Cond.methodLink R_law 9 (tb_y 1) ∈ lw_tbl ∧ Jvm.Cond.instanceMethod (tb_y 1) ∈ lw_tbl := ⟨(List.mem_of_getElem? (i := 73) (by decide +kernel)), (List.mem_of_getElem? (i := 74) (by decide +kernel)), (List.mem_of_getElem? (i := 59) (by decide +kernel)), (List.mem_of_getElem? (i := 75) (by decide +kernel)), (List.mem_of_getElem? (i := 76) (by decide +kernel))⟩
theorem ct_k2 : Jvm.Cond.classLink R_law 10 RX8 ∈ lw_tbl ∧ Jvm.Cond.instantiable RX8 36 ∈ lw_tbl ∧ Jvm.Cond.initialized RX8 ∈ lw_tbl ∧ Jvm.Cond.methodLink R_law 12 (tb_y 122) ∈ lw_tbl ∧ Jvm.Cond.instanceMethod (tb_y 122) ∈ lw_tbl := ⟨(List.mem_of_getElem? (i := 867) (by decide +kernel)), (List.mem_of_getElem? (i := 868) (by decide +kernel)), (List.mem_of_getElem? (i := 71) (by decide +kernel)), (List.mem_of_getElem? (i := 869) (by decide +kernel)), (List.mem_of_getElem? (i := 870) (by decide +kernel))⟩
def ct_a5 (b : Nat) (a51 a52 a53 : Nat → Nat) : Nat → Nat → Nat := fun k => if k = 50 then fun _ => b else if k = 51 then a51 else if k = 52 then a52 else a53
set_option maxHeartbeats 8000000 in
set_option maxRecDepth 100000 in
/-- from the entry to the loop, and through it -/
theorem whole_start {p : Program} {e : Env} {s : State} {m : MethodId} {below : List Frame} {meth : Method} {c : Code} (l : Launch) (_ : l.flags = flags0) {b L : Nat} {xs : Nat → Int32} (hL : L ≤ 3584) (C0 : lw_At p s m meth c b L xs) : W p l e room_1 s m #[Value.ref b] below meth c s.heap [] 0 0 (lw_Z below #[Value.ref b] s) (entryFrame m ([Value.ref b] : List Value).toArray 4) := by
  obtain ⟨hx, hb0, hr, hml, hown, hts, hX, hbl, hlocks, hgv⟩ := id C0
  have hb : c.code = tb_cc 0 := hb0
  obtain ⟨dC, dI, hKc⟩ := ct_known hts
  obtain ⟨cI, hI1, hI2⟩ := ct_int0 hts
  obtain ⟨a51, a52, a53, fm, hT⟩ := ct_start hL hts hX hbl hgv
  obtain ⟨xi, hxi⟩ : ∃ xi : Nat → Int, xi = fun j => (xs j).toInt := ⟨_, rfl⟩
  obtain ⟨A, hAe⟩ : ∃ A, A = (fun q : Nat => s.heap.size ≤ q) := ⟨_, rfl⟩
  rw [← hxi, ← hAe] at hT
  have hT5 : ct_T5 (ct_a5 b a51 a52 a53 50) (ct_a5 b a51 a52 a53 51) (ct_a5 b a51 a52 a53 52) (ct_a5 b a51 a52 a53 53) fm L xi A s s.heap := hT
  have ha50 : ct_a5 b a51 a52 a53 50 0 = b := rfl
  generalize ct_a5 b a51 a52 a53 = a5 at hT5 ha50
  have hA : ∀ q, s.heap.size ≤ q → A q := fun q h => by rw [hAe]; exact h
  have hA2 : ∀ q, A q → s.heap.size ≤ q := fun q h => by rw [hAe] at h; exact h
  have hfm : fm.isRef = true := hT5.2.2.1.1
  have hK0 : va_K (dC, dI) vwCl [] s := ⟨hKc, fun k q h => by simp at h⟩
  have hK : va_K (dC, dI) vwCl [(cI, .int)] s := am_K1 hK0 hI1 hI2
  have hE7 : ct_E7 cI dC dI s := ⟨hK, fun q hq => va_Nw.of rfl (hts _ (ct_lnx q hq)), va_AO.of (hts _ ct_i6.2.1), va_AO.of (hts _ ct_i6.2.2.1), va_AO.of (hts _ ct_i6.2.2.2)⟩
  have hS : va_S A s.heap s.heap [] := va_S.rf
  have hP : va_P (dC, dI) vwCl [] s.heap := fun k q h => by simp at h
  have hD : va_D A [] := ⟨fun i j p q h => by simp at h, fun k q h => by simp at h⟩
  have hl := lv_entry ([.ref b]) (n := 4) (Nat.le_of_ble_eq_true rfl)
  rw [lg_entry_eq]
  generalize (lg_sl ([.ref b]) ++ List.replicate (4 - (lg_sl ([.ref b])).length) Slot.unset).toArray = ls at hl ⊢
  have hl : lv_has ls 4 [(0, .ref b)] := hl
  refine va_new (ci := 7) (fs := [.null, .null, .int (i3 0), .null, .null, .null, .int (i3 0), .null, .null, .null, .null]) (C := RX7) (T := TX7) (N := 11) hx hb hts (fun w hw => ct_in w (ct_u 7 (by decide) w hw)) tyX7 tyX7_ok hown (hts _ ct_k1.1) (hts _ ct_k1.2.1) (hts _ ct_k1.2.2.1) hK hP hD hS hA rfl ct_fr7 (Nat.le_of_ble_eq_true rfl) (Nat.le_of_ble_eq_true rfl) ct_z0 (fun q7 H hP hD hS => ?_)
  have hP : va_P (dC, dI) vwCl (ct_o7 q7 ++ []) H := hP
  have hD : va_D A (ct_o7 q7 ++ []) := hD
  refine W.widen (k := 1) (n := 11) (Nat.le_of_ble_eq_true rfl) (Nat.le_of_ble_eq_true rfl) ?_
  refine lv_dup hx hb ct_z3 rfl ?_
  have hFc := ct_free (wc := ct_o7 q7) hD hS hA
  refine va_callv (va_runI (As := []) (rest := [.ref q7]) ⟨hx, hb, hml, hown, hts⟩ (ct_X l dC dI cI a5 fm L xi hfm q7 H.size) (cwI 0 hts (ct_gl (by decide) (by decide)) rfl rfl rfl (hts _ ct_k1.2.2.1) (hts _ ct_k1.2.2.2.1) (hts _ ct_k1.2.2.2.2) rfl (by decide +kernel) ⟨Nat.le_of_ble_eq_true rfl, Nat.le_of_ble_eq_true rfl⟩) ⟨fun a U g mk q => by
      obtain ⟨q0, q1, q2, q3, q4, q5⟩ := q
      exact ⟨q0, q1, q2, q3, q4.to (U := U.calling g mk a) (State.WarmedH.refl U), q5.to (U := U.calling g mk a) (State.WarmedH.refl U) (Nat.le_refl _) (fun _ _ _ => rfl) (fun _ _ h => h) (fun _ h => h)⟩, fun U hU hW => ⟨rfl, by rw [hU], by rw [hU]; exact hP, hD.weaken (fun _ _ _ _ => trivial), hE7.to hW, by
      rw [hU]
      exact hT5.to hW hS.1 hS.2.1 (fun q _ h => hFc q h) hFc⟩⟩ rfl rfl hl.1 rfl (lv_room (Nat.le_of_ble_eq_true rfl)) ct_z4 ⟨Nat.le_of_ble_eq_true rfl, Nat.le_of_ble_eq_true rfl⟩) hS (fun q _ h => hFc q h) hFc (fun u t H1 locs ht hvm _ hB hz1 hk1 hS => ?_)
  obtain ⟨ad, ca, M0, had5, had7, hP1, hD1, hca, hm⟩ := hB
  rw [ht] at hP1
  obtain ⟨hP, hD⟩ := ct_join hP hD hk1 hFc hP1 hD1
  rw [List.append_nil] at hP hD
  replace hca : ∀ k i, 9 ≤ k → k < 42 → i < am_cnt false k → ArrOfT s (ca k i) (am_aty k) ∧ va_RA s (ca k i) (am_aty k) := fun k i h1 h2 h3 => ⟨arrOfT_moved hvm.symm (hca k i h1 h2 h3).1, (hca k i h1 h2 h3).2.moved hvm.symm⟩
  clear hk1 hz1 hP1 hD1 hFc ht hvm
  have hT5 : ct_T5 (ad 50) (ad 51) (ad 52) (ad 53) fm L xi A s s.heap := by
    rw [had5 50 (by decide), had5 51 (by decide), had5 52 (by decide), had5 53 (by decide)]
    exact hT5
  have had0 : ad 50 0 = b := by
    rw [had5 50 (by decide)]
    exact ha50
  refine W.widen (k := 63) (n := 3419) (Nat.le_of_ble_eq_true rfl) (Nat.le_of_ble_eq_true rfl) ?_
  refine lv_astore_n (lv' := [(1, .ref q7), (0, .ref b)]) hx hb ct_z7 rfl hl (by decide) rfl (fun ls hl => ?_)
  refine va_new (ci := 8) (fs := [.null, .int (i3 0), .null, .null, .null, .null, .null, .int (i3 0), .null, .null, .int (i3 0), .int (i3 0), .int (i3 0), .int (i3 0), .int (i3 0), .null, .null, .null, .null, .null, .int (i3 0), .int (i3 0), .int (i3 0), .int (i3 0), .null, .null, .int (i3 0), .int (i3 0), .int (i3 0), .null, .null, .null, .null, .null, .int (i3 0), .int (i3 0)]) (C := RX8) (T := TX8) (N := 36) hx hb hts (fun w hw => ct_in w (ct_u 8 (by decide) w hw)) tyX8 tyX8_ok hown (hts _ ct_k2.1) (hts _ ct_k2.2.1) (hts _ ct_k2.2.2.1) hK hP hD hS hA rfl ct_fr8 (Nat.le_of_ble_eq_true rfl) (Nat.le_of_ble_eq_true rfl) ct_z8 (fun q8 H hP hD hS => ?_)
  have hP : va_P (dC, dI) vwCl (ct_o8 q8 ++ am_W false ad ca M0) H := ct_Pp hP List.perm_append_comm
  have hD : va_D A (ct_o8 q8 ++ am_W false ad ca M0) := ct_Dp hD List.perm_append_comm
  refine W.widen (k := 64) (n := 3455) (Nat.le_of_ble_eq_true rfl) (Nat.le_of_ble_eq_true rfl) ?_
  refine lv_dup hx hb ct_z11 rfl ?_
  have hPn : va_P (dC, dI) vwCl ((ct_o8 q8 ++ am_W false ad ca M0) ++ []) H := by
    rw [List.append_nil]
    exact hP
  have hDn : va_D A ((ct_o8 q8 ++ am_W false ad ca M0) ++ []) := by
    rw [List.append_nil]
    exact hD
  have hFc := ct_free (wc := ct_o8 q8 ++ am_W false ad ca M0) hDn hS hA
  refine va_callv (va_runI (As := []) (rest := [.ref q8]) ⟨hx, hb, hml, hown, hts⟩ (ct_Y l dC dI cI ad ca M0 fm L xi hfm hm q8 H.size) (cwI 0 hts (ct_gl (by decide) (by decide)) rfl rfl rfl (hts _ ct_k2.2.2.1) (hts _ ct_k2.2.2.2.1) (hts _ ct_k2.2.2.2.2) rfl (by decide +kernel) ⟨Nat.le_of_ble_eq_true rfl, Nat.le_of_ble_eq_true rfl⟩) ⟨fun a U g mk q => by
      obtain ⟨q0, q1, q2, q3, q4, q5, q6⟩ := q
      exact ⟨q0, q1, q2, q3, va_K.moved (u := U) (U := U.calling g mk a) (Vm.Alike.refl U.vm) q4, q5, q6.to (U := U.calling g mk a) (State.WarmedH.refl U) (Nat.le_refl _) (fun _ _ _ => rfl) (fun _ _ h => h) (fun _ h => h)⟩, fun U hU hW => ⟨rfl, by rw [hU], by rw [hU]; exact hP, hD.weaken (fun _ _ _ _ => trivial), va_K.moved hW.alike hK, fun k i h1 h2 h3 => ⟨arrOfT_moved hW.alike (hca k i h1 h2 h3).1, (hca k i h1 h2 h3).2.moved hW.alike⟩, by
      rw [hU]
      exact hT5.to hW hS.1 hS.2.1 (fun q _ h => hFc q h) hFc⟩⟩ rfl rfl hl.1 rfl (lv_room (Nat.le_of_ble_eq_true rfl)) ct_z12 ⟨Nat.le_of_ble_eq_true rfl, Nat.le_of_ble_eq_true rfl⟩) hS (fun q _ h => hFc q h) hFc (fun u t H1 locs ht hvm _ hB hz1 hk1 hS => ?_)
  obtain ⟨ad2, ca2, M, h52, ⟨h88, h87⟩, hP1, hD1, hca2, hJ, hW, hscr⟩ := hB
  rw [ht] at hP1
  obtain ⟨hP, hD⟩ := ct_join hPn hDn hk1 hFc hP1 hD1
  rw [List.append_nil] at hP hD
  replace hca2 : ∀ k i, 9 ≤ k → k < 42 → i < am_cnt true k → ArrOfT s (ca2 k i) (am_aty k) ∧ va_RA s (ca2 k i) (am_aty k) := fun k i h1 h2 h3 => ⟨arrOfT_moved hvm.symm (hca2 k i h1 h2 h3).1, (hca2 k i h1 h2 h3).2.moved hvm.symm⟩
  clear hk1 hz1 hP1 hD1 hFc ht hvm hPn hDn
  have hT5 : ct_T5 (ad2 50) (ad2 51) (ad2 52) (ad2 53) fm L xi A s s.heap := by
    rw [h52 50 (by decide), h52 51 (by decide), h52 52 (by decide), h52 53 (by decide)]
    exact hT5
  have had2 : ad2 50 0 = b := by
    rw [h52 50 (by decide)]
    exact had0
  refine lv_astore_n (lv' := [(2, .ref q8), (1, .ref q7), (0, .ref b)]) hx hb ct_z15 rfl hl (by decide) rfl (fun ls hl => ?_)
  refine lv_iconst (v := i3 0) hx hb ct_z16 (by decide +kernel) ?_
  refine lv_istore_n (lv' := [(3, .int (i3 0)), (2, .ref q8), (1, .ref q7), (0, .ref b)]) hx hb ct_z17 rfl hl (by decide) rfl (fun ls hl => ?_)
  refine W.widen (k := 600000) (n := 7302250) (Nat.le_of_ble_eq_true rfl) (Nat.le_of_ble_eq_true rfl) ?_
  have hEa : am_E true dC dI ad2 ca2 fm L xi A s s.heap := hT5.am hK0 hca2 (fun M => ct_DM hD M) ⟨rfl, rfl, rfl, rfl⟩
  have hgo := lw_loop (d := 100) (K := fun v _ => v = some (aI 1)) (R := am_J true p l e room_1 s m #[Value.ref b] below meth c 600000 7302250 (lw_Z below #[Value.ref b] s) dC dI ad2 ca2 fm L xi A 4) (by omega) (am_step (e := e) (i := 0) (d := 100) (by decide) hx hb hml hown (fun w hw => hts w (am_ws_in w hw)) hEa hA (R := room_1) ⟨Nat.le_of_ble_eq_true rfl, Nat.le_of_ble_eq_true rfl⟩ (cells := 600000) (slots := 7302250) ⟨Nat.le_of_ble_eq_true rfl, Nat.le_of_ble_eq_true rfl⟩ (fun j as M k h1 h2 h3 => am_met l hfm 100 j as M k h1 h2 h3) (Q := lw_Z below #[Value.ref b] s) (fun pc H locs ls v M hret hk hP' hS' _ => by
      subst hk
      refine va_forget (fun q hq => hA2 _ (hS'.2.2 q hq)) ?_
      exact lw_ret hx hb0 hr hlocks hret.2)) am_J_cong am_J_congL (fun _ => rfl) (L := (L : Int)) ⟨by omega, by omega⟩ (L + 1) 0 M hJ hW hscr.1 (fun j => by
      rw [hscr.2 j, hxi]
      exact am_in_toInt _) (by omega) (by omega) (by omega)
  refine hgo H1 locs ls hP hS ⟨rfl, ?_⟩ hscr
  show lv_has ls 4 [(0, .ref (ad2 50 0)), (1, .ref (ad2 7 0)), (2, .ref (ad2 8 0)), (3, .int (i3 0))]
  rw [had2, h87, had7, h88]
  exact lv_sub hl [3, 2, 1, 0] rfl
