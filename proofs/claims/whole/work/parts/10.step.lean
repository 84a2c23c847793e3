/-! wb -/
variable {wb : Bool}
/-! ONE STEP: each instruction of the abstract machine is one of the machine -/
def am_rm (d : Nat) : Room := { frames := d, cells := 0, slots := 0, locals := 80 * d }
def tb_ws (j : Nat) : List Jvm.Cond := .code (tb_y j) (tb_cc j) (tb_ml j) (tb_ret j) :: am_ws
def am_Pc (wb : Bool) (dC : Nat → ClassId) (dI : Nat → Nat → Nat) (ad : Nat → Nat → Nat) (ca : Nat → Nat → ClassId) (fm : Value) (L : Nat) (xs : Nat → Int) (as : List am_V) (M : am_M) (sz : Nat) : Array Value → State → Prop :=
  va_Pc (as.map (am_tr ad fm)) (fun U => U.heap.size = sz ∧ va_P (dC, dI) vwCl (am_W wb ad ca M) U.heap ∧ am_E wb dC dI ad ca fm L xs (va_A (am_W wb ad ca M) sz) U U.heap ∧ am_scr L xs M)
def am_Qc (wb : Bool) (dC : Nat → ClassId) (dI : Nat → Nat → Nat) (ad : Nat → Nat → Nat) (ca : Nat → Nat → ClassId) (fm : Value) (L : Nat) (xs : Nat → Int) (M : am_M) (sz : Nat) (k : am_K) : Array Value → State → Outcome → State → Prop :=
  fun _ st oc t => (∃ (v : Option am_V) (M' : am_M), oc = .returned (v.map (am_tr ad fm)) ∧ k v M' ∧ am_scr L xs M' ∧ va_P (dC, dI) vwCl (am_W wb ad ca M') t.heap) ∧ va_F (va_A (am_W wb ad ca M) sz) st t
/-- a method that may be called -/
def am_Cal (wb : Bool) (l : Launch) (d : Nat) (dC : Nat → ClassId) (dI : Nat → Nat → Nat) (ad : Nat → Nat → Nat) (ca : Nat → Nat → ClassId) (fm : Value) (L : Nat) (xs : Nat → Int) (j : Nat) (as : List am_V) (M : am_M) (k : am_K) : Prop :=
  ∀ sz : Nat, Met l (tb_y j) (tb_ws j) (am_rm d) (am_Pc wb dC dI ad ca fm L xs as M sz) (am_Qc wb dC dI ad ca fm L xs M sz k) 0 0 (va_A (am_W wb ad ca M) sz)
theorem am_pop_spec {n : Nat} : ∀ {acc st : List am_V} {f : List am_V → List am_V → Prop}, am_pop n acc st f → ∃ l r, st = l ++ r ∧ l.length = n ∧ f (l.reverse ++ acc) r := by
  induction n with
  | zero => exact fun {acc st f} h => ⟨[], st, rfl, rfl, h⟩
  | succ n ih =>
    intro acc st f h
    cases st with
    | nil => exact h.elim
    | cons v st =>
      obtain ⟨l, r, h1, h2, h3⟩ := ih (show am_pop n (v :: acc) st f from h)
      exact ⟨v :: l, r, by rw [h1]; rfl, by simp [h2], by simpa using h3⟩
theorem am_tr_cat1 {ad : Nat → Nat → Nat} {fm : Value} (hf : fm.isRef = true) (w : am_V) : (am_tr ad fm w).category = bif am_c1 w then 1 else 2 := by
  match w with
  | Sum.inl x => rfl
  | Sum.inr (Sum.inl x) => rfl
  | Sum.inr (Sum.inr none) => rfl
  | Sum.inr (Sum.inr (some (k, i))) =>
    simp only [am_tr]
    cases hb : Nat.beq k 54 with
    | true => cases fm <;> simp [Value.isRef, Value.category, cond, am_c1] at hf ⊢
    | false => rfl
theorem am_wsum_spec {ad : Nat → Nat → Nat} {fm : Value} (hf : fm.isRef = true) : ∀ r : List am_V, ((r.map (am_tr ad fm)).map fun v => v.category).sum = am_wsum r
  | [] => rfl
  | v :: t => by
    rw [List.map_cons, List.map_cons, List.sum_cons, am_wsum_spec hf t, am_tr_cat1 hf]
    rfl
theorem am_ps_map {ad : Nat → Nat → Nat} {fm : Value} (v : Option am_V) (r : List am_V) : (am_ps v r).map (am_tr ad fm) = (v.map (am_tr ad fm)).toList ++ r.map (am_tr ad fm) := by
  cases v <;> rfl
theorem tb_mw_in {j : Nat} (h1 : 0 < j) (h2 : j < tb_n) {w : Jvm.Cond} (h : w ∈ tb_mw j) : w ∈ am_ws := by
  unfold am_ws
  refine List.mem_append_left _ (List.mem_flatMap.mpr ⟨j, List.mem_range'_1.mpr ⟨h1, ?_⟩, h⟩)
  have : tb_n = 205 := rfl
  omega
theorem tb_ws_good {j : Nat} (h1 : 0 < j) (h2 : j < tb_n) : GoodIn am_ws (tb_ws j) := by
  intro w hw
  have hm : w ∈ am_ws := by
    rcases List.mem_cons.mp hw with h | h
    · exact tb_mw_in h1 h2 (by rw [h]; exact List.mem_cons_self)
    · exact h
  exact ⟨hm, good_of_word (List.all_eq_true.mp am_ws_good w hm)⟩
theorem tb_own14 : ∀ j, j < tb_n → tb_own j < 13 := by decide +kernel
theorem tb_ml20 : ∀ j, j < tb_n → tb_ml j ≤ 20 := by decide +kernel
theorem tb_noMH : ∀ o, o < 13 → tb_cn o ≠ "java/lang/invoke/MethodHandle" ∧ tb_cn o ≠ "java/lang/invoke/VarHandle" ∧ Jvm.plainName (tb_cn o) = true := by decide +kernel
theorem tb_ycls : ∀ j, j < tb_n → (tb_y j).cls = tb_cn (tb_own j) := by decide +kernel
theorem tb_narg : ∀ j, j < tb_n → (parseMethodDescriptor (tb_y j).desc).map (fun d => d.parameters.length) = some (tb_na j) := by decide +kernel
theorem tb_vcn : ∀ ci, ci < 9 → vwCl[ci]? = some (tb_vc ci) ∧ (tb_vc ci).1 = tb_cn ci := by
  intro ci h
  match ci, h with
  | 0, _ | 1, _ | 2, _ | 3, _ | 4, _ | 5, _ | 6, _ | 7, _ | 8, _ => exact ⟨rfl, rfl⟩
theorem tb_pf_ok : ∀ q ∈ tb_pf, q.2.2.1 < 9 ∧ q.2.2.2 < am_nf q.2.2.1 := by decide +kernel
section AMS
variable {p : Program} {l : Launch} {e : Env} {R : Room} {s : State} {m : MethodId} {args : Array Value} {below : List Frame} {meth : Method} {c0 : Code} {cells slots : Nat} {Q : State → Prop}
variable {dC : Nat → ClassId} {dI : Nat → Nat → Nat} {ad : Nat → Nat → Nat} {ca : Nat → Nat → ClassId} {fm : Value} {L : Nat} {xs : Nat → Int} {A : Nat → Prop}
/-- behind a call -/
theorem am_after {H : Heap} {locs : List Loc} {pc : Nat} {ls : Array Slot} {rest st0 : List Value} {M : am_M} {k : am_K} {a : Array Value}
    (hr : va_Run p l e R s m args below meth c0 H locs cells slots 0 0 (F0 m pc ls st0) rest (am_Qc wb dC dI ad ca fm L xs M H.size k a) (va_A (am_W wb ad ca M) H.size)) (hS : va_S A s.heap H locs) (hA : ∀ q, va_A (am_W wb ad ca M) H.size q → A q)
    (kk : ∀ (v : Option am_V) (M' : am_M) (H1 : Heap) (locs1 : List Loc), k v M' → am_scr L xs M' → va_P (dC, dI) vwCl (am_W wb ad ca M') H1 → va_S A s.heap H1 locs1 → W p l e R s m args below meth c0 H1 locs1 cells slots Q (F0 m (pc + 3) ls ((v.map (am_tr ad fm)).toList ++ rest))) :
    W p l e R s m args below meth c0 H locs cells slots Q (F0 m pc ls st0) := by
  intro T hT X
  obtain ⟨v, st₀, t, T', L', h0, X', hL, e1, e2, ⟨⟨v', M', hv, hk, hM, hP⟩, hz, hkp⟩, st⟩ := hr T hT X
  have hv' : v = v'.map (am_tr ad fm) := by injection hv
  subst hv'
  rw [h0] at hz hkp
  obtain ⟨t2, a1, b1⟩ := kk v' M' T'.heap (locs ++ L') hk hM (by rw [e1]; exact hP)
    ⟨Nat.le_trans hS.1 (by rw [e1]; exact hz), fun q h1 h2 => by
      rw [e1, hkp q (Nat.lt_of_lt_of_le h1 hS.1) (fun z => h2 (hA q z))]
      exact hS.2.1 q h1 h2, fun q hq => by
      rcases List.mem_append.mp hq with h | h
      · exact hS.2.2 q h
      · exact hA _ (hL q h)⟩ T' rfl X'
  exact ⟨t2, st t2 a1, b1⟩
theorem am_Pc_blind {as : List am_V} {M : am_M} {sz : Nat} : FrameBlind (am_Pc wb dC dI ad ca fm L xs as M sz) := by
  intro a U g mk h
  obtain ⟨h1, h2, h3, h4, h5⟩ := h
  exact ⟨h1, h2, h3, am_E.same h4 rfl, h5⟩
/-- what a call is given -/
theorem am_Pc_of {as : List am_V} {M : am_M} {H : Heap} {locs : List Loc} {U : State} (hE : am_E wb dC dI ad ca fm L xs A s s.heap) (hP : va_P (dC, dI) vwCl (am_W wb ad ca M) H) (hS : va_S A s.heap H locs) (hM : am_scr L xs M) (hA : ∀ q, va_A (am_W wb ad ca M) H.size q → A q) (hU : U.heap = H) (hW : s.WarmedH U.vm) : am_Pc wb dC dI ad ca fm L xs as M H.size (as.map (am_tr ad fm)).toArray U := by
  refine ⟨rfl, by rw [hU], by rw [hU]; exact hP, ?_, hM⟩
  rw [hU]
  refine hE.to hW hS.1 hS.2.1 hA fun M' => ?_
  have h1 := (hE.2.2.1 M').self (sz := H.size)
  refine h1.weaken fun k q _ hq => ?_
  rcases hq with ⟨j, ee, hj⟩ | hq
  · refine Or.inl ?_
    have hl : j < am_NC wb := by
      have := (List.getElem?_eq_some_iff.mp hj).1
      simpa [am_W] using this
    refine ⟨j, am_cell ad ca M (am_kq j) (am_iq j), ?_⟩
    simp only [am_W, List.getElem?_map, List.getElem?_range hl, Option.map_some, Option.some.injEq, Prod.mk.injEq] at hj ⊢
    exact ⟨hj.1, trivial⟩
  · exact Or.inr hq
theorem am_A_sub {M : am_M} {H : Heap} {locs : List Loc} (hE : am_E wb dC dI ad ca fm L xs A s s.heap) (hS : va_S A s.heap H locs) (hA : ∀ q, s.heap.size ≤ q → A q) : ∀ q, va_A (am_W wb ad ca M) H.size q → A q := by
  intro q hq
  rcases hq with ⟨j, ee, hj⟩ | hq
  · exact (hE.2.2.1 M).2 j _ hj
  · exact hA q (Nat.le_trans hS.1 hq)
/-- what the tables say of a call, apart from its link -/
theorem am_cwp {d j n : Nat} (hts : ∀ w ∈ am_ws, w.before args s = true) (h0 : 0 < j) (hj : j < tb_n) (hR : d + 1 ≤ R.frames ∧ 80 * d + 80 ≤ R.locals) (hn : tb_na j = n) :
    ((am_rm d).cells = 0 ∧ (am_rm d).slots = 0 ∧ (am_rm d).frames + 1 ≤ R.frames ∧ 8 + (tb_ml j + 11) + (am_rm d).locals ≤ R.locals ∧ (∀ w ∈ tb_ws j, ∀ (a' : Array Value) (U : State), s.WarmedH U.vm → w.before a' U = true) ∧ Cond.code (tb_y j) (tb_cc j) (tb_ml j) (tb_ret j) ∈ tb_ws j) ∧
    (Cond.code (tb_y j) (tb_cc j) (tb_ml j) (tb_ret j)).before args s = true ∧ (Cond.initialized (tb_y j).cls).before args s = true ∧ ((tb_y j).cls ≠ "java/lang/invoke/MethodHandle" ∧ (tb_y j).cls ≠ "java/lang/invoke/VarHandle") ∧ (∀ sig, parseMethodDescriptor (tb_y j).desc = some sig → n = sig.parameters.length) := by
  have hml := tb_ml20 j hj
  have hmh := tb_noMH _ (tb_own14 j hj)
  rw [← tb_ycls j hj] at hmh
  refine ⟨⟨rfl, rfl, hR.1, by show 8 + (tb_ml j + 11) + 80 * d ≤ R.locals; omega, pay_in hts (tb_ws_good h0 hj), List.mem_cons_self⟩, hts _ (tb_mw_in h0 hj List.mem_cons_self), hts _ (tb_mw_in h0 hj (List.mem_cons_of_mem _ List.mem_cons_self)), ⟨hmh.1, hmh.2.1⟩, fun sig hsig => ?_⟩
  have h2 := tb_narg j hj
  rw [hsig] at h2
  have h3 : sig.parameters.length = tb_na j := by simpa using h2
  rw [h3, hn]
theorem am_static {d j n pc idx : Nat} {as r : List am_V} {M : am_M} {k : am_K} {H : Heap} {locs : List Loc} {ls : Array Slot} {cc : ByteArray} {own nL : Nat}
    (hx : p.tables.exec = Jvm.exec) (hb : c0.code = cc) (hml : c0.maxLocals = nL) (hown : s.vm.findClass (tb_cn own) = some m.cls) (hts : ∀ w ∈ am_ws, w.before args s = true) (hE : am_E wb dC dI ad ca fm L xs A s s.heap) (hA : ∀ q, s.heap.size ≤ q → A q)
    (hR : d + 1 ≤ R.frames ∧ 80 * d + 80 ≤ R.locals) (hcs : cells ≤ R.cells ∧ slots ≤ R.slots) (h0 : 0 < j) (hj : j < tb_n) (hst : tb_st j = 1) (hn : tb_na j = n) (hpm : (own, idx, j) ∈ tb_pm ∨ (own, idx, j) ∈ tb_pn)
    (hdg : decode cc pc = .ok (.invokestatic idx, 3)) (hC : am_Cal wb l d dC dI ad ca fm L xs j as M k) (hlen : as.length = n) (hw : am_wsum r ≤ 8) (hls : ls.size = nL)
    (hP : va_P (dC, dI) vwCl (am_W wb ad ca M) H) (hS : va_S A s.heap H locs) (hM : am_scr L xs M)
    (kk : ∀ (v : Option am_V) (M' : am_M) (H1 : Heap) (locs1 : List Loc), k v M' → am_scr L xs M' → va_P (dC, dI) vwCl (am_W wb ad ca M') H1 → va_S A s.heap H1 locs1 → W p l e R s m args below meth c0 H1 locs1 cells slots Q (F0 m (pc + 3) ls ((am_ps v r).map (am_tr ad fm)))) :
    W p l e R s m args below meth c0 H locs cells slots Q (F0 m pc ls ((as.map (am_tr ad fm)).reverse ++ r.map (am_tr ad fm))) := by
  have hAs := am_A_sub (M := M) hE hS hA
  obtain ⟨hp1, hp2, hp3, hp4, hp5⟩ := am_cwp (R := R) (d := d) hts h0 hj hR hn
  have hstc : (Cond.static (tb_y j)).before args s = true := hts _ (tb_mw_in h0 hj (by unfold tb_mw; rw [hst]; exact List.mem_cons_of_mem _ (List.mem_cons_of_mem _ List.mem_cons_self)))
  have hroom : 2 * (F0 m pc ls ((as.map (am_tr ad fm)).reverse ++ r.map (am_tr ad fm))).monitorRoom + ((r.map (am_tr ad fm)).map fun v => v.category).sum ≤ 8 := lv_room (by rw [am_wsum_spec hE.2.2.2.2.2.1.1]; exact hw)
  have hpre : PreS s H (am_Pc wb dC dI ad ca fm L xs as M H.size) (as.map (am_tr ad fm)) := ⟨am_Pc_blind, fun U hU hW => am_Pc_of hE hP hS hM hAs hU hW⟩
  rcases hpm with hpm | hpm
  · have hlk : (Cond.methodLink (tb_cn own) idx (tb_y j)).before args s = true := by
      refine hts (tb_lw (own, idx, j)) ?_
      unfold am_ws
      exact List.mem_append_right _ (List.mem_append_right _ (List.mem_append_left _ (List.mem_map.mpr ⟨_, hpm, rfl⟩)))
    have hrun := va_runS (e := e) (below := below) (meth := meth) (ret := tb_ret j) (bytes := tb_cc j) (maxL := tb_ml j) (n := n) (nL := nL) (g := F0 m pc ls ((as.map (am_tr ad fm)).reverse ++ r.map (am_tr ad fm))) ⟨hx, hb, hml, hown, hts⟩ (hC H.size) ⟨⟨hp1.1, hp1.2.1, hp1.2.2.1, hp1.2.2.2.1, hp1.2.2.2.2.1, hp1.2.2.2.2.2, hp2, hp3, hp4, hp5, hlk⟩, hstc⟩ hpre (rest := r.map (am_tr ad fm)) rfl (by rw [List.length_map]; exact hlen) hls rfl hroom hdg (cells := cells) (slots := slots) (locs := locs) ⟨hcs.1, hcs.2⟩
    exact am_after hrun hS hAs fun v M' H1 locs1 q1 q2 q3 q4 => by rw [← am_ps_map]; exact kk v M' H1 locs1 q1 q2 q3 q4
  · have hlk : (Cond.methodLinkNest (tb_cn own) idx (tb_y j) "JustFivePounds").before args s = true := va_Nw.use rfl (hE.2.2.2.1 _ hpm)
    have hrun := va_runSN (e := e) (below := below) (meth := meth) (ret := tb_ret j) (bytes := tb_cc j) (maxL := tb_ml j) (n := n) (nL := nL) (host := "JustFivePounds") (g := F0 m pc ls ((as.map (am_tr ad fm)).reverse ++ r.map (am_tr ad fm))) ⟨hx, hb, hml, hown, hts⟩ (hC H.size) ⟨⟨hp1, hp2, hp3, hp4, hp5, hlk⟩, hstc, trivial⟩ hpre (rest := r.map (am_tr ad fm)) rfl (by rw [List.length_map]; exact hlen) hls rfl hroom hdg (cells := cells) (slots := slots) (locs := locs) ⟨hcs.1, hcs.2⟩
    exact am_after hrun hS hAs fun v M' H1 locs1 q1 q2 q3 q4 => by rw [← am_ps_map]; exact kk v M' H1 locs1 q1 q2 q3 q4
theorem am_virtual {d j n pc idx kc ic ci : Nat} {as r : List am_V} {M : am_M} {k : am_K} {H : Heap} {locs : List Loc} {ls : Array Slot} {cc : ByteArray} {own nL : Nat}
    (hx : p.tables.exec = Jvm.exec) (hb : c0.code = cc) (hml : c0.maxLocals = nL) (hown : s.vm.findClass (tb_cn own) = some m.cls) (hts : ∀ w ∈ am_ws, w.before args s = true) (hE : am_E wb dC dI ad ca fm L xs A s s.heap) (hA : ∀ q, s.heap.size ≤ q → A q)
    (hR : d + 1 ≤ R.frames ∧ 80 * d + 80 ≤ R.locals) (hcs : cells ≤ R.cells ∧ slots ≤ R.slots) (h0 : 0 < j) (hj : j < tb_n) (hst : tb_st j = 0) (hn : tb_na j = n) (hpm : (own, idx, j) ∈ tb_pm)
    (hci : (ci = 52 ∧ tb_own j = 10) ∨ (ci < 9 ∧ tb_own j = ci)) (hk : kc = ci) (hic : ic < am_cnt wb kc)
    (hdg : decode cc pc = .ok (.invokevirtual idx, 3)) (hC : am_Cal wb l d dC dI ad ca fm L xs j (aR kc ic :: as) M k) (hlen : as.length = n) (hw : am_wsum r ≤ 8) (hls : ls.size = nL)
    (hP : va_P (dC, dI) vwCl (am_W wb ad ca M) H) (hS : va_S A s.heap H locs) (hM : am_scr L xs M)
    (kk : ∀ (v : Option am_V) (M' : am_M) (H1 : Heap) (locs1 : List Loc), k v M' → am_scr L xs M' → va_P (dC, dI) vwCl (am_W wb ad ca M') H1 → va_S A s.heap H1 locs1 → W p l e R s m args below meth c0 H1 locs1 cells slots Q (F0 m (pc + 3) ls ((am_ps v r).map (am_tr ad fm)))) :
    W p l e R s m args below meth c0 H locs cells slots Q (F0 m pc ls ((as.map (am_tr ad fm)).reverse ++ .ref (ad kc ic) :: r.map (am_tr ad fm))) := by
  subst hk
  have hAs := am_A_sub (M := M) hE hS hA
  obtain ⟨hp1, hp2, hp3, hp4, hp5⟩ := am_cwp (R := R) (d := d) hts h0 hj hR hn
  have e54 : am_tr ad fm (aR kc ic) = .ref (ad kc ic) := by
    have : Nat.beq kc 54 = false := by
      cases hq : Nat.beq kc 54 with
      | false => rfl
      | true =>
        have := Nat.eq_of_beq_eq_true hq
        omega
    simp [am_tr, this]
  have hin : (Cond.instanceMethod (tb_y j)).before args s = true := hts _ (tb_mw_in h0 hj (by unfold tb_mw; rw [hst]; exact List.mem_cons_of_mem _ (List.mem_cons_of_mem _ List.mem_cons_self)))
  have hse : (Cond.selects (tb_y j).cls (tb_y j) (tb_y j)).before args s = true := hts _ (tb_mw_in h0 hj (by unfold tb_mw; rw [hst]; exact List.mem_cons_of_mem _ (List.mem_cons_of_mem _ (List.mem_cons_of_mem _ List.mem_cons_self))))
  have hroom : 2 * (F0 m pc ls ((as.map (am_tr ad fm)).reverse ++ .ref (ad kc ic) :: r.map (am_tr ad fm))).monitorRoom + ((r.map (am_tr ad fm)).map fun v => v.category).sum ≤ 8 := lv_room (by rw [am_wsum_spec hE.2.2.2.2.2.1.1]; exact hw)
  have hlk : (Cond.methodLink (tb_cn own) idx (tb_y j)).before args s = true := by
    refine hts (tb_lw (own, idx, j)) ?_
    unfold am_ws
    exact List.mem_append_right _ (List.mem_append_right _ (List.mem_append_left _ (List.mem_map.mpr ⟨_, hpm, rfl⟩)))
  have hrecv : ∃ cell : Cell, H[ad kc ic]? = some cell ∧ cell.vm.isStatics = false ∧ s.vm.findClass (tb_y j).cls = some cell.cls := by
    rw [tb_ycls j hj]
    rcases hci with ⟨rfl, h10⟩ | ⟨h9, ho⟩
    · rw [h10]
      exact vk_recv hE.2.2.2.2.2.2.2.1 hic hS
    · rw [ho, ← (tb_vcn kc h9).2]
      exact va_recv hE.1 hP (tb_vcn kc h9).1 (q0 := am_pos kc ic) (by rw [am_W_get (by omega) hic, am_cell_obj h9])
  have hpre : PreV s H (tb_y j).cls (ad kc ic) (am_Pc wb dC dI ad ca fm L xs (aR kc ic :: as) M H.size) (as.map (am_tr ad fm)) := ⟨am_Pc_blind, hrecv, fun U hU hW => by
    have := am_Pc_of (as := aR kc ic :: as) hE hP hS hM hAs hU hW
    rwa [List.map_cons, e54] at this⟩
  have hrun := va_runV (e := e) (below := below) (meth := meth) (ret := tb_ret j) (bytes := tb_cc j) (maxL := tb_ml j) (n := n) (nL := nL) (g := F0 m pc ls ((as.map (am_tr ad fm)).reverse ++ .ref (ad kc ic) :: r.map (am_tr ad fm))) ⟨hx, hb, hml, hown, hts⟩ (hC H.size) ⟨⟨hp1.1, hp1.2.1, hp1.2.2.1, hp1.2.2.2.1, hp1.2.2.2.2.1, hp1.2.2.2.2.2, hp2, hp3, hp4, hp5, hlk⟩, hin, hse⟩ hpre (rest := r.map (am_tr ad fm)) rfl (by rw [List.length_map]; exact hlen) hls rfl hroom hdg (cells := cells) (slots := slots) (locs := locs) ⟨hcs.1, hcs.2⟩
  exact am_after hrun hS hAs fun v M' H1 locs1 q1 q2 q3 q4 => by rw [← am_ps_map]; exact kk v M' H1 locs1 q1 q2 q3 q4
end AMS
