/-! wb -/
variable {wb : Bool}
/-! EVERY METHOD: what the abstract machine says of a call is a contract of the method -/
theorem tb_rets : ∀ j, j < tb_n → (tb_rt j = 0 → tb_ret j = none) ∧ (tb_rt j = 1 → tb_ret j = some .int) ∧ (tb_rt j = 2 → tb_ret j = some .boolean) ∧ (tb_rt j = 3 → tb_ret j = some .byte) ∧ (tb_rt j = 4 → tb_ret j = some .char) ∧ (tb_rt j = 5 → tb_ret j = some .long) := by decide +kernel
def tb_isobj (r : Option FieldType) : Bool := match r with
  | some (.object _) => true
  | _ => false
theorem tb_ret6 : ∀ j, j < tb_n → tb_rt j = 6 → tb_isobj (tb_ret j) = true := by decide +kernel
theorem am_nby {x : Int} (h : -128 ≤ x ∧ x ≤ 127) : narrow .byte (.int (i3 x)) = .int (i3 x) := by
  have e : ∀ n : Nat, n < 256 → narrow .byte (.int (i3 ((n : Int) - 128))) = .int (i3 ((n : Int) - 128)) := by decide +kernel
  have h1 := e (x + 128).toNat (by omega)
  rwa [show (((x + 128).toNat : Nat) : Int) - 128 = x by omega] at h1
theorem am_nch {x : Int} (h : 0 ≤ x ∧ x ≤ 65535) : narrow .char (.int (i3 x)) = .int (i3 x) := by
  show Value.int _ = _
  congr 1
  obtain ⟨n, rfl⟩ := Int.eq_ofNat_of_zero_le h.1
  have hn : n < 65536 := by omega
  have e : (i3 (n : Int)) = Int32.ofNat n := Int32.ofInt_eq_ofNat
  rw [e]
  apply Int32.toBitVec.inj
  apply BitVec.eq_of_toNat_eq
  simp
  omega
theorem am_pad_len : ∀ (n : Nat) (l : List (Option am_V)), (am_pad n l).length = n
  | 0, _ => rfl
  | n + 1, [] => by simp [am_pad, am_pad_len n []]
  | n + 1, x :: t => by simp [am_pad, am_pad_len n t]
theorem am_pad_get : ∀ (n : Nat) (l : List (Option am_V)) (j : Nat) (v : am_V), (am_pad n l)[j]? = some (some v) → l[j]? = some (some v)
  | 0, _, _, _, h => by simp [am_pad] at h
  | n + 1, [], 0, v, h => by simp [am_pad] at h
  | n + 1, [], j + 1, v, h => by
    have := am_pad_get n [] j v (by simpa [am_pad] using h)
    simp at this
  | n + 1, x :: t, 0, v, h => by simpa [am_pad] using h
  | n + 1, x :: t, j + 1, v, h => by
    have := am_pad_get n t j v (by simpa [am_pad] using h)
    simpa using this
theorem am_ini_args {ad : Nat → Nat → Nat} {fm : Value} (hf : fm.isRef = true) : ∀ (as : List am_V) (k : Nat), am_lvs ad fm k (am_ini as) = lv_args k (as.map (am_tr ad fm))
  | [], k => rfl
  | Sum.inl x :: t, k => by
    simp only [am_ini, am_lvs, List.map_cons, lv_args]
    rw [am_ini_args hf t]
    rfl
  | Sum.inr (Sum.inl x) :: t, k => by
    simp only [am_ini, am_lvs, List.map_cons, lv_args]
    rw [am_ini_args hf t]
    rfl
  | Sum.inr (Sum.inr none) :: t, k => by
    simp only [am_ini, am_lvs, List.map_cons, lv_args]
    rw [am_ini_args hf t]
    rfl
  | Sum.inr (Sum.inr (some (a, b))) :: t, k => by
    simp only [am_ini, am_lvs, List.map_cons, lv_args]
    rw [am_ini_args hf t, am_tr_cat1 hf]
    rfl
theorem am_ini_len {ad : Nat → Nat → Nat} {fm : Value} (hf : fm.isRef = true) : ∀ (as : List am_V), (lg_sl (as.map (am_tr ad fm))).length = (am_ini as).length
  | [] => rfl
  | v :: t => by
    have h := am_ini_len (ad := ad) hf t
    have hc := am_tr_cat1 hf (ad := ad) v
    simp only [lg_sl, List.map_cons, List.flatMap_cons, List.length_append] at h ⊢
    rw [h, hc]
    match v with
    | Sum.inl x => simp [am_ini, am_c1]; omega
    | Sum.inr (Sum.inl x) => simp [am_ini, am_c1]; omega
    | Sum.inr (Sum.inr none) => simp [am_ini, am_c1]; omega
    | Sum.inr (Sum.inr (some (a, b))) => simp [am_ini, am_c1]; omega
theorem am_J_cong {p : Program} {l : Launch} {e : Env} {R : Room} {s : State} {m : MethodId} {args : Array Value} {below : List Frame} {meth : Method} {c0 : Code} {cells slots : Nat} {Q : State → Prop} {dC : Nat → ClassId} {dI : Nat → Nat → Nat} {ad : Nat → Nat → Nat} {ca : Nat → Nat → ClassId} {fm : Value} {L : Nat} {xs : Nat → Int} {A : Nat → Prop} {n : Nat} : am_cong (am_J wb p l e R s m args below meth c0 cells slots Q dC dI ad ca fm L xs A n) := by
  intro pc ls x y st M hxy h H locs ls' hP hS hL hM
  have h1 := h H locs ls' hP hS hL hM
  dsimp only at h1 ⊢
  rw [List.map_cons] at h1 ⊢
  rw [show am_tr ad fm (aI x) = am_tr ad fm (aI y) from congrArg Value.int hxy]
  exact h1
set_option maxHeartbeats 2000000 in
theorem am_met (l : Launch) {dC : Nat → ClassId} {dI : Nat → Nat → Nat} {ad : Nat → Nat → Nat} {ca : Nat → Nat → ClassId} {fm : Value} {L : Nat} {xs : Nat → Int} (hfm : fm.isRef = true) : ∀ (d j : Nat) (as : List am_V) (M : am_M) (k : am_K), 0 < j → j < tb_n → am_Call wb d j as M k → am_Cal wb l d dC dI ad ca fm L xs j as M k
  | 0, j, as, M, k, _, _, h => h.elim
  | d + 1, j, as, M, k, h0, hj, h => by
    intro sz
    refine Met.ofW (cc := tb_cc j) (maxL := tb_ml j) (ret := tb_ret j) (by rw [tb_ycls j hj]; exact (tb_noMH _ (tb_own14 j hj)).2.2) rfl ?_
    intro p e s m args below meth c s₁ B hml hv
    obtain ⟨rfl, hsz, hP, hE, hM⟩ := hv
    have hx := B.exec
    have hb := B.bytes
    have hr := B.returns
    have hts0 := atoms_spec (ws := tb_ws j) B.pre
    have hts : ∀ w ∈ am_ws, w.before (as.map (am_tr ad fm)).toArray s = true := fun w hw => hts0 w (List.mem_cons_of_mem _ hw)
    have hown : s.vm.findClass (tb_y j).cls = some m.cls := findClass_of_methodNamed B.named
    rw [tb_ycls j hj] at hown
    have hlocks := B.notSynchronized
    subst hsz
    have hle : (lg_sl (as.map (am_tr ad fm))).length ≤ tb_ml j := by rw [am_ini_len hfm]; exact Nat.le_of_ble_eq_true h.1
    have hl := lv_entry (as.map (am_tr ad fm)) (n := tb_ml j) hle
    rw [lg_entry_eq]
    generalize (lg_sl (as.map (am_tr ad fm)) ++ List.replicate (tb_ml j - (lg_sl (as.map (am_tr ad fm))).length) Slot.unset).toArray = ls at hl ⊢
    have hL : am_L ad fm (tb_ml j) (am_pad (tb_ml j) (am_ini as)) ls := by
      refine ⟨am_pad_len _ _, hl.1, hl.2.1, fun q hq => ?_⟩
      obtain ⟨i, v, q1, q2⟩ := (am_lvs_mem _ 0 q).mp hq
      refine hl.2.2 q ?_
      have h3 : q ∈ am_lvs ad fm 0 (am_ini as) := (am_lvs_mem _ 0 q).mpr ⟨i, v, am_pad_get _ _ i v q1, q2⟩
      rwa [am_ini_args hfm] at h3
    have hA : ∀ q, s.heap.size ≤ q → va_A (am_W wb ad ca M) s.heap.size q := fun q hq => Or.inr hq
    refine h.2 (am_J wb p l e (headSpec (tb_ws j) (am_rm (d + 1))).room s m (as.map (am_tr ad fm)).toArray below meth c 0 0 (MQ below (am_Qc wb dC dI ad ca fm L xs M s.heap.size k) (as.map (am_tr ad fm)).toArray s 0 0 (va_A (am_W wb ad ca M) s.heap.size)) dC dI ad ca fm L xs (va_A (am_W wb ad ca M) s.heap.size) (tb_ml j)) ?_ am_J_cong s.heap [] ls hP va_S.rf hL hM
    refine am_step hj hx hb hml hown hts hE hA ⟨Nat.le_refl _, by show 80 * d + 80 ≤ 80 * (d + 1); omega⟩ ⟨Nat.zero_le _, Nat.zero_le _⟩ (fun j' as' M' k' g1 g2 g3 => am_met l hfm d j' as' M' k' g1 g2 g3) ?_
    intro pc H locs ls' v M' hret hk hP' hS' hM'
    have hfr : ∀ q ∈ locs, va_A (am_W wb ad ca M) s.heap.size q.base := hS'.2.2
    have hQ : ∀ t : State, t.heap = H → am_Qc wb dC dI ad ca fm L xs M s.heap.size k (as.map (am_tr ad fm)).toArray s (.returned (v.map (am_tr ad fm))) t := fun t ht => ⟨⟨v, M', rfl, hk, hM', by rw [ht]; exact hP'⟩, hS'.F ht⟩
    obtain ⟨r0, r1, r2, r3, r4, r5⟩ := tb_rets j hj
    match v, hret, hQ with
    | none, hret, hQ => exact W.vret hx hb (by rw [hr]; exact r0 hret.1) (fun t ht _ => hQ t ht) hfr hret.2
    | some (Sum.inl x), hret, hQ =>
      obtain ⟨ty, hty, hn⟩ : ∃ ty, tb_ret j = some ty ∧ narrow ty (.int (i3 x)) = .int (i3 x) := by
        rcases hret.1 with h1 | ⟨h1, h2⟩ | ⟨h1, h2⟩ | ⟨h1, h2⟩
        · exact ⟨_, r1 h1, rfl⟩
        · exact ⟨_, r2 h1, am_nb h2⟩
        · exact ⟨_, r3 h1, am_nby h2⟩
        · exact ⟨_, r4 h1, am_nch h2⟩
      exact W.zret hx hb (by rw [hr]; exact hty) hn (fun t ht _ => hQ t ht) hfr hret.2
    | some (Sum.inr (Sum.inl x)), hret, hQ => exact W.lret hx hb (by rw [hr]; exact r5 hret.1) (fun t ht _ => hQ t ht) hfr hret.2
    | some (Sum.inr (Sum.inr none)), hret, hQ =>
      have h6 := tb_ret6 j hj hret.1
      obtain ⟨n, hn⟩ : ∃ n, tb_ret j = some (.object n) := by
        cases hq : tb_ret j with
        | none => rw [hq] at h6; cases h6
        | some ty => cases ty <;> first | exact ⟨_, rfl⟩ | (rw [hq] at h6; cases h6)
      exact W.aret hx hb (by rw [hr]; exact hn) (Or.inl ⟨n, rfl⟩) (Or.inl rfl) (fun t ht _ => hQ t ht) hfr hret.2
    | some (Sum.inr (Sum.inr (some (a, b)))), hret, hQ =>
      have h6 := tb_ret6 j hj hret.1.1
      obtain ⟨n, hn⟩ : ∃ n, tb_ret j = some (.object n) := by
        cases hq : tb_ret j with
        | none => rw [hq] at h6; cases h6
        | some ty => cases ty <;> first | exact ⟨_, rfl⟩ | (rw [hq] at h6; cases h6)
      have e := am_tr_ref (ad := ad) (fm := fm) (i := b) (am_ne54 hret.1.2)
      have hQ' : ∀ t : State, t.heap = H → am_Qc wb dC dI ad ca fm L xs M s.heap.size k (as.map (am_tr ad fm)).toArray s (.returned (some (.ref (ad a b)))) t := fun t ht => by
        have := hQ t ht
        rwa [Option.map_some, e] at this
      have hg : (am_ps (some (aR a b)) []).map (am_tr ad fm) = [.ref (ad a b)] := by rw [← e]; rfl
      rw [show (am_ps (some (Sum.inr (Sum.inr (some (a, b))))) []).map (am_tr ad fm) = [.ref (ad a b)] from hg]
      exact W.aret hx hb (by rw [hr]; exact hn) (Or.inl ⟨n, rfl⟩) (Or.inr ⟨_, rfl⟩) (fun t ht _ => hQ' t ht) hfr hret.2
