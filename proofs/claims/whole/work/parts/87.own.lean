/-! wb -/
/-! WHAT IS MADE: the contract of the class's own constructor -/
abbrev ct_o7 (h0 : Nat) : va_W := [(h0, .inr (7, [.null, .null, .int (i3 0), .null, .null, .null, .int (i3 0), .null, .null, .null, .null]))]
/-- behind the class's own constructor -/
def ct_B7 (dC : Nat → ClassId) (dI : Nat → Nat → Nat) (a5 : Nat → Nat → Nat) (L : Nat) (xs : Nat → Int) (A : Nat → Prop) (h0 : Nat) (t : State) : Prop :=
  ∃ (ad : Nat → Nat → Nat) (ca : Nat → Nat → ClassId) (M : am_M), (∀ k, 42 ≤ k → ad k = a5 k) ∧ ad 7 0 = h0 ∧ va_P (dC, dI) vwCl (am_W false ad ca M) t.heap ∧ va_D A (am_W false ad ca M) ∧ (∀ k i, 9 ≤ k → k < 42 → i < am_cnt false k → ArrOfT t (ca k i) (am_aty k) ∧ va_RA t (ca k i) (am_aty k)) ∧ ct_made L xs M
theorem ct_bf {a b : Nat} (h : a ≠ b) : Nat.beq a b = false := by
  cases hb : Nat.beq a b with
  | true => exact absurd (Nat.eq_of_beq_eq_true hb) h
  | false => rfl
theorem ct_cas {s : State} {dC : Nat → ClassId} {dI : Nat → Nat → Nat} {cH cT cS cI : ClassId} (hI : va_K (dC, dI) vwCl [(cI, .int)] s) (hH : va_K (dC, dI) vwCl [(cH, .object RX1)] s) (hT : va_K (dC, dI) vwCl [(cT, .object RX6)] s) (hS : va_K (dC, dI) vwCl [(cS, .object RX2)] s) : ∀ k i, 9 ≤ k → k < 42 → ArrOfT s (ct_ca cH cT cS cI k i) (am_aty k) ∧ va_RA s (ct_ca cH cT cS cI k i) (am_aty k) := by
  intro k i h1 h2
  by_cases e9 : k = 9
  · subst e9
    exact hH.2 0 _ rfl
  · by_cases e10 : k = 10
    · subst e10
      exact hT.2 0 _ rfl
    · by_cases e11 : k = 11
      · subst e11
        exact hS.2 0 _ rfl
      · have e1 : ct_ca cH cT cS cI k i = cI := by
          unfold ct_ca
          rw [ct_bf e9, ct_bf e10, ct_bf e11]
          rfl
        have e2 : am_aty k = .int := by
          unfold am_aty
          rw [if_neg e9, if_neg e10, if_neg e11]
        rw [e1, e2]
        exact hI.2 0 _ rfl
set_option maxHeartbeats 8000000 in
set_option maxRecDepth 100000 in
theorem ct_X (l : Launch) (dC : Nat → ClassId) (dI : Nat → Nat → Nat) (cI : ClassId) (a5 : Nat → Nat → Nat) (fm : Value) (L : Nat) (xs : Nat → Int) (hfm : fm.isRef = true) (h0 sz : Nat) : Met l (tb_y 1) (.code (tb_y 1) (tb_cc 1) (tb_ml 1) (tb_ret 1) :: ct_ws) ({ frames := 61, cells := 62, slots := 3408, locals := 4880 }) (va_Pc [.ref h0] (fun U => U.heap.size = sz ∧ va_P (dC, dI) vwCl (ct_o7 h0) U.heap ∧ va_D (fun _ => True) (ct_o7 h0) ∧ ct_E7 cI dC dI U ∧ ct_T5 (a5 50) (a5 51) (a5 52) (a5 53) fm L xs (va_A (ct_o7 h0) sz) U U.heap)) (va_Qv (fun _ : Unit => True) (fun _ t => ct_B7 dC dI a5 L xs (va_A (ct_o7 h0) sz) h0 t) (va_A (ct_o7 h0) sz)) 62 3408 (va_A (ct_o7 h0) sz) := by
  refine Met.ofW (cc := tb_cc 1) (maxL := 2) (ret := none) (by decide) rfl ?_
  intro p e s m args below meth c s₁ B hml hv
  obtain ⟨rfl, hsz, hP, hD0, hE7, hT5⟩ := hv
  have hx := B.exec
  have hb := B.bytes
  have hr := B.returns
  have hts0 := atoms_spec (ws := .code (tb_y 1) (tb_cc 1) (tb_ml 1) (tb_ret 1) :: ct_ws) B.pre
  have hts : ∀ w ∈ ct_ws, w.before ([Value.ref h0].toArray) s = true := fun w hw => hts0 w (List.mem_cons_of_mem _ hw)
  have hown : s.vm.findClass RX7 = some m.cls := findClass_of_methodNamed B.named
  have hlocks := B.notSynchronized
  have hin : meth.name = "<init>" := (name_of_methodNamed B.named B.method).1
  subst hsz
  have hD := hD0.self (sz := s.heap.size)
  obtain ⟨A, hAe⟩ : ∃ A, A = va_A (ct_o7 h0) s.heap.size := ⟨_, rfl⟩
  rw [← hAe] at hD hT5 ⊢
  have hA : ∀ q : Nat, s.heap.size ≤ q → A q := fun q h => by rw [hAe]; exact Or.inr h
  have hS : va_S A s.heap s.heap [] := va_S.rf
  have hl := lv_entry ([.ref h0]) (n := 2) (Nat.le_of_ble_eq_true rfl)
  rw [lg_entry_eq]
  generalize (lg_sl ([.ref h0]) ++ List.replicate (2 - (lg_sl ([.ref h0])).length) Slot.unset).toArray = ls at hl ⊢
  have hl : lv_has ls 2 [(0, .ref h0)] := hl
  refine ct_first hx hb hml hown hts hE7 hA (by decide) hin hP hD hS hl ⟨Nat.le_of_ble_eq_true rfl, Nat.le_of_ble_eq_true rfl⟩ (fun H locs nw kp hd tr tx tp tpa sh sp spa spb spc bs cH cT cS hKH hKT hKS hP hD hS => ?_)
  refine W.widen (k := 13) (n := 230) (Nat.le_of_ble_eq_true rfl) (Nat.le_of_ble_eq_true rfl) ?_
  refine lv_iconst (v := 0) hx hb ct_x95 (by decide) ?_
  refine lv_istore_n (lv' := [(1, .int 0), (0, .ref h0)]) hx hb ct_x96 rfl hl (by decide) rfl (fun ls hl => ?_)
  refine ct_it1 (i2 := 1) (j := 0) hx hb hml hown hts hE7 hA (by decide) (fs := [.ref nw, .ref kp, .int (i3 0), .ref hd, .ref tr, .ref tx, .int (i3 0), .ref tp, .ref sh, .ref sp, .ref bs]) rfl ⟨by decide, by unfold vp_in; decide, by decide, by decide⟩ hKH hP hD hS hl ⟨Nat.le_of_ble_eq_true rfl, Nat.le_of_ble_eq_true rfl⟩ (fun H locs ls hn0 hP hD hS hl => ?_)
  refine W.widen (k := 14) (n := 236) (Nat.le_of_ble_eq_true rfl) (Nat.le_of_ble_eq_true rfl) ?_
  refine ct_it1 (i2 := 2) (j := 1) hx hb hml hown hts hE7 hA (by decide) (fs := [.ref nw, .ref kp, .int (i3 0), .ref hd, .ref tr, .ref tx, .int (i3 0), .ref tp, .ref sh, .ref sp, .ref bs]) rfl ⟨by decide, by unfold vp_in; decide, by decide, by decide⟩ hKH hP hD hS hl ⟨Nat.le_of_ble_eq_true rfl, Nat.le_of_ble_eq_true rfl⟩ (fun H locs ls hn1 hP hD hS hl => ?_)
  refine W.widen (k := 15) (n := 242) (Nat.le_of_ble_eq_true rfl) (Nat.le_of_ble_eq_true rfl) ?_
  refine ct_it1 (i2 := 3) (j := 2) hx hb hml hown hts hE7 hA (by decide) (fs := [.ref nw, .ref kp, .int (i3 0), .ref hd, .ref tr, .ref tx, .int (i3 0), .ref tp, .ref sh, .ref sp, .ref bs]) rfl ⟨by decide, by unfold vp_in; decide, by decide, by decide⟩ hKH hP hD hS hl ⟨Nat.le_of_ble_eq_true rfl, Nat.le_of_ble_eq_true rfl⟩ (fun H locs ls hn2 hP hD hS hl => ?_)
  refine W.widen (k := 16) (n := 248) (Nat.le_of_ble_eq_true rfl) (Nat.le_of_ble_eq_true rfl) ?_
  refine ct_it1 (i2 := 4) (j := 3) hx hb hml hown hts hE7 hA (by decide) (fs := [.ref nw, .ref kp, .int (i3 0), .ref hd, .ref tr, .ref tx, .int (i3 0), .ref tp, .ref sh, .ref sp, .ref bs]) rfl ⟨by decide, by unfold vp_in; decide, by decide, by decide⟩ hKH hP hD hS hl ⟨Nat.le_of_ble_eq_true rfl, Nat.le_of_ble_eq_true rfl⟩ (fun H locs ls hn3 hP hD hS hl => ?_)
  refine W.widen (k := 17) (n := 254) (Nat.le_of_ble_eq_true rfl) (Nat.le_of_ble_eq_true rfl) ?_
  refine ct_it1 (i2 := 5) (j := 4) hx hb hml hown hts hE7 hA (by decide) (fs := [.ref nw, .ref kp, .int (i3 0), .ref hd, .ref tr, .ref tx, .int (i3 0), .ref tp, .ref sh, .ref sp, .ref bs]) rfl ⟨by decide, by unfold vp_in; decide, by decide, by decide⟩ hKH hP hD hS hl ⟨Nat.le_of_ble_eq_true rfl, Nat.le_of_ble_eq_true rfl⟩ (fun H locs ls hn4 hP hD hS hl => ?_)
  refine W.widen (k := 18) (n := 260) (Nat.le_of_ble_eq_true rfl) (Nat.le_of_ble_eq_true rfl) ?_
  refine lv_iload_n hx hb ct_x97 rfl (lv_at hl 0 rfl) ?_
  refine lv_aload_n hx hb ct_x98 rfl (lv_at hl 1 rfl) ?_
  refine va_get (D := (dC, dI)) (ci := 7) (v := .ref hd) (C := RX7) (T := TX7) (N := 11) hx hb hts (ct_u 7 (by decide)) hown hE7.1 hP 0 rfl rfl 3 (by decide) (hts (.fieldLink RX7 21 "JustFivePounds" "hands" "[LJustFivePounds$Hand;") (ct_m 59 rfl)) (fun _ h9 => h9) rfl ct_x99 ?_
  refine va_alen (v := 5) hx hb hKH hP 3 0 rfl rfl (show Int32.ofNat 5 = 5 by decide +kernel) ct_x102 ?_
  refine lv_icmp_ge (tgt := 125) hx hb ct_x103 (by decide) (fun _ => ?_) (fun h => absurd (by decide) h)
  refine lv_iconst (v := 0) hx hb ct_x125 (by decide) ?_
  refine lv_istore_n (lv' := [(1, .int 0), (0, .ref h0)]) hx hb ct_x126 rfl hl (by decide) rfl (fun ls hl => ?_)
  refine ct_it6 (i2 := 1) (j := 0) hx hb hml hown hts hE7 hA (by decide) (fs := [.ref nw, .ref kp, .int (i3 0), .ref hd, .ref tr, .ref tx, .int (i3 0), .ref tp, .ref sh, .ref sp, .ref bs]) rfl ⟨by decide, by unfold vp_in; decide, by decide, by decide⟩ hKT hP hD hS hl ⟨Nat.le_of_ble_eq_true rfl, Nat.le_of_ble_eq_true rfl⟩ (fun H locs ls tn0 tn0a tn0b tn0c tn0d tn0e hP hD hS hl => ?_)
  refine W.widen (k := 24) (n := 756) (Nat.le_of_ble_eq_true rfl) (Nat.le_of_ble_eq_true rfl) ?_
  refine ct_it6 (i2 := 2) (j := 1) hx hb hml hown hts hE7 hA (by decide) (fs := [.ref nw, .ref kp, .int (i3 0), .ref hd, .ref tr, .ref tx, .int (i3 0), .ref tp, .ref sh, .ref sp, .ref bs]) rfl ⟨by decide, by unfold vp_in; decide, by decide, by decide⟩ hKT hP hD hS hl ⟨Nat.le_of_ble_eq_true rfl, Nat.le_of_ble_eq_true rfl⟩ (fun H locs ls tn1 tn1a tn1b tn1c tn1d tn1e hP hD hS hl => ?_)
  refine W.widen (k := 30) (n := 1252) (Nat.le_of_ble_eq_true rfl) (Nat.le_of_ble_eq_true rfl) ?_
  refine ct_it6 (i2 := 3) (j := 2) hx hb hml hown hts hE7 hA (by decide) (fs := [.ref nw, .ref kp, .int (i3 0), .ref hd, .ref tr, .ref tx, .int (i3 0), .ref tp, .ref sh, .ref sp, .ref bs]) rfl ⟨by decide, by unfold vp_in; decide, by decide, by decide⟩ hKT hP hD hS hl ⟨Nat.le_of_ble_eq_true rfl, Nat.le_of_ble_eq_true rfl⟩ (fun H locs ls tn2 tn2a tn2b tn2c tn2d tn2e hP hD hS hl => ?_)
  refine W.widen (k := 36) (n := 1748) (Nat.le_of_ble_eq_true rfl) (Nat.le_of_ble_eq_true rfl) ?_
  refine ct_it6 (i2 := 4) (j := 3) hx hb hml hown hts hE7 hA (by decide) (fs := [.ref nw, .ref kp, .int (i3 0), .ref hd, .ref tr, .ref tx, .int (i3 0), .ref tp, .ref sh, .ref sp, .ref bs]) rfl ⟨by decide, by unfold vp_in; decide, by decide, by decide⟩ hKT hP hD hS hl ⟨Nat.le_of_ble_eq_true rfl, Nat.le_of_ble_eq_true rfl⟩ (fun H locs ls tn3 tn3a tn3b tn3c tn3d tn3e hP hD hS hl => ?_)
  refine W.widen (k := 42) (n := 2244) (Nat.le_of_ble_eq_true rfl) (Nat.le_of_ble_eq_true rfl) ?_
  refine ct_it6 (i2 := 5) (j := 4) hx hb hml hown hts hE7 hA (by decide) (fs := [.ref nw, .ref kp, .int (i3 0), .ref hd, .ref tr, .ref tx, .int (i3 0), .ref tp, .ref sh, .ref sp, .ref bs]) rfl ⟨by decide, by unfold vp_in; decide, by decide, by decide⟩ hKT hP hD hS hl ⟨Nat.le_of_ble_eq_true rfl, Nat.le_of_ble_eq_true rfl⟩ (fun H locs ls tn4 tn4a tn4b tn4c tn4d tn4e hP hD hS hl => ?_)
  refine W.widen (k := 48) (n := 2740) (Nat.le_of_ble_eq_true rfl) (Nat.le_of_ble_eq_true rfl) ?_
  refine ct_it6 (i2 := 6) (j := 5) hx hb hml hown hts hE7 hA (by decide) (fs := [.ref nw, .ref kp, .int (i3 0), .ref hd, .ref tr, .ref tx, .int (i3 0), .ref tp, .ref sh, .ref sp, .ref bs]) rfl ⟨by decide, by unfold vp_in; decide, by decide, by decide⟩ hKT hP hD hS hl ⟨Nat.le_of_ble_eq_true rfl, Nat.le_of_ble_eq_true rfl⟩ (fun H locs ls tn5 tn5a tn5b tn5c tn5d tn5e hP hD hS hl => ?_)
  refine W.widen (k := 54) (n := 3236) (Nat.le_of_ble_eq_true rfl) (Nat.le_of_ble_eq_true rfl) ?_
  refine lv_iload_n hx hb ct_x127 rfl (lv_at hl 0 rfl) ?_
  refine lv_aload_n hx hb ct_x128 rfl (lv_at hl 1 rfl) ?_
  refine va_get (D := (dC, dI)) (ci := 7) (v := .ref tx) (C := RX7) (T := TX7) (N := 11) hx hb hts (ct_u 7 (by decide)) hown hE7.1 hP 0 rfl rfl 5 (by decide) (hts (.fieldLink RX7 32 "JustFivePounds" "texts" "[LJustFivePounds$Text;") (ct_m 62 rfl)) (fun _ h9 => h9) rfl ct_x129 ?_
  refine va_alen (v := 6) hx hb hKT hP 2 0 rfl rfl (show Int32.ofNat 6 = 6 by decide +kernel) ct_x132 ?_
  refine lv_icmp_ge (tgt := 155) hx hb ct_x133 (by decide) (fun _ => ?_) (fun h => absurd (by decide) h)
  refine lv_iconst (v := 0) hx hb ct_x155 (by decide) ?_
  refine lv_istore_n (lv' := [(1, .int 0), (0, .ref h0)]) hx hb ct_x156 rfl hl (by decide) rfl (fun ls hl => ?_)
  refine ct_it2 (i2 := 1) (j := 0) hx hb hml hown hts hE7 hA (by decide) (fs := [.ref nw, .ref kp, .int (i3 0), .ref hd, .ref tr, .ref tx, .int (i3 0), .ref tp, .ref sh, .ref sp, .ref bs]) rfl ⟨by decide, by unfold vp_in; decide, by decide, by decide⟩ hKS hP hD hS hl ⟨Nat.le_of_ble_eq_true rfl, Nat.le_of_ble_eq_true rfl⟩ (fun H locs ls sn0 sn0a hP hD hS hl => ?_)
  refine W.widen (k := 56) (n := 3279) (Nat.le_of_ble_eq_true rfl) (Nat.le_of_ble_eq_true rfl) ?_
  refine ct_it2 (i2 := 2) (j := 1) hx hb hml hown hts hE7 hA (by decide) (fs := [.ref nw, .ref kp, .int (i3 0), .ref hd, .ref tr, .ref tx, .int (i3 0), .ref tp, .ref sh, .ref sp, .ref bs]) rfl ⟨by decide, by unfold vp_in; decide, by decide, by decide⟩ hKS hP hD hS hl ⟨Nat.le_of_ble_eq_true rfl, Nat.le_of_ble_eq_true rfl⟩ (fun H locs ls sn1 sn1a hP hD hS hl => ?_)
  refine W.widen (k := 58) (n := 3322) (Nat.le_of_ble_eq_true rfl) (Nat.le_of_ble_eq_true rfl) ?_
  refine ct_it2 (i2 := 3) (j := 2) hx hb hml hown hts hE7 hA (by decide) (fs := [.ref nw, .ref kp, .int (i3 0), .ref hd, .ref tr, .ref tx, .int (i3 0), .ref tp, .ref sh, .ref sp, .ref bs]) rfl ⟨by decide, by unfold vp_in; decide, by decide, by decide⟩ hKS hP hD hS hl ⟨Nat.le_of_ble_eq_true rfl, Nat.le_of_ble_eq_true rfl⟩ (fun H locs ls sn2 sn2a hP hD hS hl => ?_)
  refine W.widen (k := 60) (n := 3365) (Nat.le_of_ble_eq_true rfl) (Nat.le_of_ble_eq_true rfl) ?_
  refine ct_it2 (i2 := 4) (j := 3) hx hb hml hown hts hE7 hA (by decide) (fs := [.ref nw, .ref kp, .int (i3 0), .ref hd, .ref tr, .ref tx, .int (i3 0), .ref tp, .ref sh, .ref sp, .ref bs]) rfl ⟨by decide, by unfold vp_in; decide, by decide, by decide⟩ hKS hP hD hS hl ⟨Nat.le_of_ble_eq_true rfl, Nat.le_of_ble_eq_true rfl⟩ (fun H locs ls sn3 sn3a hP hD hS hl => ?_)
  refine W.widen (k := 62) (n := 3408) (Nat.le_of_ble_eq_true rfl) (Nat.le_of_ble_eq_true rfl) ?_
  refine lv_iload_n hx hb ct_x157 rfl (lv_at hl 0 rfl) ?_
  refine lv_aload_n hx hb ct_x158 rfl (lv_at hl 1 rfl) ?_
  refine va_get (D := (dC, dI)) (ci := 7) (v := .ref sh) (C := RX7) (T := TX7) (N := 11) hx hb hts (ct_u 7 (by decide)) hown hE7.1 hP 0 rfl rfl 8 (by decide) (hts (.fieldLink RX7 45 "JustFivePounds" "sheets" "[LJustFivePounds$Sheet;") (ct_m 66 rfl)) (fun _ h9 => h9) rfl ct_x159 ?_
  refine va_alen (v := 4) hx hb hKS hP 1 0 rfl rfl (show Int32.ofNat 4 = 4 by decide +kernel) ct_x162 ?_
  refine lv_icmp_ge (tgt := 185) hx hb ct_x163 (by decide) (fun _ => ?_) (fun h => absurd (by decide) h)
  obtain ⟨hP, hD⟩ := ct_second (L := L) (xs := xs) (cI := cI) a5 h0 sh tx hd sn3 sn3a sn2 sn2a sn1 sn1a sn0 sn0a tn5 tn5a tn5b tn5c tn5d tn5e tn4 tn4a tn4b tn4c tn4d tn4e tn3 tn3a tn3b tn3c tn3d tn3e tn2 tn2a tn2b tn2c tn2d tn2e tn1 tn1a tn1b tn1c tn1d tn1e tn0 tn0a tn0b tn0c tn0d tn0e hn4 hn3 hn2 hn1 hn0 bs sp spa spb spc tp tpa tr kp nw hP hD
  have hca := ct_cas hE7.1 hKH hKT hKS
  have had : ct_ad [bs, hn0, hn1, hn2, hn3, hn4, tr, sn0, sn1, sn2, sn3, nw, kp, sp, tp, tn0, tn1, tn2, tn3, tn4, tn5, h0, hd, tx, sh, spa, spb, spc, tn0a, tn1a, tn2a, tn3a, tn4a, tn5a, tn0b, tn1b, tn2b, tn3b, tn4b, tn5b, tn0c, tn1c, tn2c, tn3c, tn4c, tn5c, tn0d, tn1d, tn2d, tn3d, tn4d, tn5d, tn0e, tn1e, tn2e, tn3e, tn4e, tn5e, tpa, sn0a, sn1a, sn2a, sn3a] a5 7 0 = h0 := rfl
  obtain ⟨ad, hade⟩ : ∃ ad, ad = ct_ad [bs, hn0, hn1, hn2, hn3, hn4, tr, sn0, sn1, sn2, sn3, nw, kp, sp, tp, tn0, tn1, tn2, tn3, tn4, tn5, h0, hd, tx, sh, spa, spb, spc, tn0a, tn1a, tn2a, tn3a, tn4a, tn5a, tn0b, tn1b, tn2b, tn3b, tn4b, tn5b, tn0c, tn1c, tn2c, tn3c, tn4c, tn5c, tn0d, tn1d, tn2d, tn3d, tn4d, tn5d, tn0e, tn1e, tn2e, tn3e, tn4e, tn5e, tpa, sn0a, sn1a, sn2a, sn3a] a5 := ⟨_, rfl⟩
  have ha5 : ∀ k, 42 ≤ k → ad k = a5 k := by
    intro k hk
    rw [hade]
    funext i
    unfold ct_ad
    rw [show Nat.blt k 42 = false from Bool.eq_false_iff.mpr (fun h => by have := Nat.blt_eq.mp h; omega)]
    rfl
  rw [← hade] at hP hD had
  clear hade
  have hEa : am_E false dC dI ad (ct_ca cH cT cS cI) fm L xs A s s.heap := hT5.am (hE7.1.sub (tys' := []) [] rfl) (fun k i h1 h2 _ => hca k i h1 h2) (fun M => ct_DM hD M) ⟨ha5 50 (by decide), ha5 51 (by decide), ha5 52 (by decide), ha5 53 (by decide)⟩
  have hJ := ct_tail7 (wb := false) (d := 60) (K := fun v M => v = none ∧ ct_made L xs M) (by omega) (am_step (e := e) (i := 1) (d := 60) (by decide) hx hb hml hown (fun w hw => hts w (List.mem_append_left _ hw)) hEa hA (R := (headSpec (.code (tb_y 1) (tb_cc 1) (tb_ml 1) (tb_ret 1) :: ct_ws) ({ frames := 61, cells := 62, slots := 3408, locals := 4880 })).room) ⟨Nat.le_of_ble_eq_true rfl, Nat.le_of_ble_eq_true rfl⟩ (cells := 62) (slots := 3408) ⟨Nat.le_of_ble_eq_true rfl, Nat.le_of_ble_eq_true rfl⟩ (fun j as M k h1 h2 h3 => am_met l hfm 60 j as M k h1 h2 h3) (Q := MQ below (va_Qv (fun _ : Unit => True) (fun _ t => ct_B7 dC dI a5 L xs A h0 t) A) ([Value.ref h0].toArray) s 62 3408 A) (fun pc H locs ls v M hret hk hP' hS' _ => by
      obtain ⟨rfl, hm⟩ := hk
      exact W.vret hx hb hr (fun t ht hW => ⟨⟨(), rfl, trivial, ad, _, M, ha5, had, by rw [ht]; exact hP', ct_DM hD M, fun k i h1 h2 _ => ⟨arrOfT_moved hW.alike (hca k i h1 h2).1, (hca k i h1 h2).2.moved hW.alike⟩, hm⟩, hS'.F ht⟩) hS'.2.2 hret.2)) (L := L) (xs := xs) (fun M h => ⟨rfl, h⟩)
  refine hJ H _ ls hP hS ⟨rfl, ?_⟩ ⟨rfl, fun _ => rfl⟩
  have hl2 := lv_sub (l' := [(0, .ref h0)]) hl [1] rfl
  rw [← had] at hl2
  exact hl2
