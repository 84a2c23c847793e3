/-! wb -/
/-! THE REFERENCE: held signs in memory -/
def mo_hd (M m : am_M) (t : Nat) (H : List Int) (o : Int) (out : List Int) : Prop := (m 446 0 0 = (H.length : Int) ∧ (∀ j, j < H.length → m 36 0 j = H.getD (H.length - 1 - j) 0) ∧ m 447 0 0 = o ∧ ∀ s ∈ H, 0 ≤ s ∧ s ≤ 19) ∧ m 448 0 0 = (out.length : Int) ∧ (∀ j, j < out.length → m 28 0 (200 * t + j) = out.getD j 0) ∧ ∀ j, (j < 200 * t ∨ 200 * t + 200 ≤ j) → m 28 0 j = M 28 0 j
abbrev mo_SR : List Nat := [28, 36, 440, 441, 442, 443, 446, 447, 448]
theorem mo_hd.top {M m : am_M} {t : Nat} {s o : Int} {r out : List Int} (h : mo_hd M m t (s :: r) o out) : m 36 0 r.length = s ∧ 0 ≤ s ∧ s ≤ 19 := by
  refine ⟨?_, h.1.2.2.2 s List.mem_cons_self⟩
  rw [h.1.2.1 r.length (by simp)]
  simp
theorem mo_hd.pop {M m : am_M} {t : Nat} {s o : Int} {r out : List Int} (h : mo_hd M m t (s :: r) o out) : mo_hd M (am_wr m 446 0 0 (r.length : Int)) t r o out := by
  refine ⟨⟨am_wr_eq, fun j hj => ?_, h.1.2.2.1, fun x hx => h.1.2.2.2 x (List.mem_cons_of_mem _ hx)⟩, h.2⟩
  refine (am_wr_ne (Or.inl (by decide))).trans ?_
  rw [h.1.2.1 j (by simp; omega)]
  rw [show (s :: r).length - 1 - j = (r.length - 1 - j) + 1 by simp; omega]
  simp
theorem mo_hd.push {M m : am_M} {t : Nat} {s o : Int} {H out : List Int} (h : mo_hd M m t H o out) (hs : 0 ≤ s ∧ s ≤ 19) : mo_hd M (am_wr (am_wr m 36 0 H.length s) 446 0 0 ((H.length : Int) + 1)) t (s :: H) o out := by
  refine ⟨⟨am_wr_eq.trans (by simp), fun j hj => ?_, h.1.2.2.1, fun x hx => ?_⟩, h.2⟩
  · refine (am_wr_ne (Or.inl (by decide))).trans ?_
    by_cases e : j = H.length
    · rw [e, am_wr_eq]
      simp
    · simp only [List.length_cons] at hj
      rw [am_wr_ne (Or.inr (Or.inr e)), h.1.2.1 j (by omega)]
      rw [show (s :: H).length - 1 - j = (H.length - 1 - j) + 1 by simp; omega]
      simp
  · rcases List.mem_cons.mp hx with rfl | hx
    · exact hs
    · exact h.1.2.2.2 x hx
theorem mo_hd.put {M m : am_M} {t : Nat} {o c : Int} {H out : List Int} (h : mo_hd M m t H o out) (hl : out.length < 200) : mo_hd M (am_wr (am_wr m 28 0 (200 * t + out.length) c) 448 0 0 ((out.length : Int) + 1)) t H o (out ++ [c]) := by
  refine ⟨h.1, am_wr_eq.trans (by rw [List.length_append, List.length_singleton]; omega), fun j hj => ?_, fun j hj => ?_⟩
  · refine (am_wr_ne (Or.inl (by decide))).trans ?_
    rw [List.length_append, List.length_singleton] at hj
    by_cases e : j = out.length
    · rw [e, am_wr_eq]
      simp
    · rw [am_wr_ne (Or.inr (Or.inr (by omega))), h.2.2.1 j (by omega), List.getD_eq_getElem?_getD, List.getD_eq_getElem?_getD, List.getElem?_append_left (by omega)]
  · exact (am_wr_ne (Or.inl (by decide))).trans ((am_wr_ne (Or.inr (Or.inr (by omega)))).trans (h.2.2.2 j hj))
theorem mo_hd.op {M m : am_M} {t : Nat} {o o' : Int} {H out : List Int} (h : mo_hd M m t H o out) : mo_hd M (am_wr m 447 0 0 o') t H o' out := ⟨⟨h.1.1, h.1.2.1, am_wr_eq, h.1.2.2.2⟩, h.2⟩
/-- what the lexer holds -/
def mo_lx (m g : am_M) : Prop := m 440 = g 440 ∧ m 441 = g 441 ∧ m 442 = g 442 ∧ m 443 = g 443
theorem mo_lx.tr {a b c : am_M} (h1 : mo_lx a b) (h2 : mo_lx b c) : mo_lx a c := ⟨h1.1.trans h2.1, h1.2.1.trans h2.2.1, h1.2.2.1.trans h2.2.2.1, h1.2.2.2.trans h2.2.2.2⟩
theorem mo_lx.at {b : Nat → Int} {z p : Nat} {m g : am_M} (h : mo_lx m g) (ha : mo_at b z g p) : mo_at b z m p := by
  unfold mo_at at ha ⊢
  rw [h.1, h.2.1, h.2.2.1, h.2.2.2]
  exact ha
theorem sy_op_b : ∀ H : List Int, sy_op H ≤ H.length
  | [] => Nat.le_refl _
  | s :: r => by
    have := sy_op_b r
    unfold sy_op
    rw [List.length_cons]
    split <;> omega

theorem sm_rank {d : Nat} (hd : 1 ≤ d) {s : Int} {M : am_M} {K : am_K} (hs : am_in s) (h : K (some (aI (sy_rk s))) M) : am_Call true d 130 [aI s] M K := by
  obtain ⟨d, rfl⟩ : ∃ e, d = e + 1 := ⟨d - 1, by omega⟩
  refine ⟨rfl, fun R hR hC => ?_⟩
  replace hR : ∀ c, am_F true tb_f130 1 (am_Call true d) K R c → R c := hR
  show R (0, [some (aI s)], [], M)
  refine hR _ (hR _ (am_brc (rg := am_in s) (P := s ≠ 0) (A := R (8, [some (aI s)], [], M)) (B := R (4, [some (aI s)], [], M)) (by omega) (fun c1 => ?_) (fun c1 => ?_)))
  · refine hR _ (hR _ (hR _ (am_brc (rg := am_in s ∧ am_in 11) (P := s ≠ 11) (A := R (18, [some (aI s)], [], M)) (B := R (14, [some (aI s)], [], M)) (by omega) (fun c11 => ?_) (fun c11 => ?_))))
    · refine hR _ (hR _ (hR _ (am_brc (rg := am_in s ∧ am_in 12) (P := s ≠ 12) (A := R (28, [some (aI s)], [], M)) (B := R (24, [some (aI s)], [], M)) (by omega) (fun c21 => ?_) (fun c21 => ?_))))
      · refine hR _ (hR _ (hR _ (am_brc (rg := am_in s ∧ am_in 13) (P := s ≠ 13) (A := R (38, [some (aI s)], [], M)) (B := R (34, [some (aI s)], [], M)) (by omega) (fun c31 => ?_) (fun c31 => ?_))))
        · refine hR _ (hR _ (hR _ (am_brc (rg := am_in s ∧ am_in 15) (P := 15 < s) (A := R (48, [some (aI s)], [], M)) (B := R (44, [some (aI s)], [], M)) (by omega) (fun c41 => ?_) (fun c41 => ?_))))
          · refine hR _ (hR _ (hR _ (am_brc (rg := am_in s ∧ am_in 17) (P := 17 < s) (A := R (58, [some (aI s)], [], M)) (B := R (54, [some (aI s)], [], M)) (by omega) (fun c51 => ?_) (fun c51 => ?_))))
            · refine hR _ (hR _ (hR _ (am_brc (rg := am_in s ∧ am_in 18) (P := s ≠ 18) (A := R (69, [some (aI s)], [], M)) (B := R (64, [some (aI s)], [], M)) (by omega) (fun c61 => ?_) (fun c61 => ?_))))
              · refine hR _ (?_)
                show R (71, [some (aI s)], [aI 7], M)
                refine hR _ (show K (some (aI 7)) M from ?_)
                have hr : sy_rk s = 7 := by
                  unfold sy_rk
                  repeat' split
                  all_goals omega
                rw [hr] at h
                exact h
              · refine hR _ (hR _ (?_))
                show R (71, [some (aI s)], [aI 6], M)
                refine hR _ (show K (some (aI 6)) M from ?_)
                have hr : sy_rk s = 6 := by
                  unfold sy_rk
                  repeat' split
                  all_goals omega
                rw [hr] at h
                exact h
            · refine hR _ (hR _ (?_))
              show R (71, [some (aI s)], [aI 5], M)
              refine hR _ (show K (some (aI 5)) M from ?_)
              have hr : sy_rk s = 5 := by
                unfold sy_rk
                repeat' split
                all_goals omega
              rw [hr] at h
              exact h
          · refine hR _ (hR _ (?_))
            show R (71, [some (aI s)], [aI 4], M)
            refine hR _ (show K (some (aI 4)) M from ?_)
            have hr : sy_rk s = 4 := by
              unfold sy_rk
              repeat' split
              all_goals omega
            rw [hr] at h
            exact h
        · refine hR _ (hR _ (?_))
          show R (71, [some (aI s)], [aI 3], M)
          refine hR _ (show K (some (aI 3)) M from ?_)
          have hr : sy_rk s = 3 := by
            unfold sy_rk
            repeat' split
            all_goals omega
          rw [hr] at h
          exact h
      · refine hR _ (hR _ (?_))
        show R (71, [some (aI s)], [aI 2], M)
        refine hR _ (show K (some (aI 2)) M from ?_)
        have hr : sy_rk s = 2 := by
          unfold sy_rk
          repeat' split
          all_goals omega
        rw [hr] at h
        exact h
    · refine hR _ (hR _ (?_))
      show R (71, [some (aI s)], [aI 1], M)
      refine hR _ (show K (some (aI 1)) M from ?_)
      have hr : sy_rk s = 1 := by
        unfold sy_rk
        repeat' split
        all_goals omega
      rw [hr] at h
      exact h
  · refine hR _ (hR _ (?_))
    show R (71, [some (aI s)], [aI 0], M)
    refine hR _ (show K (some (aI 0)) M from ?_)
    have hr : sy_rk s = 0 := by
      unfold sy_rk
      repeat' split
      all_goals omega
    rw [hr] at h
    exact h

theorem sy_rk_b (s : Int) : 0 ≤ sy_rk s ∧ sy_rk s ≤ 7 := by
  unfold sy_rk
  repeat' split
  all_goals omega

theorem sm_puts {d : Nat} (hd : 1 ≤ d) {t : Nat} {H out : List Int} {o : Int} {g : am_M} {c : Int} {M : am_M} {K : am_K} (ht : M 430 0 0 = (t : Int)) (ht5 : t ≤ 5) (hs : mo_hd M (am_mix mo_SR g M) t H o out) (hl : out.length < 200) (h : ∀ g2, mo_hd M (am_mix mo_SR g2 M) t H o (out ++ [c]) → mo_lx (am_mix mo_SR g2 M) g → K none (am_mix mo_SR g2 M)) : am_Call true d 128 [aR 8 0, aI c] (am_mix mo_SR g M) K := by
  obtain ⟨d, rfl⟩ : ∃ e, d = e + 1 := ⟨d - 1, by omega⟩
  refine ⟨rfl, fun R hR hC => ?_⟩
  replace hR : ∀ c, am_F true tb_f128 0 (am_Call true d) K R c → R c := hR
  show R (0, [some (aR 8 0), some (aI c)], [], (am_mix mo_SR g M))
  refine hR _ (hR _ (hR _ (hR _ (hR _ (?_)))))
  show R (11, [some (aR 8 0), some (aI c)], [aI (M 430 0 0), aI 200, aR 28 0], am_mix mo_SR g M)
  rw [(show M 430 0 0 = ((t : Nat) : Int) from ht)]
  show R (11, [some (aR 8 0), some (aI c)], [aI ((t : Nat) : Int), aI 200, aR 28 0], am_mix mo_SR g M)
  refine hR _ (hR _ (hR _ (?_)))
  show R (16, [some (aR 8 0), some (aI c)], [aI (g 448 0 0), aI (200 * ((t : Nat) : Int)), aR 28 0], am_mix mo_SR g M)
  rw [(show g 448 0 0 = ((out.length : Nat) : Int) from hs.2.1)]
  show R (16, [some (aR 8 0), some (aI c)], [aI ((out.length : Nat) : Int), aI (200 * ((t : Nat) : Int)), aR 28 0], am_mix mo_SR g M)
  refine hR _ (hR _ (?_))
  show R (18, [some (aR 8 0), some (aI c)], [aI c, aI ((200 * ((t : Nat) : Int)) + ((out.length : Nat) : Int)), aR 28 0], am_mix mo_SR g M)
  refine hR _ ⟨(show 0 ≤ (((200 * ((t : Nat) : Int)) + ((out.length : Nat) : Int)) : Int) ∧ (((200 * ((t : Nat) : Int)) + ((out.length : Nat) : Int)) : Int) < 1200 from (by omega)), ?_⟩
  show R (19, [some (aR 8 0), some (aI c)], [], am_wr (am_mix mo_SR g M) 28 0 ((((200 * ((t : Nat) : Int)) + ((out.length : Nat) : Int))).toNat) c)
  refine hR _ (hR _ (hR _ (?_)))
  show R (24, [some (aR 8 0), some (aI c)], [aI (g 448 0 0), aR 8 0], am_wr (am_mix mo_SR g M) 28 0 ((((200 * ((t : Nat) : Int)) + ((out.length : Nat) : Int))).toNat) c)
  rw [(show g 448 0 0 = ((out.length : Nat) : Int) from hs.2.1)]
  show R (24, [some (aR 8 0), some (aI c)], [aI ((out.length : Nat) : Int), aR 8 0], am_wr (am_mix mo_SR g M) 28 0 ((((200 * ((t : Nat) : Int)) + ((out.length : Nat) : Int))).toNat) c)
  refine hR _ (hR _ (hR _ (?_)))
  show R (29, [some (aR 8 0), some (aI c)], [], am_wr (am_wr (am_mix mo_SR g M) 28 0 ((((200 * ((t : Nat) : Int)) + ((out.length : Nat) : Int))).toNat) c) 448 0 0 (((out.length : Nat) : Int) + 1))
  refine hR _ (show K none (am_wr (am_wr (am_mix mo_SR g M) 28 0 ((((200 * ((t : Nat) : Int)) + ((out.length : Nat) : Int))).toNat) c) 448 0 0 (((out.length : Nat) : Int) + 1)) from ?_)
  rw [show ((((200 * ((t : Nat) : Int)) + ((out.length : Nat) : Int))).toNat) = 200 * t + out.length by omega]
  have e9 : am_ag mo_SR M (am_wr (am_wr (am_mix mo_SR g M) 28 0 (200 * t + out.length) c) 448 0 0 (((out.length : Nat) : Int) + 1)) := ((am_ag.rf.mix rfl).wr rfl).wr rfl
  have n1 := hs.put (c := c) hl
  have n2 : mo_lx (am_wr (am_wr (am_mix mo_SR g M) 28 0 (200 * t + out.length) c) 448 0 0 (((out.length : Nat) : Int) + 1)) g := ⟨rfl, rfl, rfl, rfl⟩
  rw [e9.eq] at n1 n2 ⊢
  exact h _ n1 n2

theorem sm_holds {d : Nat} (hd : 1 ≤ d) {t : Nat} {H out : List Int} {o : Int} {g : am_M} {s : Int} {M : am_M} {K : am_K} (ht : M 430 0 0 = (t : Int)) (ht5 : t ≤ 5) (hs : mo_hd M (am_mix mo_SR g M) t H o out) (hl : H.length < 200) (hs9 : 0 ≤ s ∧ s ≤ 19) (h : ∀ g2, mo_hd M (am_mix mo_SR g2 M) t (s :: H) o out → mo_lx (am_mix mo_SR g2 M) g → K none (am_mix mo_SR g2 M)) : am_Call true d 132 [aR 8 0, aI s] (am_mix mo_SR g M) K := by
  obtain ⟨d, rfl⟩ : ∃ e, d = e + 1 := ⟨d - 1, by omega⟩
  refine ⟨rfl, fun R hR hC => ?_⟩
  replace hR : ∀ c, am_F true tb_f132 0 (am_Call true d) K R c → R c := hR
  show R (0, [some (aR 8 0), some (aI s)], [], (am_mix mo_SR g M))
  refine hR _ (hR _ (hR _ (hR _ (?_))))
  show R (8, [some (aR 8 0), some (aI s)], [aI (g 446 0 0), aR 36 0], am_mix mo_SR g M)
  rw [(show g 446 0 0 = ((H.length : Nat) : Int) from hs.1.1)]
  show R (8, [some (aR 8 0), some (aI s)], [aI ((H.length : Nat) : Int), aR 36 0], am_mix mo_SR g M)
  refine hR _ (?_)
  show R (9, [some (aR 8 0), some (aI s)], [aI s, aI ((H.length : Nat) : Int), aR 36 0], am_mix mo_SR g M)
  refine hR _ ⟨(show 0 ≤ (((H.length : Nat) : Int) : Int) ∧ (((H.length : Nat) : Int) : Int) < 200 from (by omega)), ?_⟩
  show R (10, [some (aR 8 0), some (aI s)], [], am_wr (am_mix mo_SR g M) 36 0 ((((H.length : Nat) : Int)).toNat) s)
  refine hR _ (hR _ (hR _ (?_)))
  show R (15, [some (aR 8 0), some (aI s)], [aI (g 446 0 0), aR 8 0], am_wr (am_mix mo_SR g M) 36 0 ((((H.length : Nat) : Int)).toNat) s)
  rw [(show g 446 0 0 = ((H.length : Nat) : Int) from hs.1.1)]
  show R (15, [some (aR 8 0), some (aI s)], [aI ((H.length : Nat) : Int), aR 8 0], am_wr (am_mix mo_SR g M) 36 0 ((((H.length : Nat) : Int)).toNat) s)
  refine hR _ (hR _ (hR _ (?_)))
  show R (20, [some (aR 8 0), some (aI s)], [], am_wr (am_wr (am_mix mo_SR g M) 36 0 ((((H.length : Nat) : Int)).toNat) s) 446 0 0 (((H.length : Nat) : Int) + 1))
  refine hR _ (show K none (am_wr (am_wr (am_mix mo_SR g M) 36 0 ((((H.length : Nat) : Int)).toNat) s) 446 0 0 (((H.length : Nat) : Int) + 1)) from ?_)
  have e9 : am_ag mo_SR M (am_wr (am_wr (am_mix mo_SR g M) 36 0 ((((H.length : Nat) : Int)).toNat) s) 446 0 0 (((H.length : Nat) : Int) + 1)) := ((am_ag.rf.mix rfl).wr rfl).wr rfl
  have n1 : mo_hd M (am_wr (am_wr (am_mix mo_SR g M) 36 0 ((((H.length : Nat) : Int)).toNat) s) 446 0 0 (((H.length : Nat) : Int) + 1)) t (s :: H) o out := hs.push (s := s) hs9
  have n2 : mo_lx (am_wr (am_wr (am_mix mo_SR g M) 36 0 ((((H.length : Nat) : Int)).toNat) s) 446 0 0 (((H.length : Nat) : Int) + 1)) g := ⟨rfl, rfl, rfl, rfl⟩
  rw [e9.eq] at n1 n2 ⊢
  exact h _ n1 n2

theorem sm_opensOne {d : Nat} (hd : 2 ≤ d) {t : Nat} {H out : List Int} {o : Int} {g : am_M} {s : Int} {M : am_M} {K : am_K} (ht : M 430 0 0 = (t : Int)) (ht5 : t ≤ 5) (hs : mo_hd M (am_mix mo_SR g M) t H o out) (ho : 0 ≤ o ∧ o ≤ 200) (hl : H.length < 200) (hs9 : 0 ≤ s ∧ s ≤ 19) (h0 : o = 5 → K (some (aI 0)) (am_mix mo_SR g M)) (h1 : o ≠ 5 → ∀ g2, mo_hd M (am_mix mo_SR g2 M) t (s :: H) (o + 1) out → mo_lx (am_mix mo_SR g2 M) g → K (some (aI 1)) (am_mix mo_SR g2 M)) : am_Call true d 131 [aR 8 0, aI s] (am_mix mo_SR g M) K := by
  obtain ⟨d, rfl⟩ : ∃ e, d = e + 1 := ⟨d - 1, by omega⟩
  refine ⟨rfl, fun R hR hC => ?_⟩
  replace hR : ∀ c, am_F true tb_f131 2 (am_Call true d) K R c → R c := hR
  show R (0, [some (aR 8 0), some (aI s)], [], (am_mix mo_SR g M))
  refine hR _ (hR _ (?_))
  show R (4, [some (aR 8 0), some (aI s)], [aI (g 447 0 0)], am_mix mo_SR g M)
  rw [(show g 447 0 0 = o from hs.1.2.2.1)]
  show R (4, [some (aR 8 0), some (aI s)], [aI o], am_mix mo_SR g M)
  refine hR _ (hR _ (am_brc (rg := am_in o ∧ am_in 5) (P := o ≠ 5) (A := R (10, [some (aR 8 0), some (aI s)], [], am_mix mo_SR g M)) (B := R (8, [some (aR 8 0), some (aI s)], [], am_mix mo_SR g M)) (by omega) (fun c5 => ?_) (fun c5 => ?_)))
  · refine hR _ (hR _ (hR _ (?_)))
    show R (15, [some (aR 8 0), some (aI s)], [aI (g 447 0 0), aR 8 0], am_mix mo_SR g M)
    rw [(show g 447 0 0 = o from hs.1.2.2.1)]
    show R (15, [some (aR 8 0), some (aI s)], [aI o, aR 8 0], am_mix mo_SR g M)
    refine hR _ (hR _ (hR _ (?_)))
    show R (20, [some (aR 8 0), some (aI s)], [], am_wr (am_mix mo_SR g M) 447 0 0 (o + 1))
    have e9 : am_ag mo_SR M (am_wr (am_mix mo_SR g M) 447 0 0 (o + 1)) := (am_ag.rf.mix rfl).wr rfl
    have hs2 := hs.op (o' := o + 1)
    have l2 : mo_lx (am_wr (am_mix mo_SR g M) 447 0 0 (o + 1)) g := ⟨rfl, rfl, rfl, rfl⟩
    rw [e9.eq] at hs2 l2 ⊢
    generalize am_wr (am_mix mo_SR g M) 447 0 0 (o + 1) = g1 at hs2 l2 ⊢
    show R (20, [some (aR 8 0), some (aI s)], [], am_mix mo_SR g1 M)
    refine hR _ (hR _ (?_))
    show R (22, [some (aR 8 0), some (aI s)], [aI s, aR 8 0], am_mix mo_SR g1 M)
    refine hR _ (sm_holds (t := t) (H := H) (o := o + 1) (out := out) (by omega) ht ht5 hs2 hl hs9 (fun g2 n1 n2 => ?_))
    show R (25, [some (aR 8 0), some (aI s)], [], am_mix mo_SR g2 M)
    refine hR _ (?_)
    show R (26, [some (aR 8 0), some (aI s)], [aI 1], am_mix mo_SR g2 M)
    refine hR _ (show ((1 : Int) = 0 ∨ (1 : Int) = 1) ∧ K (some (aI 1)) (am_mix mo_SR g2 M) from ?_)
    exact ⟨by omega, h1 (by omega) g2 n1 (n2.tr l2)⟩
  · refine hR _ (?_)
    show R (9, [some (aR 8 0), some (aI s)], [aI 0], am_mix mo_SR g M)
    refine hR _ (show ((0 : Int) = 0 ∨ (0 : Int) = 1) ∧ K (some (aI 0)) (am_mix mo_SR g M) from ?_)
    exact ⟨by omega, h0 (by omega)⟩

set_option maxHeartbeats 1000000 in
theorem sm_unwinds {d : Nat} (hd : 2 ≤ d) {t : Nat} {H out : List Int} {o : Int} {g : am_M} {k : Int} {M : am_M} {K : am_K} (ht : M 430 0 0 = (t : Int)) (ht5 : t ≤ 5) (hs : mo_hd M (am_mix mo_SR g M) t H o out) (hk : 1 ≤ k ∧ k ≤ 7) (hlen : H.length + out.length < 200) (hop : o = (sy_op H : Int)) (h : ∀ g2, mo_hd M (am_mix mo_SR g2 M) t (sy_un k H) (sy_op (sy_un k H) : Int) (out ++ sy_tk k H) → mo_lx (am_mix mo_SR g2 M) g → K none (am_mix mo_SR g2 M)) : am_Call true d 129 [aR 8 0, aI k] (am_mix mo_SR g M) K := by
  obtain ⟨d, rfl⟩ : ∃ e, d = e + 1 := ⟨d - 1, by omega⟩
  refine ⟨rfl, fun R hR hC => ?_⟩
  replace hR : ∀ c, am_F true tb_f129 0 (am_Call true d) K R c → R c := hR
  show R (0, [some (aR 8 0), some (aI k), none], [], (am_mix mo_SR g M))
  have key : ∀ (H out : List Int) (ov : Int) (o2 : Option am_V) (g1 : am_M), mo_hd M (am_mix mo_SR g1 M) t H ov out → mo_lx (am_mix mo_SR g1 M) g → H.length + out.length < 200 → ov = (sy_op H : Int) → (∀ g2, mo_hd M (am_mix mo_SR g2 M) t (sy_un k H) (sy_op (sy_un k H) : Int) (out ++ sy_tk k H) → mo_lx (am_mix mo_SR g2 M) g → K none (am_mix mo_SR g2 M)) → R (0, [some (aR 8 0), some (aI k), o2], [], am_mix mo_SR g1 M) := by
    intro H
    induction H with
    | nil =>
      intro out ov o2 g1 hs hl hlen hov h
      have hz : g1 446 0 0 = 0 := hs.1.1
      refine hR _ (hR _ (hR _ (am_brt (rg := am_in (g1 446 0 0)) (P := g1 446 0 0 ≤ 0) (A := R (79, [some (aR 8 0), some (aI k), o2], [], am_mix mo_SR g1 M)) (B := R (7, [some (aR 8 0), some (aI k), o2], [], am_mix mo_SR g1 M)) (by omega) (by omega) ?_)))
      show R (79, [some (aR 8 0), some (aI k), o2], [], am_mix mo_SR g1 M)
      refine hR _ (show K none (am_mix mo_SR g1 M) from ?_)
      refine h g1 ?_ hl
      rw [hov] at hs
      unfold sy_un sy_tk
      rw [List.append_nil]
      exact hs
    | cons s r ih =>
      intro out ov o2 g1 hs hl hlen hov h
      have htop := hs.top
      have hz : g1 446 0 0 = ((r.length : Nat) : Int) + 1 := hs.1.1.trans (by simp)
      have hlen2 : r.length + 1 + out.length < 200 := by simpa using hlen
      have hopc : sy_op (s :: r) = (if s = 0 ∨ s = 13 ∨ s = 19 then 1 else 0) + sy_op r := rfl
      have ho2 := sy_op_b r
      have hg447 : g1 447 0 0 = ov := hs.1.2.2.1
      refine hR _ (hR _ (?_))
      show R (4, [some (aR 8 0), some (aI k), o2], [aI (g1 446 0 0)], am_mix mo_SR g1 M)
      rw [(show g1 446 0 0 = ((r.length : Nat) : Int) + 1 from hz)]
      show R (4, [some (aR 8 0), some (aI k), o2], [aI (((r.length : Nat) : Int) + 1)], am_mix mo_SR g1 M)
      refine hR _ (am_brf (rg := am_in (((r.length : Nat) : Int) + 1)) (P := (((r.length : Nat) : Int) + 1) ≤ 0) (A := R (79, [some (aR 8 0), some (aI k), o2], [], am_mix mo_SR g1 M)) (B := R (7, [some (aR 8 0), some (aI k), o2], [], am_mix mo_SR g1 M)) (by omega) (by omega) ?_)
      show R (7, [some (aR 8 0), some (aI k), o2], [], am_mix mo_SR g1 M)
      refine hR _ (hR _ (hR _ (hR _ (?_))))
      show R (15, [some (aR 8 0), some (aI k), o2], [aI (g1 446 0 0), aR 36 0], am_mix mo_SR g1 M)
      rw [(show g1 446 0 0 = ((r.length : Nat) : Int) + 1 from hz)]
      show R (15, [some (aR 8 0), some (aI k), o2], [aI (((r.length : Nat) : Int) + 1), aR 36 0], am_mix mo_SR g1 M)
      refine hR _ (hR _ (?_))
      show R (17, [some (aR 8 0), some (aI k), o2], [aI ((((r.length : Nat) : Int) + 1) - 1), aR 36 0], am_mix mo_SR g1 M)
      refine hR _ ⟨(show 0 ≤ (((((r.length : Nat) : Int) + 1) - 1) : Int) ∧ (((((r.length : Nat) : Int) + 1) - 1) : Int) < 200 from (by omega)), ?_⟩
      show R (18, [some (aR 8 0), some (aI k), o2], [aI (g1 36 0 ((((((r.length : Nat) : Int) + 1) - 1)).toNat))], am_mix mo_SR g1 M)
      rw [(show g1 36 0 ((((((r.length : Nat) : Int) + 1) - 1)).toNat) = s by rw [show (((((r.length : Nat) : Int) + 1) - 1)).toNat = r.length by omega]; exact htop.1)]
      show R (18, [some (aR 8 0), some (aI k), o2], [aI s], am_mix mo_SR g1 M)
      refine hR _ (sm_rank (by omega) (by omega) ?_)
      have hrk18 := sy_rk_b s
      show R (21, [some (aR 8 0), some (aI k), o2], [aI (sy_rk s)], am_mix mo_SR g1 M)
      refine hR _ (hR _ (am_brc (rg := am_in (sy_rk s) ∧ am_in k) (P := (sy_rk s) < k) (A := R (79, [some (aR 8 0), some (aI k), o2], [], am_mix mo_SR g1 M)) (B := R (25, [some (aR 8 0), some (aI k), o2], [], am_mix mo_SR g1 M)) (by omega) (fun c22 => ?_) (fun c22 => ?_)))
      · refine hR _ (show K none (am_mix mo_SR g1 M) from ?_)
        refine h g1 ?_ hl
        rw [hov] at hs
        have hu := sy_un_c (k := k) (s := s) (r := r) (by omega)
        rw [hu.1, hu.2, List.append_nil]
        exact hs
      · refine hR _ (hR _ (hR _ (?_)))
        show R (30, [some (aR 8 0), some (aI k), o2], [aI (g1 446 0 0), aR 8 0], am_mix mo_SR g1 M)
        rw [(show g1 446 0 0 = ((r.length : Nat) : Int) + 1 from hz)]
        show R (30, [some (aR 8 0), some (aI k), o2], [aI (((r.length : Nat) : Int) + 1), aR 8 0], am_mix mo_SR g1 M)
        refine hR _ (hR _ (hR _ (hR _ (hR _ (hR _ (hR _ (?_)))))))
        show R (43, [some (aR 8 0), some (aI k), o2], [aI ((((r.length : Nat) : Int) + 1) - 1), aR 36 0], am_wr (am_mix mo_SR g1 M) 446 0 0 ((((r.length : Nat) : Int) + 1) - 1))
        refine hR _ ⟨(show 0 ≤ (((((r.length : Nat) : Int) + 1) - 1) : Int) ∧ (((((r.length : Nat) : Int) + 1) - 1) : Int) < 200 from (by omega)), ?_⟩
        show R (44, [some (aR 8 0), some (aI k), o2], [aI (g1 36 0 ((((((r.length : Nat) : Int) + 1) - 1)).toNat))], am_wr (am_mix mo_SR g1 M) 446 0 0 ((((r.length : Nat) : Int) + 1) - 1))
        rw [(show g1 36 0 ((((((r.length : Nat) : Int) + 1) - 1)).toNat) = s by rw [show (((((r.length : Nat) : Int) + 1) - 1)).toNat = r.length by omega]; exact htop.1)]
        show R (44, [some (aR 8 0), some (aI k), o2], [aI s], am_wr (am_mix mo_SR g1 M) 446 0 0 ((((r.length : Nat) : Int) + 1) - 1))
        refine hR _ (hR _ (hR _ (hR _ (hR _ (hR _ (hR _ (am_brc (rg := am_in s ∧ am_in 13) (P := s = 13) (A := R (62, [some (aR 8 0), some (aI k), some (aI s)], [aI (g1 447 0 0), aR 8 0], am_wr (am_mix mo_SR g1 M) 446 0 0 ((((r.length : Nat) : Int) + 1) - 1))) (B := R (56, [some (aR 8 0), some (aI k), some (aI s)], [aI (g1 447 0 0), aR 8 0], am_wr (am_mix mo_SR g1 M) 446 0 0 ((((r.length : Nat) : Int) + 1) - 1))) (by omega) (fun c53 => ?_) (fun c53 => ?_))))))))
        · refine hR _ (hR _ (hR _ (hR _ (hR _ (hR _ (?_))))))
          show R (73, [some (aR 8 0), some (aI k), some (aI s)], [aI s, aR 8 0], am_wr (am_wr (am_mix mo_SR g1 M) 446 0 0 ((((r.length : Nat) : Int) + 1) - 1)) 447 0 0 (g1 447 0 0 - 1))
          have hs0 : s ≠ 0 := by
            intro e0
            have h00 : sy_rk s = 0 := by rw [e0]; rfl
            omega
          rw [show ((((r.length : Nat) : Int) + 1) - 1) = ((r.length : Nat) : Int) by omega, show (g1 447 0 0 - 1) = (sy_op r : Int) by first | (rw [hg447, hov, hopc, if_pos (by omega)]; omega) | (rw [hg447, hov, hopc, if_neg (by omega)]; omega)]
          have hs3 := (hs.pop).op (o' := (sy_op r : Int))
          have l3 : mo_lx (am_wr (am_wr (am_mix mo_SR g1 M) 446 0 0 ((r.length : Nat) : Int)) 447 0 0 (sy_op r : Int)) g := hl
          have e9 : am_ag mo_SR M (am_wr (am_wr (am_mix mo_SR g1 M) 446 0 0 ((r.length : Nat) : Int)) 447 0 0 (sy_op r : Int)) := ((am_ag.rf.mix rfl).wr rfl).wr rfl
          rw [e9.eq] at hs3 l3 ⊢
          generalize am_wr (am_wr (am_mix mo_SR g1 M) 446 0 0 ((r.length : Nat) : Int)) 447 0 0 (sy_op r : Int) = g3 at hs3 l3 ⊢
          show R (73, [some (aR 8 0), some (aI k), some (aI s)], [aI s, aR 8 0], am_mix mo_SR g3 M)
          refine hR _ (sm_puts (t := t) (H := r) (o := (sy_op r : Int)) (out := out) (by omega) ht ht5 hs3 (by omega) (fun g4 n1 n2 => ?_))
          show R (76, [some (aR 8 0), some (aI k), some (aI s)], [], am_mix mo_SR g4 M)
          refine hR _ (?_)
          show R (0, [some (aR 8 0), some (aI k), some (aI s)], [], am_mix mo_SR g4 M)
          refine ih (out ++ [s]) _ _ _ n1 (n2.tr l3) (by rw [List.length_append, List.length_singleton]; omega) rfl (fun g5 m1 m2 => ?_)
          have hu := sy_un_app (k := k) (H := r) (P := [s]) (by intro q hq; rw [List.mem_singleton.mp hq]; omega)
          rw [List.singleton_append] at hu
          refine h g5 ?_ m2
          rw [hu.1, hu.2, ← List.append_assoc]
          exact m1
        · refine hR _ (hR _ (hR _ (am_brc (rg := am_in s ∧ am_in 19) (P := s ≠ 19) (A := R (66, [some (aR 8 0), some (aI k), some (aI s)], [aI (g1 447 0 0), aR 8 0], am_wr (am_mix mo_SR g1 M) 446 0 0 ((((r.length : Nat) : Int) + 1) - 1))) (B := R (62, [some (aR 8 0), some (aI k), some (aI s)], [aI (g1 447 0 0), aR 8 0], am_wr (am_mix mo_SR g1 M) 446 0 0 ((((r.length : Nat) : Int) + 1) - 1))) (by omega) (fun c59 => ?_) (fun c59 => ?_))))
          · refine hR _ (hR _ (hR _ (hR _ (hR _ (?_)))))
            show R (73, [some (aR 8 0), some (aI k), some (aI s)], [aI s, aR 8 0], am_wr (am_wr (am_mix mo_SR g1 M) 446 0 0 ((((r.length : Nat) : Int) + 1) - 1)) 447 0 0 (g1 447 0 0 - 0))
            have hs0 : s ≠ 0 := by
              intro e0
              have h00 : sy_rk s = 0 := by rw [e0]; rfl
              omega
            rw [show ((((r.length : Nat) : Int) + 1) - 1) = ((r.length : Nat) : Int) by omega, show (g1 447 0 0 - 0) = (sy_op r : Int) by first | (rw [hg447, hov, hopc, if_pos (by omega)]; omega) | (rw [hg447, hov, hopc, if_neg (by omega)]; omega)]
            have hs3 := (hs.pop).op (o' := (sy_op r : Int))
            have l3 : mo_lx (am_wr (am_wr (am_mix mo_SR g1 M) 446 0 0 ((r.length : Nat) : Int)) 447 0 0 (sy_op r : Int)) g := hl
            have e9 : am_ag mo_SR M (am_wr (am_wr (am_mix mo_SR g1 M) 446 0 0 ((r.length : Nat) : Int)) 447 0 0 (sy_op r : Int)) := ((am_ag.rf.mix rfl).wr rfl).wr rfl
            rw [e9.eq] at hs3 l3 ⊢
            generalize am_wr (am_wr (am_mix mo_SR g1 M) 446 0 0 ((r.length : Nat) : Int)) 447 0 0 (sy_op r : Int) = g3 at hs3 l3 ⊢
            show R (73, [some (aR 8 0), some (aI k), some (aI s)], [aI s, aR 8 0], am_mix mo_SR g3 M)
            refine hR _ (sm_puts (t := t) (H := r) (o := (sy_op r : Int)) (out := out) (by omega) ht ht5 hs3 (by omega) (fun g4 n1 n2 => ?_))
            show R (76, [some (aR 8 0), some (aI k), some (aI s)], [], am_mix mo_SR g4 M)
            refine hR _ (?_)
            show R (0, [some (aR 8 0), some (aI k), some (aI s)], [], am_mix mo_SR g4 M)
            refine ih (out ++ [s]) _ _ _ n1 (n2.tr l3) (by rw [List.length_append, List.length_singleton]; omega) rfl (fun g5 m1 m2 => ?_)
            have hu := sy_un_app (k := k) (H := r) (P := [s]) (by intro q hq; rw [List.mem_singleton.mp hq]; omega)
            rw [List.singleton_append] at hu
            refine h g5 ?_ m2
            rw [hu.1, hu.2, ← List.append_assoc]
            exact m1
          · refine hR _ (hR _ (hR _ (hR _ (hR _ (hR _ (?_))))))
            show R (73, [some (aR 8 0), some (aI k), some (aI s)], [aI s, aR 8 0], am_wr (am_wr (am_mix mo_SR g1 M) 446 0 0 ((((r.length : Nat) : Int) + 1) - 1)) 447 0 0 (g1 447 0 0 - 1))
            have hs0 : s ≠ 0 := by
              intro e0
              have h00 : sy_rk s = 0 := by rw [e0]; rfl
              omega
            rw [show ((((r.length : Nat) : Int) + 1) - 1) = ((r.length : Nat) : Int) by omega, show (g1 447 0 0 - 1) = (sy_op r : Int) by first | (rw [hg447, hov, hopc, if_pos (by omega)]; omega) | (rw [hg447, hov, hopc, if_neg (by omega)]; omega)]
            have hs3 := (hs.pop).op (o' := (sy_op r : Int))
            have l3 : mo_lx (am_wr (am_wr (am_mix mo_SR g1 M) 446 0 0 ((r.length : Nat) : Int)) 447 0 0 (sy_op r : Int)) g := hl
            have e9 : am_ag mo_SR M (am_wr (am_wr (am_mix mo_SR g1 M) 446 0 0 ((r.length : Nat) : Int)) 447 0 0 (sy_op r : Int)) := ((am_ag.rf.mix rfl).wr rfl).wr rfl
            rw [e9.eq] at hs3 l3 ⊢
            generalize am_wr (am_wr (am_mix mo_SR g1 M) 446 0 0 ((r.length : Nat) : Int)) 447 0 0 (sy_op r : Int) = g3 at hs3 l3 ⊢
            show R (73, [some (aR 8 0), some (aI k), some (aI s)], [aI s, aR 8 0], am_mix mo_SR g3 M)
            refine hR _ (sm_puts (t := t) (H := r) (o := (sy_op r : Int)) (out := out) (by omega) ht ht5 hs3 (by omega) (fun g4 n1 n2 => ?_))
            show R (76, [some (aR 8 0), some (aI k), some (aI s)], [], am_mix mo_SR g4 M)
            refine hR _ (?_)
            show R (0, [some (aR 8 0), some (aI k), some (aI s)], [], am_mix mo_SR g4 M)
            refine ih (out ++ [s]) _ _ _ n1 (n2.tr l3) (by rw [List.length_append, List.length_singleton]; omega) rfl (fun g5 m1 m2 => ?_)
            have hu := sy_un_app (k := k) (H := r) (P := [s]) (by intro q hq; rw [List.mem_singleton.mp hq]; omega)
            rw [List.singleton_append] at hu
            refine h g5 ?_ m2
            rw [hu.1, hu.2, ← List.append_assoc]
            exact m1
  exact key H out o none g hs ⟨rfl, rfl, rfl, rfl⟩ hlen hop h
