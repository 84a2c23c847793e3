/-! wb -/
/-! WHAT IS MADE: the end of the reference's constructor -/
abbrev ct_S8 : List Nat := [22, 23, 24, 25, 26, 27, 28, 29, 30, 31, 32, 33, 34, 35, 36, 37, 38, 39, 40, 41, 420, 421, 422, 423, 424, 425, 426, 427, 428, 429, 430, 431, 432, 433, 434, 435, 436, 437, 438, 439, 440, 441, 442, 443, 444, 445, 446, 447, 448, 449, 450, 451, 452, 453, 454, 455]
def ct_pump : List Int := [500, 1, 40, 5000]
def ct_sort : List Int := [-1, -1, -1, -1]
def ct_law : List Int := am_text 0
def ct_N0 : am_M := fun v _ j => bif Nat.beq v 22 then (if j < 4 then ct_pump.getD j 0 else 0) else bif Nat.beq v 31 then (if j < 4 then ct_sort.getD j 0 else 0) else bif Nat.beq v 34 then (if j < 59 then ct_law.getD j 0 else 0) else bif Nat.beq v 35 then (if j < 96 then mo_words.getD j 0 else 0) else 0
theorem ct_done {L : Nat} {xs : Nat → Int} {M0 g2 : am_M} {g : am_M} (hm : ct_made L xs M0) (y1 : g2 427 0 0 = 0) (y2 : g2 430 0 0 = 1) (y3 : mo_wt3 (g2 28 0) (g2 29 0) 0) (y4 : mo_tk3 (g2 28 0) (g2 29 0) 0 0 = ct_t0 ∧ mo_tk3 (g2 28 0) (g2 29 0) 0 1 = ct_t1 ∧ mo_tk3 (g2 28 0) (g2 29 0) 0 2 = ct_t2) : jf_J (am_mix mo_SX g2 (am_wr (am_mix [27] g (am_mix ct_S8 ct_N0 M0)) 427 0 0 59)) ∧ jf_C (am_mix mo_SX g2 (am_wr (am_mix [27] g (am_mix ct_S8 ct_N0 M0)) 427 0 0 59)) ∧ am_scr L xs (am_mix mo_SX g2 (am_wr (am_mix [27] g (am_mix ct_S8 ct_N0 M0)) 427 0 0 59)) := by
  obtain ⟨mJ, mS, ⟨p0, p1, p2, p3⟩, ⟨n0, n1, n2, n3⟩, mh, ⟨b0, b1, b2⟩, mi, ms, t0, t1, t2⟩ := hm
  obtain ⟨z0, z1, z2⟩ := y4
  refine ⟨mJ, ⟨⟨⟨p0.symm, p1.symm, p2.symm, p3.symm⟩, ⟨n0.symm, y2.trans n1.symm, n2.symm, y1.trans n3.symm⟩, fun k hk => ?_⟩, ⟨⟨b0.symm, b1.symm, b2.symm⟩, fun j hj => ?_, fun t ht => ?_⟩, ⟨mi.symm, fun h => ?_⟩, fun s hs => ?_, fun j hj => ?_⟩, mS⟩
  · obtain ⟨q1, q2, q3, q4⟩ := mh k hk
    exact ⟨q1.symm, q2.symm, q3.symm, q4.symm⟩
  · replace hj : (j : Int) < M0 301 0 0 := hj
    omega
  · replace ht : (t : Int) < M0 386 0 0 := ht
    obtain rfl : t = 0 := by omega
    refine ⟨y3, fun p hp => ?_⟩
    match p, hp with
    | 0, _ => exact z0.trans t0.symm
    | 1, _ => exact z1.trans t1.symm
    | 2, _ => exact z2.trans t2.symm
  · exact absurd (show M0 382 0 0 = 1 from h) (by omega)
  · obtain ⟨q1, q2, q3⟩ := ms s hs
    refine ⟨?_, q2.symm, fun j hj => (q3 j).symm⟩
    match s, hs, q1 with
    | 0, _, q1 => exact q1.symm
    | 1, _, q1 => exact q1.symm
    | 2, _, q1 => exact q1.symm
    | 3, _, q1 => exact q1.symm
  · show (if j < 96 then mo_words.getD j 0 else 0) = mo_words.getD j 0
    rw [if_pos hj]
theorem ct_tail8 {d : Nat} (hd : 60 ≤ d) {K : am_K} {R : am_C → Prop} (hR : ∀ c, am_F true tb_f122 0 (am_Call true d) K R c → R c) {L : Nat} {xs : Nat → Int} {M0 : am_M} (hm : ct_made L xs M0) (hK : ∀ M, jf_J M → jf_C M → am_scr L xs M → K none M) : R (1115, [some (aR 8 0), none], [], (am_mix ct_S8 ct_N0 M0)) := by
  have key : ∀ (f n : Nat) (x : Int) (g : am_M), x = (n : Int) → n + f = 59 → (∀ j, g 27 0 j = if j < n then ct_b j else 0) → R (1117, [some (aR 8 0), some (aI x)], [], am_mix [27] g (am_mix ct_S8 ct_N0 M0)) := by
    intro f
    induction f with
    | zero =>
      intro n x g hx hn h2
      subst hx
      obtain rfl : n = 59 := by omega
      refine hR _ (hR _ (hR _ (am_brt (rg := am_in ((59 : Nat) : Int) ∧ am_in 59) (P := (59 : Int) ≤ ((59 : Nat) : Int)) (A := R (1141, [some (aR 8 0), some (aI ((59 : Nat) : Int))], [], am_mix [27] g (am_mix ct_S8 ct_N0 M0))) (B := R (1123, [some (aR 8 0), some (aI ((59 : Nat) : Int))], [], am_mix [27] g (am_mix ct_S8 ct_N0 M0))) (by omega) (by omega) ?_)))
      refine hR _ (hR _ (hR _ ?_))
      show R (1147, [some (aR 8 0), some (aI ((59 : Nat) : Int))], [], am_wr (am_mix [27] g (am_mix ct_S8 ct_N0 M0)) 427 0 0 59)
      refine hR _ (hR _ (sm_text (b := ct_b) (z := 59) (M := am_wr (am_mix [27] g (am_mix ct_S8 ct_N0 M0)) 427 0 0 59) (by omega) rfl (by omega) (fun j hj => ?_) ct_by (fun j hj => ?_) ⟨by show (0 : Int) ≤ 0; decide, by show (0 : Int) ≤ 6; decide⟩ (fun n w0 w1 w2 h => tx_all_cg (fun n hn => lx_V_b hn) h) (fun h => absurd (show (0 : Int) = 6 from h) (by decide)) (fun n2 h => ?_) (fun n2 w0 w1 w2 h _ g2 y1 y2 _ _ y5 y6 => ?_)))
      · show g 27 0 j = ct_b j
        rw [h2 j, if_pos hj]
      · show (if j < 96 then mo_words.getD j 0 else 0) = mo_words.getD j 0
        rw [if_pos hj]
      · rw [ct_tx] at h
        cases h
      · rw [ct_tx] at h
        cases h
        replace y2 : g2 430 0 0 = 0 + 1 := y2
        obtain ⟨r1, r2, r3⟩ := ct_done (g := g) hm y1 (y2.trans rfl) y6 y5
        exact hR _ (hR _ (hK _ r1 r2 r3))
    | succ f ih =>
      intro n x g hx hn h2
      subst hx
      refine hR _ (hR _ (hR _ (am_brf (rg := am_in (n : Int) ∧ am_in 59) (P := (59 : Int) ≤ (n : Int)) (A := R (1141, [some (aR 8 0), some (aI (n : Int))], [], am_mix [27] g (am_mix ct_S8 ct_N0 M0))) (B := R (1123, [some (aR 8 0), some (aI (n : Int))], [], am_mix [27] g (am_mix ct_S8 ct_N0 M0))) (by omega) (by omega) ?_)))
      refine hR _ (hR _ (hR _ (hR _ (hR _ (hR _ (hR _ ⟨⟨by omega, by show (n : Int) < ((59 : Nat) : Int); omega⟩, ?_⟩))))))
      show R (1134, [some (aR 8 0), some (aI (n : Int))], [aI (if (n : Int).toNat < 59 then ct_law.getD (n : Int).toNat 0 else 0), aI (n : Int), aR 27 0], am_mix [27] g (am_mix ct_S8 ct_N0 M0))
      refine hR _ ⟨⟨by omega, by show (n : Int) < ((160 : Nat) : Int); omega⟩, ?_⟩
      show R (1135, [some (aR 8 0), some (aI (n : Int))], [], am_wr (am_mix [27] g (am_mix ct_S8 ct_N0 M0)) 27 0 (n : Int).toNat (if (n : Int).toNat < 59 then ct_law.getD (n : Int).toNat 0 else 0))
      rw [Int.toNat_natCast, if_pos (by omega)]
      have e : am_ag [27] (am_mix ct_S8 ct_N0 M0) (am_wr (am_mix [27] g (am_mix ct_S8 ct_N0 M0)) 27 0 n (ct_law.getD n 0)) := ((am_ag.rf (S := [27]) (M := (am_mix ct_S8 ct_N0 M0))).mix (S2 := [27]) (g := g) rfl).wr rfl
      rw [e.eq]
      refine hR _ (hR _ (ih (n + 1) _ _ rfl (by omega) (fun j => ?_)))
      by_cases c : j = n
      · subst c
        rw [am_wr_eq, if_pos (by omega)]
        rfl
      · rw [am_wr_ne (Or.inr (Or.inr c))]
        show g 27 0 j = _
        rw [h2 j]
        by_cases c2 : j < n
        · rw [if_pos c2, if_pos (by omega)]
        · rw [if_neg c2, if_neg (by omega)]
  have e : (am_mix ct_S8 ct_N0 M0) = am_mix [27] (am_mix ct_S8 ct_N0 M0) (am_mix ct_S8 ct_N0 M0) := am_ag.rf.eq
  rw [e]
  exact hR _ (hR _ (key 59 0 0 _ rfl rfl (fun j => by rw [if_neg (Nat.not_lt_zero j)]; rfl)))
