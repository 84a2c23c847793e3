/-! wb -/
/-! WHAT IS MADE: the end of each constructor, in the abstract machine -/
def ct_M0 (L : Nat) (xs : Nat → Int) : am_M := fun v _ j => bif Nat.beq v 220 then 500 else bif Nat.beq v 221 then 1 else bif Nat.beq v 222 then 40 else bif Nat.beq v 223 then 5000 else bif Nat.beq v 180 then -1 else bif Nat.beq v 49 then (L : Int) else bif Nat.beq v 50 then xs j else 0
def ct_b : Nat → Int := fun j => (am_text 0).getD j 0
def ct_t0 : List Int := [0, 0, 18, 100003, 18]
def ct_t1 : List Int := [100003, 1, 17]
def ct_t2 : List Int := [2, 2, 18]
set_option maxRecDepth 100000 in
theorem ct_tx : tx_all (lx_T ct_b 59) (lx_V ct_b 59) = (17, some (ct_t0, ct_t1, ct_t2)) := by decide +kernel
theorem ct_by : lx_by_ok ct_b 59 := by
  have h : ∀ j, j < 59 → 0 ≤ ct_b j ∧ ct_b j ≤ 255 := by decide +kernel
  exact h
/-- the class's memory behind its constructor -/
def ct_made (L : Nat) (xs : Nat → Int) (M : am_M) : Prop := jf_J M ∧ am_scr L xs M ∧ (M 220 0 0 = 500 ∧ M 221 0 0 = 1 ∧ M 222 0 0 = 40 ∧ M 223 0 0 = 5000) ∧ (M 227 0 0 = 0 ∧ M 386 0 0 = 1 ∧ M 228 0 0 = 0 ∧ M 301 0 0 = 0) ∧ (∀ k, k < 5 → M 140 k 0 = 0 ∧ M 141 k 0 = 0 ∧ M 142 k 0 = 0 ∧ M 143 k 0 = 0) ∧ (M 224 0 0 = 0 ∧ M 225 0 0 = 0 ∧ M 226 0 0 = 0) ∧ M 382 0 0 = 0 ∧ (∀ s, s < 4 → M 180 s 0 = -1 ∧ M 181 s 0 = 0 ∧ ∀ j, M 21 s j = 0) ∧ jf_tk M 0 0 = ct_t0 ∧ jf_tk M 0 1 = ct_t1 ∧ jf_tk M 0 2 = ct_t2
theorem am_mix2 {S : List Nat} {g g2 M : am_M} : am_mix S g2 (am_mix S g M) = am_mix S g2 M := by
  funext v
  unfold am_mix
  cases am_el S v <;> rfl
theorem ct_put {L : Nat} {xs : Nat → Int} {g : am_M} (h1 : g 301 0 0 = 0 ∧ g 386 0 0 = 1) (h2 : jf_wt3 (g 15) (g 16) (g 18) 0) (h3 : jf_tk3 (g 15) (g 16) (g 18) 0 0 = ct_t0 ∧ jf_tk3 (g 15) (g 16) (g 18) 0 1 = ct_t1 ∧ jf_tk3 (g 15) (g 16) (g 18) 0 2 = ct_t2) {g0 : am_M} : ct_made L xs (am_mix [15, 16, 18, 301, 302, 303, 304, 305, 345, 386] g (am_mix [20, 301] g0 (ct_M0 L xs))) := by
  have hn : ∀ i, jf_Jn (am_mix [15, 16, 18, 301, 302, 303, 304, 305, 345, 386] g (am_mix [20, 301] g0 (ct_M0 L xs))) i := by
    intro i
    show (1 ≤ (500 : Int) ∧ (500 : Int) ≤ 2000) ∧ (0 ≤ (1 : Int) ∧ (1 : Int) ≤ 9) ∧ (1 ≤ (40 : Int) ∧ (40 : Int) ≤ 99) ∧ (1 ≤ (5000 : Int) ∧ (5000 : Int) ≤ 5000) ∧ (0 ≤ (0 : Int) ∧ (0 : Int) ≤ 999) ∧ (0 ≤ (0 : Int) ∧ (0 : Int) ≤ 0) ∧ (0 ≤ (0 : Int) ∧ (0 : Int) ≤ 999 * 0) ∧ (0 ≤ (0 : Int) ∧ (0 : Int) ≤ 5) ∧ 0 ≤ (0 : Int) ∧ (0 : Int) < g 386 0 0
    rw [h1.2]
    decide
  refine ⟨⟨⟨hn 0, hn 1⟩, fun k hk => ?_, ⟨?_, fun t ht => ?_⟩, fun s hs => ⟨?_, ?_, fun j hj => ⟨?_, pr_put0⟩⟩, ⟨?_, fun j hj => ?_⟩, Or.inl rfl⟩, ⟨rfl, fun j => rfl⟩, ⟨rfl, rfl, rfl, rfl⟩, ⟨rfl, h1.2, rfl, h1.1⟩, fun k hk => ⟨rfl, rfl, rfl, rfl⟩, ⟨rfl, rfl, rfl⟩, rfl, fun s hs => ⟨rfl, rfl, fun j => rfl⟩, h3.1, h3.2.1, h3.2.2⟩
  · show (0 ≤ (0 : Int) ∧ (0 : Int) ≤ 5) ∧ (0 ≤ (0 : Int) ∧ (0 : Int) ≤ 9) ∧ (0 ≤ (0 : Int) ∧ (0 : Int) ≤ 99) ∧ (0 ≤ (0 : Int) ∧ (0 : Int) ≤ 500) ∧ (0 ≤ (0 : Int) ∧ (0 : Int) ≤ 99) ∧ 0 ≤ (0 : Int) ∧ (0 : Int) ≤ 500
    decide
  · show 1 ≤ g 386 0 0 ∧ g 386 0 0 ≤ 6
    omega
  · replace ht : (t : Int) < g 386 0 0 := ht
    obtain rfl : t = 0 := by omega
    exact h2
  · show -1 ≤ (-1 : Int) ∧ (-1 : Int) ≤ 2
    decide
  · show 0 ≤ (0 : Int) ∧ (0 : Int) ≤ 40
    decide
  · show am_in 0
    decide
  · show 0 ≤ g 301 0 0 ∧ g 301 0 0 ≤ 160
    omega
  · replace hj : (j : Int) < g 301 0 0 := hj
    omega
theorem ct_tail7 {wb : Bool} {d : Nat} (hd : 60 ≤ d) {K : am_K} {R : am_C → Prop} (hR : ∀ c, am_F wb tb_f1 0 (am_Call wb d) K R c → R c) {L : Nat} {xs : Nat → Int} (hK : ∀ M, ct_made L xs M → K none M) : R (185, [some (aR 7 0), none], [], ct_M0 L xs) := by
  have hlen : (am_text 0).length = 59 := by decide +kernel
  have key : ∀ (f n : Nat) (x : Int) (g : am_M), x = (n : Int) → n + f = 59 → g 301 0 0 = (n : Int) → (∀ j, g 20 0 j = if j < n then ct_b j else 0) → R (187, [some (aR 7 0), some (aI x)], [], am_mix [20, 301] g (ct_M0 L xs)) := by
    intro f
    induction f with
    | zero =>
      intro n x g hx hn h1 h2
      subst hx
      obtain rfl : n = 59 := by omega
      refine hR _ (hR _ (hR _ (sp_str_length (by omega) (by omega) ?_)))
      rw [hlen]
      show R (193, [some (aR 7 0), some (aI ((59 : Nat) : Int))], [aI ((59 : Nat) : Int), aI ((59 : Nat) : Int)], am_mix [20, 301] g (ct_M0 L xs))
      refine hR _ (am_brt (rg := am_in ((59 : Nat) : Int) ∧ am_in ((59 : Nat) : Int)) (P := ((59 : Nat) : Int) ≤ ((59 : Nat) : Int)) (A := R (215, [some (aR 7 0), some (aI ((59 : Nat) : Int))], [], am_mix [20, 301] g (ct_M0 L xs))) (B := R (196, [some (aR 7 0), some (aI ((59 : Nat) : Int))], [], am_mix [20, 301] g (ct_M0 L xs))) (by omega) (by omega) ?_)
      have hb : (am_mix [20, 301] g (ct_M0 L xs)) 20 0 = ct_b := by
        funext j
        show g 20 0 j = ct_b j
        rw [h2 j]
        by_cases c : j < 59
        · rw [if_pos c]
        · rw [if_neg c]
          unfold ct_b
          rw [List.getD_eq_getElem?_getD, List.getElem?_eq_none (by omega)]
          rfl
      refine hR _ (hR _ (sq_text (M := am_mix [20, 301] g (ct_M0 L xs)) (z := 59) (by omega) (show g 301 0 0 = ((59 : Nat) : Int) from h1) (by omega) (by rw [hb]; exact ct_by) ⟨by show (0 : Int) ≤ 0; decide, by show (0 : Int) ≤ 6; decide⟩ (fun h => absurd (show (0 : Int) = 6 from h) (by decide)) (fun n2 h => ?_) (fun n2 w0 w1 w2 h _ g2 y1 y2 y3 y4 => ?_)))
      · rw [hb, ct_tx] at h
        cases h
      · rw [hb, ct_tx] at h
        cases h
        refine hR _ (hR _ (hK _ (ct_put ⟨y1.1, y1.2⟩ y4 y3)))
    | succ f ih =>
      intro n x g hx hn h1 h2
      subst hx
      refine hR _ (hR _ (hR _ (sp_str_length (by omega) (by omega) ?_)))
      rw [hlen]
      show R (193, [some (aR 7 0), some (aI (n : Int))], [aI ((59 : Nat) : Int), aI (n : Int)], am_mix [20, 301] g (ct_M0 L xs))
      refine hR _ (am_brf (rg := am_in (n : Int) ∧ am_in ((59 : Nat) : Int)) (P := ((59 : Nat) : Int) ≤ (n : Int)) (A := R (215, [some (aR 7 0), some (aI (n : Int))], [], am_mix [20, 301] g (ct_M0 L xs))) (B := R (196, [some (aR 7 0), some (aI (n : Int))], [], am_mix [20, 301] g (ct_M0 L xs))) (by omega) (by omega) ?_)
      refine hR _ (hR _ (hR _ (hR _ (hR _ (sp_str_charAt (by omega) (by omega) (by omega) ?_)))))
      show R (206, [some (aR 7 0), some (aI (n : Int))], [aI ((am_text 0).getD ((n : Int).toNat) 0), aR 5 0], am_mix [20, 301] g (ct_M0 L xs))
      refine hR _ (sp_put (by omega) (show 0 ≤ g 301 0 0 ∧ g 301 0 0 ≤ 159 by omega) (fun g2 y1 y2 y3 => ?_))
      rw [am_mix2]
      show R (209, [some (aR 7 0), some (aI (n : Int))], [], am_mix [20, 301] g2 (ct_M0 L xs))
      replace y1 : g2 301 0 0 = g 301 0 0 + 1 := y1
      replace y2 : g2 20 0 (g 301 0 0).toNat = (am_text 0).getD ((n : Int).toNat) 0 := y2
      replace y3 : ∀ j, j ≠ (g 301 0 0).toNat → g2 20 0 j = g 20 0 j := y3
      rw [h1, Int.toNat_natCast] at y2 y3
      refine hR _ (hR _ (ih (n + 1) _ g2 rfl (by omega) (by omega) (fun j => ?_)))
      by_cases c : j = n
      · subst c
        rw [y2, if_pos (by omega)]
        rfl
      · rw [y3 j c, h2 j]
        by_cases c2 : j < n
        · rw [if_pos c2, if_pos (by omega)]
        · rw [if_neg c2, if_neg (by omega)]
  have e : ct_M0 L xs = am_mix [20, 301] (ct_M0 L xs) (ct_M0 L xs) := am_ag.rf.eq
  rw [e]
  exact hR _ (hR _ (key 59 0 0 _ rfl rfl rfl (fun j => by rw [if_neg (Nat.not_lt_zero j)]; rfl)))
