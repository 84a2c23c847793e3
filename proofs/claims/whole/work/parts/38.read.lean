/-! wb -/
variable {wb : Bool}
/-! The tape's tokens, read -/
def lx_by (b : Nat → Int) (z i : Nat) : Int := if i < z then b i else -1
def lx_sc (c : Int → Bool) (b : Nat → Int) (z : Nat) : Nat → Nat → Nat
  | 0, p => p
  | f + 1, p => bif c (lx_by b z p) then lx_sc c b z f (p + 1) else p
def lx_sp (x : Int) : Bool := decide (x = 32 ∨ x = 10)
def lx_le (x : Int) : Bool := decide (97 ≤ x ∧ x ≤ 122)
def lx_di (x : Int) : Bool := decide (48 ≤ x ∧ x ≤ 57)
def lx_nv (b : Nat → Int) (q : Nat) : Nat → Int
  | 0 => 0
  | n + 1 => lx_nv b q n * 10 + b (q + n) - 48
def lx_wt (l : List Int) : Int := if l = am_text 1 then 3 else if l = am_text 2 then 4 else if l = am_text 3 then 5 else if l = am_text 4 then 6 else if l = am_text 5 then 7 else if l = am_text 6 then 8 else if l = am_text 7 then 10 else if l = am_text 8 then 11 else if l = am_text 9 then 12 else if l = am_text 10 then 13 else if l = am_text 11 then 14 else if l = am_text 12 then 15 else 1
def lx_sg (x : Int) : Int := if x = 40 ∨ x = 41 ∨ x = 59 ∨ x = 43 ∨ x = 45 ∨ x = 42 ∨ x = 60 ∨ x = 61 then x else 1
/-- where the token from p begins, what it is, where it ends -/
def lx_q (b : Nat → Int) (z p : Nat) : Nat := lx_sc lx_sp b z 160 p
def lx_e (b : Nat → Int) (z p : Nat) : Nat := if lx_by b z (lx_q b z p) = -1 then lx_q b z p else if lx_le (lx_by b z (lx_q b z p)) = true then lx_sc lx_le b z 160 (lx_q b z p) else if lx_di (lx_by b z (lx_q b z p)) = true then lx_sc lx_di b z 160 (lx_q b z p) else lx_q b z p + 1
def lx_t (b : Nat → Int) (z p : Nat) : Int := if lx_by b z (lx_q b z p) = -1 then 0 else if lx_le (lx_by b z (lx_q b z p)) = true then lx_wt (lx_sl b (lx_q b z p) (lx_e b z p)) else if lx_di (lx_by b z (lx_q b z p)) = true then (if lx_e b z p - lx_q b z p ≤ 4 then 2 else 1) else lx_sg (lx_by b z (lx_q b z p))
def lx_v (b : Nat → Int) (z p : Nat) : Int := lx_nv b (lx_q b z p) (lx_e b z p - lx_q b z p)
theorem lx_sc_b {c : Int → Bool} {b : Nat → Int} {z : Nat} (hc : c (-1) = false) : ∀ f p, p ≤ z → p ≤ lx_sc c b z f p ∧ lx_sc c b z f p ≤ z
  | 0, p, h => ⟨Nat.le_refl _, h⟩
  | f + 1, p, h => by
    unfold lx_sc
    cases hh : c (lx_by b z p) with
    | false => exact ⟨Nat.le_refl _, h⟩
    | true =>
      have hp : p < z := by
        by_cases hp : p < z
        · exact hp
        · unfold lx_by at hh
          rw [if_neg hp, hc] at hh
          cases hh
      have ih := lx_sc_b (b := b) hc f (p + 1) hp
      exact ⟨by show p ≤ lx_sc c b z f (p + 1); omega, ih.2⟩

theorem sp_byteAt {d : Nat} (hd : 1 ≤ d) {x : Int} {z i : Nat} {M : am_M} {K : am_K} (hz : M 301 0 0 = (z : Int)) (hz2 : z ≤ 160) (hby : ∀ j, j < z → 0 ≤ M 20 0 j ∧ M 20 0 j ≤ 255) (hx : x = (i : Int)) (hi : i ≤ 1000) (h : K (some (aI (lx_by (M 20 0) z i))) M) : am_Call wb d 15 [aR 5 0, aI x] M K := by
  obtain ⟨d, rfl⟩ : ∃ e, d = e + 1 := ⟨d - 1, by omega⟩
  refine ⟨rfl, fun R hR hC => ?_⟩
  replace hR : ∀ c, am_F wb tb_f15 1 (am_Call wb d) K R c → R c := hR
  show R (0, [some (aR 5 0), some (aI x)], [], M)
  refine hR _ (hR _ (am_brc (rg := am_in x) (P := x < 0) (A := R (28, [some (aR 5 0), some (aI x)], [], M)) (B := R (4, [some (aR 5 0), some (aI x)], [], M)) (by omega) (fun c1 => ?_) (fun c1 => ?_)))
  · refine hR _ (?_)
    show R (29, [some (aR 5 0), some (aI x)], [aI (-1)], M)
    refine hR _ (show K (some (aI (-1))) M from ?_)
    rw [show lx_by (M 20 0) z i = -1 from if_neg (by omega)] at h
    exact h
  · refine hR _ (hR _ (hR _ (hR _ (am_brc (rg := am_in x ∧ am_in (M 301 0 0)) (P := M 301 0 0 ≤ x) (A := R (28, [some (aR 5 0), some (aI x)], [], M)) (B := R (12, [some (aR 5 0), some (aI x)], [], M)) (by omega) (fun c9 => ?_) (fun c9 => ?_)))))
    · refine hR _ (?_)
      show R (29, [some (aR 5 0), some (aI x)], [aI (-1)], M)
      refine hR _ (show K (some (aI (-1))) M from ?_)
      rw [show lx_by (M 20 0) z i = -1 from if_neg (by omega)] at h
      exact h
    · refine hR _ (hR _ (hR _ (am_brc (rg := am_in x ∧ am_in 160) (P := 160 ≤ x) (A := R (28, [some (aR 5 0), some (aI x)], [], M)) (B := R (19, [some (aR 5 0), some (aI x)], [], M)) (by omega) (fun c16 => ?_) (fun c16 => ?_))))
      · refine hR _ (?_)
        show R (29, [some (aR 5 0), some (aI x)], [aI (-1)], M)
        refine hR _ (show K (some (aI (-1))) M from ?_)
        rw [show lx_by (M 20 0) z i = -1 from if_neg (by omega)] at h
        exact h
      · refine hR _ (hR _ (hR _ (?_)))
        show R (24, [some (aR 5 0), some (aI x)], [aI x, aR 20 0], M)
        refine hR _ ⟨(show 0 ≤ (x : Int) ∧ (x : Int) < 160 from (by omega)), ?_⟩
        show R (25, [some (aR 5 0), some (aI x)], [aI (M 20 0 ((x).toNat))], M)
        refine hR _ (?_)
        show R (29, [some (aR 5 0), some (aI x)], [aI (M 20 0 ((x).toNat))], M)
        refine hR _ (show K (some (aI (M 20 0 ((x).toNat)))) M from ?_)
        rw [show lx_by (M 20 0) z i = M 20 0 i from if_pos (by omega)] at h
        rw [show x.toNat = i by omega]
        exact h

theorem lx_by_b {b : Nat → Int} {z : Nat} (h : ∀ j, j < z → 0 ≤ b j ∧ b j ≤ 255) (i : Nat) : -1 ≤ lx_by b z i ∧ lx_by b z i ≤ 255 := by
  unfold lx_by
  split
  · have := h i (by assumption)
    omega
  · omega

theorem sp_isWord {d : Nat} (hd : 5 ≤ d) {j q e z : Nat} {M : am_M} {K : am_K} (hz : M 301 0 0 = (z : Int)) (hz2 : z ≤ 160) (hby : ∀ j, j < z → 0 ≤ M 20 0 j ∧ M 20 0 j ≤ 255) (hj : j < 13) (hq0 : M 304 0 0 = (q : Int)) (he0 : M 302 0 0 = (e : Int)) (hqe : q ≤ e ∧ e ≤ z) (ht : lx_sl (M 20 0) q e = am_text j → K (some (aI 1)) M) (hf : ¬ lx_sl (M 20 0) q e = am_text j → K (some (aI 0)) M) : am_Call wb d 18 [aR 5 0, aR 52 j] M K := by
  obtain ⟨d, rfl⟩ : ∃ e, d = e + 1 := ⟨d - 1, by omega⟩
  refine ⟨rfl, fun R hR hC => ?_⟩
  replace hR : ∀ c, am_F wb tb_f18 2 (am_Call wb d) K R c → R c := hR
  have hl := lx_l j hj
  show R (0, [some (aR 5 0), some (aR 52 j), none], [], M)
  refine hR _ (hR _ (hR _ (hR _ (hR _ (hR _ (?_))))))
  show R (10, [some (aR 5 0), some (aR 52 j), none], [aR 52 j, aI (M 302 0 0 - M 304 0 0)], M)
  refine hR _ (am_ct (am_vi (by omega : j < 13)) (sp_str_length (by omega) (by omega) ?_))
  show R (13, [some (aR 5 0), some (aR 52 j), none], [aI ((am_text j).length : Int), aI (M 302 0 0 - M 304 0 0)], M)
  refine hR _ (am_brc (rg := am_in (M 302 0 0 - M 304 0 0) ∧ am_in ((am_text j).length : Int)) (P := (M 302 0 0 - M 304 0 0) = ((am_text j).length : Int)) (A := R (18, [some (aR 5 0), some (aR 52 j), none], [], M)) (B := R (16, [some (aR 5 0), some (aR 52 j), none], [], M)) (by omega) (fun c13 => ?_) (fun c13 => ?_))
  · refine hR _ (hR _ (?_))
    show R (20, [some (aR 5 0), some (aR 52 j), some (aI 0)], [], M)
    have key : ∀ (n c : Nat) (x : Int), x = (c : Int) → c + n = (am_text j).length → (∀ i, i < c → M 20 0 (q + i) = (am_text j).getD i 0) → R (20, [some (aR 5 0), some (aR 52 j), some (aI x)], [], M) := by
      intro n
      induction n with
      | zero =>
        intro c x hx hin hq
        subst hx
        refine hR _ (hR _ (?_))
        show R (22, [some (aR 5 0), some (aR 52 j), some (aI ((c : Nat) : Int))], [aR 52 j, aI ((c : Nat) : Int)], M)
        refine hR _ (am_ct (am_vi (by omega : j < 13)) (sp_str_length (by omega) (by omega) ?_))
        show R (25, [some (aR 5 0), some (aR 52 j), some (aI ((c : Nat) : Int))], [aI ((am_text j).length : Int), aI ((c : Nat) : Int)], M)
        refine hR _ (am_brt (rg := am_in ((c : Nat) : Int) ∧ am_in ((am_text j).length : Int)) (P := ((am_text j).length : Int) ≤ ((c : Nat) : Int)) (A := R (54, [some (aR 5 0), some (aR 52 j), some (aI ((c : Nat) : Int))], [], M)) (B := R (28, [some (aR 5 0), some (aR 52 j), some (aI ((c : Nat) : Int))], [], M)) (by omega) (by omega) ?_)
        show R (54, [some (aR 5 0), some (aR 52 j), some (aI ((c : Nat) : Int))], [], M)
        refine hR _ (?_)
        show R (55, [some (aR 5 0), some (aR 52 j), some (aI ((c : Nat) : Int))], [aI 1], M)
        refine hR _ (show ((1 : Int) = 0 ∨ (1 : Int) = 1) ∧ K (some (aI 1)) M from ?_)
        exact ⟨by omega, ht ((lx_sl_eq (by omega)).mpr (fun i hi => hq i (by omega)))⟩
      | succ n ih =>
        intro c x hx hin hq
        subst hx
        have hbe : lx_by (M 20 0) z (q + c) = M 20 0 (q + c) := if_pos (by omega)
        refine hR _ (hR _ (?_))
        show R (22, [some (aR 5 0), some (aR 52 j), some (aI ((c : Nat) : Int))], [aR 52 j, aI ((c : Nat) : Int)], M)
        refine hR _ (am_ct (am_vi (by omega : j < 13)) (sp_str_length (by omega) (by omega) ?_))
        show R (25, [some (aR 5 0), some (aR 52 j), some (aI ((c : Nat) : Int))], [aI ((am_text j).length : Int), aI ((c : Nat) : Int)], M)
        refine hR _ (am_brf (rg := am_in ((c : Nat) : Int) ∧ am_in ((am_text j).length : Int)) (P := ((am_text j).length : Int) ≤ ((c : Nat) : Int)) (A := R (54, [some (aR 5 0), some (aR 52 j), some (aI ((c : Nat) : Int))], [], M)) (B := R (28, [some (aR 5 0), some (aR 52 j), some (aI ((c : Nat) : Int))], [], M)) (by omega) (by omega) ?_)
        show R (28, [some (aR 5 0), some (aR 52 j), some (aI ((c : Nat) : Int))], [], M)
        refine hR _ (hR _ (hR _ (?_)))
        show R (33, [some (aR 5 0), some (aR 52 j), some (aI ((c : Nat) : Int))], [aI (M 304 0 0), aR 5 0], M)
        rw [hq0]
        show R (33, [some (aR 5 0), some (aR 52 j), some (aI ((c : Nat) : Int))], [aI ((q : Nat) : Int), aR 5 0], M)
        refine hR _ (hR _ (?_))
        show R (35, [some (aR 5 0), some (aR 52 j), some (aI ((c : Nat) : Int))], [aI (((q : Nat) : Int) + ((c : Nat) : Int)), aR 5 0], M)
        refine hR _ (sp_byteAt (z := z) (i := (q + c)) (by omega) hz (by omega) hby (by omega) (by omega) ?_)
        have hbr35 := lx_by_b hby (q + c)
        show R (38, [some (aR 5 0), some (aR 52 j), some (aI ((c : Nat) : Int))], [aI (lx_by (M 20 0) z (q + c))], M)
        refine hR _ (hR _ (?_))
        show R (40, [some (aR 5 0), some (aR 52 j), some (aI ((c : Nat) : Int))], [aI ((c : Nat) : Int), aR 52 j, aI (lx_by (M 20 0) z (q + c))], M)
        refine hR _ (am_ct (am_vi (by omega : j < 13)) (sp_str_charAt (by omega) (by omega) (by omega) ?_))
        have ht40 := lx_tb j (by omega) c (by omega)
        show R (43, [some (aR 5 0), some (aR 52 j), some (aI ((c : Nat) : Int))], [aI ((am_text j).getD c 0), aI (lx_by (M 20 0) z (q + c))], M)
        refine hR _ (am_brc (rg := am_in (lx_by (M 20 0) z (q + c)) ∧ am_in ((am_text j).getD c 0)) (P := (lx_by (M 20 0) z (q + c)) = ((am_text j).getD c 0)) (A := R (48, [some (aR 5 0), some (aR 52 j), some (aI ((c : Nat) : Int))], [], M)) (B := R (46, [some (aR 5 0), some (aR 52 j), some (aI ((c : Nat) : Int))], [], M)) (by omega) (fun c43 => ?_) (fun c43 => ?_))
        · refine hR _ (hR _ (?_))
          show R (20, [some (aR 5 0), some (aR 52 j), some (aI (((c : Nat) : Int) + 1))], [], M)
          exact ih (c + 1) _ rfl (by omega) (fun i hi => by
            by_cases hic : i = c
            · rw [hic, ← hbe]; exact c43
            · exact hq i (by omega))
        · refine hR _ (?_)
          show R (47, [some (aR 5 0), some (aR 52 j), some (aI ((c : Nat) : Int))], [aI 0], M)
          refine hR _ (show ((0 : Int) = 0 ∨ (0 : Int) = 1) ∧ K (some (aI 0)) M from ?_)
          refine ⟨by omega, hf (fun hs => ?_)⟩
          have h9 := (lx_sl_eq (by omega)).mp hs c (by omega)
          rw [← hbe] at h9
          exact c43 h9
    exact key (am_text j).length 0 _ rfl (by omega) (fun i hi => absurd hi (by omega))
  · refine hR _ (?_)
    show R (17, [some (aR 5 0), some (aR 52 j), none], [aI 0], M)
    refine hR _ (show ((0 : Int) = 0 ∨ (0 : Int) = 1) ∧ K (some (aI 0)) M from ?_)
    refine ⟨by omega, hf (fun hs => ?_)⟩
    have h9 := lx_sl_len (M 20 0) q e
    rw [hs] at h9
    omega

set_option maxHeartbeats 1000000 in
theorem sp_readWord {d : Nat} (hd : 6 ≤ d) {q z : Nat} {M : am_M} {K : am_K} (hz : M 301 0 0 = (z : Int)) (hz2 : z ≤ 160) (hby : ∀ j, j < z → 0 ≤ M 20 0 j ∧ M 20 0 j ≤ 255) (hq0 : M 304 0 0 = (q : Int)) (hq1 : M 302 0 0 = (q : Int)) (hqz : q ≤ z) (h : ∀ g : am_M, g 303 0 0 = lx_wt (lx_sl (M 20 0) q (lx_sc lx_le (M 20 0) z 160 q)) → g 302 0 0 = (lx_sc lx_le (M 20 0) z 160 q : Int) → K none (am_mix [302, 303] g M)) : am_Call wb d 17 [aR 5 0] M K := by
  obtain ⟨d, rfl⟩ : ∃ e, d = e + 1 := ⟨d - 1, by omega⟩
  refine ⟨rfl, fun R hR hC => ?_⟩
  replace hR : ∀ c, am_F wb tb_f17 0 (am_Call wb d) K R c → R c := hR
  show R (0, [some (aR 5 0), none], [], M)
  refine hR _ (hR _ (?_))
  show R (2, [some (aR 5 0), some (aI 0)], [], M)
  obtain ⟨e, hee⟩ : ∃ e, e = lx_sc lx_le (M 20 0) z 160 q := ⟨_, rfl⟩
  have heb := lx_sc_b (c := lx_le) (b := M 20 0) (z := z) (by decide) 160 q hqz
  rw [← hee] at heb h
  have hqe : q ≤ e ∧ e ≤ z := heb
  have fin : ∀ (g : am_M) (o : Int), g 302 0 0 = (e : Int) → R (39, [some (aR 5 0), some (aI o)], [], am_mix [302, 303] g M) := by
    intro g o he0
    refine hR _ (hR _ (?_))
    show R (42, [some (aR 5 0), some (aI o)], [aR 52 1, aR 5 0], am_mix [302, 303] g M)
    refine hR _ (sp_isWord (j := 1) (q := q) (e := e) (z := z) (by omega) hz (by omega) hby (by omega) hq0 he0 hqe (fun hw1 => ?_) (fun hw1 => ?_))
    · replace hw1 : lx_sl (M 20 0) q e = am_text 1 := hw1
      show R (45, [some (aR 5 0), some (aI o)], [aI 1], am_mix [302, 303] g M)
      refine hR _ (am_brf (rg := am_in 1) (P := (1 : Int) = 0) (A := R (56, [some (aR 5 0), some (aI o)], [], am_mix [302, 303] g M)) (B := R (48, [some (aR 5 0), some (aI o)], [], am_mix [302, 303] g M)) (by omega) (by omega) ?_)
      show R (48, [some (aR 5 0), some (aI o)], [], am_mix [302, 303] g M)
      refine hR _ (hR _ (hR _ (hR _ (?_))))
      show R (257, [some (aR 5 0), some (aI o)], [], am_wr (am_mix [302, 303] g M) 303 0 0 3)
      refine hR _ (show K none (am_wr (am_mix [302, 303] g M) 303 0 0 3) from ?_)
      refine am_fin (S := [302, 303]) (F := fun m => m 303 0 0 = lx_wt (lx_sl (M 20 0) q e) ∧ m 302 0 0 = (e : Int)) (((am_ag.rf).mix rfl).wr rfl) ⟨?_, he0⟩ (fun g hg => h g hg.1 hg.2)
      show (3 : Int) = _
      unfold lx_wt
      rw [if_pos hw1]
    · replace hw1 : ¬ lx_sl (M 20 0) q e = am_text 1 := hw1
      show R (45, [some (aR 5 0), some (aI o)], [aI 0], am_mix [302, 303] g M)
      refine hR _ (am_brt (rg := am_in 0) (P := (0 : Int) = 0) (A := R (56, [some (aR 5 0), some (aI o)], [], am_mix [302, 303] g M)) (B := R (48, [some (aR 5 0), some (aI o)], [], am_mix [302, 303] g M)) (by omega) (by omega) ?_)
      show R (56, [some (aR 5 0), some (aI o)], [], am_mix [302, 303] g M)
      refine hR _ (hR _ (?_))
      show R (59, [some (aR 5 0), some (aI o)], [aR 52 2, aR 5 0], am_mix [302, 303] g M)
      refine hR _ (sp_isWord (j := 2) (q := q) (e := e) (z := z) (by omega) hz (by omega) hby (by omega) hq0 he0 hqe (fun hw2 => ?_) (fun hw2 => ?_))
      · replace hw2 : lx_sl (M 20 0) q e = am_text 2 := hw2
        show R (62, [some (aR 5 0), some (aI o)], [aI 1], am_mix [302, 303] g M)
        refine hR _ (am_brf (rg := am_in 1) (P := (1 : Int) = 0) (A := R (73, [some (aR 5 0), some (aI o)], [], am_mix [302, 303] g M)) (B := R (65, [some (aR 5 0), some (aI o)], [], am_mix [302, 303] g M)) (by omega) (by omega) ?_)
        show R (65, [some (aR 5 0), some (aI o)], [], am_mix [302, 303] g M)
        refine hR _ (hR _ (hR _ (hR _ (?_))))
        show R (257, [some (aR 5 0), some (aI o)], [], am_wr (am_mix [302, 303] g M) 303 0 0 4)
        refine hR _ (show K none (am_wr (am_mix [302, 303] g M) 303 0 0 4) from ?_)
        refine am_fin (S := [302, 303]) (F := fun m => m 303 0 0 = lx_wt (lx_sl (M 20 0) q e) ∧ m 302 0 0 = (e : Int)) (((am_ag.rf).mix rfl).wr rfl) ⟨?_, he0⟩ (fun g hg => h g hg.1 hg.2)
        show (4 : Int) = _
        unfold lx_wt
        rw [if_neg hw1, if_pos hw2]
      · replace hw2 : ¬ lx_sl (M 20 0) q e = am_text 2 := hw2
        show R (62, [some (aR 5 0), some (aI o)], [aI 0], am_mix [302, 303] g M)
        refine hR _ (am_brt (rg := am_in 0) (P := (0 : Int) = 0) (A := R (73, [some (aR 5 0), some (aI o)], [], am_mix [302, 303] g M)) (B := R (65, [some (aR 5 0), some (aI o)], [], am_mix [302, 303] g M)) (by omega) (by omega) ?_)
        show R (73, [some (aR 5 0), some (aI o)], [], am_mix [302, 303] g M)
        refine hR _ (hR _ (?_))
        show R (76, [some (aR 5 0), some (aI o)], [aR 52 3, aR 5 0], am_mix [302, 303] g M)
        refine hR _ (sp_isWord (j := 3) (q := q) (e := e) (z := z) (by omega) hz (by omega) hby (by omega) hq0 he0 hqe (fun hw3 => ?_) (fun hw3 => ?_))
        · replace hw3 : lx_sl (M 20 0) q e = am_text 3 := hw3
          show R (79, [some (aR 5 0), some (aI o)], [aI 1], am_mix [302, 303] g M)
          refine hR _ (am_brf (rg := am_in 1) (P := (1 : Int) = 0) (A := R (90, [some (aR 5 0), some (aI o)], [], am_mix [302, 303] g M)) (B := R (82, [some (aR 5 0), some (aI o)], [], am_mix [302, 303] g M)) (by omega) (by omega) ?_)
          show R (82, [some (aR 5 0), some (aI o)], [], am_mix [302, 303] g M)
          refine hR _ (hR _ (hR _ (hR _ (?_))))
          show R (257, [some (aR 5 0), some (aI o)], [], am_wr (am_mix [302, 303] g M) 303 0 0 5)
          refine hR _ (show K none (am_wr (am_mix [302, 303] g M) 303 0 0 5) from ?_)
          refine am_fin (S := [302, 303]) (F := fun m => m 303 0 0 = lx_wt (lx_sl (M 20 0) q e) ∧ m 302 0 0 = (e : Int)) (((am_ag.rf).mix rfl).wr rfl) ⟨?_, he0⟩ (fun g hg => h g hg.1 hg.2)
          show (5 : Int) = _
          unfold lx_wt
          rw [if_neg hw1, if_neg hw2, if_pos hw3]
        · replace hw3 : ¬ lx_sl (M 20 0) q e = am_text 3 := hw3
          show R (79, [some (aR 5 0), some (aI o)], [aI 0], am_mix [302, 303] g M)
          refine hR _ (am_brt (rg := am_in 0) (P := (0 : Int) = 0) (A := R (90, [some (aR 5 0), some (aI o)], [], am_mix [302, 303] g M)) (B := R (82, [some (aR 5 0), some (aI o)], [], am_mix [302, 303] g M)) (by omega) (by omega) ?_)
          show R (90, [some (aR 5 0), some (aI o)], [], am_mix [302, 303] g M)
          refine hR _ (hR _ (?_))
          show R (93, [some (aR 5 0), some (aI o)], [aR 52 4, aR 5 0], am_mix [302, 303] g M)
          refine hR _ (sp_isWord (j := 4) (q := q) (e := e) (z := z) (by omega) hz (by omega) hby (by omega) hq0 he0 hqe (fun hw4 => ?_) (fun hw4 => ?_))
          · replace hw4 : lx_sl (M 20 0) q e = am_text 4 := hw4
            show R (96, [some (aR 5 0), some (aI o)], [aI 1], am_mix [302, 303] g M)
            refine hR _ (am_brf (rg := am_in 1) (P := (1 : Int) = 0) (A := R (108, [some (aR 5 0), some (aI o)], [], am_mix [302, 303] g M)) (B := R (99, [some (aR 5 0), some (aI o)], [], am_mix [302, 303] g M)) (by omega) (by omega) ?_)
            show R (99, [some (aR 5 0), some (aI o)], [], am_mix [302, 303] g M)
            refine hR _ (hR _ (hR _ (hR _ (?_))))
            show R (257, [some (aR 5 0), some (aI o)], [], am_wr (am_mix [302, 303] g M) 303 0 0 6)
            refine hR _ (show K none (am_wr (am_mix [302, 303] g M) 303 0 0 6) from ?_)
            refine am_fin (S := [302, 303]) (F := fun m => m 303 0 0 = lx_wt (lx_sl (M 20 0) q e) ∧ m 302 0 0 = (e : Int)) (((am_ag.rf).mix rfl).wr rfl) ⟨?_, he0⟩ (fun g hg => h g hg.1 hg.2)
            show (6 : Int) = _
            unfold lx_wt
            rw [if_neg hw1, if_neg hw2, if_neg hw3, if_pos hw4]
          · replace hw4 : ¬ lx_sl (M 20 0) q e = am_text 4 := hw4
            show R (96, [some (aR 5 0), some (aI o)], [aI 0], am_mix [302, 303] g M)
            refine hR _ (am_brt (rg := am_in 0) (P := (0 : Int) = 0) (A := R (108, [some (aR 5 0), some (aI o)], [], am_mix [302, 303] g M)) (B := R (99, [some (aR 5 0), some (aI o)], [], am_mix [302, 303] g M)) (by omega) (by omega) ?_)
            show R (108, [some (aR 5 0), some (aI o)], [], am_mix [302, 303] g M)
            refine hR _ (hR _ (?_))
            show R (111, [some (aR 5 0), some (aI o)], [aR 52 5, aR 5 0], am_mix [302, 303] g M)
            refine hR _ (sp_isWord (j := 5) (q := q) (e := e) (z := z) (by omega) hz (by omega) hby (by omega) hq0 he0 hqe (fun hw5 => ?_) (fun hw5 => ?_))
            · replace hw5 : lx_sl (M 20 0) q e = am_text 5 := hw5
              show R (114, [some (aR 5 0), some (aI o)], [aI 1], am_mix [302, 303] g M)
              refine hR _ (am_brf (rg := am_in 1) (P := (1 : Int) = 0) (A := R (126, [some (aR 5 0), some (aI o)], [], am_mix [302, 303] g M)) (B := R (117, [some (aR 5 0), some (aI o)], [], am_mix [302, 303] g M)) (by omega) (by omega) ?_)
              show R (117, [some (aR 5 0), some (aI o)], [], am_mix [302, 303] g M)
              refine hR _ (hR _ (hR _ (hR _ (?_))))
              show R (257, [some (aR 5 0), some (aI o)], [], am_wr (am_mix [302, 303] g M) 303 0 0 7)
              refine hR _ (show K none (am_wr (am_mix [302, 303] g M) 303 0 0 7) from ?_)
              refine am_fin (S := [302, 303]) (F := fun m => m 303 0 0 = lx_wt (lx_sl (M 20 0) q e) ∧ m 302 0 0 = (e : Int)) (((am_ag.rf).mix rfl).wr rfl) ⟨?_, he0⟩ (fun g hg => h g hg.1 hg.2)
              show (7 : Int) = _
              unfold lx_wt
              rw [if_neg hw1, if_neg hw2, if_neg hw3, if_neg hw4, if_pos hw5]
            · replace hw5 : ¬ lx_sl (M 20 0) q e = am_text 5 := hw5
              show R (114, [some (aR 5 0), some (aI o)], [aI 0], am_mix [302, 303] g M)
              refine hR _ (am_brt (rg := am_in 0) (P := (0 : Int) = 0) (A := R (126, [some (aR 5 0), some (aI o)], [], am_mix [302, 303] g M)) (B := R (117, [some (aR 5 0), some (aI o)], [], am_mix [302, 303] g M)) (by omega) (by omega) ?_)
              show R (126, [some (aR 5 0), some (aI o)], [], am_mix [302, 303] g M)
              refine hR _ (hR _ (?_))
              show R (129, [some (aR 5 0), some (aI o)], [aR 52 6, aR 5 0], am_mix [302, 303] g M)
              refine hR _ (sp_isWord (j := 6) (q := q) (e := e) (z := z) (by omega) hz (by omega) hby (by omega) hq0 he0 hqe (fun hw6 => ?_) (fun hw6 => ?_))
              · replace hw6 : lx_sl (M 20 0) q e = am_text 6 := hw6
                show R (132, [some (aR 5 0), some (aI o)], [aI 1], am_mix [302, 303] g M)
                refine hR _ (am_brf (rg := am_in 1) (P := (1 : Int) = 0) (A := R (144, [some (aR 5 0), some (aI o)], [], am_mix [302, 303] g M)) (B := R (135, [some (aR 5 0), some (aI o)], [], am_mix [302, 303] g M)) (by omega) (by omega) ?_)
                show R (135, [some (aR 5 0), some (aI o)], [], am_mix [302, 303] g M)
                refine hR _ (hR _ (hR _ (hR _ (?_))))
                show R (257, [some (aR 5 0), some (aI o)], [], am_wr (am_mix [302, 303] g M) 303 0 0 8)
                refine hR _ (show K none (am_wr (am_mix [302, 303] g M) 303 0 0 8) from ?_)
                refine am_fin (S := [302, 303]) (F := fun m => m 303 0 0 = lx_wt (lx_sl (M 20 0) q e) ∧ m 302 0 0 = (e : Int)) (((am_ag.rf).mix rfl).wr rfl) ⟨?_, he0⟩ (fun g hg => h g hg.1 hg.2)
                show (8 : Int) = _
                unfold lx_wt
                rw [if_neg hw1, if_neg hw2, if_neg hw3, if_neg hw4, if_neg hw5, if_pos hw6]
              · replace hw6 : ¬ lx_sl (M 20 0) q e = am_text 6 := hw6
                show R (132, [some (aR 5 0), some (aI o)], [aI 0], am_mix [302, 303] g M)
                refine hR _ (am_brt (rg := am_in 0) (P := (0 : Int) = 0) (A := R (144, [some (aR 5 0), some (aI o)], [], am_mix [302, 303] g M)) (B := R (135, [some (aR 5 0), some (aI o)], [], am_mix [302, 303] g M)) (by omega) (by omega) ?_)
                show R (144, [some (aR 5 0), some (aI o)], [], am_mix [302, 303] g M)
                refine hR _ (hR _ (?_))
                show R (147, [some (aR 5 0), some (aI o)], [aR 52 7, aR 5 0], am_mix [302, 303] g M)
                refine hR _ (sp_isWord (j := 7) (q := q) (e := e) (z := z) (by omega) hz (by omega) hby (by omega) hq0 he0 hqe (fun hw7 => ?_) (fun hw7 => ?_))
                · replace hw7 : lx_sl (M 20 0) q e = am_text 7 := hw7
                  show R (150, [some (aR 5 0), some (aI o)], [aI 1], am_mix [302, 303] g M)
                  refine hR _ (am_brf (rg := am_in 1) (P := (1 : Int) = 0) (A := R (162, [some (aR 5 0), some (aI o)], [], am_mix [302, 303] g M)) (B := R (153, [some (aR 5 0), some (aI o)], [], am_mix [302, 303] g M)) (by omega) (by omega) ?_)
                  show R (153, [some (aR 5 0), some (aI o)], [], am_mix [302, 303] g M)
                  refine hR _ (hR _ (hR _ (hR _ (?_))))
                  show R (257, [some (aR 5 0), some (aI o)], [], am_wr (am_mix [302, 303] g M) 303 0 0 10)
                  refine hR _ (show K none (am_wr (am_mix [302, 303] g M) 303 0 0 10) from ?_)
                  refine am_fin (S := [302, 303]) (F := fun m => m 303 0 0 = lx_wt (lx_sl (M 20 0) q e) ∧ m 302 0 0 = (e : Int)) (((am_ag.rf).mix rfl).wr rfl) ⟨?_, he0⟩ (fun g hg => h g hg.1 hg.2)
                  show (10 : Int) = _
                  unfold lx_wt
                  rw [if_neg hw1, if_neg hw2, if_neg hw3, if_neg hw4, if_neg hw5, if_neg hw6, if_pos hw7]
                · replace hw7 : ¬ lx_sl (M 20 0) q e = am_text 7 := hw7
                  show R (150, [some (aR 5 0), some (aI o)], [aI 0], am_mix [302, 303] g M)
                  refine hR _ (am_brt (rg := am_in 0) (P := (0 : Int) = 0) (A := R (162, [some (aR 5 0), some (aI o)], [], am_mix [302, 303] g M)) (B := R (153, [some (aR 5 0), some (aI o)], [], am_mix [302, 303] g M)) (by omega) (by omega) ?_)
                  show R (162, [some (aR 5 0), some (aI o)], [], am_mix [302, 303] g M)
                  refine hR _ (hR _ (?_))
                  show R (165, [some (aR 5 0), some (aI o)], [aR 52 8, aR 5 0], am_mix [302, 303] g M)
                  refine hR _ (sp_isWord (j := 8) (q := q) (e := e) (z := z) (by omega) hz (by omega) hby (by omega) hq0 he0 hqe (fun hw8 => ?_) (fun hw8 => ?_))
                  · replace hw8 : lx_sl (M 20 0) q e = am_text 8 := hw8
                    show R (168, [some (aR 5 0), some (aI o)], [aI 1], am_mix [302, 303] g M)
                    refine hR _ (am_brf (rg := am_in 1) (P := (1 : Int) = 0) (A := R (180, [some (aR 5 0), some (aI o)], [], am_mix [302, 303] g M)) (B := R (171, [some (aR 5 0), some (aI o)], [], am_mix [302, 303] g M)) (by omega) (by omega) ?_)
                    show R (171, [some (aR 5 0), some (aI o)], [], am_mix [302, 303] g M)
                    refine hR _ (hR _ (hR _ (hR _ (?_))))
                    show R (257, [some (aR 5 0), some (aI o)], [], am_wr (am_mix [302, 303] g M) 303 0 0 11)
                    refine hR _ (show K none (am_wr (am_mix [302, 303] g M) 303 0 0 11) from ?_)
                    refine am_fin (S := [302, 303]) (F := fun m => m 303 0 0 = lx_wt (lx_sl (M 20 0) q e) ∧ m 302 0 0 = (e : Int)) (((am_ag.rf).mix rfl).wr rfl) ⟨?_, he0⟩ (fun g hg => h g hg.1 hg.2)
                    show (11 : Int) = _
                    unfold lx_wt
                    rw [if_neg hw1, if_neg hw2, if_neg hw3, if_neg hw4, if_neg hw5, if_neg hw6, if_neg hw7, if_pos hw8]
                  · replace hw8 : ¬ lx_sl (M 20 0) q e = am_text 8 := hw8
                    show R (168, [some (aR 5 0), some (aI o)], [aI 0], am_mix [302, 303] g M)
                    refine hR _ (am_brt (rg := am_in 0) (P := (0 : Int) = 0) (A := R (180, [some (aR 5 0), some (aI o)], [], am_mix [302, 303] g M)) (B := R (171, [some (aR 5 0), some (aI o)], [], am_mix [302, 303] g M)) (by omega) (by omega) ?_)
                    show R (180, [some (aR 5 0), some (aI o)], [], am_mix [302, 303] g M)
                    refine hR _ (hR _ (?_))
                    show R (183, [some (aR 5 0), some (aI o)], [aR 52 9, aR 5 0], am_mix [302, 303] g M)
                    refine hR _ (sp_isWord (j := 9) (q := q) (e := e) (z := z) (by omega) hz (by omega) hby (by omega) hq0 he0 hqe (fun hw9 => ?_) (fun hw9 => ?_))
                    · replace hw9 : lx_sl (M 20 0) q e = am_text 9 := hw9
                      show R (186, [some (aR 5 0), some (aI o)], [aI 1], am_mix [302, 303] g M)
                      refine hR _ (am_brf (rg := am_in 1) (P := (1 : Int) = 0) (A := R (198, [some (aR 5 0), some (aI o)], [], am_mix [302, 303] g M)) (B := R (189, [some (aR 5 0), some (aI o)], [], am_mix [302, 303] g M)) (by omega) (by omega) ?_)
                      show R (189, [some (aR 5 0), some (aI o)], [], am_mix [302, 303] g M)
                      refine hR _ (hR _ (hR _ (hR _ (?_))))
                      show R (257, [some (aR 5 0), some (aI o)], [], am_wr (am_mix [302, 303] g M) 303 0 0 12)
                      refine hR _ (show K none (am_wr (am_mix [302, 303] g M) 303 0 0 12) from ?_)
                      refine am_fin (S := [302, 303]) (F := fun m => m 303 0 0 = lx_wt (lx_sl (M 20 0) q e) ∧ m 302 0 0 = (e : Int)) (((am_ag.rf).mix rfl).wr rfl) ⟨?_, he0⟩ (fun g hg => h g hg.1 hg.2)
                      show (12 : Int) = _
                      unfold lx_wt
                      rw [if_neg hw1, if_neg hw2, if_neg hw3, if_neg hw4, if_neg hw5, if_neg hw6, if_neg hw7, if_neg hw8, if_pos hw9]
                    · replace hw9 : ¬ lx_sl (M 20 0) q e = am_text 9 := hw9
                      show R (186, [some (aR 5 0), some (aI o)], [aI 0], am_mix [302, 303] g M)
                      refine hR _ (am_brt (rg := am_in 0) (P := (0 : Int) = 0) (A := R (198, [some (aR 5 0), some (aI o)], [], am_mix [302, 303] g M)) (B := R (189, [some (aR 5 0), some (aI o)], [], am_mix [302, 303] g M)) (by omega) (by omega) ?_)
                      show R (198, [some (aR 5 0), some (aI o)], [], am_mix [302, 303] g M)
                      refine hR _ (hR _ (?_))
                      show R (201, [some (aR 5 0), some (aI o)], [aR 52 10, aR 5 0], am_mix [302, 303] g M)
                      refine hR _ (sp_isWord (j := 10) (q := q) (e := e) (z := z) (by omega) hz (by omega) hby (by omega) hq0 he0 hqe (fun hw10 => ?_) (fun hw10 => ?_))
                      · replace hw10 : lx_sl (M 20 0) q e = am_text 10 := hw10
                        show R (204, [some (aR 5 0), some (aI o)], [aI 1], am_mix [302, 303] g M)
                        refine hR _ (am_brf (rg := am_in 1) (P := (1 : Int) = 0) (A := R (216, [some (aR 5 0), some (aI o)], [], am_mix [302, 303] g M)) (B := R (207, [some (aR 5 0), some (aI o)], [], am_mix [302, 303] g M)) (by omega) (by omega) ?_)
                        show R (207, [some (aR 5 0), some (aI o)], [], am_mix [302, 303] g M)
                        refine hR _ (hR _ (hR _ (hR _ (?_))))
                        show R (257, [some (aR 5 0), some (aI o)], [], am_wr (am_mix [302, 303] g M) 303 0 0 13)
                        refine hR _ (show K none (am_wr (am_mix [302, 303] g M) 303 0 0 13) from ?_)
                        refine am_fin (S := [302, 303]) (F := fun m => m 303 0 0 = lx_wt (lx_sl (M 20 0) q e) ∧ m 302 0 0 = (e : Int)) (((am_ag.rf).mix rfl).wr rfl) ⟨?_, he0⟩ (fun g hg => h g hg.1 hg.2)
                        show (13 : Int) = _
                        unfold lx_wt
                        rw [if_neg hw1, if_neg hw2, if_neg hw3, if_neg hw4, if_neg hw5, if_neg hw6, if_neg hw7, if_neg hw8, if_neg hw9, if_pos hw10]
                      · replace hw10 : ¬ lx_sl (M 20 0) q e = am_text 10 := hw10
                        show R (204, [some (aR 5 0), some (aI o)], [aI 0], am_mix [302, 303] g M)
                        refine hR _ (am_brt (rg := am_in 0) (P := (0 : Int) = 0) (A := R (216, [some (aR 5 0), some (aI o)], [], am_mix [302, 303] g M)) (B := R (207, [some (aR 5 0), some (aI o)], [], am_mix [302, 303] g M)) (by omega) (by omega) ?_)
                        show R (216, [some (aR 5 0), some (aI o)], [], am_mix [302, 303] g M)
                        refine hR _ (hR _ (?_))
                        show R (219, [some (aR 5 0), some (aI o)], [aR 52 11, aR 5 0], am_mix [302, 303] g M)
                        refine hR _ (sp_isWord (j := 11) (q := q) (e := e) (z := z) (by omega) hz (by omega) hby (by omega) hq0 he0 hqe (fun hw11 => ?_) (fun hw11 => ?_))
                        · replace hw11 : lx_sl (M 20 0) q e = am_text 11 := hw11
                          show R (222, [some (aR 5 0), some (aI o)], [aI 1], am_mix [302, 303] g M)
                          refine hR _ (am_brf (rg := am_in 1) (P := (1 : Int) = 0) (A := R (234, [some (aR 5 0), some (aI o)], [], am_mix [302, 303] g M)) (B := R (225, [some (aR 5 0), some (aI o)], [], am_mix [302, 303] g M)) (by omega) (by omega) ?_)
                          show R (225, [some (aR 5 0), some (aI o)], [], am_mix [302, 303] g M)
                          refine hR _ (hR _ (hR _ (hR _ (?_))))
                          show R (257, [some (aR 5 0), some (aI o)], [], am_wr (am_mix [302, 303] g M) 303 0 0 14)
                          refine hR _ (show K none (am_wr (am_mix [302, 303] g M) 303 0 0 14) from ?_)
                          refine am_fin (S := [302, 303]) (F := fun m => m 303 0 0 = lx_wt (lx_sl (M 20 0) q e) ∧ m 302 0 0 = (e : Int)) (((am_ag.rf).mix rfl).wr rfl) ⟨?_, he0⟩ (fun g hg => h g hg.1 hg.2)
                          show (14 : Int) = _
                          unfold lx_wt
                          rw [if_neg hw1, if_neg hw2, if_neg hw3, if_neg hw4, if_neg hw5, if_neg hw6, if_neg hw7, if_neg hw8, if_neg hw9, if_neg hw10, if_pos hw11]
                        · replace hw11 : ¬ lx_sl (M 20 0) q e = am_text 11 := hw11
                          show R (222, [some (aR 5 0), some (aI o)], [aI 0], am_mix [302, 303] g M)
                          refine hR _ (am_brt (rg := am_in 0) (P := (0 : Int) = 0) (A := R (234, [some (aR 5 0), some (aI o)], [], am_mix [302, 303] g M)) (B := R (225, [some (aR 5 0), some (aI o)], [], am_mix [302, 303] g M)) (by omega) (by omega) ?_)
                          show R (234, [some (aR 5 0), some (aI o)], [], am_mix [302, 303] g M)
                          refine hR _ (hR _ (?_))
                          show R (237, [some (aR 5 0), some (aI o)], [aR 52 12, aR 5 0], am_mix [302, 303] g M)
                          refine hR _ (sp_isWord (j := 12) (q := q) (e := e) (z := z) (by omega) hz (by omega) hby (by omega) hq0 he0 hqe (fun hw12 => ?_) (fun hw12 => ?_))
                          · replace hw12 : lx_sl (M 20 0) q e = am_text 12 := hw12
                            show R (240, [some (aR 5 0), some (aI o)], [aI 1], am_mix [302, 303] g M)
                            refine hR _ (am_brf (rg := am_in 1) (P := (1 : Int) = 0) (A := R (252, [some (aR 5 0), some (aI o)], [], am_mix [302, 303] g M)) (B := R (243, [some (aR 5 0), some (aI o)], [], am_mix [302, 303] g M)) (by omega) (by omega) ?_)
                            show R (243, [some (aR 5 0), some (aI o)], [], am_mix [302, 303] g M)
                            refine hR _ (hR _ (hR _ (hR _ (?_))))
                            show R (257, [some (aR 5 0), some (aI o)], [], am_wr (am_mix [302, 303] g M) 303 0 0 15)
                            refine hR _ (show K none (am_wr (am_mix [302, 303] g M) 303 0 0 15) from ?_)
                            refine am_fin (S := [302, 303]) (F := fun m => m 303 0 0 = lx_wt (lx_sl (M 20 0) q e) ∧ m 302 0 0 = (e : Int)) (((am_ag.rf).mix rfl).wr rfl) ⟨?_, he0⟩ (fun g hg => h g hg.1 hg.2)
                            show (15 : Int) = _
                            unfold lx_wt
                            rw [if_neg hw1, if_neg hw2, if_neg hw3, if_neg hw4, if_neg hw5, if_neg hw6, if_neg hw7, if_neg hw8, if_neg hw9, if_neg hw10, if_neg hw11, if_pos hw12]
                          · replace hw12 : ¬ lx_sl (M 20 0) q e = am_text 12 := hw12
                            show R (240, [some (aR 5 0), some (aI o)], [aI 0], am_mix [302, 303] g M)
                            refine hR _ (am_brt (rg := am_in 0) (P := (0 : Int) = 0) (A := R (252, [some (aR 5 0), some (aI o)], [], am_mix [302, 303] g M)) (B := R (243, [some (aR 5 0), some (aI o)], [], am_mix [302, 303] g M)) (by omega) (by omega) ?_)
                            show R (252, [some (aR 5 0), some (aI o)], [], am_mix [302, 303] g M)
                            refine hR _ (hR _ (hR _ (?_)))
                            show R (257, [some (aR 5 0), some (aI o)], [], am_wr (am_mix [302, 303] g M) 303 0 0 1)
                            refine hR _ (show K none (am_wr (am_mix [302, 303] g M) 303 0 0 1) from ?_)
                            refine am_fin (S := [302, 303]) (F := fun m => m 303 0 0 = lx_wt (lx_sl (M 20 0) q e) ∧ m 302 0 0 = (e : Int)) (((am_ag.rf).mix rfl).wr rfl) ⟨?_, he0⟩ (fun g hg => h g hg.1 hg.2)
                            show (1 : Int) = _
                            unfold lx_wt
                            rw [if_neg hw1, if_neg hw2, if_neg hw3, if_neg hw4, if_neg hw5, if_neg hw6, if_neg hw7, if_neg hw8, if_neg hw9, if_neg hw10, if_neg hw11, if_neg hw12]
  have key : ∀ (n i p : Nat) (x : Int) (g : am_M), x = (i : Int) → i + n = 160 → g 302 0 0 = (p : Int) → p ≤ z → lx_sc lx_le (M 20 0) z n p = e → R (2, [some (aR 5 0), some (aI x)], [], am_mix [302, 303] g M) := by
    intro n
    induction n with
    | zero =>
      intro i p x g hx hin hp hpz hs
      subst hx
      refine hR _ (hR _ (hR _ (am_brt (rg := am_in ((i : Nat) : Int) ∧ am_in 160) (P := 160 ≤ ((i : Nat) : Int)) (A := R (39, [some (aR 5 0), some (aI ((i : Nat) : Int))], [], am_mix [302, 303] g M)) (B := R (9, [some (aR 5 0), some (aI ((i : Nat) : Int))], [], am_mix [302, 303] g M)) (by omega) (by omega) ?_)))
      show R (39, [some (aR 5 0), some (aI ((i : Nat) : Int))], [], am_mix [302, 303] g M)
      have hpe : p = e := hs
      rw [hpe] at hp
      exact fin g _ hp
    | succ n ih =>
      intro i p x g hx hin hp hpz hs
      subst hx
      unfold lx_sc at hs
      refine hR _ (hR _ (hR _ (am_brf (rg := am_in ((i : Nat) : Int) ∧ am_in 160) (P := 160 ≤ ((i : Nat) : Int)) (A := R (39, [some (aR 5 0), some (aI ((i : Nat) : Int))], [], am_mix [302, 303] g M)) (B := R (9, [some (aR 5 0), some (aI ((i : Nat) : Int))], [], am_mix [302, 303] g M)) (by omega) (by omega) ?_)))
      show R (9, [some (aR 5 0), some (aI ((i : Nat) : Int))], [], am_mix [302, 303] g M)
      refine hR _ (hR _ (hR _ (?_)))
      show R (14, [some (aR 5 0), some (aI ((i : Nat) : Int))], [aI (g 302 0 0), aR 5 0], am_mix [302, 303] g M)
      rw [hp]
      show R (14, [some (aR 5 0), some (aI ((i : Nat) : Int))], [aI ((p : Nat) : Int), aR 5 0], am_mix [302, 303] g M)
      refine hR _ (sp_byteAt (z := z) (i := p) (by omega) hz (by omega) hby (by omega) (by omega) ?_)
      have hbr14 := lx_by_b hby p
      show R (17, [some (aR 5 0), some (aI ((i : Nat) : Int))], [aI (lx_by (M 20 0) z p)], am_mix [302, 303] g M)
      refine hR _ (sp_isLetter (by omega) (by omega) (fun h17 => ?_) (fun h17 => ?_))
      · show R (20, [some (aR 5 0), some (aI ((i : Nat) : Int))], [aI 1], am_mix [302, 303] g M)
        refine hR _ (am_brf (rg := am_in 1) (P := (1 : Int) = 0) (A := R (39, [some (aR 5 0), some (aI ((i : Nat) : Int))], [], am_mix [302, 303] g M)) (B := R (23, [some (aR 5 0), some (aI ((i : Nat) : Int))], [], am_mix [302, 303] g M)) (by omega) (by omega) ?_)
        show R (23, [some (aR 5 0), some (aI ((i : Nat) : Int))], [], am_mix [302, 303] g M)
        refine hR _ (hR _ (hR _ (?_)))
        show R (28, [some (aR 5 0), some (aI ((i : Nat) : Int))], [aI (g 302 0 0), aR 5 0], am_mix [302, 303] g M)
        rw [hp]
        show R (28, [some (aR 5 0), some (aI ((i : Nat) : Int))], [aI ((p : Nat) : Int), aR 5 0], am_mix [302, 303] g M)
        refine hR _ (hR _ (hR _ (hR _ (hR _ (?_)))))
        show R (2, [some (aR 5 0), some (aI (((i : Nat) : Int) + 1))], [], am_wr (am_mix [302, 303] g M) 302 0 0 (((p : Nat) : Int) + 1))
        rw [show lx_le (lx_by (M 20 0) z p) = true from decide_eq_true h17] at hs
        have hpz2 : p < z := by
          by_cases hh : p < z
          · exact hh
          · rw [show lx_by (M 20 0) z p = -1 from if_neg hh] at h17
            omega
        have e9 : am_ag [302, 303] M (am_wr (am_mix [302, 303] g M) 302 0 0 (((p : Nat) : Int) + 1)) := ((am_ag.rf).mix rfl).wr rfl
        rw [e9.eq]
        exact ih (i + 1) (p + 1) _ _ rfl (by omega) rfl (by omega) hs
      · show R (20, [some (aR 5 0), some (aI ((i : Nat) : Int))], [aI 0], am_mix [302, 303] g M)
        refine hR _ (am_brt (rg := am_in 0) (P := (0 : Int) = 0) (A := R (39, [some (aR 5 0), some (aI ((i : Nat) : Int))], [], am_mix [302, 303] g M)) (B := R (23, [some (aR 5 0), some (aI ((i : Nat) : Int))], [], am_mix [302, 303] g M)) (by omega) (by omega) ?_)
        show R (39, [some (aR 5 0), some (aI ((i : Nat) : Int))], [], am_mix [302, 303] g M)
        rw [show lx_le (lx_by (M 20 0) z p) = false from decide_eq_false h17] at hs
        have hpe : p = e := hs
        rw [hpe] at hp
        exact fin g _ hp
  have e9 : am_ag [302, 303] M M := am_ag.rf
  rw [e9.eq]
  exact key 160 0 q _ _ rfl rfl hq1 hqz hee.symm
