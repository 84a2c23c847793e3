/-! wb -/
variable {wb : Bool}
/-! The class's objects -/
def jf_bst (s : Int × Int × Int) (v a b : Int) : Int × Int × Int := if s.1 = -1 ∨ s.2.1 * b < a * s.2.2 then (v, a, b) else s
def jf_best (v : Nat → Int) (f : Nat → Int × Int) : Nat → Int × Int × Int
  | 0 => (-1, 0, 1)
  | n + 1 => jf_bst (jf_best v f n) (v n) (f n).1 (f n).2
/-- what a sum costs -/
def jf_co (p : jf_par) (mk s : Int) : Int := jf_cs p.mo p.pr (p.T 2) (min 999 (if 0 ≤ s - mk then s - mk else -(s - mk))) (if s ≤ mk then 0 else 1)
def jf_cc (p : jf_par) (mk : Int) : Int := jf_su fun a => jf_O p a * jf_co p mk (jf_E p a)
def jf_wo (p : jf_par) (by' : Int) : Int := if by' = 0 then -jf_cc p p.mk else if by' = 1 then -jf_tt p else jf_at p p.mk
theorem jf_co_b (p : jf_par) (mk s : Int) : 0 ≤ jf_co p mk s ∧ jf_co p mk s ≤ 999 := jf_cl2 _
theorem jf_cc_b {p : jf_par} (hp : jf_ok p) (mk : Int) : 0 ≤ jf_cc p mk ∧ jf_cc p mk ≤ 64935 := jf_su_b (n := 12987) fun a ha => by
  have h1 := jf_O_b hp ha
  have h2 := jf_co_b p mk (jf_E p a)
  have h3 : 0 ≤ jf_O p a * jf_co p mk (jf_E p a) := Int.mul_nonneg (by omega) (by omega)
  have h4 : jf_O p a * jf_co p mk (jf_E p a) ≤ 13 * 999 := Int.mul_le_mul (by omega) (by omega) (by omega) (by omega)
  omega
theorem jf_wo_b {p : jf_par} (hp : jf_ok p) (b : Int) : -140010 ≤ jf_wo p b ∧ jf_wo p b ≤ 140010 := by
  have h1 := jf_cc_b hp p.mk
  have h2 := jf_tt_b hp
  have h3 := jf_at_b hp p.mk
  unfold jf_wo
  repeat' split
  all_goals omega

theorem sp_Best_start {d : Nat} (hd : 1 ≤ d)  {M : am_M} {K : am_K}  (h : K none (am_wr (am_wr (am_wr M 100 0 0 (-1)) 101 0 0 0) 102 0 0 1)) : am_Call wb d 76 [aR 0 0] M K := by
  obtain ⟨d, rfl⟩ : ∃ e, d = e + 1 := ⟨d - 1, by omega⟩
  refine ⟨rfl, fun R hR hC => ?_⟩
  replace hR : ∀ c, am_F wb tb_f76 0 (am_Call wb d) K R c → R c := hR
  show R (0, [some (aR 0 0)], [], M)
  refine hR _ (hR _ (hR _ (hR _ (hR _ (hR _ (hR _ (hR _ (hR _ (?_)))))))))
  show R (15, [some (aR 0 0)], [], am_wr (am_wr (am_wr M 100 0 0 (-1)) 101 0 0 0) 102 0 0 1)
  refine hR _ (show K none (am_wr (am_wr (am_wr M 100 0 0 (-1)) 101 0 0 0) 102 0 0 1) from ?_)
  exact h

theorem sp_Hand_become {d : Nat} (hd : 1 ≤ d) {k : Nat} {a b c e : Int} {M : am_M} {K : am_K} (hk : k < 6) (h : K none (am_wr (am_wr (am_wr (am_wr M 140 k 0 a) 141 k 0 b) 142 k 0 c) 143 k 0 e)) : am_Call wb d 45 [aR 1 k, aI a, aI b, aI c, aI e] M K := by
  obtain ⟨d, rfl⟩ : ∃ e, d = e + 1 := ⟨d - 1, by omega⟩
  refine ⟨rfl, fun R hR hC => ?_⟩
  replace hR : ∀ c, am_F wb tb_f45 0 (am_Call wb d) K R c → R c := hR
  show R (0, [some (aR 1 k), some (aI a), some (aI b), some (aI c), some (aI e)], [], M)
  refine hR _ (hR _ (?_))
  show R (2, [some (aR 1 k), some (aI a), some (aI b), some (aI c), some (aI e)], [aI a, aR 1 k], M)
  refine hR _ (am_ct (am_vi (by omega : k < 6)) ?_)
  show R (5, [some (aR 1 k), some (aI a), some (aI b), some (aI c), some (aI e)], [], am_wr M 140 k 0 a)
  refine hR _ (hR _ (?_))
  show R (7, [some (aR 1 k), some (aI a), some (aI b), some (aI c), some (aI e)], [aI b, aR 1 k], am_wr M 140 k 0 a)
  refine hR _ (am_ct (am_vi (by omega : k < 6)) ?_)
  show R (10, [some (aR 1 k), some (aI a), some (aI b), some (aI c), some (aI e)], [], am_wr (am_wr M 140 k 0 a) 141 k 0 b)
  refine hR _ (hR _ (?_))
  show R (12, [some (aR 1 k), some (aI a), some (aI b), some (aI c), some (aI e)], [aI c, aR 1 k], am_wr (am_wr M 140 k 0 a) 141 k 0 b)
  refine hR _ (am_ct (am_vi (by omega : k < 6)) ?_)
  show R (15, [some (aR 1 k), some (aI a), some (aI b), some (aI c), some (aI e)], [], am_wr (am_wr (am_wr M 140 k 0 a) 141 k 0 b) 142 k 0 c)
  refine hR _ (hR _ (?_))
  show R (18, [some (aR 1 k), some (aI a), some (aI b), some (aI c), some (aI e)], [aI e, aR 1 k], am_wr (am_wr (am_wr M 140 k 0 a) 141 k 0 b) 142 k 0 c)
  refine hR _ (am_ct (am_vi (by omega : k < 6)) ?_)
  show R (21, [some (aR 1 k), some (aI a), some (aI b), some (aI c), some (aI e)], [], am_wr (am_wr (am_wr (am_wr M 140 k 0 a) 141 k 0 b) 142 k 0 c) 143 k 0 e)
  refine hR _ (show K none (am_wr (am_wr (am_wr (am_wr M 140 k 0 a) 141 k 0 b) 142 k 0 c) 143 k 0 e) from ?_)
  exact h

theorem sp_Hand_becomeLike {d : Nat} (hd : 2 ≤ d) {k : Nat} {M : am_M} {K : am_K} (hk : k < 6) (h : K none (am_wr (am_wr (am_wr (am_wr M 140 5 0 (M 140 k 0)) 141 5 0 (M 141 k 0)) 142 5 0 (M 142 k 0)) 143 5 0 (M 143 k 0))) : am_Call wb d 77 [aR 1 5, aR 1 k] M K := by
  obtain ⟨d, rfl⟩ : ∃ e, d = e + 1 := ⟨d - 1, by omega⟩
  refine ⟨rfl, fun R hR hC => ?_⟩
  replace hR : ∀ c, am_F wb tb_f77 0 (am_Call wb d) K R c → R c := hR
  show R (0, [some (aR 1 5), some (aR 1 k)], [], M)
  refine hR _ (hR _ (?_))
  show R (2, [some (aR 1 5), some (aR 1 k)], [aR 1 k, aR 1 5], M)
  refine hR _ (am_ct (am_vi (by omega : k < 6)) ?_)
  show R (5, [some (aR 1 5), some (aR 1 k)], [aI (M 140 k 0), aR 1 5], M)
  refine hR _ (?_)
  show R (6, [some (aR 1 5), some (aR 1 k)], [aR 1 k, aI (M 140 k 0), aR 1 5], M)
  refine hR _ (am_ct (am_vi (by omega : k < 6)) ?_)
  show R (9, [some (aR 1 5), some (aR 1 k)], [aI (M 141 k 0), aI (M 140 k 0), aR 1 5], M)
  refine hR _ (?_)
  show R (10, [some (aR 1 5), some (aR 1 k)], [aR 1 k, aI (M 141 k 0), aI (M 140 k 0), aR 1 5], M)
  refine hR _ (am_ct (am_vi (by omega : k < 6)) ?_)
  show R (13, [some (aR 1 5), some (aR 1 k)], [aI (M 142 k 0), aI (M 141 k 0), aI (M 140 k 0), aR 1 5], M)
  refine hR _ (?_)
  show R (14, [some (aR 1 5), some (aR 1 k)], [aR 1 k, aI (M 142 k 0), aI (M 141 k 0), aI (M 140 k 0), aR 1 5], M)
  refine hR _ (am_ct (am_vi (by omega : k < 6)) ?_)
  show R (17, [some (aR 1 5), some (aR 1 k)], [aI (M 143 k 0), aI (M 142 k 0), aI (M 141 k 0), aI (M 140 k 0), aR 1 5], M)
  refine hR _ (sp_Hand_become (by omega) (by omega) ?_)
  show R (20, [some (aR 1 5), some (aR 1 k)], [], am_wr (am_wr (am_wr (am_wr M 140 5 0 (M 140 k 0)) 141 5 0 (M 141 k 0)) 142 5 0 (M 142 k 0)) 143 5 0 (M 143 k 0))
  refine hR _ (show K none (am_wr (am_wr (am_wr (am_wr M 140 5 0 (M 140 k 0)) 141 5 0 (M 141 k 0)) 142 5 0 (M 142 k 0)) 143 5 0 (M 143 k 0)) from ?_)
  exact h

theorem sp_offer {d : Nat} (hd : 1 ≤ d) {v a b : Int} {M : am_M} {K : am_K} (hv : am_in (M 100 0 0)) (hx : -1000000000000000000 ≤ a * M 102 0 0 ∧ a * M 102 0 0 ≤ 1000000000000000000) (hy : -1000000000000000000 ≤ M 101 0 0 * b ∧ M 101 0 0 * b ≤ 1000000000000000000) (h : ∀ g : am_M, (g 100 0 0, g 101 0 0, g 102 0 0) = jf_bst (M 100 0 0, M 101 0 0, M 102 0 0) v a b → K none (am_mix [100, 101, 102] g M)) : am_Call wb d 79 [aR 0 0, aI v, aL a, aL b] M K := by
  obtain ⟨d, rfl⟩ : ∃ e, d = e + 1 := ⟨d - 1, by omega⟩
  refine ⟨rfl, fun R hR hC => ?_⟩
  replace hR : ∀ c, am_F wb tb_f79 0 (am_Call wb d) K R c → R c := hR
  show R (0, [some (aR 0 0), some (aI v), some (aL a), none, some (aL b), none], [], M)
  refine hR _ (hR _ (hR _ (hR _ (am_brc (rg := am_in (M 100 0 0) ∧ am_in (-1)) (P := M 100 0 0 = (-1)) (A := R (26, [some (aR 0 0), some (aI v), some (aL a), none, some (aL b), none], [], M)) (B := R (8, [some (aR 0 0), some (aI v), some (aL a), none, some (aL b), none], [], M)) (by omega) (fun c5 => ?_) (fun c5 => ?_)))))
  · refine hR _ (hR _ (hR _ (hR _ (hR _ (hR _ (hR _ (hR _ (hR _ (?_)))))))))
    show R (42, [some (aR 0 0), some (aI v), some (aL a), none, some (aL b), none], [], am_wr (am_wr (am_wr M 100 0 0 v) 101 0 0 a) 102 0 0 b)
    refine hR _ (show K none (am_wr (am_wr (am_wr M 100 0 0 v) 101 0 0 a) 102 0 0 b) from ?_)
    refine am_fin (S := [100, 101, 102]) (F := fun m => (m 100 0 0, m 101 0 0, m 102 0 0) = jf_bst (M 100 0 0, M 101 0 0, M 102 0 0) v a b) ((((am_ag.rf).wr rfl).wr rfl).wr rfl) ?_ h
    unfold jf_bst
    rw [if_pos (by dsimp only; omega)]
    rfl
  · refine hR _ (hR _ (hR _ (hR _ (hR _ (hR _ (hR _ (hR _ (?_))))))))
    show R (21, [some (aR 0 0), some (aI v), some (aL a), none, some (aL b), none], [aL (M 101 0 0 * b), aL (a * M 102 0 0)], M)
    refine am_lc (x := (a * M 102 0 0)) (y := (M 101 0 0 * b)) (P := (M 101 0 0 * b) < (a * M 102 0 0)) (A := R (26, [some (aR 0 0), some (aI v), some (aL a), none, some (aL b), none], [], M)) (B := R (25, [some (aR 0 0), some (aI v), some (aL a), none, some (aL b), none], [], M)) (by omega) (fun hA hB => hR _ ⟨(by omega), (fun hz => hR _ (am_brf (P := 0 < (-1 : Int)) (A := R (26, [some (aR 0 0), some (aI v), some (aL a), none, some (aL b), none], [], M)) (B := R (25, [some (aR 0 0), some (aI v), some (aL a), none, some (aL b), none], [], M)) (by omega) (by omega) (hB (by omega)))), (fun hz => hR _ (am_brf (P := 0 < (0 : Int)) (A := R (26, [some (aR 0 0), some (aI v), some (aL a), none, some (aL b), none], [], M)) (B := R (25, [some (aR 0 0), some (aI v), some (aL a), none, some (aL b), none], [], M)) (by omega) (by omega) (hB (by omega)))), (fun hz => hR _ (am_brt (P := 0 < (1 : Int)) (A := R (26, [some (aR 0 0), some (aI v), some (aL a), none, some (aL b), none], [], M)) (B := R (25, [some (aR 0 0), some (aI v), some (aL a), none, some (aL b), none], [], M)) (by omega) (by omega) (hA (by omega))))⟩) (fun c21 => ?_) (fun c21 => ?_)
    · refine hR _ (hR _ (hR _ (hR _ (hR _ (hR _ (hR _ (hR _ (hR _ (?_)))))))))
      show R (42, [some (aR 0 0), some (aI v), some (aL a), none, some (aL b), none], [], am_wr (am_wr (am_wr M 100 0 0 v) 101 0 0 a) 102 0 0 b)
      refine hR _ (show K none (am_wr (am_wr (am_wr M 100 0 0 v) 101 0 0 a) 102 0 0 b) from ?_)
      refine am_fin (S := [100, 101, 102]) (F := fun m => (m 100 0 0, m 101 0 0, m 102 0 0) = jf_bst (M 100 0 0, M 101 0 0, M 102 0 0) v a b) ((((am_ag.rf).wr rfl).wr rfl).wr rfl) ?_ h
      unfold jf_bst
      rw [if_pos (by dsimp only; omega)]
      rfl
    · refine hR _ (show K none M from ?_)
      refine am_fin (S := [100, 101, 102]) (F := fun m => (m 100 0 0, m 101 0 0, m 102 0 0) = jf_bst (M 100 0 0, M 101 0 0, M 102 0 0) v a b) am_ag.rf ?_ h
      unfold jf_bst
      rw [if_neg (by dsimp only; omega)]

theorem sp_State_becomeLike {d : Nat} (hd : 1 ≤ d) {i j : Nat} {M : am_M} {K : am_K} (hi : i < 2) (hj : j < 2) (hij : i ≠ j) (h : K none (am_wr (am_wr (am_wr (am_wr (am_wr (am_wr (am_wr (am_wr (am_wr M 220 i 0 (M 220 j 0)) 221 i 0 (M 221 j 0)) 222 i 0 (M 222 j 0)) 223 i 0 (M 223 j 0)) 224 i 0 (M 224 j 0)) 225 i 0 (M 225 j 0)) 226 i 0 (M 226 j 0)) 227 i 0 (M 227 j 0)) 228 i 0 (M 228 j 0))) : am_Call wb d 112 [aR 3 i, aR 3 j] M K := by
  obtain ⟨d, rfl⟩ : ∃ e, d = e + 1 := ⟨d - 1, by omega⟩
  refine ⟨rfl, fun R hR hC => ?_⟩
  replace hR : ∀ c, am_F wb tb_f112 0 (am_Call wb d) K R c → R c := hR
  show R (0, [some (aR 3 i), some (aR 3 j)], [], M)
  refine hR _ (hR _ (?_))
  show R (2, [some (aR 3 i), some (aR 3 j)], [aR 3 j, aR 3 i], M)
  refine hR _ (am_ct (am_vi (by omega : j < 2)) ?_)
  show R (5, [some (aR 3 i), some (aR 3 j)], [aI (M 220 j 0), aR 3 i], M)
  refine hR _ (am_ct (am_vi (by omega : i < 2)) ?_)
  show R (8, [some (aR 3 i), some (aR 3 j)], [], am_wr M 220 i 0 (M 220 j 0))
  refine hR _ (hR _ (?_))
  show R (10, [some (aR 3 i), some (aR 3 j)], [aR 3 j, aR 3 i], am_wr M 220 i 0 (M 220 j 0))
  refine hR _ (am_ct (am_vi (by omega : j < 2)) ?_)
  show R (13, [some (aR 3 i), some (aR 3 j)], [aI (M 221 j 0), aR 3 i], am_wr M 220 i 0 (M 220 j 0))
  refine hR _ (am_ct (am_vi (by omega : i < 2)) ?_)
  show R (16, [some (aR 3 i), some (aR 3 j)], [], am_wr (am_wr M 220 i 0 (M 220 j 0)) 221 i 0 (M 221 j 0))
  refine hR _ (hR _ (?_))
  show R (18, [some (aR 3 i), some (aR 3 j)], [aR 3 j, aR 3 i], am_wr (am_wr M 220 i 0 (M 220 j 0)) 221 i 0 (M 221 j 0))
  refine hR _ (am_ct (am_vi (by omega : j < 2)) ?_)
  show R (21, [some (aR 3 i), some (aR 3 j)], [aI (M 222 j 0), aR 3 i], am_wr (am_wr M 220 i 0 (M 220 j 0)) 221 i 0 (M 221 j 0))
  refine hR _ (am_ct (am_vi (by omega : i < 2)) ?_)
  show R (24, [some (aR 3 i), some (aR 3 j)], [], am_wr (am_wr (am_wr M 220 i 0 (M 220 j 0)) 221 i 0 (M 221 j 0)) 222 i 0 (M 222 j 0))
  refine hR _ (hR _ (?_))
  show R (26, [some (aR 3 i), some (aR 3 j)], [aR 3 j, aR 3 i], am_wr (am_wr (am_wr M 220 i 0 (M 220 j 0)) 221 i 0 (M 221 j 0)) 222 i 0 (M 222 j 0))
  refine hR _ (am_ct (am_vi (by omega : j < 2)) ?_)
  show R (29, [some (aR 3 i), some (aR 3 j)], [aI (M 223 j 0), aR 3 i], am_wr (am_wr (am_wr M 220 i 0 (M 220 j 0)) 221 i 0 (M 221 j 0)) 222 i 0 (M 222 j 0))
  refine hR _ (am_ct (am_vi (by omega : i < 2)) ?_)
  show R (32, [some (aR 3 i), some (aR 3 j)], [], am_wr (am_wr (am_wr (am_wr M 220 i 0 (M 220 j 0)) 221 i 0 (M 221 j 0)) 222 i 0 (M 222 j 0)) 223 i 0 (M 223 j 0))
  refine hR _ (hR _ (?_))
  show R (34, [some (aR 3 i), some (aR 3 j)], [aR 3 j, aR 3 i], am_wr (am_wr (am_wr (am_wr M 220 i 0 (M 220 j 0)) 221 i 0 (M 221 j 0)) 222 i 0 (M 222 j 0)) 223 i 0 (M 223 j 0))
  refine hR _ (am_ct (am_vi (by omega : j < 2)) ?_)
  show R (37, [some (aR 3 i), some (aR 3 j)], [aI (M 224 j 0), aR 3 i], am_wr (am_wr (am_wr (am_wr M 220 i 0 (M 220 j 0)) 221 i 0 (M 221 j 0)) 222 i 0 (M 222 j 0)) 223 i 0 (M 223 j 0))
  refine hR _ (am_ct (am_vi (by omega : i < 2)) ?_)
  show R (40, [some (aR 3 i), some (aR 3 j)], [], am_wr (am_wr (am_wr (am_wr (am_wr M 220 i 0 (M 220 j 0)) 221 i 0 (M 221 j 0)) 222 i 0 (M 222 j 0)) 223 i 0 (M 223 j 0)) 224 i 0 (M 224 j 0))
  refine hR _ (hR _ (?_))
  show R (42, [some (aR 3 i), some (aR 3 j)], [aR 3 j, aR 3 i], am_wr (am_wr (am_wr (am_wr (am_wr M 220 i 0 (M 220 j 0)) 221 i 0 (M 221 j 0)) 222 i 0 (M 222 j 0)) 223 i 0 (M 223 j 0)) 224 i 0 (M 224 j 0))
  refine hR _ (am_ct (am_vi (by omega : j < 2)) ?_)
  show R (45, [some (aR 3 i), some (aR 3 j)], [aI (M 225 j 0), aR 3 i], am_wr (am_wr (am_wr (am_wr (am_wr M 220 i 0 (M 220 j 0)) 221 i 0 (M 221 j 0)) 222 i 0 (M 222 j 0)) 223 i 0 (M 223 j 0)) 224 i 0 (M 224 j 0))
  refine hR _ (am_ct (am_vi (by omega : i < 2)) ?_)
  show R (48, [some (aR 3 i), some (aR 3 j)], [], am_wr (am_wr (am_wr (am_wr (am_wr (am_wr M 220 i 0 (M 220 j 0)) 221 i 0 (M 221 j 0)) 222 i 0 (M 222 j 0)) 223 i 0 (M 223 j 0)) 224 i 0 (M 224 j 0)) 225 i 0 (M 225 j 0))
  refine hR _ (hR _ (?_))
  show R (50, [some (aR 3 i), some (aR 3 j)], [aR 3 j, aR 3 i], am_wr (am_wr (am_wr (am_wr (am_wr (am_wr M 220 i 0 (M 220 j 0)) 221 i 0 (M 221 j 0)) 222 i 0 (M 222 j 0)) 223 i 0 (M 223 j 0)) 224 i 0 (M 224 j 0)) 225 i 0 (M 225 j 0))
  refine hR _ (am_ct (am_vi (by omega : j < 2)) ?_)
  show R (53, [some (aR 3 i), some (aR 3 j)], [aI (M 226 j 0), aR 3 i], am_wr (am_wr (am_wr (am_wr (am_wr (am_wr M 220 i 0 (M 220 j 0)) 221 i 0 (M 221 j 0)) 222 i 0 (M 222 j 0)) 223 i 0 (M 223 j 0)) 224 i 0 (M 224 j 0)) 225 i 0 (M 225 j 0))
  refine hR _ (am_ct (am_vi (by omega : i < 2)) ?_)
  show R (56, [some (aR 3 i), some (aR 3 j)], [], am_wr (am_wr (am_wr (am_wr (am_wr (am_wr (am_wr M 220 i 0 (M 220 j 0)) 221 i 0 (M 221 j 0)) 222 i 0 (M 222 j 0)) 223 i 0 (M 223 j 0)) 224 i 0 (M 224 j 0)) 225 i 0 (M 225 j 0)) 226 i 0 (M 226 j 0))
  refine hR _ (hR _ (?_))
  show R (58, [some (aR 3 i), some (aR 3 j)], [aR 3 j, aR 3 i], am_wr (am_wr (am_wr (am_wr (am_wr (am_wr (am_wr M 220 i 0 (M 220 j 0)) 221 i 0 (M 221 j 0)) 222 i 0 (M 222 j 0)) 223 i 0 (M 223 j 0)) 224 i 0 (M 224 j 0)) 225 i 0 (M 225 j 0)) 226 i 0 (M 226 j 0))
  refine hR _ (am_ct (am_vi (by omega : j < 2)) ?_)
  show R (61, [some (aR 3 i), some (aR 3 j)], [aI (M 227 j 0), aR 3 i], am_wr (am_wr (am_wr (am_wr (am_wr (am_wr (am_wr M 220 i 0 (M 220 j 0)) 221 i 0 (M 221 j 0)) 222 i 0 (M 222 j 0)) 223 i 0 (M 223 j 0)) 224 i 0 (M 224 j 0)) 225 i 0 (M 225 j 0)) 226 i 0 (M 226 j 0))
  refine hR _ (am_ct (am_vi (by omega : i < 2)) ?_)
  show R (64, [some (aR 3 i), some (aR 3 j)], [], am_wr (am_wr (am_wr (am_wr (am_wr (am_wr (am_wr (am_wr M 220 i 0 (M 220 j 0)) 221 i 0 (M 221 j 0)) 222 i 0 (M 222 j 0)) 223 i 0 (M 223 j 0)) 224 i 0 (M 224 j 0)) 225 i 0 (M 225 j 0)) 226 i 0 (M 226 j 0)) 227 i 0 (M 227 j 0))
  refine hR _ (hR _ (?_))
  show R (66, [some (aR 3 i), some (aR 3 j)], [aR 3 j, aR 3 i], am_wr (am_wr (am_wr (am_wr (am_wr (am_wr (am_wr (am_wr M 220 i 0 (M 220 j 0)) 221 i 0 (M 221 j 0)) 222 i 0 (M 222 j 0)) 223 i 0 (M 223 j 0)) 224 i 0 (M 224 j 0)) 225 i 0 (M 225 j 0)) 226 i 0 (M 226 j 0)) 227 i 0 (M 227 j 0))
  refine hR _ (am_ct (am_vi (by omega : j < 2)) ?_)
  show R (69, [some (aR 3 i), some (aR 3 j)], [aI (M 228 j 0), aR 3 i], am_wr (am_wr (am_wr (am_wr (am_wr (am_wr (am_wr (am_wr M 220 i 0 (M 220 j 0)) 221 i 0 (M 221 j 0)) 222 i 0 (M 222 j 0)) 223 i 0 (M 223 j 0)) 224 i 0 (M 224 j 0)) 225 i 0 (M 225 j 0)) 226 i 0 (M 226 j 0)) 227 i 0 (M 227 j 0))
  refine hR _ (am_ct (am_vi (by omega : i < 2)) ?_)
  show R (72, [some (aR 3 i), some (aR 3 j)], [], am_wr (am_wr (am_wr (am_wr (am_wr (am_wr (am_wr (am_wr (am_wr M 220 i 0 (M 220 j 0)) 221 i 0 (M 221 j 0)) 222 i 0 (M 222 j 0)) 223 i 0 (M 223 j 0)) 224 i 0 (M 224 j 0)) 225 i 0 (M 225 j 0)) 226 i 0 (M 226 j 0)) 227 i 0 (M 227 j 0)) 228 i 0 (M 228 j 0))
  refine hR _ (show K none (am_wr (am_wr (am_wr (am_wr (am_wr (am_wr (am_wr (am_wr (am_wr M 220 i 0 (M 220 j 0)) 221 i 0 (M 221 j 0)) 222 i 0 (M 222 j 0)) 223 i 0 (M 223 j 0)) 224 i 0 (M 224 j 0)) 225 i 0 (M 225 j 0)) 226 i 0 (M 226 j 0)) 227 i 0 (M 227 j 0)) 228 i 0 (M 228 j 0)) from ?_)
  exact h

theorem sp_Hand_keep {d : Nat} (hd : 1 ≤ d) {k : Nat} {M : am_M} {K : am_K} (hk : k < 6) (h : K none (am_wr (am_wr M 144 k 0 (M 142 k 0)) 145 k 0 (M 143 k 0))) : am_Call wb d 113 [aR 1 k] M K := by
  obtain ⟨d, rfl⟩ : ∃ e, d = e + 1 := ⟨d - 1, by omega⟩
  refine ⟨rfl, fun R hR hC => ?_⟩
  replace hR : ∀ c, am_F wb tb_f113 0 (am_Call wb d) K R c → R c := hR
  show R (0, [some (aR 1 k)], [], M)
  refine hR _ (hR _ (?_))
  show R (2, [some (aR 1 k)], [aR 1 k, aR 1 k], M)
  refine hR _ (am_ct (am_vi (by omega : k < 6)) ?_)
  show R (5, [some (aR 1 k)], [aI (M 142 k 0), aR 1 k], M)
  refine hR _ (am_ct (am_vi (by omega : k < 6)) ?_)
  show R (8, [some (aR 1 k)], [], am_wr M 144 k 0 (M 142 k 0))
  refine hR _ (hR _ (?_))
  show R (10, [some (aR 1 k)], [aR 1 k, aR 1 k], am_wr M 144 k 0 (M 142 k 0))
  refine hR _ (am_ct (am_vi (by omega : k < 6)) ?_)
  show R (13, [some (aR 1 k)], [aI (M 143 k 0), aR 1 k], am_wr M 144 k 0 (M 142 k 0))
  refine hR _ (am_ct (am_vi (by omega : k < 6)) ?_)
  show R (16, [some (aR 1 k)], [], am_wr (am_wr M 144 k 0 (M 142 k 0)) 145 k 0 (M 143 k 0))
  refine hR _ (show K none (am_wr (am_wr M 144 k 0 (M 142 k 0)) 145 k 0 (M 143 k 0)) from ?_)
  exact h

theorem sp_Hand_comeBack {d : Nat} (hd : 1 ≤ d) {k : Nat} {M : am_M} {K : am_K} (hk : k < 6) (h : K none (am_wr (am_wr M 142 k 0 (M 144 k 0)) 143 k 0 (M 145 k 0))) : am_Call wb d 115 [aR 1 k] M K := by
  obtain ⟨d, rfl⟩ : ∃ e, d = e + 1 := ⟨d - 1, by omega⟩
  refine ⟨rfl, fun R hR hC => ?_⟩
  replace hR : ∀ c, am_F wb tb_f115 0 (am_Call wb d) K R c → R c := hR
  show R (0, [some (aR 1 k)], [], M)
  refine hR _ (hR _ (?_))
  show R (2, [some (aR 1 k)], [aR 1 k, aR 1 k], M)
  refine hR _ (am_ct (am_vi (by omega : k < 6)) ?_)
  show R (5, [some (aR 1 k)], [aI (M 144 k 0), aR 1 k], M)
  refine hR _ (am_ct (am_vi (by omega : k < 6)) ?_)
  show R (8, [some (aR 1 k)], [], am_wr M 142 k 0 (M 144 k 0))
  refine hR _ (hR _ (?_))
  show R (10, [some (aR 1 k)], [aR 1 k, aR 1 k], am_wr M 142 k 0 (M 144 k 0))
  refine hR _ (am_ct (am_vi (by omega : k < 6)) ?_)
  show R (13, [some (aR 1 k)], [aI (M 145 k 0), aR 1 k], am_wr M 142 k 0 (M 144 k 0))
  refine hR _ (am_ct (am_vi (by omega : k < 6)) ?_)
  show R (16, [some (aR 1 k)], [], am_wr (am_wr M 142 k 0 (M 144 k 0)) 143 k 0 (M 145 k 0))
  refine hR _ (show K none (am_wr (am_wr M 142 k 0 (M 144 k 0)) 143 k 0 (M 145 k 0)) from ?_)
  exact h

theorem sp_handAt {d : Nat} (hd : 2 ≤ d) {h : Int} {M : am_M} {K : am_K} (hn : 0 ≤ M 227 0 0 ∧ M 227 0 0 ≤ 5) (hh : am_in h) (ht : ∀ k : Nat, h = (k : Int) → (k : Int) < M 227 0 0 → K (some (aR 1 k)) M) (hf : ¬ (0 ≤ h ∧ h < M 227 0 0) → K (some aN) M) : am_Call wb d 47 [aR 7 0, aI h] M K := by
  obtain ⟨d, rfl⟩ : ∃ e, d = e + 1 := ⟨d - 1, by omega⟩
  refine ⟨rfl, fun R hR hC => ?_⟩
  replace hR : ∀ c, am_F wb tb_f47 6 (am_Call wb d) K R c → R c := hR
  show R (0, [some (aR 7 0), some (aI h)], [], M)
  refine hR _ (hR _ (hR _ (hR _ (hR _ (hR _ (hR _ (?_)))))))
  show R (11, [some (aR 7 0), some (aI h)], [aI (M 227 0 0 - 1), aI 0, aI h], M)
  refine hR _ (sp_within (by omega) (by omega) (fun h11 => ?_) (fun h11 => ?_))
  · show R (14, [some (aR 7 0), some (aI h)], [aI 1], M)
    refine hR _ (am_brf (rg := am_in 1) (P := (1 : Int) = 0) (A := R (35, [some (aR 7 0), some (aI h)], [], M)) (B := R (17, [some (aR 7 0), some (aI h)], [], M)) (by omega) (by omega) ?_)
    show R (17, [some (aR 7 0), some (aI h)], [], M)
    refine hR _ (hR _ (hR _ (hR _ (hR _ (am_brc (rg := am_in h ∧ am_in 5) (P := 5 ≤ h) (A := R (35, [some (aR 7 0), some (aI h)], [], M)) (B := R (26, [some (aR 7 0), some (aI h)], [], M)) (by omega) (fun c23 => ?_) (fun c23 => ?_))))))
    · refine hR _ (?_)
      show R (36, [some (aR 7 0), some (aI h)], [aN], M)
      refine hR _ (show K (some (aN)) M from ?_)
      exact hf (by omega)
    · refine hR _ (hR _ (hR _ (?_)))
      show R (31, [some (aR 7 0), some (aI h)], [aI h, aR 9 0], M)
      refine hR _ ⟨(show 0 ≤ (h : Int) ∧ (h : Int) < 5 from (by omega)), ?_⟩
      show R (32, [some (aR 7 0), some (aI h)], [aR 1 ((h).toNat)], M)
      refine hR _ (?_)
      show R (36, [some (aR 7 0), some (aI h)], [aR 1 ((h).toNat)], M)
      refine hR _ (show K (some (aR 1 ((h).toNat))) M from ?_)
      exact ht h.toNat (by omega) (by omega)
  · show R (14, [some (aR 7 0), some (aI h)], [aI 0], M)
    refine hR _ (am_brt (rg := am_in 0) (P := (0 : Int) = 0) (A := R (35, [some (aR 7 0), some (aI h)], [], M)) (B := R (17, [some (aR 7 0), some (aI h)], [], M)) (by omega) (by omega) ?_)
    show R (35, [some (aR 7 0), some (aI h)], [], M)
    refine hR _ (?_)
    show R (36, [some (aR 7 0), some (aI h)], [aN], M)
    refine hR _ (show K (some (aN)) M from ?_)
    exact hf (by omega)

theorem sp_sheetAt {d : Nat} (hd : 2 ≤ d) {h : Int} {M : am_M} {K : am_K} (hh : am_in h) (ht : ∀ k : Nat, h = (k : Int) → k < 4 → K (some (aR 2 k)) M) (hf : ¬ (0 ≤ h ∧ h < 4) → K (some aN) M) : am_Call wb d 92 [aR 7 0, aI h] M K := by
  obtain ⟨d, rfl⟩ : ∃ e, d = e + 1 := ⟨d - 1, by omega⟩
  refine ⟨rfl, fun R hR hC => ?_⟩
  replace hR : ∀ c, am_F wb tb_f92 6 (am_Call wb d) K R c → R c := hR
  show R (0, [some (aR 7 0), some (aI h)], [], M)
  refine hR _ (hR _ (hR _ (hR _ (hR _ (hR _ (hR _ (?_)))))))
  show R (9, [some (aR 7 0), some (aI h)], [aI 3, aI 0, aI h], M)
  refine hR _ (sp_within (by omega) (by omega) (fun h9 => ?_) (fun h9 => ?_))
  · show R (12, [some (aR 7 0), some (aI h)], [aI 1], M)
    refine hR _ (am_brf (rg := am_in 1) (P := (1 : Int) = 0) (A := R (24, [some (aR 7 0), some (aI h)], [], M)) (B := R (15, [some (aR 7 0), some (aI h)], [], M)) (by omega) (by omega) ?_)
    show R (15, [some (aR 7 0), some (aI h)], [], M)
    refine hR _ (hR _ (hR _ (?_)))
    show R (20, [some (aR 7 0), some (aI h)], [aI h, aR 11 0], M)
    refine hR _ ⟨(show 0 ≤ (h : Int) ∧ (h : Int) < 4 from (by omega)), ?_⟩
    show R (21, [some (aR 7 0), some (aI h)], [aR 2 ((h).toNat)], M)
    refine hR _ (?_)
    show R (25, [some (aR 7 0), some (aI h)], [aR 2 ((h).toNat)], M)
    refine hR _ (show K (some (aR 2 ((h).toNat))) M from ?_)
    exact ht h.toNat (by omega) (by omega)
  · show R (12, [some (aR 7 0), some (aI h)], [aI 0], M)
    refine hR _ (am_brt (rg := am_in 0) (P := (0 : Int) = 0) (A := R (24, [some (aR 7 0), some (aI h)], [], M)) (B := R (15, [some (aR 7 0), some (aI h)], [], M)) (by omega) (by omega) ?_)
    show R (24, [some (aR 7 0), some (aI h)], [], M)
    refine hR _ (?_)
    show R (25, [some (aR 7 0), some (aI h)], [aN], M)
    refine hR _ (show K (some (aN)) M from ?_)
    exact hf (by omega)

theorem sp_lawText {d : Nat} (hd : 2 ≤ d)  {M : am_M} {K : am_K} (ht : 0 ≤ M 228 0 0 ∧ M 228 0 0 < 6) (h : K (some (aR 6 (M 228 0 0).toNat)) M) : am_Call wb d 37 [aR 7 0] M K := by
  obtain ⟨d, rfl⟩ : ∃ e, d = e + 1 := ⟨d - 1, by omega⟩
  refine ⟨rfl, fun R hR hC => ?_⟩
  replace hR : ∀ c, am_F wb tb_f37 6 (am_Call wb d) K R c → R c := hR
  show R (0, [some (aR 7 0)], [], M)
  refine hR _ (hR _ (hR _ (hR _ (hR _ (hR _ (hR _ (hR _ (hR _ (?_)))))))))
  show R (15, [some (aR 7 0)], [aI 5, aI 0, aI (M 228 0 0)], M)
  refine hR _ (sp_within (by omega) (by omega) (fun h15 => ?_) (fun h15 => ?_))
  · show R (18, [some (aR 7 0)], [aI 1], M)
    refine hR _ (am_brf (rg := am_in 1) (P := (1 : Int) = 0) (A := R (36, [some (aR 7 0)], [], M)) (B := R (21, [some (aR 7 0)], [], M)) (by omega) (by omega) ?_)
    show R (21, [some (aR 7 0)], [], M)
    refine hR _ (hR _ (hR _ (hR _ (hR _ (?_)))))
    show R (32, [some (aR 7 0)], [aI (M 228 0 0), aR 10 0], M)
    refine hR _ ⟨(show 0 ≤ (M 228 0 0 : Int) ∧ (M 228 0 0 : Int) < 6 from (by omega)), ?_⟩
    show R (33, [some (aR 7 0)], [aR 6 ((M 228 0 0).toNat)], M)
    refine hR _ (?_)
    show R (42, [some (aR 7 0)], [aR 6 ((M 228 0 0).toNat)], M)
    refine hR _ (show K (some (aR 6 ((M 228 0 0).toNat))) M from ?_)
    exact h
  · show R (18, [some (aR 7 0)], [aI 0], M)
    refine hR _ (am_brt (rg := am_in 0) (P := (0 : Int) = 0) (A := R (36, [some (aR 7 0)], [], M)) (B := R (21, [some (aR 7 0)], [], M)) (by omega) (by omega) ?_)
    show R (36, [some (aR 7 0)], [], M)
    refine hR _ (hR _ (hR _ (?_)))
    show R (41, [some (aR 7 0)], [aI 0, aR 10 0], M)
    refine hR _ ⟨(show 0 ≤ (0 : Int) ∧ (0 : Int) < 6 from (by omega)), ?_⟩
    show R (42, [some (aR 7 0)], [aR 6 0], M)
    refine hR _ (show K (some (aR 6 0)) M from ?_)
    exact absurd ht (by omega)
