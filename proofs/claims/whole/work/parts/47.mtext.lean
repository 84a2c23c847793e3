/-! wb -/
/-! THE REFERENCE: texts -/
def mo_tk3 (cd st : Nat → Int) (t p : Nat) : List Int := (List.range' (st (4 * t + p)).toNat ((st (4 * t + p + 1)).toNat - (st (4 * t + p)).toNat)).map fun k => cd (200 * t + k)
abbrev mo_tk (M : am_M) (t p : Nat) : List Int := mo_tk3 (M 28 0) (M 29 0) t p
def jf_cg (c : Int) : Prop := (0 ≤ c ∧ c ≤ 5) ∨ (11 ≤ c ∧ c ≤ 19) ∨ (100000 ≤ c ∧ c ≤ 109999)
def mo_wt3 (cd st : Nat → Int) (t : Nat) : Prop := (∀ p, p < 3 → (0 ≤ st (4 * t + p) ∧ st (4 * t + p) ≤ st (4 * t + p + 1) ∧ st (4 * t + p + 1) ≤ st (4 * t + 3)) ∧ jf_wf (mo_tk3 cd st t p) 0) ∧ st (4 * t + 3) ≤ 160 ∧ ∀ k : Nat, (k : Int) < st (4 * t + 3) → jf_cg (cd (200 * t + k))
abbrev mo_wt (M : am_M) (t : Nat) : Prop := mo_wt3 (M 28 0) (M 29 0) t
/-- the stack in memory -/
def mo_stk (m : am_M) (l : List Int) : Prop := (∀ j, j < l.length → m 37 0 j = l.getD (l.length - 1 - j) 0) ∧ ∀ x ∈ l, am_in x
theorem mo_stk.put {m : am_M} {r : List Int} {v : Int} (h : mo_stk m r) (hv : am_in v) : mo_stk (am_wr m 37 0 r.length v) (v :: r) := by
  refine ⟨fun j hj => ?_, fun x hx => ?_⟩
  · by_cases hjl : j = r.length
    · subst hjl
      rw [am_wr_eq]
      simp
    · simp only [List.length_cons] at hj
      rw [am_wr_ne (Or.inr (Or.inr hjl)), h.1 j (by omega)]
      rw [show (v :: r).length - 1 - j = (r.length - 1 - j) + 1 by simp; omega]
      simp
  · rcases List.mem_cons.mp hx with rfl | hx
    · exact hv
    · exact h.2 x hx
theorem mo_stk.tail {m : am_M} {r : List Int} {x : Int} (h : mo_stk m (x :: r)) : mo_stk m r := by
  refine ⟨fun j hj => ?_, fun y hy => h.2 y (List.mem_cons_of_mem _ hy)⟩
  rw [h.1 j (by simp; omega)]
  rw [show (x :: r).length - 1 - j = (r.length - 1 - j) + 1 by simp; omega]
  simp
theorem mo_stk.top {m : am_M} {r : List Int} {x : Int} (h : mo_stk m (x :: r)) : m 37 0 r.length = x ∧ am_in x := by
  refine ⟨?_, h.2 x List.mem_cons_self⟩
  rw [h.1 r.length (by simp)]
  simp

theorem sm_two {d : Nat} (hd : 1 ≤ d) {c x y : Int} {M : am_M} {K : am_K} (hc : 11 ≤ c ∧ c ≤ 18 ∧ c ≠ 13) (hx : am_in x) (hy : am_in y) (h : K (some (aI (jf_two c x y))) M) : am_Call true d 143 [aI c, aI x, aI y] M K := by
  obtain ⟨d, rfl⟩ : ∃ e, d = e + 1 := ⟨d - 1, by omega⟩
  refine ⟨rfl, fun R hR hC => ?_⟩
  replace hR : ∀ c, am_F true tb_f143 1 (am_Call true d) K R c → R c := hR
  show R (0, [some (aI c), some (aI x), some (aI y)], [], M)
  refine hR _ (?_)
  show R (1, [some (aI c), some (aI x), some (aI y)], [aI c], M)
  refine hR _ ⟨(by omega), ⟨fun c1 => ?_, fun c1 => ?_, fun c1 => ?_, fun c1 => ?_, fun c1 => ?_, fun c1 => ?_, fun c1 => ?_, trivial⟩, fun c1 => ?_⟩
  · show R (44, [some (aI c), some (aI x), some (aI y)], [], M)
    refine hR _ (hR _ (am_brc (rg := am_in x) (P := x ≠ 0) (A := R (52, [some (aI c), some (aI x), some (aI y)], [], M)) (B := R (48, [some (aI c), some (aI x), some (aI y)], [], M)) (by omega) (fun c45 => ?_) (fun c45 => ?_)))
    · refine hR _ (hR _ (?_))
      show R (57, [some (aI c), some (aI x), some (aI y)], [aI 1], M)
      refine hR _ (show K (some (aI 1)) M from ?_)
      refine am_kr (show K (some (aI (jf_two c x y))) M from h) ?_
      unfold jf_two
      repeat' split
      all_goals first | omega | rfl | (exfalso; omega)
    · refine hR _ (hR _ (am_brc (rg := am_in y) (P := y = 0) (A := R (56, [some (aI c), some (aI x), some (aI y)], [], M)) (B := R (52, [some (aI c), some (aI x), some (aI y)], [], M)) (by omega) (fun c49 => ?_) (fun c49 => ?_)))
      · refine hR _ (?_)
        show R (57, [some (aI c), some (aI x), some (aI y)], [aI 0], M)
        refine hR _ (show K (some (aI 0)) M from ?_)
        refine am_kr (show K (some (aI (jf_two c x y))) M from h) ?_
        unfold jf_two
        repeat' split
        all_goals first | omega | rfl | (exfalso; omega)
      · refine hR _ (hR _ (?_))
        show R (57, [some (aI c), some (aI x), some (aI y)], [aI 1], M)
        refine hR _ (show K (some (aI 1)) M from ?_)
        refine am_kr (show K (some (aI (jf_two c x y))) M from h) ?_
        unfold jf_two
        repeat' split
        all_goals first | omega | rfl | (exfalso; omega)
  · show R (58, [some (aI c), some (aI x), some (aI y)], [], M)
    refine hR _ (hR _ (am_brc (rg := am_in x) (P := x = 0) (A := R (70, [some (aI c), some (aI x), some (aI y)], [], M)) (B := R (62, [some (aI c), some (aI x), some (aI y)], [], M)) (by omega) (fun c59 => ?_) (fun c59 => ?_)))
    · refine hR _ (?_)
      show R (71, [some (aI c), some (aI x), some (aI y)], [aI 0], M)
      refine hR _ (show K (some (aI 0)) M from ?_)
      refine am_kr (show K (some (aI (jf_two c x y))) M from h) ?_
      unfold jf_two
      repeat' split
      all_goals first | omega | rfl | (exfalso; omega)
    · refine hR _ (hR _ (am_brc (rg := am_in y) (P := y = 0) (A := R (70, [some (aI c), some (aI x), some (aI y)], [], M)) (B := R (66, [some (aI c), some (aI x), some (aI y)], [], M)) (by omega) (fun c63 => ?_) (fun c63 => ?_)))
      · refine hR _ (?_)
        show R (71, [some (aI c), some (aI x), some (aI y)], [aI 0], M)
        refine hR _ (show K (some (aI 0)) M from ?_)
        refine am_kr (show K (some (aI (jf_two c x y))) M from h) ?_
        unfold jf_two
        repeat' split
        all_goals first | omega | rfl | (exfalso; omega)
      · refine hR _ (hR _ (?_))
        show R (71, [some (aI c), some (aI x), some (aI y)], [aI 1], M)
        refine hR _ (show K (some (aI 1)) M from ?_)
        refine am_kr (show K (some (aI (jf_two c x y))) M from h) ?_
        unfold jf_two
        repeat' split
        all_goals first | omega | rfl | (exfalso; omega)
  · show R (102, [some (aI c), some (aI x), some (aI y)], [], M)
    refine hR _ (hR _ (hR _ (?_)))
    show R (105, [some (aI c), some (aI x), some (aI y)], [aI (x * y)], M)
    refine hC _ _ _ (am_bm (x * y)) _ _ (i3_bm _).symm ?_
    show R (105, [some (aI c), some (aI x), some (aI y)], [aI (am_bm (x * y))], M)
    refine hR _ (show K (some (aI (am_bm (x * y)))) M from ?_)
    refine am_kr (show K (some (aI (jf_two c x y))) M from h) ?_
    unfold jf_two
    repeat' split
    all_goals first | omega | rfl | (exfalso; omega)
  · show R (72, [some (aI c), some (aI x), some (aI y)], [], M)
    refine hR _ (hR _ (hR _ (am_brc (rg := am_in x ∧ am_in y) (P := y ≤ x) (A := R (81, [some (aI c), some (aI x), some (aI y)], [], M)) (B := R (77, [some (aI c), some (aI x), some (aI y)], [], M)) (by omega) (fun c74 => ?_) (fun c74 => ?_))))
    · refine hR _ (?_)
      show R (82, [some (aI c), some (aI x), some (aI y)], [aI 0], M)
      refine hR _ (show K (some (aI 0)) M from ?_)
      refine am_kr (show K (some (aI (jf_two c x y))) M from h) ?_
      unfold jf_two
      repeat' split
      all_goals first | omega | rfl | (exfalso; omega)
    · refine hR _ (hR _ (?_))
      show R (82, [some (aI c), some (aI x), some (aI y)], [aI 1], M)
      refine hR _ (show K (some (aI 1)) M from ?_)
      refine am_kr (show K (some (aI (jf_two c x y))) M from h) ?_
      unfold jf_two
      repeat' split
      all_goals first | omega | rfl | (exfalso; omega)
  · show R (83, [some (aI c), some (aI x), some (aI y)], [], M)
    refine hR _ (hR _ (hR _ (am_brc (rg := am_in x ∧ am_in y) (P := x ≠ y) (A := R (92, [some (aI c), some (aI x), some (aI y)], [], M)) (B := R (88, [some (aI c), some (aI x), some (aI y)], [], M)) (by omega) (fun c85 => ?_) (fun c85 => ?_))))
    · refine hR _ (?_)
      show R (93, [some (aI c), some (aI x), some (aI y)], [aI 0], M)
      refine hR _ (show K (some (aI 0)) M from ?_)
      refine am_kr (show K (some (aI (jf_two c x y))) M from h) ?_
      unfold jf_two
      repeat' split
      all_goals first | omega | rfl | (exfalso; omega)
    · refine hR _ (hR _ (?_))
      show R (93, [some (aI c), some (aI x), some (aI y)], [aI 1], M)
      refine hR _ (show K (some (aI 1)) M from ?_)
      refine am_kr (show K (some (aI (jf_two c x y))) M from h) ?_
      unfold jf_two
      repeat' split
      all_goals first | omega | rfl | (exfalso; omega)
  · show R (94, [some (aI c), some (aI x), some (aI y)], [], M)
    refine hR _ (hR _ (hR _ (?_)))
    show R (97, [some (aI c), some (aI x), some (aI y)], [aI (x + y)], M)
    refine hC _ _ _ (am_bm (x + y)) _ _ (i3_bm _).symm ?_
    show R (97, [some (aI c), some (aI x), some (aI y)], [aI (am_bm (x + y))], M)
    refine hR _ (show K (some (aI (am_bm (x + y)))) M from ?_)
    refine am_kr (show K (some (aI (jf_two c x y))) M from h) ?_
    unfold jf_two
    repeat' split
    all_goals first | omega | rfl | (exfalso; omega)
  · show R (98, [some (aI c), some (aI x), some (aI y)], [], M)
    refine hR _ (hR _ (hR _ (?_)))
    show R (101, [some (aI c), some (aI x), some (aI y)], [aI (x - y)], M)
    refine hC _ _ _ (am_bm (x - y)) _ _ (i3_bm _).symm ?_
    show R (101, [some (aI c), some (aI x), some (aI y)], [aI (am_bm (x - y))], M)
    refine hR _ (show K (some (aI (am_bm (x - y)))) M from ?_)
    refine am_kr (show K (some (aI (jf_two c x y))) M from h) ?_
    unfold jf_two
    repeat' split
    all_goals first | omega | rfl | (exfalso; omega)
  · show R (102, [some (aI c), some (aI x), some (aI y)], [], M)
    refine hR _ (hR _ (hR _ (?_)))
    show R (105, [some (aI c), some (aI x), some (aI y)], [aI (x * y)], M)
    refine hC _ _ _ (am_bm (x * y)) _ _ (i3_bm _).symm ?_
    show R (105, [some (aI c), some (aI x), some (aI y)], [aI (am_bm (x * y))], M)
    refine hR _ (show K (some (aI (am_bm (x * y)))) M from ?_)
    refine am_kr (show K (some (aI (jf_two c x y))) M from h) ?_
    unfold jf_two
    repeat' split
    all_goals first | omega | rfl | (exfalso; omega)

theorem sm_within {d : Nat} (hd : 1 ≤ d) {v a b : Int} {M : am_M} {K : am_K} (hr : am_in v ∧ am_in a ∧ am_in b) (hab : a ≤ b) (h : K (some (aI (max a (min b v)))) M) : am_Call true d 144 [aI v, aI a, aI b] M K := by
  obtain ⟨d, rfl⟩ : ∃ e, d = e + 1 := ⟨d - 1, by omega⟩
  refine ⟨rfl, fun R hR hC => ?_⟩
  replace hR : ∀ c, am_F true tb_f144 1 (am_Call true d) K R c → R c := hR
  show R (0, [some (aI v), some (aI a), some (aI b)], [], M)
  refine hR _ (hR _ (hR _ (am_brc (rg := am_in v ∧ am_in a) (P := a ≤ v) (A := R (9, [some (aI v), some (aI a), some (aI b)], [], M)) (B := R (5, [some (aI v), some (aI a), some (aI b)], [], M)) (by omega) (fun c2 => ?_) (fun c2 => ?_))))
  · refine hR _ (hR _ (hR _ (am_brc (rg := am_in v ∧ am_in b) (P := v ≤ b) (A := R (18, [some (aI v), some (aI a), some (aI b)], [], M)) (B := R (14, [some (aI v), some (aI a), some (aI b)], [], M)) (by omega) (fun c11 => ?_) (fun c11 => ?_))))
    · refine hR _ (?_)
      show R (19, [some (aI v), some (aI a), some (aI b)], [aI v], M)
      refine hR _ (show K (some (aI v)) M from ?_)
      exact am_kr h (by omega)
    · refine hR _ (hR _ (?_))
      show R (19, [some (aI v), some (aI a), some (aI b)], [aI b], M)
      refine hR _ (show K (some (aI b)) M from ?_)
      exact am_kr h (by omega)
  · refine hR _ (hR _ (?_))
    show R (19, [some (aI v), some (aI a), some (aI b)], [aI a], M)
    refine hR _ (show K (some (aI a)) M from ?_)
    exact am_kr h (by omega)

set_option maxHeartbeats 1000000 in
theorem sm_says {d : Nat} (hd : 2 ≤ d) {r p : Nat} {nm : Nat → Int} {M : am_M} {K : am_K} (hr : M 431 0 0 = (r : Int)) (hr6 : r < 6) (hwt : mo_wt M r) (hp : p < 3) (hnm : ∀ j : Nat, j < 6 → M 38 0 j = nm j ∧ am_in (nm j)) (h : ∀ g, am_in (jf_val nm (mo_tk M r p)) → K (some (aI (jf_val nm (mo_tk M r p)))) (am_mix [37] g M)) : am_Call true d 142 [aR 8 0, aI ((p : Nat) : Int)] M K := by
  obtain ⟨d, rfl⟩ : ∃ e, d = e + 1 := ⟨d - 1, by omega⟩
  refine ⟨rfl, fun R hR hC => ?_⟩
  replace hR : ∀ c, am_F true tb_f142 1 (am_Call true d) K R c → R c := hR
  show R (0, [some (aR 8 0), some (aI ((p : Nat) : Int)), none, none, none], [], M)
  obtain ⟨hps, hz, hcg⟩ := hwt
  have hp3 := hps p hp
  have hs1 := hp3.1
  have hwf := hp3.2
  have key : ∀ (k i : Nat) (l : List Int) (g : am_M) (n x : Int) (o4 : Option am_V), n = (l.length : Int) → x = (i : Int) → k = (M 29 0 (4 * r + p + 1)).toNat - i → i ≤ (M 29 0 (4 * r + p + 1)).toNat → l.length ≤ i → mo_stk (am_mix [37] g M) l → jf_wf ((List.range' i k).map fun k => M 28 0 (200 * r + k)) l.length → jf_ev nm ((List.range' i k).map fun k => M 28 0 (200 * r + k)) l = jf_ev nm (mo_tk M r p) [] → R (16, [some (aR 8 0), some (aI ((p : Nat) : Int)), some (aI n), some (aI x), o4], [], am_mix [37] g M) := by
    intro k
    induction k with
    | zero =>
      intro i l g n x o4 hn hx hk hi hli hst hwf1 hev
      subst hn hx
      obtain ⟨y, rfl⟩ : ∃ y, l = [y] := List.length_eq_one_iff.mp hwf1
      have hy : jf_val nm (mo_tk M r p) = y := by unfold jf_val; rw [← hev]; rfl
      have htop := hst.top
      refine hR _ (hR _ (hR _ (hR _ (hR _ (hR _ (?_))))))
      show R (26, [some (aR 8 0), some (aI ((p : Nat) : Int)), some (aI ((([y] : List Int).length : Nat) : Int)), some (aI ((i : Nat) : Int)), o4], [aI (M 431 0 0), aI 4, aR 29 0, aI ((i : Nat) : Int)], am_mix [37] g M)
      rw [hr]
      show R (26, [some (aR 8 0), some (aI ((p : Nat) : Int)), some (aI ((([y] : List Int).length : Nat) : Int)), some (aI ((i : Nat) : Int)), o4], [aI ((r : Nat) : Int), aI 4, aR 29 0, aI ((i : Nat) : Int)], am_mix [37] g M)
      refine hR _ (hR _ (hR _ (hR _ (hR _ (?_)))))
      show R (31, [some (aR 8 0), some (aI ((p : Nat) : Int)), some (aI ((([y] : List Int).length : Nat) : Int)), some (aI ((i : Nat) : Int)), o4], [aI (((4 * ((r : Nat) : Int)) + ((p : Nat) : Int)) + 1), aR 29 0, aI ((i : Nat) : Int)], am_mix [37] g M)
      refine hR _ ⟨(show 0 ≤ ((((4 * ((r : Nat) : Int)) + ((p : Nat) : Int)) + 1) : Int) ∧ ((((4 * ((r : Nat) : Int)) + ((p : Nat) : Int)) + 1) : Int) < 24 from (by omega)), ?_⟩
      show R (32, [some (aR 8 0), some (aI ((p : Nat) : Int)), some (aI ((([y] : List Int).length : Nat) : Int)), some (aI ((i : Nat) : Int)), o4], [aI (M 29 0 (((((4 * ((r : Nat) : Int)) + ((p : Nat) : Int)) + 1)).toNat)), aI ((i : Nat) : Int)], am_mix [37] g M)
      rw [(show M 29 0 (((((4 * ((r : Nat) : Int)) + ((p : Nat) : Int)) + 1)).toNat) = M 29 0 (4 * r + p + 1) by rw [show ((((4 * ((r : Nat) : Int)) + ((p : Nat) : Int)) + 1)).toNat = (4 * r + p + 1) by omega])]
      show R (32, [some (aR 8 0), some (aI ((p : Nat) : Int)), some (aI ((([y] : List Int).length : Nat) : Int)), some (aI ((i : Nat) : Int)), o4], [aI (M 29 0 (4 * r + p + 1)), aI ((i : Nat) : Int)], am_mix [37] g M)
      refine hR _ (am_brt (rg := am_in ((i : Nat) : Int) ∧ am_in (M 29 0 (4 * r + p + 1))) (P := (M 29 0 (4 * r + p + 1)) ≤ ((i : Nat) : Int)) (A := R (197, [some (aR 8 0), some (aI ((p : Nat) : Int)), some (aI ((([y] : List Int).length : Nat) : Int)), some (aI ((i : Nat) : Int)), o4], [], am_mix [37] g M)) (B := R (35, [some (aR 8 0), some (aI ((p : Nat) : Int)), some (aI ((([y] : List Int).length : Nat) : Int)), some (aI ((i : Nat) : Int)), o4], [], am_mix [37] g M)) (by omega) (by omega) ?_)
      show R (197, [some (aR 8 0), some (aI ((p : Nat) : Int)), some (aI ((([y] : List Int).length : Nat) : Int)), some (aI ((i : Nat) : Int)), o4], [], am_mix [37] g M)
      refine hR _ (hR _ (hR _ (?_)))
      show R (202, [some (aR 8 0), some (aI ((p : Nat) : Int)), some (aI ((([y] : List Int).length : Nat) : Int)), some (aI ((i : Nat) : Int)), o4], [aI 0, aR 37 0], am_mix [37] g M)
      refine hR _ ⟨(show 0 ≤ (0 : Int) ∧ (0 : Int) < 200 from (by omega)), ?_⟩
      show R (203, [some (aR 8 0), some (aI ((p : Nat) : Int)), some (aI ((([y] : List Int).length : Nat) : Int)), some (aI ((i : Nat) : Int)), o4], [aI (g 37 0 0)], am_mix [37] g M)
      refine hR _ (show K (some (aI (g 37 0 0))) (am_mix [37] g M) from ?_)
      rw [show g 37 0 0 = y from htop.1]
      have hyin : am_in y := htop.2
      rw [← hy] at hyin ⊢
      exact h g hyin
    | succ k ih =>
      intro i l g n x o4 hn hx hk hi hli hst hwf1 hev
      subst hn hx
      rw [List.range'_succ, List.map_cons] at hwf1 hev
      obtain ⟨c, hc⟩ : ∃ c, c = M 28 0 (200 * r + i) := ⟨_, rfl⟩
      rw [← hc] at hwf1 hev
      have hcr : jf_cg c := by rw [hc]; exact hcg i (by omega)
      unfold jf_cg at hcr
      have har := hwf1.1
      have hlen := jf_stp_len (nm := nm) har
      refine hR _ (hR _ (hR _ (hR _ (hR _ (hR _ (?_))))))
      show R (26, [some (aR 8 0), some (aI ((p : Nat) : Int)), some (aI ((l.length : Nat) : Int)), some (aI ((i : Nat) : Int)), o4], [aI (M 431 0 0), aI 4, aR 29 0, aI ((i : Nat) : Int)], am_mix [37] g M)
      rw [hr]
      show R (26, [some (aR 8 0), some (aI ((p : Nat) : Int)), some (aI ((l.length : Nat) : Int)), some (aI ((i : Nat) : Int)), o4], [aI ((r : Nat) : Int), aI 4, aR 29 0, aI ((i : Nat) : Int)], am_mix [37] g M)
      refine hR _ (hR _ (hR _ (hR _ (hR _ (?_)))))
      show R (31, [some (aR 8 0), some (aI ((p : Nat) : Int)), some (aI ((l.length : Nat) : Int)), some (aI ((i : Nat) : Int)), o4], [aI (((4 * ((r : Nat) : Int)) + ((p : Nat) : Int)) + 1), aR 29 0, aI ((i : Nat) : Int)], am_mix [37] g M)
      refine hR _ ⟨(show 0 ≤ ((((4 * ((r : Nat) : Int)) + ((p : Nat) : Int)) + 1) : Int) ∧ ((((4 * ((r : Nat) : Int)) + ((p : Nat) : Int)) + 1) : Int) < 24 from (by omega)), ?_⟩
      show R (32, [some (aR 8 0), some (aI ((p : Nat) : Int)), some (aI ((l.length : Nat) : Int)), some (aI ((i : Nat) : Int)), o4], [aI (M 29 0 (((((4 * ((r : Nat) : Int)) + ((p : Nat) : Int)) + 1)).toNat)), aI ((i : Nat) : Int)], am_mix [37] g M)
      rw [(show M 29 0 (((((4 * ((r : Nat) : Int)) + ((p : Nat) : Int)) + 1)).toNat) = M 29 0 (4 * r + p + 1) by rw [show ((((4 * ((r : Nat) : Int)) + ((p : Nat) : Int)) + 1)).toNat = (4 * r + p + 1) by omega])]
      show R (32, [some (aR 8 0), some (aI ((p : Nat) : Int)), some (aI ((l.length : Nat) : Int)), some (aI ((i : Nat) : Int)), o4], [aI (M 29 0 (4 * r + p + 1)), aI ((i : Nat) : Int)], am_mix [37] g M)
      refine hR _ (am_brf (rg := am_in ((i : Nat) : Int) ∧ am_in (M 29 0 (4 * r + p + 1))) (P := (M 29 0 (4 * r + p + 1)) ≤ ((i : Nat) : Int)) (A := R (197, [some (aR 8 0), some (aI ((p : Nat) : Int)), some (aI ((l.length : Nat) : Int)), some (aI ((i : Nat) : Int)), o4], [], am_mix [37] g M)) (B := R (35, [some (aR 8 0), some (aI ((p : Nat) : Int)), some (aI ((l.length : Nat) : Int)), some (aI ((i : Nat) : Int)), o4], [], am_mix [37] g M)) (by omega) (by omega) ?_)
      show R (35, [some (aR 8 0), some (aI ((p : Nat) : Int)), some (aI ((l.length : Nat) : Int)), some (aI ((i : Nat) : Int)), o4], [], am_mix [37] g M)
      refine hR _ (hR _ (hR _ (hR _ (hR _ (?_)))))
      show R (46, [some (aR 8 0), some (aI ((p : Nat) : Int)), some (aI ((l.length : Nat) : Int)), some (aI ((i : Nat) : Int)), o4], [aI (M 431 0 0), aI 200, aR 28 0], am_mix [37] g M)
      rw [hr]
      show R (46, [some (aR 8 0), some (aI ((p : Nat) : Int)), some (aI ((l.length : Nat) : Int)), some (aI ((i : Nat) : Int)), o4], [aI ((r : Nat) : Int), aI 200, aR 28 0], am_mix [37] g M)
      refine hR _ (hR _ (hR _ (?_)))
      show R (49, [some (aR 8 0), some (aI ((p : Nat) : Int)), some (aI ((l.length : Nat) : Int)), some (aI ((i : Nat) : Int)), o4], [aI ((200 * ((r : Nat) : Int)) + ((i : Nat) : Int)), aR 28 0], am_mix [37] g M)
      refine hR _ ⟨(show 0 ≤ (((200 * ((r : Nat) : Int)) + ((i : Nat) : Int)) : Int) ∧ (((200 * ((r : Nat) : Int)) + ((i : Nat) : Int)) : Int) < 1200 from (by omega)), ?_⟩
      show R (50, [some (aR 8 0), some (aI ((p : Nat) : Int)), some (aI ((l.length : Nat) : Int)), some (aI ((i : Nat) : Int)), o4], [aI (M 28 0 ((((200 * ((r : Nat) : Int)) + ((i : Nat) : Int))).toNat))], am_mix [37] g M)
      rw [(show M 28 0 ((((200 * ((r : Nat) : Int)) + ((i : Nat) : Int))).toNat) = c by rw [show (((200 * ((r : Nat) : Int)) + ((i : Nat) : Int))).toNat = 200 * r + i by omega]; exact hc.symm)]
      show R (50, [some (aR 8 0), some (aI ((p : Nat) : Int)), some (aI ((l.length : Nat) : Int)), some (aI ((i : Nat) : Int)), o4], [aI c], am_mix [37] g M)
      refine hR _ (hR _ (hR _ (hR _ (am_brc (rg := am_in c ∧ am_in 100000) (P := 100000 ≤ c) (A := R (66, [some (aR 8 0), some (aI ((p : Nat) : Int)), some (aI ((l.length : Nat) : Int)), some (aI ((i : Nat) : Int)), some (aI c)], [], am_mix [37] g M)) (B := R (59, [some (aR 8 0), some (aI ((p : Nat) : Int)), some (aI ((l.length : Nat) : Int)), some (aI ((i : Nat) : Int)), some (aI c)], [], am_mix [37] g M)) (by omega) (fun c56 => ?_) (fun c56 => ?_)))))
      · have hac : jf_ar c = 0 := by unfold jf_ar; (repeat' split) <;> omega
        have hlen2 := hlen
        rw [hac] at hlen2
        have hlen3 : (jf_stp nm c l).length = l.length + 1 := by
          rw [hlen2]
          first | omega | (simp only [List.length_cons]; omega)
        have hli2 := hli
        show R (66, [some (aR 8 0), some (aI ((p : Nat) : Int)), some (aI ((l.length : Nat) : Int)), some (aI ((i : Nat) : Int)), some (aI c)], [], am_mix [37] g M)
        refine hR _ (hR _ (hR _ (hR _ (hR _ (hR _ (am_brc (rg := am_in c ∧ am_in 11) (P := 11 ≤ c) (A := R (88, [some (aR 8 0), some (aI ((p : Nat) : Int)), some (aI ((l.length : Nat) : Int)), some (aI ((i : Nat) : Int)), some (aI c)], [aI ((l.length : Nat) : Int), aR 37 0], am_mix [37] g M)) (B := R (78, [some (aR 8 0), some (aI ((p : Nat) : Int)), some (aI ((l.length : Nat) : Int)), some (aI ((i : Nat) : Int)), some (aI c)], [aI ((l.length : Nat) : Int), aR 37 0], am_mix [37] g M)) (by omega) (fun c75 => ?_) (fun c75 => ?_)))))))
        · refine hR _ (hR _ (hR _ (?_)))
          show R (93, [some (aR 8 0), some (aI ((p : Nat) : Int)), some (aI ((l.length : Nat) : Int)), some (aI ((i : Nat) : Int)), some (aI c)], [aI (c - 100000), aI ((l.length : Nat) : Int), aR 37 0], am_mix [37] g M)
          refine hR _ ⟨(show 0 ≤ (((l.length : Nat) : Int) : Int) ∧ (((l.length : Nat) : Int) : Int) < 200 from (by omega)), ?_⟩
          show R (94, [some (aR 8 0), some (aI ((p : Nat) : Int)), some (aI ((l.length : Nat) : Int)), some (aI ((i : Nat) : Int)), some (aI c)], [], am_wr (am_mix [37] g M) 37 0 ((((l.length : Nat) : Int)).toNat) (c - 100000))
          refine hR _ (hR _ (hR _ (hR _ (?_))))
          show R (16, [some (aR 8 0), some (aI ((p : Nat) : Int)), some (aI (((l.length : Nat) : Int) + 1)), some (aI (((i : Nat) : Int) + 1)), some (aI c)], [], am_wr (am_mix [37] g M) 37 0 ((((l.length : Nat) : Int)).toNat) (c - 100000))
          have e9 : am_ag [37] M (am_wr (am_mix [37] g M) 37 0 ((((l.length : Nat) : Int)).toNat) (c - 100000)) := ((am_ag.rf).mix rfl).wr rfl
          have hidx : (((l.length : Nat) : Int)).toNat = l.length := by omega
          rw [hidx] at e9 ⊢
          have hst2 : mo_stk (am_wr (am_mix [37] g M) 37 0 l.length (c - 100000)) (jf_stp nm c l) := by
            unfold jf_stp
            rw [if_neg (by omega), if_pos (by omega)]
            exact hst.put (by omega)
          rw [e9.eq] at hst2 ⊢
          have hw2 := hwf1.2
          rw [← hlen] at hw2
          exact ih (i + 1) _ _ _ _ _ (by rw [hlen3]; omega) (by omega) (by omega) (by omega) (by rw [hlen3]; omega) hst2 hw2 hev
        · refine hR _ (hR _ (hR _ (?_)))
          show R (84, [some (aR 8 0), some (aI ((p : Nat) : Int)), some (aI ((l.length : Nat) : Int)), some (aI ((i : Nat) : Int)), some (aI c)], [aI c, aR 38 0, aI ((l.length : Nat) : Int), aR 37 0], am_mix [37] g M)
          refine hR _ ⟨(show 0 ≤ (c : Int) ∧ (c : Int) < 6 from (by omega)), ?_⟩
          show R (85, [some (aR 8 0), some (aI ((p : Nat) : Int)), some (aI ((l.length : Nat) : Int)), some (aI ((i : Nat) : Int)), some (aI c)], [aI (M 38 0 ((c).toNat)), aI ((l.length : Nat) : Int), aR 37 0], am_mix [37] g M)
          rw [(show M 38 0 ((c).toNat) = nm c.toNat from (hnm _ (by omega)).1)]
          show R (85, [some (aR 8 0), some (aI ((p : Nat) : Int)), some (aI ((l.length : Nat) : Int)), some (aI ((i : Nat) : Int)), some (aI c)], [aI (nm c.toNat), aI ((l.length : Nat) : Int), aR 37 0], am_mix [37] g M)
          refine hR _ (?_)
          show R (93, [some (aR 8 0), some (aI ((p : Nat) : Int)), some (aI ((l.length : Nat) : Int)), some (aI ((i : Nat) : Int)), some (aI c)], [aI (nm c.toNat), aI ((l.length : Nat) : Int), aR 37 0], am_mix [37] g M)
          refine hR _ ⟨(show 0 ≤ (((l.length : Nat) : Int) : Int) ∧ (((l.length : Nat) : Int) : Int) < 200 from (by omega)), ?_⟩
          show R (94, [some (aR 8 0), some (aI ((p : Nat) : Int)), some (aI ((l.length : Nat) : Int)), some (aI ((i : Nat) : Int)), some (aI c)], [], am_wr (am_mix [37] g M) 37 0 ((((l.length : Nat) : Int)).toNat) (nm c.toNat))
          refine hR _ (hR _ (hR _ (hR _ (?_))))
          show R (16, [some (aR 8 0), some (aI ((p : Nat) : Int)), some (aI (((l.length : Nat) : Int) + 1)), some (aI (((i : Nat) : Int) + 1)), some (aI c)], [], am_wr (am_mix [37] g M) 37 0 ((((l.length : Nat) : Int)).toNat) (nm c.toNat))
          have e9 : am_ag [37] M (am_wr (am_mix [37] g M) 37 0 ((((l.length : Nat) : Int)).toNat) (nm c.toNat)) := ((am_ag.rf).mix rfl).wr rfl
          have hidx : (((l.length : Nat) : Int)).toNat = l.length := by omega
          rw [hidx] at e9 ⊢
          have hst2 : mo_stk (am_wr (am_mix [37] g M) 37 0 l.length (nm c.toNat)) (jf_stp nm c l) := by
            unfold jf_stp
            rw [if_pos (by omega)]
            exact hst.put (hnm _ (by omega)).2
          rw [e9.eq] at hst2 ⊢
          have hw2 := hwf1.2
          rw [← hlen] at hw2
          exact ih (i + 1) _ _ _ _ _ (by rw [hlen3]; omega) (by omega) (by omega) (by omega) (by rw [hlen3]; omega) hst2 hw2 hev
      · refine hR _ (hR _ (hR _ (am_brc (rg := am_in c ∧ am_in 11) (P := 11 ≤ c) (A := R (100, [some (aR 8 0), some (aI ((p : Nat) : Int)), some (aI ((l.length : Nat) : Int)), some (aI ((i : Nat) : Int)), some (aI c)], [], am_mix [37] g M)) (B := R (66, [some (aR 8 0), some (aI ((p : Nat) : Int)), some (aI ((l.length : Nat) : Int)), some (aI ((i : Nat) : Int)), some (aI c)], [], am_mix [37] g M)) (by omega) (fun c63 => ?_) (fun c63 => ?_))))
        · refine hR _ (hR _ (hR _ (am_brc (rg := am_in c ∧ am_in 13) (P := c ≠ 13) (A := R (134, [some (aR 8 0), some (aI ((p : Nat) : Int)), some (aI ((l.length : Nat) : Int)), some (aI ((i : Nat) : Int)), some (aI c)], [], am_mix [37] g M)) (B := R (107, [some (aR 8 0), some (aI ((p : Nat) : Int)), some (aI ((l.length : Nat) : Int)), some (aI ((i : Nat) : Int)), some (aI c)], [], am_mix [37] g M)) (by omega) (fun c104 => ?_) (fun c104 => ?_))))
          · refine hR _ (hR _ (hR _ (am_brc (rg := am_in c ∧ am_in 19) (P := c ≠ 19) (A := R (161, [some (aR 8 0), some (aI ((p : Nat) : Int)), some (aI ((l.length : Nat) : Int)), some (aI ((i : Nat) : Int)), some (aI c)], [], am_mix [37] g M)) (B := R (141, [some (aR 8 0), some (aI ((p : Nat) : Int)), some (aI ((l.length : Nat) : Int)), some (aI ((i : Nat) : Int)), some (aI c)], [], am_mix [37] g M)) (by omega) (fun c138 => ?_) (fun c138 => ?_))))
            · have hac : jf_ar c = 2 := by unfold jf_ar; (repeat' split) <;> omega
              obtain ⟨y1, x1, r2, rfl⟩ : ∃ y1 x1 r2, l = y1 :: x1 :: r2 := by
                match l, har with
                | y :: x :: r, _ => exact ⟨y, x, r, rfl⟩
                | [y], har => rw [hac] at har; exact absurd har (by simp)
                | [], har => rw [hac] at har; exact absurd har (by simp)
              have htop := hst.top
              have htop2 := hst.tail.top
              have hq : (((y1 :: x1 :: r2).length : Nat) : Int) = (r2.length : Int) + 2 := by simp; omega
              rw [hq]
              have htop3 : g 37 0 (r2.length + 1) = y1 := htop.1
              have hlen2 := hlen
              rw [hac] at hlen2
              have hlen3 : (jf_stp nm c (y1 :: x1 :: r2)).length = r2.length + 1 := by
                rw [hlen2]
                first | omega | (simp only [List.length_cons]; omega)
              have hli2 := hli
              simp only [List.length_cons] at hli2
              show R (161, [some (aR 8 0), some (aI ((p : Nat) : Int)), some (aI ((r2.length : Int) + 2)), some (aI ((i : Nat) : Int)), some (aI c)], [], am_mix [37] g M)
              refine hR _ (hR _ (hR _ (hR _ (hR _ (hR _ (hR _ (hR _ (hR _ (hR _ (hR _ (hR _ (?_))))))))))))
              show R (180, [some (aR 8 0), some (aI ((p : Nat) : Int)), some (aI (((r2.length : Int) + 2) + (-1))), some (aI ((i : Nat) : Int)), some (aI c)], [aI ((((r2.length : Int) + 2) + (-1)) - 1), aR 37 0, aI c, aI ((((r2.length : Int) + 2) + (-1)) - 1), aR 37 0], am_mix [37] g M)
              refine hR _ ⟨(show 0 ≤ (((((r2.length : Int) + 2) + (-1)) - 1) : Int) ∧ (((((r2.length : Int) + 2) + (-1)) - 1) : Int) < 200 from (by omega)), ?_⟩
              show R (181, [some (aR 8 0), some (aI ((p : Nat) : Int)), some (aI (((r2.length : Int) + 2) + (-1))), some (aI ((i : Nat) : Int)), some (aI c)], [aI (g 37 0 ((((((r2.length : Int) + 2) + (-1)) - 1)).toNat)), aI c, aI ((((r2.length : Int) + 2) + (-1)) - 1), aR 37 0], am_mix [37] g M)
              rw [(show g 37 0 ((((((r2.length : Int) + 2) + (-1)) - 1)).toNat) = x1 by rw [show (((((r2.length : Int) + 2) + (-1)) - 1)).toNat = r2.length by omega]; exact htop2.1)]
              show R (181, [some (aR 8 0), some (aI ((p : Nat) : Int)), some (aI (((r2.length : Int) + 2) + (-1))), some (aI ((i : Nat) : Int)), some (aI c)], [aI x1, aI c, aI ((((r2.length : Int) + 2) + (-1)) - 1), aR 37 0], am_mix [37] g M)
              refine hR _ (hR _ (hR _ (?_)))
              show R (186, [some (aR 8 0), some (aI ((p : Nat) : Int)), some (aI (((r2.length : Int) + 2) + (-1))), some (aI ((i : Nat) : Int)), some (aI c)], [aI (((r2.length : Int) + 2) + (-1)), aR 37 0, aI x1, aI c, aI ((((r2.length : Int) + 2) + (-1)) - 1), aR 37 0], am_mix [37] g M)
              refine hR _ ⟨(show 0 ≤ ((((r2.length : Int) + 2) + (-1)) : Int) ∧ ((((r2.length : Int) + 2) + (-1)) : Int) < 200 from (by omega)), ?_⟩
              show R (187, [some (aR 8 0), some (aI ((p : Nat) : Int)), some (aI (((r2.length : Int) + 2) + (-1))), some (aI ((i : Nat) : Int)), some (aI c)], [aI (g 37 0 (((((r2.length : Int) + 2) + (-1))).toNat)), aI x1, aI c, aI ((((r2.length : Int) + 2) + (-1)) - 1), aR 37 0], am_mix [37] g M)
              rw [(show g 37 0 (((((r2.length : Int) + 2) + (-1))).toNat) = y1 by rw [show ((((r2.length : Int) + 2) + (-1))).toNat = r2.length + 1 by omega]; exact htop3)]
              show R (187, [some (aR 8 0), some (aI ((p : Nat) : Int)), some (aI (((r2.length : Int) + 2) + (-1))), some (aI ((i : Nat) : Int)), some (aI c)], [aI y1, aI x1, aI c, aI ((((r2.length : Int) + 2) + (-1)) - 1), aR 37 0], am_mix [37] g M)
              refine hR _ (sm_two (by omega) (by omega) (by omega) (by omega) ?_)
              have hj := jf_two_in c x1 y1
              show R (190, [some (aR 8 0), some (aI ((p : Nat) : Int)), some (aI (((r2.length : Int) + 2) + (-1))), some (aI ((i : Nat) : Int)), some (aI c)], [aI (jf_two c x1 y1), aI ((((r2.length : Int) + 2) + (-1)) - 1), aR 37 0], am_mix [37] g M)
              refine hR _ ⟨(show 0 ≤ (((((r2.length : Int) + 2) + (-1)) - 1) : Int) ∧ (((((r2.length : Int) + 2) + (-1)) - 1) : Int) < 200 from (by omega)), ?_⟩
              show R (191, [some (aR 8 0), some (aI ((p : Nat) : Int)), some (aI (((r2.length : Int) + 2) + (-1))), some (aI ((i : Nat) : Int)), some (aI c)], [], am_wr (am_mix [37] g M) 37 0 ((((((r2.length : Int) + 2) + (-1)) - 1)).toNat) (jf_two c x1 y1))
              refine hR _ (hR _ (?_))
              show R (16, [some (aR 8 0), some (aI ((p : Nat) : Int)), some (aI (((r2.length : Int) + 2) + (-1))), some (aI (((i : Nat) : Int) + 1)), some (aI c)], [], am_wr (am_mix [37] g M) 37 0 ((((((r2.length : Int) + 2) + (-1)) - 1)).toNat) (jf_two c x1 y1))
              have e9 : am_ag [37] M (am_wr (am_mix [37] g M) 37 0 ((((((r2.length : Int) + 2) + (-1)) - 1)).toNat) (jf_two c x1 y1)) := ((am_ag.rf).mix rfl).wr rfl
              have hidx : (((((r2.length : Int) + 2) + (-1)) - 1)).toNat = r2.length := by omega
              rw [hidx] at e9 ⊢
              have hst2 : mo_stk (am_wr (am_mix [37] g M) 37 0 r2.length (jf_two c x1 y1)) (jf_stp nm c (y1 :: x1 :: r2)) := by
                unfold jf_stp
                rw [if_neg (by omega), if_neg (by omega), if_neg (by omega), if_neg (by omega)]
                exact hst.tail.tail.put (jf_two_in _ _ _)
              rw [e9.eq] at hst2 ⊢
              have hw2 := hwf1.2
              rw [← hlen] at hw2
              exact ih (i + 1) _ _ _ _ _ (by rw [hlen3]; omega) (by omega) (by omega) (by omega) (by rw [hlen3]; omega) hst2 hw2 hev
            · have hcv : c = 19 := by omega
              have hac : jf_ar c = 1 := by rw [hcv]; rfl
              obtain ⟨x1, r2, rfl⟩ : ∃ x1 r2, l = x1 :: r2 := by
                cases l with
                | nil => rw [hac] at har; exact absurd har (by simp)
                | cons x r => exact ⟨x, r, rfl⟩
              have htop := hst.top
              have hq : (((x1 :: r2).length : Nat) : Int) = (r2.length : Int) + 1 := by simp
              rw [hq]
              have hlen2 := hlen
              rw [hac] at hlen2
              have hlen3 : (jf_stp nm c (x1 :: r2)).length = r2.length + 1 := by
                rw [hlen2]
                first | omega | (simp only [List.length_cons]; omega)
              have hli2 := hli
              simp only [List.length_cons] at hli2
              show R (141, [some (aR 8 0), some (aI ((p : Nat) : Int)), some (aI ((r2.length : Int) + 1)), some (aI ((i : Nat) : Int)), some (aI c)], [], am_mix [37] g M)
              refine hR _ (hR _ (hR _ (hR _ (hR _ (hR _ (hR _ (hR _ (hR _ (hR _ (?_))))))))))
              show R (155, [some (aR 8 0), some (aI ((p : Nat) : Int)), some (aI ((r2.length : Int) + 1)), some (aI ((i : Nat) : Int)), some (aI c)], [aI (((r2.length : Int) + 1) - 1), aR 37 0, aI (((r2.length : Int) + 1) - 1), aR 37 0], am_mix [37] g M)
              refine hR _ ⟨(show 0 ≤ ((((r2.length : Int) + 1) - 1) : Int) ∧ ((((r2.length : Int) + 1) - 1) : Int) < 200 from (by omega)), ?_⟩
              show R (156, [some (aR 8 0), some (aI ((p : Nat) : Int)), some (aI ((r2.length : Int) + 1)), some (aI ((i : Nat) : Int)), some (aI c)], [aI (g 37 0 (((((r2.length : Int) + 1) - 1)).toNat)), aI (((r2.length : Int) + 1) - 1), aR 37 0], am_mix [37] g M)
              rw [(show g 37 0 (((((r2.length : Int) + 1) - 1)).toNat) = x1 by rw [show ((((r2.length : Int) + 1) - 1)).toNat = r2.length by omega]; exact htop.1)]
              show R (156, [some (aR 8 0), some (aI ((p : Nat) : Int)), some (aI ((r2.length : Int) + 1)), some (aI ((i : Nat) : Int)), some (aI c)], [aI x1, aI (((r2.length : Int) + 1) - 1), aR 37 0], am_mix [37] g M)
              refine hR _ (?_)
              show R (157, [some (aR 8 0), some (aI ((p : Nat) : Int)), some (aI ((r2.length : Int) + 1)), some (aI ((i : Nat) : Int)), some (aI c)], [aI (-x1), aI (((r2.length : Int) + 1) - 1), aR 37 0], am_mix [37] g M)
              refine hC _ _ _ (am_bm (-x1)) _ _ (i3_bm _).symm ?_
              show R (157, [some (aR 8 0), some (aI ((p : Nat) : Int)), some (aI ((r2.length : Int) + 1)), some (aI ((i : Nat) : Int)), some (aI c)], [aI (am_bm (-x1)), aI (((r2.length : Int) + 1) - 1), aR 37 0], am_mix [37] g M)
              refine hR _ ⟨(show 0 ≤ ((((r2.length : Int) + 1) - 1) : Int) ∧ ((((r2.length : Int) + 1) - 1) : Int) < 200 from (by omega)), ?_⟩
              show R (158, [some (aR 8 0), some (aI ((p : Nat) : Int)), some (aI ((r2.length : Int) + 1)), some (aI ((i : Nat) : Int)), some (aI c)], [], am_wr (am_mix [37] g M) 37 0 (((((r2.length : Int) + 1) - 1)).toNat) (am_bm (-x1)))
              refine hR _ (hR _ (hR _ (?_)))
              show R (16, [some (aR 8 0), some (aI ((p : Nat) : Int)), some (aI ((r2.length : Int) + 1)), some (aI (((i : Nat) : Int) + 1)), some (aI c)], [], am_wr (am_mix [37] g M) 37 0 (((((r2.length : Int) + 1) - 1)).toNat) (am_bm (-x1)))
              have e9 : am_ag [37] M (am_wr (am_mix [37] g M) 37 0 (((((r2.length : Int) + 1) - 1)).toNat) (am_bm (-x1))) := ((am_ag.rf).mix rfl).wr rfl
              have hidx : ((((r2.length : Int) + 1) - 1)).toNat = r2.length := by omega
              rw [hidx] at e9 ⊢
              have hst2 : mo_stk (am_wr (am_mix [37] g M) 37 0 r2.length (am_bm (-x1))) (jf_stp nm c (x1 :: r2)) := by
                rw [hcv]
                exact hst.tail.put (am_bm_in _)
              rw [e9.eq] at hst2 ⊢
              have hw2 := hwf1.2
              rw [← hlen] at hw2
              exact ih (i + 1) _ _ _ _ _ (by rw [hlen3]; omega) (by omega) (by omega) (by omega) (by rw [hlen3]; omega) hst2 hw2 hev
          · have hcv : c = 13 := by omega
            have hac : jf_ar c = 1 := by rw [hcv]; rfl
            obtain ⟨x1, r2, rfl⟩ : ∃ x1 r2, l = x1 :: r2 := by
              cases l with
              | nil => rw [hac] at har; exact absurd har (by simp)
              | cons x r => exact ⟨x, r, rfl⟩
            have htop := hst.top
            have hq : (((x1 :: r2).length : Nat) : Int) = (r2.length : Int) + 1 := by simp
            rw [hq]
            have hlen2 := hlen
            rw [hac] at hlen2
            have hlen3 : (jf_stp nm c (x1 :: r2)).length = r2.length + 1 := by
              rw [hlen2]
              first | omega | (simp only [List.length_cons]; omega)
            have hli2 := hli
            simp only [List.length_cons] at hli2
            show R (107, [some (aR 8 0), some (aI ((p : Nat) : Int)), some (aI ((r2.length : Int) + 1)), some (aI ((i : Nat) : Int)), some (aI c)], [], am_mix [37] g M)
            refine hR _ (hR _ (hR _ (hR _ (hR _ (hR _ (hR _ (hR _ (hR _ (hR _ (?_))))))))))
            show R (121, [some (aR 8 0), some (aI ((p : Nat) : Int)), some (aI ((r2.length : Int) + 1)), some (aI ((i : Nat) : Int)), some (aI c)], [aI (((r2.length : Int) + 1) - 1), aR 37 0, aI (((r2.length : Int) + 1) - 1), aR 37 0], am_mix [37] g M)
            refine hR _ ⟨(show 0 ≤ ((((r2.length : Int) + 1) - 1) : Int) ∧ ((((r2.length : Int) + 1) - 1) : Int) < 200 from (by omega)), ?_⟩
            show R (122, [some (aR 8 0), some (aI ((p : Nat) : Int)), some (aI ((r2.length : Int) + 1)), some (aI ((i : Nat) : Int)), some (aI c)], [aI (g 37 0 (((((r2.length : Int) + 1) - 1)).toNat)), aI (((r2.length : Int) + 1) - 1), aR 37 0], am_mix [37] g M)
            rw [(show g 37 0 (((((r2.length : Int) + 1) - 1)).toNat) = x1 by rw [show ((((r2.length : Int) + 1) - 1)).toNat = r2.length by omega]; exact htop.1)]
            show R (122, [some (aR 8 0), some (aI ((p : Nat) : Int)), some (aI ((r2.length : Int) + 1)), some (aI ((i : Nat) : Int)), some (aI c)], [aI x1, aI (((r2.length : Int) + 1) - 1), aR 37 0], am_mix [37] g M)
            refine hR _ (am_brc (rg := am_in x1) (P := x1 ≠ 0) (A := R (129, [some (aR 8 0), some (aI ((p : Nat) : Int)), some (aI ((r2.length : Int) + 1)), some (aI ((i : Nat) : Int)), some (aI c)], [aI (((r2.length : Int) + 1) - 1), aR 37 0], am_mix [37] g M)) (B := R (125, [some (aR 8 0), some (aI ((p : Nat) : Int)), some (aI ((r2.length : Int) + 1)), some (aI ((i : Nat) : Int)), some (aI c)], [aI (((r2.length : Int) + 1) - 1), aR 37 0], am_mix [37] g M)) (by omega) (fun c122 => ?_) (fun c122 => ?_))
            · refine hR _ (?_)
              show R (130, [some (aR 8 0), some (aI ((p : Nat) : Int)), some (aI ((r2.length : Int) + 1)), some (aI ((i : Nat) : Int)), some (aI c)], [aI 0, aI (((r2.length : Int) + 1) - 1), aR 37 0], am_mix [37] g M)
              refine hR _ ⟨(show 0 ≤ ((((r2.length : Int) + 1) - 1) : Int) ∧ ((((r2.length : Int) + 1) - 1) : Int) < 200 from (by omega)), ?_⟩
              show R (131, [some (aR 8 0), some (aI ((p : Nat) : Int)), some (aI ((r2.length : Int) + 1)), some (aI ((i : Nat) : Int)), some (aI c)], [], am_wr (am_mix [37] g M) 37 0 (((((r2.length : Int) + 1) - 1)).toNat) 0)
              refine hR _ (hR _ (hR _ (?_)))
              show R (16, [some (aR 8 0), some (aI ((p : Nat) : Int)), some (aI ((r2.length : Int) + 1)), some (aI (((i : Nat) : Int) + 1)), some (aI c)], [], am_wr (am_mix [37] g M) 37 0 (((((r2.length : Int) + 1) - 1)).toNat) 0)
              have e9 : am_ag [37] M (am_wr (am_mix [37] g M) 37 0 (((((r2.length : Int) + 1) - 1)).toNat) 0) := ((am_ag.rf).mix rfl).wr rfl
              have hidx : ((((r2.length : Int) + 1) - 1)).toNat = r2.length := by omega
              rw [hidx] at e9 ⊢
              have hst2 : mo_stk (am_wr (am_mix [37] g M) 37 0 r2.length 0) (jf_stp nm c (x1 :: r2)) := by
                rw [hcv]
                show mo_stk _ ((if x1 = 0 then 1 else 0) :: r2)
                first | (rw [if_pos (by omega)]; exact hst.tail.put (by omega)) | (rw [if_neg (by omega)]; exact hst.tail.put (by omega))
              rw [e9.eq] at hst2 ⊢
              have hw2 := hwf1.2
              rw [← hlen] at hw2
              exact ih (i + 1) _ _ _ _ _ (by rw [hlen3]; omega) (by omega) (by omega) (by omega) (by rw [hlen3]; omega) hst2 hw2 hev
            · refine hR _ (hR _ (?_))
              show R (130, [some (aR 8 0), some (aI ((p : Nat) : Int)), some (aI ((r2.length : Int) + 1)), some (aI ((i : Nat) : Int)), some (aI c)], [aI 1, aI (((r2.length : Int) + 1) - 1), aR 37 0], am_mix [37] g M)
              refine hR _ ⟨(show 0 ≤ ((((r2.length : Int) + 1) - 1) : Int) ∧ ((((r2.length : Int) + 1) - 1) : Int) < 200 from (by omega)), ?_⟩
              show R (131, [some (aR 8 0), some (aI ((p : Nat) : Int)), some (aI ((r2.length : Int) + 1)), some (aI ((i : Nat) : Int)), some (aI c)], [], am_wr (am_mix [37] g M) 37 0 (((((r2.length : Int) + 1) - 1)).toNat) 1)
              refine hR _ (hR _ (hR _ (?_)))
              show R (16, [some (aR 8 0), some (aI ((p : Nat) : Int)), some (aI ((r2.length : Int) + 1)), some (aI (((i : Nat) : Int) + 1)), some (aI c)], [], am_wr (am_mix [37] g M) 37 0 (((((r2.length : Int) + 1) - 1)).toNat) 1)
              have e9 : am_ag [37] M (am_wr (am_mix [37] g M) 37 0 (((((r2.length : Int) + 1) - 1)).toNat) 1) := ((am_ag.rf).mix rfl).wr rfl
              have hidx : ((((r2.length : Int) + 1) - 1)).toNat = r2.length := by omega
              rw [hidx] at e9 ⊢
              have hst2 : mo_stk (am_wr (am_mix [37] g M) 37 0 r2.length 1) (jf_stp nm c (x1 :: r2)) := by
                rw [hcv]
                show mo_stk _ ((if x1 = 0 then 1 else 0) :: r2)
                first | (rw [if_pos (by omega)]; exact hst.tail.put (by omega)) | (rw [if_neg (by omega)]; exact hst.tail.put (by omega))
              rw [e9.eq] at hst2 ⊢
              have hw2 := hwf1.2
              rw [← hlen] at hw2
              exact ih (i + 1) _ _ _ _ _ (by rw [hlen3]; omega) (by omega) (by omega) (by omega) (by rw [hlen3]; omega) hst2 hw2 hev
        · have hac : jf_ar c = 0 := by unfold jf_ar; (repeat' split) <;> omega
          have hlen2 := hlen
          rw [hac] at hlen2
          have hlen3 : (jf_stp nm c l).length = l.length + 1 := by
            rw [hlen2]
            first | omega | (simp only [List.length_cons]; omega)
          have hli2 := hli
          show R (66, [some (aR 8 0), some (aI ((p : Nat) : Int)), some (aI ((l.length : Nat) : Int)), some (aI ((i : Nat) : Int)), some (aI c)], [], am_mix [37] g M)
          refine hR _ (hR _ (hR _ (hR _ (hR _ (hR _ (am_brc (rg := am_in c ∧ am_in 11) (P := 11 ≤ c) (A := R (88, [some (aR 8 0), some (aI ((p : Nat) : Int)), some (aI ((l.length : Nat) : Int)), some (aI ((i : Nat) : Int)), some (aI c)], [aI ((l.length : Nat) : Int), aR 37 0], am_mix [37] g M)) (B := R (78, [some (aR 8 0), some (aI ((p : Nat) : Int)), some (aI ((l.length : Nat) : Int)), some (aI ((i : Nat) : Int)), some (aI c)], [aI ((l.length : Nat) : Int), aR 37 0], am_mix [37] g M)) (by omega) (fun c75 => ?_) (fun c75 => ?_)))))))
          · refine hR _ (hR _ (hR _ (?_)))
            show R (93, [some (aR 8 0), some (aI ((p : Nat) : Int)), some (aI ((l.length : Nat) : Int)), some (aI ((i : Nat) : Int)), some (aI c)], [aI (c - 100000), aI ((l.length : Nat) : Int), aR 37 0], am_mix [37] g M)
            refine hR _ ⟨(show 0 ≤ (((l.length : Nat) : Int) : Int) ∧ (((l.length : Nat) : Int) : Int) < 200 from (by omega)), ?_⟩
            show R (94, [some (aR 8 0), some (aI ((p : Nat) : Int)), some (aI ((l.length : Nat) : Int)), some (aI ((i : Nat) : Int)), some (aI c)], [], am_wr (am_mix [37] g M) 37 0 ((((l.length : Nat) : Int)).toNat) (c - 100000))
            refine hR _ (hR _ (hR _ (hR _ (?_))))
            show R (16, [some (aR 8 0), some (aI ((p : Nat) : Int)), some (aI (((l.length : Nat) : Int) + 1)), some (aI (((i : Nat) : Int) + 1)), some (aI c)], [], am_wr (am_mix [37] g M) 37 0 ((((l.length : Nat) : Int)).toNat) (c - 100000))
            have e9 : am_ag [37] M (am_wr (am_mix [37] g M) 37 0 ((((l.length : Nat) : Int)).toNat) (c - 100000)) := ((am_ag.rf).mix rfl).wr rfl
            have hidx : (((l.length : Nat) : Int)).toNat = l.length := by omega
            rw [hidx] at e9 ⊢
            have hst2 : mo_stk (am_wr (am_mix [37] g M) 37 0 l.length (c - 100000)) (jf_stp nm c l) := by
              unfold jf_stp
              rw [if_neg (by omega), if_pos (by omega)]
              exact hst.put (by omega)
            rw [e9.eq] at hst2 ⊢
            have hw2 := hwf1.2
            rw [← hlen] at hw2
            exact ih (i + 1) _ _ _ _ _ (by rw [hlen3]; omega) (by omega) (by omega) (by omega) (by rw [hlen3]; omega) hst2 hw2 hev
          · refine hR _ (hR _ (hR _ (?_)))
            show R (84, [some (aR 8 0), some (aI ((p : Nat) : Int)), some (aI ((l.length : Nat) : Int)), some (aI ((i : Nat) : Int)), some (aI c)], [aI c, aR 38 0, aI ((l.length : Nat) : Int), aR 37 0], am_mix [37] g M)
            refine hR _ ⟨(show 0 ≤ (c : Int) ∧ (c : Int) < 6 from (by omega)), ?_⟩
            show R (85, [some (aR 8 0), some (aI ((p : Nat) : Int)), some (aI ((l.length : Nat) : Int)), some (aI ((i : Nat) : Int)), some (aI c)], [aI (M 38 0 ((c).toNat)), aI ((l.length : Nat) : Int), aR 37 0], am_mix [37] g M)
            rw [(show M 38 0 ((c).toNat) = nm c.toNat from (hnm _ (by omega)).1)]
            show R (85, [some (aR 8 0), some (aI ((p : Nat) : Int)), some (aI ((l.length : Nat) : Int)), some (aI ((i : Nat) : Int)), some (aI c)], [aI (nm c.toNat), aI ((l.length : Nat) : Int), aR 37 0], am_mix [37] g M)
            refine hR _ (?_)
            show R (93, [some (aR 8 0), some (aI ((p : Nat) : Int)), some (aI ((l.length : Nat) : Int)), some (aI ((i : Nat) : Int)), some (aI c)], [aI (nm c.toNat), aI ((l.length : Nat) : Int), aR 37 0], am_mix [37] g M)
            refine hR _ ⟨(show 0 ≤ (((l.length : Nat) : Int) : Int) ∧ (((l.length : Nat) : Int) : Int) < 200 from (by omega)), ?_⟩
            show R (94, [some (aR 8 0), some (aI ((p : Nat) : Int)), some (aI ((l.length : Nat) : Int)), some (aI ((i : Nat) : Int)), some (aI c)], [], am_wr (am_mix [37] g M) 37 0 ((((l.length : Nat) : Int)).toNat) (nm c.toNat))
            refine hR _ (hR _ (hR _ (hR _ (?_))))
            show R (16, [some (aR 8 0), some (aI ((p : Nat) : Int)), some (aI (((l.length : Nat) : Int) + 1)), some (aI (((i : Nat) : Int) + 1)), some (aI c)], [], am_wr (am_mix [37] g M) 37 0 ((((l.length : Nat) : Int)).toNat) (nm c.toNat))
            have e9 : am_ag [37] M (am_wr (am_mix [37] g M) 37 0 ((((l.length : Nat) : Int)).toNat) (nm c.toNat)) := ((am_ag.rf).mix rfl).wr rfl
            have hidx : (((l.length : Nat) : Int)).toNat = l.length := by omega
            rw [hidx] at e9 ⊢
            have hst2 : mo_stk (am_wr (am_mix [37] g M) 37 0 l.length (nm c.toNat)) (jf_stp nm c l) := by
              unfold jf_stp
              rw [if_pos (by omega)]
              exact hst.put (hnm _ (by omega)).2
            rw [e9.eq] at hst2 ⊢
            have hw2 := hwf1.2
            rw [← hlen] at hw2
            exact ih (i + 1) _ _ _ _ _ (by rw [hlen3]; omega) (by omega) (by omega) (by omega) (by rw [hlen3]; omega) hst2 hw2 hev
  refine hR _ (hR _ (hR _ (hR _ (hR _ (hR _ (hR _ (?_)))))))
  show R (11, [some (aR 8 0), some (aI ((p : Nat) : Int)), some (aI 0), none, none], [aI (M 431 0 0), aI 4, aR 29 0], M)
  rw [hr]
  show R (11, [some (aR 8 0), some (aI ((p : Nat) : Int)), some (aI 0), none, none], [aI ((r : Nat) : Int), aI 4, aR 29 0], M)
  refine hR _ (hR _ (hR _ (?_)))
  show R (14, [some (aR 8 0), some (aI ((p : Nat) : Int)), some (aI 0), none, none], [aI ((4 * ((r : Nat) : Int)) + ((p : Nat) : Int)), aR 29 0], M)
  refine hR _ ⟨(show 0 ≤ (((4 * ((r : Nat) : Int)) + ((p : Nat) : Int)) : Int) ∧ (((4 * ((r : Nat) : Int)) + ((p : Nat) : Int)) : Int) < 24 from (by omega)), ?_⟩
  show R (15, [some (aR 8 0), some (aI ((p : Nat) : Int)), some (aI 0), none, none], [aI (M 29 0 ((((4 * ((r : Nat) : Int)) + ((p : Nat) : Int))).toNat))], M)
  rw [(show M 29 0 ((((4 * ((r : Nat) : Int)) + ((p : Nat) : Int))).toNat) = M 29 0 (4 * r + p) by rw [show (((4 * ((r : Nat) : Int)) + ((p : Nat) : Int))).toNat = (4 * r + p) by omega])]
  show R (15, [some (aR 8 0), some (aI ((p : Nat) : Int)), some (aI 0), none, none], [aI (M 29 0 (4 * r + p))], M)
  refine hR _ (?_)
  show R (16, [some (aR 8 0), some (aI ((p : Nat) : Int)), some (aI 0), some (aI (M 29 0 (4 * r + p))), none], [], M)
  have e9 : am_ag [37] M M := am_ag.rf
  rw [e9.eq]
  exact key _ (M 29 0 (4 * r + p)).toNat [] _ _ _ _ rfl (show M 29 0 (4 * r + p) = (((M 29 0 (4 * r + p)).toNat : Nat) : Int) by omega) rfl (by omega) (Nat.zero_le _) ⟨fun j hj => absurd hj (Nat.not_lt_zero j), fun x hx => absurd hx (by simp)⟩ hwf rfl
