/-! wb -/
/-! THE REFERENCE: told slips -/
def mo_tw (M : am_M) (sa h : Int) : Int := if 0 ≤ sa ∧ sa < 4 then (if M 180 sa.toNat 0 = -1 then -11 else if 0 ≤ h ∧ h < M 227 0 0 then 0 else -5) else -2
theorem mo_tw_0 {M : am_M} {s k : Nat} (hs : s < 4) (h1 : M 180 s 0 ≠ -1) (hk : (k : Int) < M 227 0 0) : mo_tw M ((s : Nat) : Int) ((k : Nat) : Int) = 0 := by
  unfold mo_tw
  rw [if_pos (by omega), if_neg (show ¬ M 180 ((s : Nat) : Int).toNat 0 = -1 from h1), if_pos (by omega)]
theorem mo_tw_1 {M : am_M} {sa h : Int} (hb : ¬ ((0 ≤ sa ∧ sa < 4) ∧ M 180 sa.toNat 0 ≠ -1 ∧ 0 ≤ h ∧ h < M 227 0 0)) : mo_tw M sa h ≠ 0 ∧ -11 ≤ mo_tw M sa h ∧ mo_tw M sa h ≤ -2 := by
  unfold mo_tw
  repeat' split
  all_goals first | omega | (exfalso; apply hb; exact ⟨by assumption, by assumption, by assumption⟩)
theorem mo_bs (F : Nat → Int) : ∀ n, (jf_best (fun i => (i : Int)) (fun i => (F i, 1)) n).2.2 = 1 ∧ (0 < n → 0 ≤ (jf_best (fun i => (i : Int)) (fun i => (F i, 1)) n).1)
  | 0 => ⟨rfl, fun h => absurd h (Nat.lt_irrefl 0)⟩
  | n + 1 => by
    have ih := mo_bs F n
    show (jf_bst _ _ _ _).2.2 = 1 ∧ (0 < n + 1 → 0 ≤ (jf_bst _ _ _ _).1)
    unfold jf_bst
    split
    · refine ⟨rfl, fun _ => ?_⟩
      show (0 : Int) ≤ (n : Int)
      omega
    · next h =>
      refine ⟨ih.1, fun _ => ih.2 ?_⟩
      by_cases h0 : n = 0
      · subst h0
        exact absurd (Or.inl rfl) h
      · omega
theorem mo_bs_1 (F : Nat → Int) (n : Nat) : jf_best (fun i => (i : Int)) (fun i => (F i, 1)) (n + 1) = if n = 0 ∨ (jf_best (fun i => (i : Int)) (fun i => (F i, 1)) n).2.1 < F n then ((n : Int), F n, 1) else jf_best (fun i => (i : Int)) (fun i => (F i, 1)) n := by
  have h := mo_bs F n
  show jf_bst (jf_best (fun i => (i : Int)) (fun i => (F i, 1)) n) (n : Int) (F n) 1 = _
  unfold jf_bst
  rw [h.1, Int.mul_one, Int.mul_one]
  by_cases h0 : n = 0
  · subst h0
    rw [if_pos (show (0 : Nat) = 0 ∨ _ from Or.inl rfl)]
    exact if_pos (Or.inl rfl)
  · have := h.2 (by omega)
    by_cases h1 : (jf_best (fun i => (i : Int)) (fun i => (F i, 1)) n).2.1 < F n
    · rw [if_pos (Or.inr h1), if_pos (Or.inr h1)]
    · rw [if_neg (by omega), if_neg (by omega)]
theorem jf_sd {M : am_M} (sa : Int) : (∃ s : Nat, sa = (s : Int) ∧ s < 4) ∨ ¬ (0 ≤ sa ∧ sa < 4) := by
  by_cases hh : 0 ≤ sa ∧ sa < 4
  · exact Or.inl ⟨sa.toNat, by omega, by omega⟩
  · exact Or.inr hh
/-- a sheet as the reference has it -/
def mo_sh (M : am_M) (s : Nat) (c : Nat → Int) (n : Nat) : Prop := s < 4 ∧ M 32 0 s = (n : Int) ∧ n ≤ 40 ∧ ∀ j, j < 40 → M 33 0 (40 * s + j) = c j ∧ am_in (c j)
theorem jf_C.sh {M : am_M} (hJ : jf_J M) (hC : jf_C M) {s : Nat} (hs : s < 4) : mo_sh M s (M 21 s) (M 181 s 0).toNat := by
  have h1 := hC.2.2.2.1 s hs
  have h2 := hJ.2.2.2.1 s hs
  refine ⟨hs, ?_, ?_, fun j hj => ⟨h1.2.2 j hj, (h2.2.2 j hj).1⟩⟩
  · have := h2.2.1
    rw [h1.2.1]
    omega
  · have := h2.2.1
    omega

theorem sm_isSheet0 {d : Nat} (hd : 2 ≤ d) {v : Int} {M : am_M} {K : am_K} (hr : am_in v) (ht : 0 ≤ v ∧ v ≤ 3 → K (some (aI 1)) M) (hf : ¬ (0 ≤ v ∧ v ≤ 3) → K (some (aI 0)) M) : am_Call true d 183 [aI v] M K := by
  obtain ⟨d, rfl⟩ : ∃ e, d = e + 1 := ⟨d - 1, by omega⟩
  refine ⟨rfl, fun R hR hC => ?_⟩
  replace hR : ∀ c, am_F true tb_f183 2 (am_Call true d) K R c → R c := hR
  show R (0, [some (aI v)], [], M)
  refine hR _ (hR _ (hR _ (?_)))
  show R (3, [some (aI v)], [aI 3, aI 0, aI v], M)
  refine hR _ (sp_in (by omega) (by omega) (fun h3 => ?_) (fun h3 => ?_))
  · show R (6, [some (aI v)], [aI 1], M)
    refine hR _ (show ((1 : Int) = 0 ∨ (1 : Int) = 1) ∧ K (some (aI 1)) M from ?_)
    exact ⟨by omega, ht (by omega)⟩
  · show R (6, [some (aI v)], [aI 0], M)
    refine hR _ (show ((0 : Int) = 0 ∨ (0 : Int) = 1) ∧ K (some (aI 0)) M from ?_)
    exact ⟨by omega, hf (by omega)⟩

theorem sm_toldWrong {d : Nat} (hd : 3 ≤ d) {sa h : Int} {M : am_M} {K : am_K} (hJ : jf_J M) (hW : jf_C M) (ha_s : am_in sa) (ha_h : am_in h) (hK : K (some (aI (mo_tw M sa h))) M) : am_Call true d 182 [aR 8 0, aI sa, aI h] M K := by
  obtain ⟨d, rfl⟩ : ∃ e, d = e + 1 := ⟨d - 1, by omega⟩
  refine ⟨rfl, fun R hR hC => ?_⟩
  replace hR : ∀ c, am_F true tb_f182 1 (am_Call true d) K R c → R c := hR
  have hn := hJ.1.1.2.2.2.2.2.2.2.1
  have hl0 := hJ.1.1.2.2.2.2.2.2.2.2
  have htc := hJ.2.2.1.1
  have hlt : 0 ≤ M 228 0 0 ∧ M 228 0 0 < 6 := by omega
  have hmk := hJ.1.1.1
  have hdr := hJ.1.1.2.1
  have hpr := hJ.1.1.2.2.1
  have hfu := hJ.1.1.2.2.2.1
  have hn' : 0 ≤ M 421 0 0 ∧ M 421 0 0 ≤ 5 := by rw [hW.1.2.1.1]; exact hn
  have h421 : M 421 0 0 = M 227 0 0 := hW.1.2.1.1
  have hso : ∀ q : Nat, q < 4 → -1 ≤ M 180 q 0 ∧ M 180 q 0 ≤ 2 := fun q hq => (hJ.2.2.2.1 q hq).1
  have hso2 := hso sa.toNat
  show R (0, [some (aR 8 0), some (aI sa), some (aI h)], [], M)
  refine hR _ (?_)
  show R (1, [some (aR 8 0), some (aI sa), some (aI h)], [aI sa], M)
  refine hR _ (sm_isSheet0 (by omega) (by omega) (fun h1 => ?_) (fun h1 => ?_))
  · show R (4, [some (aR 8 0), some (aI sa), some (aI h)], [aI 1], M)
    refine hR _ (am_brt (rg := am_in 1) (P := (1 : Int) ≠ 0) (A := R (10, [some (aR 8 0), some (aI sa), some (aI h)], [], M)) (B := R (7, [some (aR 8 0), some (aI sa), some (aI h)], [], M)) (by omega) (by omega) ?_)
    show R (10, [some (aR 8 0), some (aI sa), some (aI h)], [], M)
    refine hR _ (hR _ (hR _ (?_)))
    show R (15, [some (aR 8 0), some (aI sa), some (aI h)], [aI sa, aR 31 0], M)
    refine hR _ ⟨(show 0 ≤ (sa : Int) ∧ (sa : Int) < 4 from (by omega)), ?_⟩
    show R (16, [some (aR 8 0), some (aI sa), some (aI h)], [aI (M 31 0 ((sa).toNat))], M)
    rw [(show M 31 0 ((sa).toNat) = M 180 sa.toNat 0 from (hW.2.2.2.1 sa.toNat (by omega)).1)]
    show R (16, [some (aR 8 0), some (aI sa), some (aI h)], [aI (M 180 sa.toNat 0)], M)
    refine hR _ (hR _ (am_brc (rg := am_in (M 180 sa.toNat 0) ∧ am_in (-1)) (P := (M 180 sa.toNat 0) ≠ (-1)) (A := R (23, [some (aR 8 0), some (aI sa), some (aI h)], [], M)) (B := R (20, [some (aR 8 0), some (aI sa), some (aI h)], [], M)) (by omega) (fun c17 => ?_) (fun c17 => ?_)))
    · refine hR _ (hR _ (?_))
      show R (25, [some (aR 8 0), some (aI sa), some (aI h)], [aI h, aR 8 0], M)
      refine hR _ (sm_isHand (by omega) (show 0 ≤ M 421 0 0 ∧ M 421 0 0 ≤ 5 from hn') (by omega) (fun hz25 => ?_) (fun hz25 => ?_))
      · replace hz25 : 0 ≤ h ∧ h < M 421 0 0 := hz25
        show R (28, [some (aR 8 0), some (aI sa), some (aI h)], [aI 1], M)
        refine hR _ (am_brf (rg := am_in 1) (P := (1 : Int) = 0) (A := R (35, [some (aR 8 0), some (aI sa), some (aI h)], [], M)) (B := R (31, [some (aR 8 0), some (aI sa), some (aI h)], [], M)) (by omega) (by omega) ?_)
        show R (31, [some (aR 8 0), some (aI sa), some (aI h)], [], M)
        refine hR _ (hR _ (?_))
        show R (37, [some (aR 8 0), some (aI sa), some (aI h)], [aI 0], M)
        refine hR _ (show K (some (aI 0)) M from ?_)
        have hres : mo_tw M sa h = 0 := by
          unfold mo_tw
          repeat' split
          all_goals omega
        rw [hres] at hK
        exact hK
      · replace hz25 : ¬ (0 ≤ h ∧ h < M 421 0 0) := hz25
        show R (28, [some (aR 8 0), some (aI sa), some (aI h)], [aI 0], M)
        refine hR _ (am_brt (rg := am_in 0) (P := (0 : Int) = 0) (A := R (35, [some (aR 8 0), some (aI sa), some (aI h)], [], M)) (B := R (31, [some (aR 8 0), some (aI sa), some (aI h)], [], M)) (by omega) (by omega) ?_)
        show R (35, [some (aR 8 0), some (aI sa), some (aI h)], [], M)
        refine hR _ (?_)
        show R (37, [some (aR 8 0), some (aI sa), some (aI h)], [aI (-5)], M)
        refine hR _ (show K (some (aI (-5))) M from ?_)
        have hres : mo_tw M sa h = (-5) := by
          unfold mo_tw
          repeat' split
          all_goals omega
        rw [hres] at hK
        exact hK
    · refine hR _ (?_)
      show R (22, [some (aR 8 0), some (aI sa), some (aI h)], [aI (-11)], M)
      refine hR _ (show K (some (aI (-11))) M from ?_)
      have hres : mo_tw M sa h = (-11) := by
        unfold mo_tw
        repeat' split
        all_goals omega
      rw [hres] at hK
      exact hK
  · show R (4, [some (aR 8 0), some (aI sa), some (aI h)], [aI 0], M)
    refine hR _ (am_brf (rg := am_in 0) (P := (0 : Int) ≠ 0) (A := R (10, [some (aR 8 0), some (aI sa), some (aI h)], [], M)) (B := R (7, [some (aR 8 0), some (aI sa), some (aI h)], [], M)) (by omega) (by omega) ?_)
    show R (7, [some (aR 8 0), some (aI sa), some (aI h)], [], M)
    refine hR _ (?_)
    show R (9, [some (aR 8 0), some (aI sa), some (aI h)], [aI (-2)], M)
    refine hR _ (show K (some (aI (-2))) M from ?_)
    have hres : mo_tw M sa h = (-2) := by
      unfold mo_tw
      repeat' split
      all_goals omega
    rw [hres] at hK
    exact hK

theorem sm_unlikely {d : Nat} (hd : 8 ≤ d) {s k r n : Nat} {c : Nat → Int} {p : jf_par} {M : am_M} {K : am_K} (hsh : mo_sh M s c n) (hk : k < 5) (hr : M 431 0 0 = (r : Int)) (hr6 : r < 6) (hwt : mo_wt M r) (hp : mo_p M k r p) (hok : jf_ok p) (hmk : p.mk = M 22 0 0) (hst : p.st = 0) (h : ∀ g, K (some (aI (jf_fu p c n 0))) (am_mix mo_SM g M)) : am_Call true d 184 [aR 8 0, aI ((s : Nat) : Int), aI ((k : Nat) : Int)] M K := by
  obtain ⟨d, rfl⟩ : ∃ e, d = e + 1 := ⟨d - 1, by omega⟩
  refine ⟨rfl, fun R hR hC => ?_⟩
  replace hR : ∀ c, am_F true tb_f184 1 (am_Call true d) K R c → R c := hR
  have hs4 := hsh.1
  have hn4 := hsh.2.2.1
  show R (0, [some (aR 8 0), some (aI ((s : Nat) : Int)), some (aI ((k : Nat) : Int)), none], [], M)
  refine hR _ (hR _ (?_))
  show R (2, [some (aR 8 0), some (aI ((s : Nat) : Int)), some (aI ((k : Nat) : Int)), none], [aI ((k : Nat) : Int), aR 8 0], M)
  refine hR _ (sm_goes (p := p) (r := r) (by omega) hk hr hr6 hwt hp hok hmk hst (fun g176 hth => ?_))
  have hthr := hth.1
  have hthA := hth.2.1
  have hthN := hth.2.2
  show R (5, [some (aR 8 0), some (aI ((s : Nat) : Int)), some (aI ((k : Nat) : Int)), none], [], am_mix mo_SM g176 M)
  refine hR _ (hR _ (?_))
  show R (7, [some (aR 8 0), some (aI ((s : Nat) : Int)), some (aI ((k : Nat) : Int)), some (aI 0)], [], am_mix mo_SM g176 M)
  have key : ∀ (f i : Nat) (x : Int), x = (i : Int) → i + f = n → jf_fu p c f i = jf_fu p c n 0 → R (7, [some (aR 8 0), some (aI ((s : Nat) : Int)), some (aI ((k : Nat) : Int)), some (aI x)], [], am_mix mo_SM g176 M) := by
    intro f
    induction f with
    | zero =>
      intro i x hx hin he
      subst hx
      refine hR _ (hR _ (hR _ (hR _ (?_))))
      show R (13, [some (aR 8 0), some (aI ((s : Nat) : Int)), some (aI ((k : Nat) : Int)), some (aI ((i : Nat) : Int))], [aI ((s : Nat) : Int), aR 32 0, aI ((i : Nat) : Int)], am_mix mo_SM g176 M)
      refine hR _ ⟨(show 0 ≤ (((s : Nat) : Int) : Int) ∧ (((s : Nat) : Int) : Int) < 4 from (by omega)), ?_⟩
      show R (14, [some (aR 8 0), some (aI ((s : Nat) : Int)), some (aI ((k : Nat) : Int)), some (aI ((i : Nat) : Int))], [aI (M 32 0 s), aI ((i : Nat) : Int)], am_mix mo_SM g176 M)
      rw [(show M 32 0 s = ((n : Nat) : Int) from hsh.2.1)]
      show R (14, [some (aR 8 0), some (aI ((s : Nat) : Int)), some (aI ((k : Nat) : Int)), some (aI ((i : Nat) : Int))], [aI ((n : Nat) : Int), aI ((i : Nat) : Int)], am_mix mo_SM g176 M)
      refine hR _ (am_brt (rg := am_in ((i : Nat) : Int) ∧ am_in ((n : Nat) : Int)) (P := ((n : Nat) : Int) ≤ ((i : Nat) : Int)) (A := R (45, [some (aR 8 0), some (aI ((s : Nat) : Int)), some (aI ((k : Nat) : Int)), some (aI ((i : Nat) : Int))], [], am_mix mo_SM g176 M)) (B := R (17, [some (aR 8 0), some (aI ((s : Nat) : Int)), some (aI ((k : Nat) : Int)), some (aI ((i : Nat) : Int))], [], am_mix mo_SM g176 M)) (by omega) (by omega) ?_)
      show R (45, [some (aR 8 0), some (aI ((s : Nat) : Int)), some (aI ((k : Nat) : Int)), some (aI ((i : Nat) : Int))], [], am_mix mo_SM g176 M)
      refine hR _ (?_)
      show R (46, [some (aR 8 0), some (aI ((s : Nat) : Int)), some (aI ((k : Nat) : Int)), some (aI ((i : Nat) : Int))], [aI (-1)], am_mix mo_SM g176 M)
      refine hR _ (show K (some (aI (-1))) (am_mix mo_SM g176 M) from ?_)
      rw [jf_fu] at he
      rw [← he] at h
      have e9 : am_ag mo_SM M (am_mix mo_SM g176 M) := (am_ag.rf).mix rfl
      rw [e9.eq]
      exact h _
    | succ f ih =>
      intro i x hx hin he
      subst hx
      have hci := (hsh.2.2.2 i (by omega)).2
      have hat := jf_at_b hok (c i)
      refine hR _ (hR _ (hR _ (hR _ (?_))))
      show R (13, [some (aR 8 0), some (aI ((s : Nat) : Int)), some (aI ((k : Nat) : Int)), some (aI ((i : Nat) : Int))], [aI ((s : Nat) : Int), aR 32 0, aI ((i : Nat) : Int)], am_mix mo_SM g176 M)
      refine hR _ ⟨(show 0 ≤ (((s : Nat) : Int) : Int) ∧ (((s : Nat) : Int) : Int) < 4 from (by omega)), ?_⟩
      show R (14, [some (aR 8 0), some (aI ((s : Nat) : Int)), some (aI ((k : Nat) : Int)), some (aI ((i : Nat) : Int))], [aI (M 32 0 s), aI ((i : Nat) : Int)], am_mix mo_SM g176 M)
      rw [(show M 32 0 s = ((n : Nat) : Int) from hsh.2.1)]
      show R (14, [some (aR 8 0), some (aI ((s : Nat) : Int)), some (aI ((k : Nat) : Int)), some (aI ((i : Nat) : Int))], [aI ((n : Nat) : Int), aI ((i : Nat) : Int)], am_mix mo_SM g176 M)
      refine hR _ (am_brf (rg := am_in ((i : Nat) : Int) ∧ am_in ((n : Nat) : Int)) (P := ((n : Nat) : Int) ≤ ((i : Nat) : Int)) (A := R (45, [some (aR 8 0), some (aI ((s : Nat) : Int)), some (aI ((k : Nat) : Int)), some (aI ((i : Nat) : Int))], [], am_mix mo_SM g176 M)) (B := R (17, [some (aR 8 0), some (aI ((s : Nat) : Int)), some (aI ((k : Nat) : Int)), some (aI ((i : Nat) : Int))], [], am_mix mo_SM g176 M)) (by omega) (by omega) ?_)
      show R (17, [some (aR 8 0), some (aI ((s : Nat) : Int)), some (aI ((k : Nat) : Int)), some (aI ((i : Nat) : Int))], [], am_mix mo_SM g176 M)
      refine hR _ (hR _ (hR _ (hR _ (hR _ (hR _ (hR _ (hR _ (?_))))))))
      show R (28, [some (aR 8 0), some (aI ((s : Nat) : Int)), some (aI ((k : Nat) : Int)), some (aI ((i : Nat) : Int))], [aI ((40 * ((s : Nat) : Int)) + ((i : Nat) : Int)), aR 33 0, aR 8 0], am_mix mo_SM g176 M)
      refine hR _ ⟨(show 0 ≤ (((40 * ((s : Nat) : Int)) + ((i : Nat) : Int)) : Int) ∧ (((40 * ((s : Nat) : Int)) + ((i : Nat) : Int)) : Int) < 160 from (by omega)), ?_⟩
      show R (29, [some (aR 8 0), some (aI ((s : Nat) : Int)), some (aI ((k : Nat) : Int)), some (aI ((i : Nat) : Int))], [aI (M 33 0 ((((40 * ((s : Nat) : Int)) + ((i : Nat) : Int))).toNat)), aR 8 0], am_mix mo_SM g176 M)
      rw [(show M 33 0 ((((40 * ((s : Nat) : Int)) + ((i : Nat) : Int))).toNat) = c i by rw [show (((40 * ((s : Nat) : Int)) + ((i : Nat) : Int))).toNat = 40 * s + i by omega]; exact (hsh.2.2.2 i (by omega)).1)]
      show R (29, [some (aR 8 0), some (aI ((s : Nat) : Int)), some (aI ((k : Nat) : Int)), some (aI ((i : Nat) : Int))], [aI (c i), aR 8 0], am_mix mo_SM g176 M)
      refine hR _ (sm_oftenAt (by omega) hok hth (by omega) ?_)
      have hat29 := jf_at_b hok ((c i))
      show R (32, [some (aR 8 0), some (aI ((s : Nat) : Int)), some (aI ((k : Nat) : Int)), some (aI ((i : Nat) : Int))], [aL (jf_at p (c i))], am_mix mo_SM g176 M)
      refine hR _ (?_)
      show R (33, [some (aR 8 0), some (aI ((s : Nat) : Int)), some (aI ((k : Nat) : Int)), some (aI ((i : Nat) : Int))], [aL 0, aL (jf_at p (c i))], am_mix mo_SM g176 M)
      refine am_lc (x := (jf_at p (c i))) (y := 0) (P := (jf_at p (c i)) ≠ 0) (A := R (39, [some (aR 8 0), some (aI ((s : Nat) : Int)), some (aI ((k : Nat) : Int)), some (aI ((i : Nat) : Int))], [], am_mix mo_SM g176 M)) (B := R (37, [some (aR 8 0), some (aI ((s : Nat) : Int)), some (aI ((k : Nat) : Int)), some (aI ((i : Nat) : Int))], [], am_mix mo_SM g176 M)) (by omega) (fun hA hB => hR _ ⟨(by omega), (fun hz => hR _ (am_brt (P := (-1 : Int) ≠ 0) (A := R (39, [some (aR 8 0), some (aI ((s : Nat) : Int)), some (aI ((k : Nat) : Int)), some (aI ((i : Nat) : Int))], [], am_mix mo_SM g176 M)) (B := R (37, [some (aR 8 0), some (aI ((s : Nat) : Int)), some (aI ((k : Nat) : Int)), some (aI ((i : Nat) : Int))], [], am_mix mo_SM g176 M)) (by omega) (by omega) (hA (by omega)))), (fun hz => hR _ (am_brf (P := (0 : Int) ≠ 0) (A := R (39, [some (aR 8 0), some (aI ((s : Nat) : Int)), some (aI ((k : Nat) : Int)), some (aI ((i : Nat) : Int))], [], am_mix mo_SM g176 M)) (B := R (37, [some (aR 8 0), some (aI ((s : Nat) : Int)), some (aI ((k : Nat) : Int)), some (aI ((i : Nat) : Int))], [], am_mix mo_SM g176 M)) (by omega) (by omega) (hB (by omega)))), (fun hz => hR _ (am_brt (P := (1 : Int) ≠ 0) (A := R (39, [some (aR 8 0), some (aI ((s : Nat) : Int)), some (aI ((k : Nat) : Int)), some (aI ((i : Nat) : Int))], [], am_mix mo_SM g176 M)) (B := R (37, [some (aR 8 0), some (aI ((s : Nat) : Int)), some (aI ((k : Nat) : Int)), some (aI ((i : Nat) : Int))], [], am_mix mo_SM g176 M)) (by omega) (by omega) (hA (by omega))))⟩) (fun c33 => ?_) (fun c33 => ?_)
      · refine hR _ (hR _ (?_))
        show R (7, [some (aR 8 0), some (aI ((s : Nat) : Int)), some (aI ((k : Nat) : Int)), some (aI (((i : Nat) : Int) + 1))], [], am_mix mo_SM g176 M)
        rw [jf_fu, if_neg (by omega)] at he
        exact ih (i + 1) _ (by omega) (by omega) he
      · refine hR _ (?_)
        show R (38, [some (aR 8 0), some (aI ((s : Nat) : Int)), some (aI ((k : Nat) : Int)), some (aI ((i : Nat) : Int))], [aI ((i : Nat) : Int)], am_mix mo_SM g176 M)
        refine hR _ (show K (some (aI ((i : Nat) : Int))) (am_mix mo_SM g176 M) from ?_)
        rw [jf_fu, if_pos (by omega)] at he
        rw [← he] at h
        have e9 : am_ag mo_SM M (am_mix mo_SM g176 M) := (am_ag.rf).mix rfl
        rw [e9.eq]
        exact h _
  exact key n 0 _ rfl (by omega) rfl

theorem sm_partsOf {d : Nat} (hd : 8 ≤ d) {s k r n : Nat} {c : Nat → Int} {p : jf_par} {M : am_M} {K : am_K} (hsh : mo_sh M s c n) (hk : k < 5) (hr : M 431 0 0 = (r : Int)) (hr6 : r < 6) (hwt : mo_wt M r) (hp : mo_p M k r p) (hok : jf_ok p) (hmk : p.mk = M 22 0 0) (hst : p.st = 0) (h : ∀ g, K (some (aL (jf_pb p c n))) (am_mix mo_SM g M)) : am_Call true d 186 [aR 8 0, aI ((s : Nat) : Int), aI ((k : Nat) : Int)] M K := by
  obtain ⟨d, rfl⟩ : ∃ e, d = e + 1 := ⟨d - 1, by omega⟩
  refine ⟨rfl, fun R hR hC => ?_⟩
  replace hR : ∀ c, am_F true tb_f186 5 (am_Call true d) K R c → R c := hR
  have hs4 := hsh.1
  have hn4 := hsh.2.2.1
  show R (0, [some (aR 8 0), some (aI ((s : Nat) : Int)), some (aI ((k : Nat) : Int)), none, none, none], [], M)
  refine hR _ (hR _ (?_))
  show R (2, [some (aR 8 0), some (aI ((s : Nat) : Int)), some (aI ((k : Nat) : Int)), none, none, none], [aI ((k : Nat) : Int), aR 8 0], M)
  refine hR _ (sm_goes (p := p) (r := r) (by omega) hk hr hr6 hwt hp hok hmk hst (fun g177 hth => ?_))
  have hthr := hth.1
  have hthA := hth.2.1
  have hthN := hth.2.2
  show R (5, [some (aR 8 0), some (aI ((s : Nat) : Int)), some (aI ((k : Nat) : Int)), none, none, none], [], am_mix mo_SM g177 M)
  refine hR _ (hR _ (hR _ (hR _ (?_))))
  show R (12, [some (aR 8 0), some (aI ((s : Nat) : Int)), some (aI ((k : Nat) : Int)), some (aL 1000000000), none, some (aI 0)], [], am_mix mo_SM g177 M)
  have key : ∀ (f i : Nat) (x v : Int), x = (i : Int) → i + f = n → v = jf_pb p c i → R (12, [some (aR 8 0), some (aI ((s : Nat) : Int)), some (aI ((k : Nat) : Int)), some (aL v), none, some (aI x)], [], am_mix mo_SM g177 M) := by
    intro f
    induction f with
    | zero =>
      intro i x v hx hin hv
      subst hx
      refine hR _ (hR _ (hR _ (hR _ (?_))))
      show R (19, [some (aR 8 0), some (aI ((s : Nat) : Int)), some (aI ((k : Nat) : Int)), some (aL v), none, some (aI ((i : Nat) : Int))], [aI ((s : Nat) : Int), aR 32 0, aI ((i : Nat) : Int)], am_mix mo_SM g177 M)
      refine hR _ ⟨(show 0 ≤ (((s : Nat) : Int) : Int) ∧ (((s : Nat) : Int) : Int) < 4 from (by omega)), ?_⟩
      show R (20, [some (aR 8 0), some (aI ((s : Nat) : Int)), some (aI ((k : Nat) : Int)), some (aL v), none, some (aI ((i : Nat) : Int))], [aI (M 32 0 s), aI ((i : Nat) : Int)], am_mix mo_SM g177 M)
      rw [(show M 32 0 s = ((n : Nat) : Int) from hsh.2.1)]
      show R (20, [some (aR 8 0), some (aI ((s : Nat) : Int)), some (aI ((k : Nat) : Int)), some (aL v), none, some (aI ((i : Nat) : Int))], [aI ((n : Nat) : Int), aI ((i : Nat) : Int)], am_mix mo_SM g177 M)
      refine hR _ (am_brt (rg := am_in ((i : Nat) : Int) ∧ am_in ((n : Nat) : Int)) (P := ((n : Nat) : Int) ≤ ((i : Nat) : Int)) (A := R (54, [some (aR 8 0), some (aI ((s : Nat) : Int)), some (aI ((k : Nat) : Int)), some (aL v), none, some (aI ((i : Nat) : Int))], [], am_mix mo_SM g177 M)) (B := R (23, [some (aR 8 0), some (aI ((s : Nat) : Int)), some (aI ((k : Nat) : Int)), some (aL v), none, some (aI ((i : Nat) : Int))], [], am_mix mo_SM g177 M)) (by omega) (by omega) ?_)
      show R (54, [some (aR 8 0), some (aI ((s : Nat) : Int)), some (aI ((k : Nat) : Int)), some (aL v), none, some (aI ((i : Nat) : Int))], [], am_mix mo_SM g177 M)
      refine hR _ (?_)
      show R (55, [some (aR 8 0), some (aI ((s : Nat) : Int)), some (aI ((k : Nat) : Int)), some (aL v), none, some (aI ((i : Nat) : Int))], [aL v], am_mix mo_SM g177 M)
      refine hR _ (show K (some (aL v)) (am_mix mo_SM g177 M) from ?_)
      rw [hv, show i = n by omega]
      have e9 : am_ag mo_SM M (am_mix mo_SM g177 M) := (am_ag.rf).mix rfl
      rw [e9.eq]
      exact h _
    | succ f ih =>
      intro i x v hx hin hv
      subst hx
      have hci := (hsh.2.2.2 i (by omega)).2
      have hat := jf_at_b hok (c i)
      have hA := jf_A_b hok
      have hpb := jf_pb_b hok c i
      rw [← hv] at hpb
      have mb1 := jf_mb (a := v) (b := jf_at p (c i)) (A := 1000000000) (B := 65) (by omega) (by omega)
      refine hR _ (hR _ (hR _ (hR _ (?_))))
      show R (19, [some (aR 8 0), some (aI ((s : Nat) : Int)), some (aI ((k : Nat) : Int)), some (aL v), none, some (aI ((i : Nat) : Int))], [aI ((s : Nat) : Int), aR 32 0, aI ((i : Nat) : Int)], am_mix mo_SM g177 M)
      refine hR _ ⟨(show 0 ≤ (((s : Nat) : Int) : Int) ∧ (((s : Nat) : Int) : Int) < 4 from (by omega)), ?_⟩
      show R (20, [some (aR 8 0), some (aI ((s : Nat) : Int)), some (aI ((k : Nat) : Int)), some (aL v), none, some (aI ((i : Nat) : Int))], [aI (M 32 0 s), aI ((i : Nat) : Int)], am_mix mo_SM g177 M)
      rw [(show M 32 0 s = ((n : Nat) : Int) from hsh.2.1)]
      show R (20, [some (aR 8 0), some (aI ((s : Nat) : Int)), some (aI ((k : Nat) : Int)), some (aL v), none, some (aI ((i : Nat) : Int))], [aI ((n : Nat) : Int), aI ((i : Nat) : Int)], am_mix mo_SM g177 M)
      refine hR _ (am_brf (rg := am_in ((i : Nat) : Int) ∧ am_in ((n : Nat) : Int)) (P := ((n : Nat) : Int) ≤ ((i : Nat) : Int)) (A := R (54, [some (aR 8 0), some (aI ((s : Nat) : Int)), some (aI ((k : Nat) : Int)), some (aL v), none, some (aI ((i : Nat) : Int))], [], am_mix mo_SM g177 M)) (B := R (23, [some (aR 8 0), some (aI ((s : Nat) : Int)), some (aI ((k : Nat) : Int)), some (aL v), none, some (aI ((i : Nat) : Int))], [], am_mix mo_SM g177 M)) (by omega) (by omega) ?_)
      show R (23, [some (aR 8 0), some (aI ((s : Nat) : Int)), some (aI ((k : Nat) : Int)), some (aL v), none, some (aI ((i : Nat) : Int))], [], am_mix mo_SM g177 M)
      refine hR _ (hR _ (hR _ (hR _ (hR _ (hR _ (hR _ (hR _ (hR _ (?_)))))))))
      show R (36, [some (aR 8 0), some (aI ((s : Nat) : Int)), some (aI ((k : Nat) : Int)), some (aL v), none, some (aI ((i : Nat) : Int))], [aI ((40 * ((s : Nat) : Int)) + ((i : Nat) : Int)), aR 33 0, aR 8 0, aL v], am_mix mo_SM g177 M)
      refine hR _ ⟨(show 0 ≤ (((40 * ((s : Nat) : Int)) + ((i : Nat) : Int)) : Int) ∧ (((40 * ((s : Nat) : Int)) + ((i : Nat) : Int)) : Int) < 160 from (by omega)), ?_⟩
      show R (37, [some (aR 8 0), some (aI ((s : Nat) : Int)), some (aI ((k : Nat) : Int)), some (aL v), none, some (aI ((i : Nat) : Int))], [aI (M 33 0 ((((40 * ((s : Nat) : Int)) + ((i : Nat) : Int))).toNat)), aR 8 0, aL v], am_mix mo_SM g177 M)
      rw [(show M 33 0 ((((40 * ((s : Nat) : Int)) + ((i : Nat) : Int))).toNat) = c i by rw [show (((40 * ((s : Nat) : Int)) + ((i : Nat) : Int))).toNat = 40 * s + i by omega]; exact (hsh.2.2.2 i (by omega)).1)]
      show R (37, [some (aR 8 0), some (aI ((s : Nat) : Int)), some (aI ((k : Nat) : Int)), some (aL v), none, some (aI ((i : Nat) : Int))], [aI (c i), aR 8 0, aL v], am_mix mo_SM g177 M)
      refine hR _ (sm_oftenAt (by omega) hok hth (by omega) ?_)
      have hat37 := jf_at_b hok ((c i))
      show R (40, [some (aR 8 0), some (aI ((s : Nat) : Int)), some (aI ((k : Nat) : Int)), some (aL v), none, some (aI ((i : Nat) : Int))], [aL (jf_at p (c i)), aL v], am_mix mo_SM g177 M)
      refine hR _ (hR _ (hR _ (?_)))
      show R (45, [some (aR 8 0), some (aI ((s : Nat) : Int)), some (aI ((k : Nat) : Int)), some (aL v), none, some (aI ((i : Nat) : Int))], [aI (g177 454 0 0), aL (v * (jf_at p (c i)))], am_mix mo_SM g177 M)
      rw [(show g177 454 0 0 = jf_A p from hthA)]
      show R (45, [some (aR 8 0), some (aI ((s : Nat) : Int)), some (aI ((k : Nat) : Int)), some (aL v), none, some (aI ((i : Nat) : Int))], [aI (jf_A p), aL (v * (jf_at p (c i)))], am_mix mo_SM g177 M)
      refine hR _ ⟨(by omega), ?_⟩
      show R (46, [some (aR 8 0), some (aI ((s : Nat) : Int)), some (aI ((k : Nat) : Int)), some (aL v), none, some (aI ((i : Nat) : Int))], [aL (jf_A p), aL (v * (jf_at p (c i)))], am_mix mo_SM g177 M)
      refine hR _ ⟨(by omega), ?_⟩
      show R (47, [some (aR 8 0), some (aI ((s : Nat) : Int)), some (aI ((k : Nat) : Int)), some (aL v), none, some (aI ((i : Nat) : Int))], [aL (Int.tdiv (v * (jf_at p (c i))) (jf_A p))], am_mix mo_SM g177 M)
      refine hR _ (hR _ (hR _ (?_)))
      show R (12, [some (aR 8 0), some (aI ((s : Nat) : Int)), some (aI ((k : Nat) : Int)), some (aL (Int.tdiv (v * (jf_at p (c i))) (jf_A p))), none, some (aI (((i : Nat) : Int) + 1))], [], am_mix mo_SM g177 M)
      refine ih (i + 1) _ _ (by omega) (by omega) ?_
      rw [hv]
      rfl
  exact key n 0 _ _ rfl (by omega) rfl

set_option maxHeartbeats 1000000 in
theorem sm_judge {d : Nat} (hd : 10 ≤ d) {sa h : Int} {M : am_M} {K : am_K} (hJ : jf_J M) (hW : jf_C M) (ha_sa : am_in sa) (ha_h : am_in h) (hK : ∀ g, K (some (aI (jx_judge M sa h))) (am_mix mo_SM g M)) : am_Call true d 181 [aR 8 0, aI sa, aI h] M K := by
  obtain ⟨d, rfl⟩ : ∃ e, d = e + 1 := ⟨d - 1, by omega⟩
  refine ⟨rfl, fun R hR hC => ?_⟩
  replace hR : ∀ c, am_F true tb_f181 1 (am_Call true d) K R c → R c := hR
  have hn := hJ.1.1.2.2.2.2.2.2.2.1
  have hl0 := hJ.1.1.2.2.2.2.2.2.2.2
  have htc := hJ.2.2.1.1
  have hlt : 0 ≤ M 228 0 0 ∧ M 228 0 0 < 6 := by omega
  have hmk := hJ.1.1.1
  have hdr := hJ.1.1.2.1
  have hpr := hJ.1.1.2.2.1
  have hfu := hJ.1.1.2.2.2.1
  have hn' : 0 ≤ M 421 0 0 ∧ M 421 0 0 ≤ 5 := by rw [hW.1.2.1.1]; exact hn
  have h421 : M 421 0 0 = M 227 0 0 := hW.1.2.1.1
  show R (0, [some (aR 8 0), some (aI sa), some (aI h), none], [], M)
  have split3 : (∃ s k : Nat, sa = (s : Int) ∧ s < 4 ∧ M 180 s 0 ≠ -1 ∧ h = (k : Int) ∧ (k : Int) < M 227 0 0 ∧ k < 5) ∨ ¬ ((0 ≤ sa ∧ sa < 4) ∧ M 180 sa.toNat 0 ≠ -1 ∧ 0 ≤ h ∧ h < M 227 0 0) := by
    by_cases hh : (0 ≤ sa ∧ sa < 4) ∧ M 180 sa.toNat 0 ≠ -1 ∧ 0 ≤ h ∧ h < M 227 0 0
    · exact Or.inl ⟨sa.toNat, h.toNat, by omega, by omega, hh.2.1, by omega, by omega, by omega⟩
    · exact Or.inr hh
  rcases split3 with ⟨s, k, rfl, hs4, hms, rfl, hk5, hk⟩ | hbad
  · obtain ⟨r, hrr⟩ : ∃ r, r = (M 228 0 0).toNat := ⟨_, rfl⟩
    have hr : M 431 0 0 = (r : Int) := by rw [hW.1.2.1.2.2.1]; omega
    have hr6 : r < 6 := by omega
    have hwt : mo_wt M r := (hW.2.1.2.2 r (by omega)).1
    obtain ⟨p, hpp⟩ : ∃ p, p = jf_px M k := ⟨_, rfl⟩
    have hp : mo_p M k r p := by rw [hpp, hrr]; exact jf_C.p hJ hW hk (by omega)
    have hok : jf_ok p := by rw [hpp]; exact hJ.px hk
    have hpm : p.mk = M 22 0 0 := by rw [hpp]; exact hW.1.1.1.symm
    have hps : p.st = 0 := by rw [hpp]
    have hpb := jf_P_b hok
    have hA := jf_A_b hok
    have hsh := jf_C.sh hJ hW hs4
    show R (0, [some (aR 8 0), some (aI ((s : Nat) : Int)), some (aI ((k : Nat) : Int)), none], [], M)
    refine hR _ (hR _ (hR _ (?_)))
    show R (3, [some (aR 8 0), some (aI ((s : Nat) : Int)), some (aI ((k : Nat) : Int)), none], [aI ((k : Nat) : Int), aI ((s : Nat) : Int), aR 8 0], M)
    refine hR _ (sm_toldWrong (by omega) hJ hW (by omega) (by omega) ?_)
    rw [mo_tw_0 hs4 hms hk5]
    show R (6, [some (aR 8 0), some (aI ((s : Nat) : Int)), some (aI ((k : Nat) : Int)), none], [aI 0], M)
    refine hR _ (hR _ (hR _ (am_brf (rg := am_in 0) (P := (0 : Int) ≠ 0) (A := R (20, [some (aR 8 0), some (aI ((s : Nat) : Int)), some (aI ((k : Nat) : Int)), some (aI 0)], [], M)) (B := R (11, [some (aR 8 0), some (aI ((s : Nat) : Int)), some (aI ((k : Nat) : Int)), some (aI 0)], [], M)) (by omega) (by omega) ?_)))
    show R (11, [some (aR 8 0), some (aI ((s : Nat) : Int)), some (aI ((k : Nat) : Int)), some (aI 0)], [], M)
    refine hR _ (hR _ (hR _ (?_)))
    show R (14, [some (aR 8 0), some (aI ((s : Nat) : Int)), some (aI ((k : Nat) : Int)), some (aI 0)], [aI ((k : Nat) : Int), aI ((s : Nat) : Int), aR 8 0], M)
    refine hR _ (sm_unlikely (p := p) (r := r) (s := s) (c := M 21 s) (n := (M 181 s 0).toNat) (by omega) hsh hk hr hr6 hwt hp hok hpm hps (fun g178 => ?_))
    have hfu := jf_fu_b p (M 21 s) (M 181 s 0).toNat 0
    show R (17, [some (aR 8 0), some (aI ((s : Nat) : Int)), some (aI ((k : Nat) : Int)), some (aI 0)], [aI (jf_fu p (M 21 s) (M 181 s 0).toNat 0)], am_mix mo_SM g178 M)
    refine hR _ (?_)
    show R (21, [some (aR 8 0), some (aI ((s : Nat) : Int)), some (aI ((k : Nat) : Int)), some (aI 0)], [aI (jf_fu p (M 21 s) (M 181 s 0).toNat 0)], am_mix mo_SM g178 M)
    refine hR _ (show K (some (aI (jf_fu p (M 21 s) (M 181 s 0).toNat 0))) (am_mix mo_SM g178 M) from ?_)
    have hres : jx_judge M ((s : Nat) : Int) ((k : Nat) : Int) = (jf_fu p (M 21 s) (M 181 s 0).toNat 0) := by
      unfold jx_judge
      rw [hpp]
      repeat' split
      all_goals first | rfl | omega | (exfalso; omega) | (exfalso; exact hms (by assumption))
    rw [hres] at hK
    have e9 : am_ag mo_SM M (am_mix mo_SM g178 M) := (am_ag.rf).mix rfl
    rw [e9.eq]
    exact hK _
  · show R (0, [some (aR 8 0), some (aI sa), some (aI h), none], [], M)
    refine hR _ (hR _ (hR _ (?_)))
    show R (3, [some (aR 8 0), some (aI sa), some (aI h), none], [aI h, aI sa, aR 8 0], M)
    refine hR _ (sm_toldWrong (by omega) hJ hW (by omega) (by omega) ?_)
    have htw := mo_tw_1 hbad
    show R (6, [some (aR 8 0), some (aI sa), some (aI h), none], [aI (mo_tw M sa h)], M)
    refine hR _ (hR _ (hR _ (am_brt (rg := am_in (mo_tw M sa h)) (P := (mo_tw M sa h) ≠ 0) (A := R (20, [some (aR 8 0), some (aI sa), some (aI h), some (aI (mo_tw M sa h))], [], M)) (B := R (11, [some (aR 8 0), some (aI sa), some (aI h), some (aI (mo_tw M sa h))], [], M)) (by omega) (by omega) ?_)))
    show R (20, [some (aR 8 0), some (aI sa), some (aI h), some (aI (mo_tw M sa h))], [], M)
    refine hR _ (?_)
    show R (21, [some (aR 8 0), some (aI sa), some (aI h), some (aI (mo_tw M sa h))], [aI (mo_tw M sa h)], M)
    refine hR _ (show K (some (aI (mo_tw M sa h))) M from ?_)
    have hres : jx_judge M sa h = (mo_tw M sa h) := by
      unfold jx_judge
      unfold mo_tw
      repeat' split
      all_goals first | rfl | omega | (exfalso; apply hbad; exact ⟨by omega, by assumption, by omega⟩)
    rw [hres] at hK
    have e9 : am_ag mo_SM M M := am_ag.rf
    rw [e9.eq]
    exact hK _

set_option maxHeartbeats 1000000 in
theorem sm_parts {d : Nat} (hd : 10 ≤ d) {sa h : Int} {M : am_M} {K : am_K} (hJ : jf_J M) (hW : jf_C M) (ha_sa : am_in sa) (ha_h : am_in h) (hK : ∀ g, K (some (aL (jx_parts M sa h))) (am_mix mo_SM g M)) : am_Call true d 185 [aR 8 0, aI sa, aI h] M K := by
  obtain ⟨d, rfl⟩ : ∃ e, d = e + 1 := ⟨d - 1, by omega⟩
  refine ⟨rfl, fun R hR hC => ?_⟩
  replace hR : ∀ c, am_F true tb_f185 5 (am_Call true d) K R c → R c := hR
  have hn := hJ.1.1.2.2.2.2.2.2.2.1
  have hl0 := hJ.1.1.2.2.2.2.2.2.2.2
  have htc := hJ.2.2.1.1
  have hlt : 0 ≤ M 228 0 0 ∧ M 228 0 0 < 6 := by omega
  have hmk := hJ.1.1.1
  have hdr := hJ.1.1.2.1
  have hpr := hJ.1.1.2.2.1
  have hfu := hJ.1.1.2.2.2.1
  have hn' : 0 ≤ M 421 0 0 ∧ M 421 0 0 ≤ 5 := by rw [hW.1.2.1.1]; exact hn
  have h421 : M 421 0 0 = M 227 0 0 := hW.1.2.1.1
  show R (0, [some (aR 8 0), some (aI sa), some (aI h)], [], M)
  have split3 : (∃ s k : Nat, sa = (s : Int) ∧ s < 4 ∧ M 180 s 0 ≠ -1 ∧ h = (k : Int) ∧ (k : Int) < M 227 0 0 ∧ k < 5) ∨ ¬ ((0 ≤ sa ∧ sa < 4) ∧ M 180 sa.toNat 0 ≠ -1 ∧ 0 ≤ h ∧ h < M 227 0 0) := by
    by_cases hh : (0 ≤ sa ∧ sa < 4) ∧ M 180 sa.toNat 0 ≠ -1 ∧ 0 ≤ h ∧ h < M 227 0 0
    · exact Or.inl ⟨sa.toNat, h.toNat, by omega, by omega, hh.2.1, by omega, by omega, by omega⟩
    · exact Or.inr hh
  rcases split3 with ⟨s, k, rfl, hs4, hms, rfl, hk5, hk⟩ | hbad
  · obtain ⟨r, hrr⟩ : ∃ r, r = (M 228 0 0).toNat := ⟨_, rfl⟩
    have hr : M 431 0 0 = (r : Int) := by rw [hW.1.2.1.2.2.1]; omega
    have hr6 : r < 6 := by omega
    have hwt : mo_wt M r := (hW.2.1.2.2 r (by omega)).1
    obtain ⟨p, hpp⟩ : ∃ p, p = jf_px M k := ⟨_, rfl⟩
    have hp : mo_p M k r p := by rw [hpp, hrr]; exact jf_C.p hJ hW hk (by omega)
    have hok : jf_ok p := by rw [hpp]; exact hJ.px hk
    have hpm : p.mk = M 22 0 0 := by rw [hpp]; exact hW.1.1.1.symm
    have hps : p.st = 0 := by rw [hpp]
    have hpb := jf_P_b hok
    have hA := jf_A_b hok
    have hsh := jf_C.sh hJ hW hs4
    show R (0, [some (aR 8 0), some (aI ((s : Nat) : Int)), some (aI ((k : Nat) : Int))], [], M)
    refine hR _ (hR _ (hR _ (?_)))
    show R (3, [some (aR 8 0), some (aI ((s : Nat) : Int)), some (aI ((k : Nat) : Int))], [aI ((k : Nat) : Int), aI ((s : Nat) : Int), aR 8 0], M)
    refine hR _ (sm_toldWrong (by omega) hJ hW (by omega) (by omega) ?_)
    rw [mo_tw_0 hs4 hms hk5]
    show R (6, [some (aR 8 0), some (aI ((s : Nat) : Int)), some (aI ((k : Nat) : Int))], [aI 0], M)
    refine hR _ (am_brf (rg := am_in 0) (P := (0 : Int) ≠ 0) (A := R (18, [some (aR 8 0), some (aI ((s : Nat) : Int)), some (aI ((k : Nat) : Int))], [], M)) (B := R (9, [some (aR 8 0), some (aI ((s : Nat) : Int)), some (aI ((k : Nat) : Int))], [], M)) (by omega) (by omega) ?_)
    show R (9, [some (aR 8 0), some (aI ((s : Nat) : Int)), some (aI ((k : Nat) : Int))], [], M)
    refine hR _ (hR _ (hR _ (?_)))
    show R (12, [some (aR 8 0), some (aI ((s : Nat) : Int)), some (aI ((k : Nat) : Int))], [aI ((k : Nat) : Int), aI ((s : Nat) : Int), aR 8 0], M)
    refine hR _ (sm_partsOf (p := p) (r := r) (s := s) (c := M 21 s) (n := (M 181 s 0).toNat) (by omega) hsh hk hr hr6 hwt hp hok hpm hps (fun g179 => ?_))
    have hpbb := jf_pb_b hok (M 21 s) (M 181 s 0).toNat
    show R (15, [some (aR 8 0), some (aI ((s : Nat) : Int)), some (aI ((k : Nat) : Int))], [aL (jf_pb p (M 21 s) (M 181 s 0).toNat)], am_mix mo_SM g179 M)
    refine hR _ (?_)
    show R (21, [some (aR 8 0), some (aI ((s : Nat) : Int)), some (aI ((k : Nat) : Int))], [aL (jf_pb p (M 21 s) (M 181 s 0).toNat)], am_mix mo_SM g179 M)
    refine hR _ (show K (some (aL (jf_pb p (M 21 s) (M 181 s 0).toNat))) (am_mix mo_SM g179 M) from ?_)
    have hres : jx_parts M ((s : Nat) : Int) ((k : Nat) : Int) = (jf_pb p (M 21 s) (M 181 s 0).toNat) := by
      unfold jx_parts
      rw [hpp]
      repeat' split
      all_goals first | rfl | omega | (exfalso; omega) | (exfalso; exact hms (by assumption))
    rw [hres] at hK
    have e9 : am_ag mo_SM M (am_mix mo_SM g179 M) := (am_ag.rf).mix rfl
    rw [e9.eq]
    exact hK _
  · show R (0, [some (aR 8 0), some (aI sa), some (aI h)], [], M)
    refine hR _ (hR _ (hR _ (?_)))
    show R (3, [some (aR 8 0), some (aI sa), some (aI h)], [aI h, aI sa, aR 8 0], M)
    refine hR _ (sm_toldWrong (by omega) hJ hW (by omega) (by omega) ?_)
    have htw := mo_tw_1 hbad
    show R (6, [some (aR 8 0), some (aI sa), some (aI h)], [aI (mo_tw M sa h)], M)
    refine hR _ (am_brt (rg := am_in (mo_tw M sa h)) (P := (mo_tw M sa h) ≠ 0) (A := R (18, [some (aR 8 0), some (aI sa), some (aI h)], [], M)) (B := R (9, [some (aR 8 0), some (aI sa), some (aI h)], [], M)) (by omega) (by omega) ?_)
    show R (18, [some (aR 8 0), some (aI sa), some (aI h)], [], M)
    refine hR _ (?_)
    show R (21, [some (aR 8 0), some (aI sa), some (aI h)], [aL (-4611686018427387904)], M)
    refine hR _ (show K (some (aL (-4611686018427387904))) M from ?_)
    have hres : jx_parts M sa h = (-4611686018427387904) := by
      unfold jx_parts
      repeat' split
      all_goals first | rfl | omega | (exfalso; apply hbad; exact ⟨by omega, by assumption, by omega⟩)
    rw [hres] at hK
    have e9 : am_ag mo_SM M M := am_ag.rf
    rw [e9.eq]
    exact hK _
