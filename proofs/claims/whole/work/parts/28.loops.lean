/-! wb -/
variable {wb : Bool}
/-! The class's questions with loops -/
def jf_bp (s : Int × Int × Int) (A B V : Int) : Prop := (-1 ≤ s.1 ∧ s.1 ≤ V) ∧ (-A ≤ s.2.1 ∧ s.2.1 ≤ A) ∧ 1 ≤ s.2.2 ∧ s.2.2 ≤ B
theorem jf_bst_b {s : Int × Int × Int} {v a b A B V : Int} (hs : jf_bp s A B V) (h : (-1 ≤ v ∧ v ≤ V) ∧ (-A ≤ a ∧ a ≤ A) ∧ 1 ≤ b ∧ b ≤ B) : jf_bp (jf_bst s v a b) A B V := by
  unfold jf_bst
  split
  · exact h
  · exact hs
theorem jf_best_b {v : Nat → Int} {f : Nat → Int × Int} {A B V : Int} {N : Nat} (hA : 0 ≤ A) (hB : 1 ≤ B) (hV : -1 ≤ V) (h : ∀ i, i < N → (-1 ≤ v i ∧ v i ≤ V) ∧ (-A ≤ (f i).1 ∧ (f i).1 ≤ A) ∧ 1 ≤ (f i).2 ∧ (f i).2 ≤ B) : ∀ n, n ≤ N → jf_bp (jf_best v f n) A B V := by
  intro n
  induction n with
  | zero =>
    intro _
    refine ⟨⟨?_, ?_⟩, ⟨?_, ?_⟩, ?_, ?_⟩ <;> (unfold jf_best; dsimp only; omega)
  | succ n ih =>
    intro hn
    exact jf_bst_b (ih (by omega)) (h n (by omega))
def jf_cb (c : Nat → Bool) (v : Nat → Int) (f : Nat → Int × Int) : Nat → Int × Int × Int
  | 0 => (-1, 0, 1)
  | n + 1 => bif c n then jf_cb c v f n else jf_bst (jf_cb c v f n) (v n) (f n).1 (f n).2
theorem jf_cb_b {c : Nat → Bool} {v : Nat → Int} {f : Nat → Int × Int} {A B V : Int} {N : Nat} (hA : 0 ≤ A) (hB : 1 ≤ B) (hV : -1 ≤ V) (h : ∀ i, i < N → (-1 ≤ v i ∧ v i ≤ V) ∧ (-A ≤ (f i).1 ∧ (f i).1 ≤ A) ∧ 1 ≤ (f i).2 ∧ (f i).2 ≤ B) : ∀ n, n ≤ N → jf_bp (jf_cb c v f n) A B V := by
  intro n
  induction n with
  | zero =>
    intro _
    refine ⟨⟨?_, ?_⟩, ⟨?_, ?_⟩, ?_, ?_⟩ <;> (unfold jf_cb; dsimp only; omega)
  | succ n ih =>
    intro hn
    unfold jf_cb
    cases c n with
    | true => exact ih (by omega)
    | false => exact jf_bst_b (ih (by omega)) (h n (by omega))
abbrev jf_pn (M : am_M) (k i : Nat) : jf_par := jf_xp M k (M 228 0 0).toNat (M 220 0 0 + 100 * (i : Int)) 0
abbrev jf_pa (M : am_M) (k : Nat) (v : Int) : jf_par := (M 140 k 0, M 141 k 0, v, M 143 k 0, M 221 0 0, M 222 0 0, M 223 0 0, jf_tk M (M 228 0 0).toNat, M 220 0 0, 0)
abbrev jf_pc (M : am_M) (k : Nat) (v : Int) : jf_par := (M 140 k 0, M 141 k 0, M 142 k 0, v, M 221 0 0, M 222 0 0, M 223 0 0, jf_tk M (M 228 0 0).toNat, M 220 0 0, 0)
def jf_bn (M : am_M) (k : Nat) : Nat → Int × Int × Int := jf_best (fun i => M 220 0 0 + 100 * (i : Int)) (fun i => (-jf_cc (jf_pn M k i) (M 220 0 0 + 100 * (i : Int)), jf_A (jf_pn M k i)))
def jf_bw (M : am_M) (goal : Int) : Nat → Int × Int × Int := jf_best (fun i => (i : Int)) (fun i => (jf_wo (jf_px M i) goal, jf_A (jf_px M i)))
def jf_ba (M : am_M) (k : Nat) (goal : Int) : Nat → Int × Int × Int := jf_best (fun i => (i : Int)) (fun i => (jf_wo (jf_pa M k i) (if goal ≠ 0 then 2 else 0), jf_A (jf_pa M k i)))
def jf_bc (M : am_M) (k : Nat) (goal : Int) : Nat → Int × Int × Int := jf_cb (fun i => decide (goal = 1 ∧ ¬ jf_at (jf_px M k) (M 220 0 0) * jf_A (jf_pc M k (10 * (i : Int))) ≤ jf_at (jf_pc M k (10 * (i : Int))) (M 220 0 0) * jf_A (jf_px M k))) (fun i => 10 * (i : Int)) (fun i => (jf_wo (jf_pc M k (10 * (i : Int))) (if goal ≠ 0 then 1 else 0), jf_A (jf_pc M k (10 * (i : Int)))))
def jx_next (M : am_M) (h : Int) : Int := if 0 ≤ h ∧ h < M 227 0 0 then (jf_bn M h.toNat 10).1 else -5
def jx_who (M : am_M) (goal : Int) : Int := if 0 ≤ goal ∧ goal ≤ 2 then (jf_bw M goal (M 227 0 0).toNat).1 else -2
def jx_ahead (M : am_M) (h goal : Int) : Int := if 0 ≤ h ∧ h < M 227 0 0 then (if 0 ≤ goal ∧ goal ≤ 1 then (jf_ba M h.toNat goal 100).1 else -7) else -5
def jx_change (M : am_M) (h goal : Int) : Int := if 0 ≤ h ∧ h < M 227 0 0 then (if 0 ≤ goal ∧ goal ≤ 1 then (jf_bc M h.toNat goal 51).1 else -7) else -5
def jf_po (M : am_M) (k : Nat) (e : Int) : jf_par := jf_xp M k (M 228 0 0).toNat ((Int.tdiv e 100 + 1) * 100) e
def jx_on (M : am_M) (h e q : Int) : Int := if (0 ≤ h ∧ h < M 227 0 0) ∧ 0 ≤ e ∧ e ≤ 5000 then jf_il (jf_cc (jf_po M h.toNat e) ((Int.tdiv e 100 + 1) * 100) - jf_co (jf_po M h.toNat e) (M 220 0 0) e * jf_A (jf_po M h.toNat e)) (jf_A (jf_po M h.toNat e)) q else -4611686018427387904
/-- the first sum that is round in both ways -/
def jf_bo (b pr : Int) : Nat → Int → Int
  | 0, _ => -1
  | n + 1, s => if Int.tmod s b = 0 ∧ Int.tmod (4 * s) pr = 0 then s else jf_bo b pr n (s + 1)
def jx_bo (M : am_M) (e b : Int) : Int := if (0 ≤ e ∧ e ≤ 5000) ∧ 1 ≤ b ∧ b ≤ 100 then jf_bo b (M 222 0 0) 1001 e else -2

set_option maxHeartbeats 1000000 in
theorem sq_on {d : Nat} (hd : 8 ≤ d) {h e q : Int} {M : am_M} {K : am_K} (hJ : jf_J M) (ha_h : am_in h) (ha_e : am_in e) (ha_q : am_in q) (hK : ∀ g, K (some (aL (jx_on M h e q))) (am_mix [12, 13, 14, 263, 264, 265, 266, 346, 17, 19, 100, 101, 102] g M)) : am_Call wb d 83 [aR 7 0, aI h, aI e, aI q] M K := by
  obtain ⟨d, rfl⟩ : ∃ e, d = e + 1 := ⟨d - 1, by omega⟩
  refine ⟨rfl, fun R hR hC => ?_⟩
  replace hR : ∀ c, am_F wb tb_f83 5 (am_Call wb d) K R c → R c := hR
  have hn := hJ.1.1.2.2.2.2.2.2.2.1
  have hl0 := hJ.1.1.2.2.2.2.2.2.2.2
  have htc := hJ.2.2.1.1
  have hlt : 0 ≤ M 228 0 0 ∧ M 228 0 0 < 6 := by omega
  have hmk := hJ.1.1.1
  have hdr := hJ.1.1.2.1
  have hpr := hJ.1.1.2.2.1
  have hfu := hJ.1.1.2.2.2.1
  have hmo : ∀ k : Nat, k < 5 → 0 ≤ M 141 k 0 ∧ M 141 k 0 ≤ 9 := fun k hk => (hJ.2.1 k hk).2.1
  show R (0, [some (aR 7 0), some (aI h), some (aI e), some (aI q), none, none, none, none], [], M)
  refine hR _ (hR _ (?_))
  show R (2, [some (aR 7 0), some (aI h), some (aI e), some (aI q), none, none, none, none], [aI h, aR 7 0], M)
  refine hR _ (sp_handAt (by omega) hn (by omega) (fun k hhk hk5 => ?_) (fun hno => ?_))
  · replace hk5 : (k : Int) < M 227 0 0 := hk5
    have hkw := hJ.wk (k := k) (by omega)
    have hok := hJ.px (k := k) (by omega)
    show R (5, [some (aR 7 0), some (aI h), some (aI e), some (aI q), none, none, none, none], [aR 1 k], M)
    refine hR _ (hR _ (hR _ (hR _ (hR _ (hR _ (?_))))))
    show R (17, [some (aR 7 0), some (aI h), some (aI e), some (aI q), some (aR 1 k), none, none, none], [aI 5000, aI 0, aI e], M)
    refine hR _ (sp_within (by omega) (by omega) (fun h17 => ?_) (fun h17 => ?_))
    · show R (20, [some (aR 7 0), some (aI h), some (aI e), some (aI q), some (aR 1 k), none, none, none], [aI 1], M)
      refine hR _ (am_brt (rg := am_in 1) (P := (1 : Int) ≠ 0) (A := R (27, [some (aR 7 0), some (aI h), some (aI e), some (aI q), some (aR 1 k), none, none, none], [], M)) (B := R (23, [some (aR 7 0), some (aI h), some (aI e), some (aI q), some (aR 1 k), none, none, none], [], M)) (by omega) (by omega) ?_)
      show R (27, [some (aR 7 0), some (aI h), some (aI e), some (aI q), some (aR 1 k), none, none, none], [], M)
      refine hR _ (hR _ (?_))
      show R (30, [some (aR 7 0), some (aI h), some (aI e), some (aI q), some (aR 1 k), none, none, none], [aI 100, aI e], M)
      refine hR _ ⟨(by omega), ?_⟩
      show R (31, [some (aR 7 0), some (aI h), some (aI e), some (aI q), some (aR 1 k), none, none, none], [aI (Int.tdiv e 100)], M)
      have htd : 0 ≤ Int.tdiv e 100 ∧ Int.tdiv e 100 ≤ 50 := by
          rw [jf_td _ _ (by omega)]
          omega
      have hmk1 := (hJ.2.1 k (by omega)).2.1
      refine hR _ (hR _ (hR _ (hR _ (hR _ (hR _ (hR _ (hR _ (hR _ (?_)))))))))
      show R (45, [some (aR 7 0), some (aI h), some (aI e), some (aI q), some (aR 1 k), some (aI (((Int.tdiv e 100) + 1) * 100)), none, none], [aR 7 0, aR 1 k, aR 4 0], M)
      refine hR _ (sp_lawText (by omega) hlt ?_)
      show R (48, [some (aR 7 0), some (aI h), some (aI e), some (aI q), some (aR 1 k), some (aI (((Int.tdiv e 100) + 1) * 100)), none, none], [aR 6 ((M 228 0 0).toNat), aR 1 k, aR 4 0], M)
      refine hR _ (hR _ (hR _ (hR _ (?_))))
      show R (55, [some (aR 7 0), some (aI h), some (aI e), some (aI q), some (aR 1 k), some (aI (((Int.tdiv e 100) + 1) * 100)), none, none], [aI e, aI (((Int.tdiv e 100) + 1) * 100), aR 3 0, aR 6 ((M 228 0 0).toNat), aR 1 k, aR 4 0], M)
      refine hR _ (sp_think (by omega) hkw (hJ.ok (by omega) (by omega) (by omega)) (fun g66 hth => ?_))
      have hok : jf_ok (jf_xp M k (M 228 0 0).toNat (((Int.tdiv e 100) + 1) * 100) e) := hJ.ok (by omega) (by omega) (by omega)
      obtain ⟨p, hp⟩ : ∃ p, p = jf_xp M k (M 228 0 0).toNat (((Int.tdiv e 100) + 1) * 100) e := ⟨_, rfl⟩
      replace hth : jf_th (am_mix [12, 13, 14, 263, 264, 265, 266, 346, 17, 19] g66 M) (jf_xp M k (M 228 0 0).toNat (((Int.tdiv e 100) + 1) * 100) e) := hth
      rw [← hp] at hth hok
      have hthA : g66 263 0 0 = jf_A p := hth.2.1
      have hthN : g66 264 0 0 = (jf_P p).2.2 := hth.2.2
      have hA := jf_A_b hok
      have hPb := jf_P_b hok
      show R (58, [some (aR 7 0), some (aI h), some (aI e), some (aI q), some (aR 1 k), some (aI (((Int.tdiv e 100) + 1) * 100)), none, none], [], am_mix [12, 13, 14, 263, 264, 265, 266, 346, 17, 19] g66 M)
      refine hR _ (?_)
      show R (59, [some (aR 7 0), some (aI h), some (aI e), some (aI q), some (aR 1 k), some (aI (((Int.tdiv e 100) + 1) * 100)), none, none], [aR 7 0], am_mix [12, 13, 14, 263, 264, 265, 266, 346, 17, 19] g66 M)
      refine hR _ (sp_lawText (by omega) hlt ?_)
      show R (62, [some (aR 7 0), some (aI h), some (aI e), some (aI q), some (aR 1 k), some (aI (((Int.tdiv e 100) + 1) * 100)), none, none], [aR 6 ((M 228 0 0).toNat)], am_mix [12, 13, 14, 263, 264, 265, 266, 346, 17, 19] g66 M)
      refine hR _ (?_)
      show R (64, [some (aR 7 0), some (aI h), some (aI e), some (aI q), some (aR 1 k), some (aI (((Int.tdiv e 100) + 1) * 100)), none, none], [aR 1 k, aR 6 ((M 228 0 0).toNat)], am_mix [12, 13, 14, 263, 264, 265, 266, 346, 17, 19] g66 M)
      refine hR _ (am_ct (am_vi (by omega : k < 6)) ?_)
      show R (67, [some (aR 7 0), some (aI h), some (aI e), some (aI q), some (aR 1 k), some (aI (((Int.tdiv e 100) + 1) * 100)), none, none], [aI (M 141 k 0), aR 6 ((M 228 0 0).toNat)], am_mix [12, 13, 14, 263, 264, 265, 266, 346, 17, 19] g66 M)
      refine hR _ (hR _ (hR _ (hR _ (hR _ (hR _ (hR _ (?_)))))))
      show R (82, [some (aR 7 0), some (aI h), some (aI e), some (aI q), some (aR 1 k), some (aI (((Int.tdiv e 100) + 1) * 100)), none, none], [aI (M 220 0 0), aI e, aI (M 222 0 0), aI (M 141 k 0), aR 6 ((M 228 0 0).toNat)], am_mix [12, 13, 14, 263, 264, 265, 266, 346, 17, 19] g66 M)
      refine hR _ (sp_costOf (by omega) (by omega) hkw.2.2 (by omega) (by omega) (by omega) (by omega) (fun g67 => ?_))
      have hc82 := jf_cl2 (jf_val (jf_nm 0 0 (min 999 (if 0 ≤ e - (M 220 0 0) then e - (M 220 0 0) else -(e - (M 220 0 0)))) (if e ≤ (M 220 0 0) then 0 else 1) (M 141 k 0) (M 222 0 0)) (jf_tk M ((M 228 0 0).toNat) 2))
      show R (85, [some (aR 7 0), some (aI h), some (aI e), some (aI q), some (aR 1 k), some (aI (((Int.tdiv e 100) + 1) * 100)), none, none], [aI (jf_cs (M 141 k 0) (M 222 0 0) (jf_tk M ((M 228 0 0).toNat) 2) (min 999 (if 0 ≤ e - (M 220 0 0) then e - (M 220 0 0) else -(e - (M 220 0 0)))) (if e ≤ (M 220 0 0) then 0 else 1))], am_mix [346, 17, 19] g67 (am_mix [12, 13, 14, 263, 264, 265, 266, 346, 17, 19] g66 M))
      rw [show (jf_cs (M 141 k 0) (M 222 0 0) (jf_tk M ((M 228 0 0).toNat) 2) (min 999 (if 0 ≤ e - (M 220 0 0) then e - (M 220 0 0) else -(e - (M 220 0 0)))) (if e ≤ (M 220 0 0) then 0 else 1)) = jf_co p (M 220 0 0) e by rw [hp]; rfl]
      show R (85, [some (aR 7 0), some (aI h), some (aI e), some (aI q), some (aR 1 k), some (aI (((Int.tdiv e 100) + 1) * 100)), none, none], [aI (jf_co p (M 220 0 0) e)], am_mix [346, 17, 19] g67 (am_mix [12, 13, 14, 263, 264, 265, 266, 346, 17, 19] g66 M))
      have hco := jf_co_b p (M 220 0 0) e
      have hmb := jf_mb (a := jf_co p (M 220 0 0) e) (b := jf_A p) (A := 999) (B := 65) (by omega) (by omega)
      refine hR _ ⟨(by omega), ?_⟩
      show R (86, [some (aR 7 0), some (aI h), some (aI e), some (aI q), some (aR 1 k), some (aI (((Int.tdiv e 100) + 1) * 100)), none, none], [aL (jf_co p (M 220 0 0) e)], am_mix [346, 17, 19] g67 (am_mix [12, 13, 14, 263, 264, 265, 266, 346, 17, 19] g66 M))
      refine hR _ (hR _ (hR _ (hR _ (?_))))
      show R (93, [some (aR 7 0), some (aI h), some (aI e), some (aI q), some (aR 1 k), some (aI (((Int.tdiv e 100) + 1) * 100)), some (aL (jf_co p (M 220 0 0) e)), none], [aI (((Int.tdiv e 100) + 1) * 100), aR 1 k, aR 7 0], am_mix [346, 17, 19] g67 (am_mix [12, 13, 14, 263, 264, 265, 266, 346, 17, 19] g66 M))
      refine hR _ (sp_costsOf (by omega) hp hkw hlt hok hth (by omega) (fun g68 => ?_))
      have hcc93 := jf_cc_b hok ((((Int.tdiv e 100) + 1) * 100))
      show R (96, [some (aR 7 0), some (aI h), some (aI e), some (aI q), some (aR 1 k), some (aI (((Int.tdiv e 100) + 1) * 100)), some (aL (jf_co p (M 220 0 0) e)), none], [aL (jf_cc p (((Int.tdiv e 100) + 1) * 100))], am_mix [346, 17, 19] g68 (am_mix [346, 17, 19] g67 (am_mix [12, 13, 14, 263, 264, 265, 266, 346, 17, 19] g66 M)))
      refine hR _ (hR _ (hR _ (hR _ (?_))))
      show R (105, [some (aR 7 0), some (aI h), some (aI e), some (aI q), some (aR 1 k), some (aI (((Int.tdiv e 100) + 1) * 100)), some (aL (jf_co p (M 220 0 0) e)), none], [aI (g66 263 0 0), aL (jf_co p (M 220 0 0) e), aL (jf_cc p (((Int.tdiv e 100) + 1) * 100))], am_mix [346, 17, 19] g68 (am_mix [346, 17, 19] g67 (am_mix [12, 13, 14, 263, 264, 265, 266, 346, 17, 19] g66 M)))
      rw [hthA]
      show R (105, [some (aR 7 0), some (aI h), some (aI e), some (aI q), some (aR 1 k), some (aI (((Int.tdiv e 100) + 1) * 100)), some (aL (jf_co p (M 220 0 0) e)), none], [aI (jf_A p), aL (jf_co p (M 220 0 0) e), aL (jf_cc p (((Int.tdiv e 100) + 1) * 100))], am_mix [346, 17, 19] g68 (am_mix [346, 17, 19] g67 (am_mix [12, 13, 14, 263, 264, 265, 266, 346, 17, 19] g66 M)))
      refine hR _ ⟨(by omega), ?_⟩
      show R (106, [some (aR 7 0), some (aI h), some (aI e), some (aI q), some (aR 1 k), some (aI (((Int.tdiv e 100) + 1) * 100)), some (aL (jf_co p (M 220 0 0) e)), none], [aL (jf_A p), aL (jf_co p (M 220 0 0) e), aL (jf_cc p (((Int.tdiv e 100) + 1) * 100))], am_mix [346, 17, 19] g68 (am_mix [346, 17, 19] g67 (am_mix [12, 13, 14, 263, 264, 265, 266, 346, 17, 19] g66 M)))
      refine hR _ (hR _ (hR _ (hR _ (hR _ (?_)))))
      show R (115, [some (aR 7 0), some (aI h), some (aI e), some (aI q), some (aR 1 k), some (aI (((Int.tdiv e 100) + 1) * 100)), some (aL (jf_co p (M 220 0 0) e)), none], [aI (g66 263 0 0), aL ((jf_cc p (((Int.tdiv e 100) + 1) * 100)) - ((jf_co p (M 220 0 0) e) * (jf_A p)))], am_mix [346, 17, 19] g68 (am_mix [346, 17, 19] g67 (am_mix [12, 13, 14, 263, 264, 265, 266, 346, 17, 19] g66 M)))
      rw [hthA]
      show R (115, [some (aR 7 0), some (aI h), some (aI e), some (aI q), some (aR 1 k), some (aI (((Int.tdiv e 100) + 1) * 100)), some (aL (jf_co p (M 220 0 0) e)), none], [aI (jf_A p), aL ((jf_cc p (((Int.tdiv e 100) + 1) * 100)) - ((jf_co p (M 220 0 0) e) * (jf_A p)))], am_mix [346, 17, 19] g68 (am_mix [346, 17, 19] g67 (am_mix [12, 13, 14, 263, 264, 265, 266, 346, 17, 19] g66 M)))
      refine hR _ ⟨(by omega), ?_⟩
      show R (116, [some (aR 7 0), some (aI h), some (aI e), some (aI q), some (aR 1 k), some (aI (((Int.tdiv e 100) + 1) * 100)), some (aL (jf_co p (M 220 0 0) e)), none], [aL (jf_A p), aL ((jf_cc p (((Int.tdiv e 100) + 1) * 100)) - ((jf_co p (M 220 0 0) e) * (jf_A p)))], am_mix [346, 17, 19] g68 (am_mix [346, 17, 19] g67 (am_mix [12, 13, 14, 263, 264, 265, 266, 346, 17, 19] g66 M)))
      refine hR _ (?_)
      show R (117, [some (aR 7 0), some (aI h), some (aI e), some (aI q), some (aR 1 k), some (aI (((Int.tdiv e 100) + 1) * 100)), some (aL (jf_co p (M 220 0 0) e)), none], [aI q, aL (jf_A p), aL ((jf_cc p (((Int.tdiv e 100) + 1) * 100)) - ((jf_co p (M 220 0 0) e) * (jf_A p)))], am_mix [346, 17, 19] g68 (am_mix [346, 17, 19] g67 (am_mix [12, 13, 14, 263, 264, 265, 266, 346, 17, 19] g66 M)))
      refine hR _ (sp_il (by omega) (by omega) (by omega) (by omega) ?_)
      show R (120, [some (aR 7 0), some (aI h), some (aI e), some (aI q), some (aR 1 k), some (aI (((Int.tdiv e 100) + 1) * 100)), some (aL (jf_co p (M 220 0 0) e)), none], [aL (jf_il ((jf_cc p (((Int.tdiv e 100) + 1) * 100)) - ((jf_co p (M 220 0 0) e) * (jf_A p))) (jf_A p) q)], am_mix [346, 17, 19] g68 (am_mix [346, 17, 19] g67 (am_mix [12, 13, 14, 263, 264, 265, 266, 346, 17, 19] g66 M)))
      refine hR _ (show K (some (aL (jf_il ((jf_cc p (((Int.tdiv e 100) + 1) * 100)) - ((jf_co p (M 220 0 0) e) * (jf_A p))) (jf_A p) q))) (am_mix [346, 17, 19] g68 (am_mix [346, 17, 19] g67 (am_mix [12, 13, 14, 263, 264, 265, 266, 346, 17, 19] g66 M))) from ?_)
      have hres : jx_on M h e q = (jf_il ((jf_cc p (((Int.tdiv e 100) + 1) * 100)) - ((jf_co p (M 220 0 0) e) * (jf_A p))) (jf_A p) q) := by
        subst hhk
        subst hp
        unfold jx_on
        repeat' split
        all_goals first | omega | rfl
      rw [hres] at hK
      have e9 : am_ag [12, 13, 14, 263, 264, 265, 266, 346, 17, 19, 100, 101, 102] M (am_mix [346, 17, 19] g68 (am_mix [346, 17, 19] g67 (am_mix [12, 13, 14, 263, 264, 265, 266, 346, 17, 19] g66 M))) := (((am_ag.rf).mix rfl).mix rfl).mix rfl
      rw [e9.eq]
      exact hK _
    · show R (20, [some (aR 7 0), some (aI h), some (aI e), some (aI q), some (aR 1 k), none, none, none], [aI 0], M)
      refine hR _ (am_brf (rg := am_in 0) (P := (0 : Int) ≠ 0) (A := R (27, [some (aR 7 0), some (aI h), some (aI e), some (aI q), some (aR 1 k), none, none, none], [], M)) (B := R (23, [some (aR 7 0), some (aI h), some (aI e), some (aI q), some (aR 1 k), none, none, none], [], M)) (by omega) (by omega) ?_)
      show R (23, [some (aR 7 0), some (aI h), some (aI e), some (aI q), some (aR 1 k), none, none, none], [], M)
      refine hR _ (?_)
      show R (26, [some (aR 7 0), some (aI h), some (aI e), some (aI q), some (aR 1 k), none, none, none], [aL (-4611686018427387904)], M)
      refine hR _ (show K (some (aL (-4611686018427387904))) M from ?_)
      have hres : jx_on M h e q = (-4611686018427387904) := by
        unfold jx_on
        repeat' split
        all_goals first | omega | rfl
      rw [hres] at hK
      have e9 : am_ag [12, 13, 14, 263, 264, 265, 266, 346, 17, 19, 100, 101, 102] M M := am_ag.rf
      rw [e9.eq]
      exact hK _
  · replace hno : ¬ (0 ≤ h ∧ h < M 227 0 0) := hno
    show R (5, [some (aR 7 0), some (aI h), some (aI e), some (aI q), none, none, none, none], [aN], M)
    refine hR _ (hR _ (hR _ (hR _ (?_))))
    show R (26, [some (aR 7 0), some (aI h), some (aI e), some (aI q), some (aN), none, none, none], [aL (-4611686018427387904)], M)
    refine hR _ (show K (some (aL (-4611686018427387904))) M from ?_)
    have hres : jx_on M h e q = (-4611686018427387904) := by
      unfold jx_on
      repeat' split
      all_goals first | omega | rfl
    rw [hres] at hK
    have e9 : am_ag [12, 13, 14, 263, 264, 265, 266, 346, 17, 19, 100, 101, 102] M M := am_ag.rf
    rw [e9.eq]
    exact hK _

set_option maxHeartbeats 1000000 in
theorem sq_next {d : Nat} (hd : 8 ≤ d) {h : Int} {M : am_M} {K : am_K} (hJ : jf_J M) (ha_h : am_in h) (hK : ∀ g, K (some (aI (jx_next M h))) (am_mix [12, 13, 14, 263, 264, 265, 266, 346, 17, 19, 100, 101, 102] g M)) : am_Call wb d 82 [aR 7 0, aI h] M K := by
  obtain ⟨d, rfl⟩ : ∃ e, d = e + 1 := ⟨d - 1, by omega⟩
  refine ⟨rfl, fun R hR hC => ?_⟩
  replace hR : ∀ c, am_F wb tb_f82 1 (am_Call wb d) K R c → R c := hR
  have hn := hJ.1.1.2.2.2.2.2.2.2.1
  have hl0 := hJ.1.1.2.2.2.2.2.2.2.2
  have htc := hJ.2.2.1.1
  have hlt : 0 ≤ M 228 0 0 ∧ M 228 0 0 < 6 := by omega
  have hmk := hJ.1.1.1
  have hdr := hJ.1.1.2.1
  have hpr := hJ.1.1.2.2.1
  have hfu := hJ.1.1.2.2.2.1
  show R (0, [some (aR 7 0), some (aI h), none, none, none], [], M)
  refine hR _ (hR _ (?_))
  show R (2, [some (aR 7 0), some (aI h), none, none, none], [aI h, aR 7 0], M)
  refine hR _ (sp_handAt (by omega) hn (by omega) (fun k hhk hk5 => ?_) (fun hno => ?_))
  · replace hk5 : (k : Int) < M 227 0 0 := hk5
    have hkw := hJ.wk (k := k) (by omega)
    have hok := hJ.px (k := k) (by omega)
    show R (5, [some (aR 7 0), some (aI h), none, none, none], [aR 1 k], M)
    refine hR _ (hR _ (hR _ (hR _ (hR _ (?_)))))
    show R (17, [some (aR 7 0), some (aI h), some (aR 1 k), none, none], [aR 0 0], M)
    refine hR _ (sp_Best_start (by omega) ?_)
    show R (20, [some (aR 7 0), some (aI h), some (aR 1 k), none, none], [], am_wr (am_wr (am_wr M 100 0 0 (-1)) 101 0 0 0) 102 0 0 1)
    refine hR _ (hR _ (?_))
    show R (22, [some (aR 7 0), some (aI h), some (aR 1 k), some (aI 0), none], [], am_wr (am_wr (am_wr M 100 0 0 (-1)) 101 0 0 0) 102 0 0 1)
    have hbnd : ∀ i : Nat, i ≤ 10 → jf_bp (jf_bn M k i) 1000000000 65 2900 := jf_best_b (by omega) (by omega) (by omega) (fun i hi => by
      have hok : jf_ok (jf_pn M k i) := hJ.ok (by omega) (by omega) (by omega)
      have h1 := jf_cc_b hok (M 220 0 0 + 100 * (i : Int))
      have h2 := jf_A_b hok
      dsimp only
      omega)
    have key : ∀ (n i : Nat) (x : Int) (o4 : Option am_V) (g : am_M), x = (i : Int) → i + n = 10 → (g 100 0 0, g 101 0 0, g 102 0 0) = jf_bn M k i → R (22, [some (aR 7 0), some (aI h), some (aR 1 k), some (aI x), o4], [], am_mix [12, 13, 14, 263, 264, 265, 266, 346, 17, 19, 100, 101, 102] g M) := by
      intro n
      induction n with
      | zero =>
        intro i x o4 g hx hin hst
        subst hx
        have hi : i = 10 := by omega
        subst hi
        refine hR _ (hR _ (hR _ (am_brt (rg := am_in ((10 : Nat) : Int) ∧ am_in 10) (P := 10 ≤ ((10 : Nat) : Int)) (A := R (92, [some (aR 7 0), some (aI h), some (aR 1 k), some (aI ((10 : Nat) : Int)), o4], [], am_mix [12, 13, 14, 263, 264, 265, 266, 346, 17, 19, 100, 101, 102] g M)) (B := R (28, [some (aR 7 0), some (aI h), some (aR 1 k), some (aI ((10 : Nat) : Int)), o4], [], am_mix [12, 13, 14, 263, 264, 265, 266, 346, 17, 19, 100, 101, 102] g M)) (by omega) (by omega) ?_)))
        show R (92, [some (aR 7 0), some (aI h), some (aR 1 k), some (aI ((10 : Nat) : Int)), o4], [], am_mix [12, 13, 14, 263, 264, 265, 266, 346, 17, 19, 100, 101, 102] g M)
        refine hR _ (hR _ (hR _ (?_)))
        show R (99, [some (aR 7 0), some (aI h), some (aR 1 k), some (aI ((10 : Nat) : Int)), o4], [aI (g 100 0 0)], am_mix [12, 13, 14, 263, 264, 265, 266, 346, 17, 19, 100, 101, 102] g M)
        refine hR _ (show K (some (aI (g 100 0 0))) (am_mix [12, 13, 14, 263, 264, 265, 266, 346, 17, 19, 100, 101, 102] g M) from ?_)
        have hres : jx_next M h = g 100 0 0 := by
          subst hhk
          unfold jx_next
          rw [if_pos (by omega)]
          exact (congrArg (fun z => z.1) hst).symm
        rw [hres] at hK
        exact hK _
      | succ n ih =>
        intro i x o4 g hx hin hst
        subst hx
        have hb := hbnd i (by omega)
        rw [← hst] at hb
        have hb1 : -1 ≤ g 100 0 0 ∧ g 100 0 0 ≤ 2900 := hb.1
        have hb2 : -1000000000 ≤ g 101 0 0 ∧ g 101 0 0 ≤ 1000000000 := hb.2.1
        have hb3 : 1 ≤ g 102 0 0 ∧ g 102 0 0 ≤ 65 := hb.2.2
        refine hR _ (hR _ (hR _ (am_brf (rg := am_in ((i : Nat) : Int) ∧ am_in 10) (P := 10 ≤ ((i : Nat) : Int)) (A := R (92, [some (aR 7 0), some (aI h), some (aR 1 k), some (aI ((i : Nat) : Int)), o4], [], am_mix [12, 13, 14, 263, 264, 265, 266, 346, 17, 19, 100, 101, 102] g M)) (B := R (28, [some (aR 7 0), some (aI h), some (aR 1 k), some (aI ((i : Nat) : Int)), o4], [], am_mix [12, 13, 14, 263, 264, 265, 266, 346, 17, 19, 100, 101, 102] g M)) (by omega) (by omega) ?_)))
        show R (28, [some (aR 7 0), some (aI h), some (aR 1 k), some (aI ((i : Nat) : Int)), o4], [], am_mix [12, 13, 14, 263, 264, 265, 266, 346, 17, 19, 100, 101, 102] g M)
        refine hR _ (hR _ (hR _ (hR _ (hR _ (hR _ (hR _ (hR _ (hR _ (hR _ (hR _ (hR _ (?_))))))))))))
        show R (48, [some (aR 7 0), some (aI h), some (aR 1 k), some (aI ((i : Nat) : Int)), some (aI (M 220 0 0 + (100 * ((i : Nat) : Int))))], [aR 7 0, aR 1 k, aR 4 0], am_mix [12, 13, 14, 263, 264, 265, 266, 346, 17, 19, 100, 101, 102] g M)
        refine hR _ (sp_lawText (by omega) hlt ?_)
        show R (51, [some (aR 7 0), some (aI h), some (aR 1 k), some (aI ((i : Nat) : Int)), some (aI (M 220 0 0 + (100 * ((i : Nat) : Int))))], [aR 6 ((M 228 0 0).toNat), aR 1 k, aR 4 0], am_mix [12, 13, 14, 263, 264, 265, 266, 346, 17, 19, 100, 101, 102] g M)
        refine hR _ (hR _ (hR _ (hR _ (?_))))
        show R (58, [some (aR 7 0), some (aI h), some (aR 1 k), some (aI ((i : Nat) : Int)), some (aI (M 220 0 0 + (100 * ((i : Nat) : Int))))], [aI 0, aI (M 220 0 0 + (100 * ((i : Nat) : Int))), aR 3 0, aR 6 ((M 228 0 0).toNat), aR 1 k, aR 4 0], am_mix [12, 13, 14, 263, 264, 265, 266, 346, 17, 19, 100, 101, 102] g M)
        refine hR _ (sp_think (by omega) hkw (hJ.ok (by omega) (by omega) (by omega)) (fun g69 hth => ?_))
        have hok : jf_ok (jf_xp M k (M 228 0 0).toNat (M 220 0 0 + (100 * ((i : Nat) : Int))) 0) := hJ.ok (by omega) (by omega) (by omega)
        obtain ⟨p, hp⟩ : ∃ p, p = jf_xp M k (M 228 0 0).toNat (M 220 0 0 + (100 * ((i : Nat) : Int))) 0 := ⟨_, rfl⟩
        replace hth : jf_th (am_mix [12, 13, 14, 263, 264, 265, 266, 346, 17, 19] g69 (am_mix [12, 13, 14, 263, 264, 265, 266, 346, 17, 19, 100, 101, 102] g M)) (jf_xp M k (M 228 0 0).toNat (M 220 0 0 + (100 * ((i : Nat) : Int))) 0) := hth
        rw [← hp] at hth hok
        have hthA : g69 263 0 0 = jf_A p := hth.2.1
        have hthN : g69 264 0 0 = (jf_P p).2.2 := hth.2.2
        have hA := jf_A_b hok
        have hPb := jf_P_b hok
        show R (61, [some (aR 7 0), some (aI h), some (aR 1 k), some (aI ((i : Nat) : Int)), some (aI (M 220 0 0 + (100 * ((i : Nat) : Int))))], [], am_mix [12, 13, 14, 263, 264, 265, 266, 346, 17, 19] g69 (am_mix [12, 13, 14, 263, 264, 265, 266, 346, 17, 19, 100, 101, 102] g M))
        refine hR _ (hR _ (hR _ (hR _ (hR _ (hR _ (?_))))))
        show R (71, [some (aR 7 0), some (aI h), some (aR 1 k), some (aI ((i : Nat) : Int)), some (aI (M 220 0 0 + (100 * ((i : Nat) : Int))))], [aI (M 220 0 0 + (100 * ((i : Nat) : Int))), aR 1 k, aR 7 0, aI (M 220 0 0 + (100 * ((i : Nat) : Int))), aR 0 0], am_mix [12, 13, 14, 263, 264, 265, 266, 346, 17, 19] g69 (am_mix [12, 13, 14, 263, 264, 265, 266, 346, 17, 19, 100, 101, 102] g M))
        refine hR _ (sp_costsOf (by omega) hp hkw hlt hok hth (by omega) (fun g70 => ?_))
        have hcc71 := jf_cc_b hok ((M 220 0 0 + (100 * ((i : Nat) : Int))))
        show R (74, [some (aR 7 0), some (aI h), some (aR 1 k), some (aI ((i : Nat) : Int)), some (aI (M 220 0 0 + (100 * ((i : Nat) : Int))))], [aL (jf_cc p (M 220 0 0 + (100 * ((i : Nat) : Int)))), aI (M 220 0 0 + (100 * ((i : Nat) : Int))), aR 0 0], am_mix [346, 17, 19] g70 (am_mix [12, 13, 14, 263, 264, 265, 266, 346, 17, 19] g69 (am_mix [12, 13, 14, 263, 264, 265, 266, 346, 17, 19, 100, 101, 102] g M)))
        refine hR _ (hR _ (hR _ (hR _ (?_))))
        show R (82, [some (aR 7 0), some (aI h), some (aR 1 k), some (aI ((i : Nat) : Int)), some (aI (M 220 0 0 + (100 * ((i : Nat) : Int))))], [aI (g69 263 0 0), aL (-(jf_cc p (M 220 0 0 + (100 * ((i : Nat) : Int))))), aI (M 220 0 0 + (100 * ((i : Nat) : Int))), aR 0 0], am_mix [346, 17, 19] g70 (am_mix [12, 13, 14, 263, 264, 265, 266, 346, 17, 19] g69 (am_mix [12, 13, 14, 263, 264, 265, 266, 346, 17, 19, 100, 101, 102] g M)))
        rw [hthA]
        show R (82, [some (aR 7 0), some (aI h), some (aR 1 k), some (aI ((i : Nat) : Int)), some (aI (M 220 0 0 + (100 * ((i : Nat) : Int))))], [aI (jf_A p), aL (-(jf_cc p (M 220 0 0 + (100 * ((i : Nat) : Int))))), aI (M 220 0 0 + (100 * ((i : Nat) : Int))), aR 0 0], am_mix [346, 17, 19] g70 (am_mix [12, 13, 14, 263, 264, 265, 266, 346, 17, 19] g69 (am_mix [12, 13, 14, 263, 264, 265, 266, 346, 17, 19, 100, 101, 102] g M)))
        refine hR _ ⟨(by omega), ?_⟩
        show R (83, [some (aR 7 0), some (aI h), some (aR 1 k), some (aI ((i : Nat) : Int)), some (aI (M 220 0 0 + (100 * ((i : Nat) : Int))))], [aL (jf_A p), aL (-(jf_cc p (M 220 0 0 + (100 * ((i : Nat) : Int))))), aI (M 220 0 0 + (100 * ((i : Nat) : Int))), aR 0 0], am_mix [346, 17, 19] g70 (am_mix [12, 13, 14, 263, 264, 265, 266, 346, 17, 19] g69 (am_mix [12, 13, 14, 263, 264, 265, 266, 346, 17, 19, 100, 101, 102] g M)))
        refine hR _ (sp_offer (by omega) (show am_in (g 100 0 0) from by omega) (show -1000000000000000000 ≤ (-(jf_cc p (M 220 0 0 + (100 * ((i : Nat) : Int))))) * g 102 0 0 ∧ (-(jf_cc p (M 220 0 0 + (100 * ((i : Nat) : Int))))) * g 102 0 0 ≤ 1000000000000000000 from by have hx := jf_mb (a := (-(jf_cc p (M 220 0 0 + (100 * ((i : Nat) : Int)))))) (b := g 102 0 0) (A := 1000000000) (B := 65) (by omega) (by omega); omega) (show -1000000000000000000 ≤ g 101 0 0 * (jf_A p) ∧ g 101 0 0 * (jf_A p) ≤ 1000000000000000000 from by have hx := jf_mb (a := g 101 0 0) (b := (jf_A p)) (A := 1000000000) (B := 65) (by omega) (by omega); omega) (fun g71 hof => ?_))
        replace hof : (g71 100 0 0, g71 101 0 0, g71 102 0 0) = jf_bst (g 100 0 0, g 101 0 0, g 102 0 0) (M 220 0 0 + (100 * ((i : Nat) : Int))) (-(jf_cc p (M 220 0 0 + (100 * ((i : Nat) : Int))))) (jf_A p) := hof
        show R (86, [some (aR 7 0), some (aI h), some (aR 1 k), some (aI ((i : Nat) : Int)), some (aI (M 220 0 0 + (100 * ((i : Nat) : Int))))], [], am_mix [100, 101, 102] g71 (am_mix [346, 17, 19] g70 (am_mix [12, 13, 14, 263, 264, 265, 266, 346, 17, 19] g69 (am_mix [12, 13, 14, 263, 264, 265, 266, 346, 17, 19, 100, 101, 102] g M))))
        refine hR _ (hR _ (?_))
        show R (22, [some (aR 7 0), some (aI h), some (aR 1 k), some (aI (((i : Nat) : Int) + 1)), some (aI (M 220 0 0 + (100 * ((i : Nat) : Int))))], [], am_mix [100, 101, 102] g71 (am_mix [346, 17, 19] g70 (am_mix [12, 13, 14, 263, 264, 265, 266, 346, 17, 19] g69 (am_mix [12, 13, 14, 263, 264, 265, 266, 346, 17, 19, 100, 101, 102] g M))))
        have e9 : am_ag [12, 13, 14, 263, 264, 265, 266, 346, 17, 19, 100, 101, 102] M (am_mix [100, 101, 102] g71 (am_mix [346, 17, 19] g70 (am_mix [12, 13, 14, 263, 264, 265, 266, 346, 17, 19] g69 (am_mix [12, 13, 14, 263, 264, 265, 266, 346, 17, 19, 100, 101, 102] g M)))) := ((((am_ag.rf).mix rfl).mix rfl).mix rfl).mix rfl
        rw [e9.eq]
        refine ih (i + 1) _ _ _ rfl (by omega) ?_
        refine hof.trans ?_
        rw [hst, hp]
        rfl
    have e9 : am_ag [12, 13, 14, 263, 264, 265, 266, 346, 17, 19, 100, 101, 102] M (am_wr (am_wr (am_wr M 100 0 0 (-1)) 101 0 0 0) 102 0 0 1) := (((am_ag.rf).wr rfl).wr rfl).wr rfl
    rw [e9.eq]
    exact key 10 0 _ _ _ rfl rfl rfl
  · replace hno : ¬ (0 ≤ h ∧ h < M 227 0 0) := hno
    show R (5, [some (aR 7 0), some (aI h), none, none, none], [aN], M)
    refine hR _ (hR _ (hR _ (hR _ (?_))))
    show R (12, [some (aR 7 0), some (aI h), some (aN), none, none], [aI (-5)], M)
    refine hR _ (show K (some (aI (-5))) M from ?_)
    have hres : jx_next M h = (-5) := by
      unfold jx_next
      repeat' split
      all_goals first | omega | rfl
    rw [hres] at hK
    have e9 : am_ag [12, 13, 14, 263, 264, 265, 266, 346, 17, 19, 100, 101, 102] M M := am_ag.rf
    rw [e9.eq]
    exact hK _

set_option maxHeartbeats 1000000 in
theorem sq_who {d : Nat} (hd : 8 ≤ d) {goal : Int} {M : am_M} {K : am_K} (hJ : jf_J M) (ha_goal : am_in goal) (hK : ∀ g, K (some (aI (jx_who M goal))) (am_mix [12, 13, 14, 263, 264, 265, 266, 346, 17, 19, 100, 101, 102] g M)) : am_Call wb d 81 [aR 7 0, aI goal] M K := by
  obtain ⟨d, rfl⟩ : ∃ e, d = e + 1 := ⟨d - 1, by omega⟩
  refine ⟨rfl, fun R hR hC => ?_⟩
  replace hR : ∀ c, am_F wb tb_f81 1 (am_Call wb d) K R c → R c := hR
  have hn := hJ.1.1.2.2.2.2.2.2.2.1
  have hl0 := hJ.1.1.2.2.2.2.2.2.2.2
  have htc := hJ.2.2.1.1
  have hlt : 0 ≤ M 228 0 0 ∧ M 228 0 0 < 6 := by omega
  have hmk := hJ.1.1.1
  have hdr := hJ.1.1.2.1
  have hpr := hJ.1.1.2.2.1
  have hfu := hJ.1.1.2.2.2.1
  show R (0, [some (aR 7 0), some (aI goal), none], [], M)
  refine hR _ (hR _ (hR _ (?_)))
  show R (3, [some (aR 7 0), some (aI goal), none], [aI 2, aI 0, aI goal], M)
  refine hR _ (sp_within (by omega) (by omega) (fun h3 => ?_) (fun h3 => ?_))
  · show R (6, [some (aR 7 0), some (aI goal), none], [aI 1], M)
    refine hR _ (am_brt (rg := am_in 1) (P := (1 : Int) ≠ 0) (A := R (12, [some (aR 7 0), some (aI goal), none], [], M)) (B := R (9, [some (aR 7 0), some (aI goal), none], [], M)) (by omega) (by omega) ?_)
    show R (12, [some (aR 7 0), some (aI goal), none], [], M)
    refine hR _ (hR _ (?_))
    show R (16, [some (aR 7 0), some (aI goal), none], [aR 0 0], M)
    refine hR _ (sp_Best_start (by omega) ?_)
    show R (19, [some (aR 7 0), some (aI goal), none], [], am_wr (am_wr (am_wr M 100 0 0 (-1)) 101 0 0 0) 102 0 0 1)
    refine hR _ (hR _ (?_))
    show R (21, [some (aR 7 0), some (aI goal), some (aI 0)], [], am_wr (am_wr (am_wr M 100 0 0 (-1)) 101 0 0 0) 102 0 0 1)
    have hbnd : ∀ i : Nat, i ≤ (M 227 0 0).toNat → jf_bp (jf_bw M goal i) 1000000000 65 5 := jf_best_b (by omega) (by omega) (by omega) (fun i hi => by
      have hok : jf_ok (jf_px M i) := hJ.px (by omega)
      have h1 := jf_wo_b hok goal
      have h2 := jf_A_b hok
      dsimp only
      omega)
    have key : ∀ (n i : Nat) (x : Int) (g : am_M), x = (i : Int) → i + n = (M 227 0 0).toNat → (g 100 0 0, g 101 0 0, g 102 0 0) = jf_bw M goal i → R (21, [some (aR 7 0), some (aI goal), some (aI x)], [], am_mix [12, 13, 14, 263, 264, 265, 266, 346, 17, 19, 100, 101, 102] g M) := by
      intro n
      induction n with
      | zero =>
        intro k x g hx hin hst
        subst hx
        refine hR _ (hR _ (hR _ (hR _ (hR _ (am_brt (rg := am_in ((k : Nat) : Int) ∧ am_in (M 227 0 0)) (P := M 227 0 0 ≤ ((k : Nat) : Int)) (A := R (84, [some (aR 7 0), some (aI goal), some (aI ((k : Nat) : Int))], [], am_mix [12, 13, 14, 263, 264, 265, 266, 346, 17, 19, 100, 101, 102] g M)) (B := R (32, [some (aR 7 0), some (aI goal), some (aI ((k : Nat) : Int))], [], am_mix [12, 13, 14, 263, 264, 265, 266, 346, 17, 19, 100, 101, 102] g M)) (by omega) (by omega) ?_)))))
        show R (84, [some (aR 7 0), some (aI goal), some (aI ((k : Nat) : Int))], [], am_mix [12, 13, 14, 263, 264, 265, 266, 346, 17, 19, 100, 101, 102] g M)
        refine hR _ (hR _ (hR _ (?_)))
        show R (91, [some (aR 7 0), some (aI goal), some (aI ((k : Nat) : Int))], [aI (g 100 0 0)], am_mix [12, 13, 14, 263, 264, 265, 266, 346, 17, 19, 100, 101, 102] g M)
        refine hR _ (show K (some (aI (g 100 0 0))) (am_mix [12, 13, 14, 263, 264, 265, 266, 346, 17, 19, 100, 101, 102] g M) from ?_)
        have hres : jx_who M goal = g 100 0 0 := by
          unfold jx_who
          rw [if_pos (by omega), ← show k = (M 227 0 0).toNat from by omega]
          exact (congrArg (fun z => z.1) hst).symm
        rw [hres] at hK
        exact hK _
      | succ n ih =>
        intro k x g hx hin hst
        subst hx
        have hkw := hJ.wk (k := k) (by omega)
        have hok := hJ.px (k := k) (by omega)
        have hb := hbnd k (by omega)
        rw [← hst] at hb
        have hb1 : -1 ≤ g 100 0 0 ∧ g 100 0 0 ≤ 5 := hb.1
        have hb2 : -1000000000 ≤ g 101 0 0 ∧ g 101 0 0 ≤ 1000000000 := hb.2.1
        have hb3 : 1 ≤ g 102 0 0 ∧ g 102 0 0 ≤ 65 := hb.2.2
        refine hR _ (hR _ (hR _ (hR _ (hR _ (am_brf (rg := am_in ((k : Nat) : Int) ∧ am_in (M 227 0 0)) (P := M 227 0 0 ≤ ((k : Nat) : Int)) (A := R (84, [some (aR 7 0), some (aI goal), some (aI ((k : Nat) : Int))], [], am_mix [12, 13, 14, 263, 264, 265, 266, 346, 17, 19, 100, 101, 102] g M)) (B := R (32, [some (aR 7 0), some (aI goal), some (aI ((k : Nat) : Int))], [], am_mix [12, 13, 14, 263, 264, 265, 266, 346, 17, 19, 100, 101, 102] g M)) (by omega) (by omega) ?_)))))
        show R (32, [some (aR 7 0), some (aI goal), some (aI ((k : Nat) : Int))], [], am_mix [12, 13, 14, 263, 264, 265, 266, 346, 17, 19, 100, 101, 102] g M)
        refine hR _ (hR _ (hR _ (hR _ (hR _ (am_brf (rg := am_in ((k : Nat) : Int) ∧ am_in 5) (P := 5 ≤ ((k : Nat) : Int)) (A := R (84, [some (aR 7 0), some (aI goal), some (aI ((k : Nat) : Int))], [], am_mix [12, 13, 14, 263, 264, 265, 266, 346, 17, 19, 100, 101, 102] g M)) (B := R (41, [some (aR 7 0), some (aI goal), some (aI ((k : Nat) : Int))], [], am_mix [12, 13, 14, 263, 264, 265, 266, 346, 17, 19, 100, 101, 102] g M)) (by omega) (by omega) ?_)))))
        show R (41, [some (aR 7 0), some (aI goal), some (aI ((k : Nat) : Int))], [], am_mix [12, 13, 14, 263, 264, 265, 266, 346, 17, 19, 100, 101, 102] g M)
        refine hR _ (hR _ (hR _ (hR _ (?_))))
        show R (47, [some (aR 7 0), some (aI goal), some (aI ((k : Nat) : Int))], [aI ((k : Nat) : Int), aR 9 0, aR 7 0], am_mix [12, 13, 14, 263, 264, 265, 266, 346, 17, 19, 100, 101, 102] g M)
        refine hR _ ⟨(show 0 ≤ (((k : Nat) : Int) : Int) ∧ (((k : Nat) : Int) : Int) < 5 from (by omega)), ?_⟩
        show R (48, [some (aR 7 0), some (aI goal), some (aI ((k : Nat) : Int))], [aR 1 k, aR 7 0], am_mix [12, 13, 14, 263, 264, 265, 266, 346, 17, 19, 100, 101, 102] g M)
        refine hR _ (sp_Xthink (by omega) hkw hlt hok (fun g72 hth => ?_))
        obtain ⟨p, hp⟩ : ∃ p, p = jf_px M k := ⟨_, rfl⟩
        replace hth : jf_th (am_mix [12, 13, 14, 263, 264, 265, 266, 346, 17, 19] g72 (am_mix [12, 13, 14, 263, 264, 265, 266, 346, 17, 19, 100, 101, 102] g M)) (jf_px M k) := hth
        rw [← hp] at hth hok
        have hthA : g72 263 0 0 = jf_A p := hth.2.1
        have hthN : g72 264 0 0 = (jf_P p).2.2 := hth.2.2
        have hA := jf_A_b hok
        have hPb := jf_P_b hok
        show R (51, [some (aR 7 0), some (aI goal), some (aI ((k : Nat) : Int))], [], am_mix [12, 13, 14, 263, 264, 265, 266, 346, 17, 19] g72 (am_mix [12, 13, 14, 263, 264, 265, 266, 346, 17, 19, 100, 101, 102] g M))
        refine hR _ (hR _ (hR _ (hR _ (hR _ (hR _ (hR _ (?_)))))))
        show R (62, [some (aR 7 0), some (aI goal), some (aI ((k : Nat) : Int))], [aI ((k : Nat) : Int), aR 9 0, aR 7 0, aI ((k : Nat) : Int), aR 0 0], am_mix [12, 13, 14, 263, 264, 265, 266, 346, 17, 19] g72 (am_mix [12, 13, 14, 263, 264, 265, 266, 346, 17, 19, 100, 101, 102] g M))
        refine hR _ ⟨(show 0 ≤ (((k : Nat) : Int) : Int) ∧ (((k : Nat) : Int) : Int) < 5 from (by omega)), ?_⟩
        show R (63, [some (aR 7 0), some (aI goal), some (aI ((k : Nat) : Int))], [aR 1 k, aR 7 0, aI ((k : Nat) : Int), aR 0 0], am_mix [12, 13, 14, 263, 264, 265, 266, 346, 17, 19] g72 (am_mix [12, 13, 14, 263, 264, 265, 266, 346, 17, 19, 100, 101, 102] g M))
        refine hR _ (?_)
        show R (64, [some (aR 7 0), some (aI goal), some (aI ((k : Nat) : Int))], [aI goal, aR 1 k, aR 7 0, aI ((k : Nat) : Int), aR 0 0], am_mix [12, 13, 14, 263, 264, 265, 266, 346, 17, 19] g72 (am_mix [12, 13, 14, 263, 264, 265, 266, 346, 17, 19, 100, 101, 102] g M))
        refine hR _ (sp_worth (by omega) hp hkw hlt hok hth (by omega) (fun g73 => ?_))
        have hwo64 := jf_wo_b hok (goal)
        show R (67, [some (aR 7 0), some (aI goal), some (aI ((k : Nat) : Int))], [aL (jf_wo p goal), aI ((k : Nat) : Int), aR 0 0], am_mix [346, 17, 19] g73 (am_mix [12, 13, 14, 263, 264, 265, 266, 346, 17, 19] g72 (am_mix [12, 13, 14, 263, 264, 265, 266, 346, 17, 19, 100, 101, 102] g M)))
        refine hR _ (hR _ (hR _ (?_)))
        show R (74, [some (aR 7 0), some (aI goal), some (aI ((k : Nat) : Int))], [aI (g72 263 0 0), aL (jf_wo p goal), aI ((k : Nat) : Int), aR 0 0], am_mix [346, 17, 19] g73 (am_mix [12, 13, 14, 263, 264, 265, 266, 346, 17, 19] g72 (am_mix [12, 13, 14, 263, 264, 265, 266, 346, 17, 19, 100, 101, 102] g M)))
        rw [hthA]
        show R (74, [some (aR 7 0), some (aI goal), some (aI ((k : Nat) : Int))], [aI (jf_A p), aL (jf_wo p goal), aI ((k : Nat) : Int), aR 0 0], am_mix [346, 17, 19] g73 (am_mix [12, 13, 14, 263, 264, 265, 266, 346, 17, 19] g72 (am_mix [12, 13, 14, 263, 264, 265, 266, 346, 17, 19, 100, 101, 102] g M)))
        refine hR _ ⟨(by omega), ?_⟩
        show R (75, [some (aR 7 0), some (aI goal), some (aI ((k : Nat) : Int))], [aL (jf_A p), aL (jf_wo p goal), aI ((k : Nat) : Int), aR 0 0], am_mix [346, 17, 19] g73 (am_mix [12, 13, 14, 263, 264, 265, 266, 346, 17, 19] g72 (am_mix [12, 13, 14, 263, 264, 265, 266, 346, 17, 19, 100, 101, 102] g M)))
        refine hR _ (sp_offer (by omega) (show am_in (g 100 0 0) from by omega) (show -1000000000000000000 ≤ (jf_wo p goal) * g 102 0 0 ∧ (jf_wo p goal) * g 102 0 0 ≤ 1000000000000000000 from by have hx := jf_mb (a := (jf_wo p goal)) (b := g 102 0 0) (A := 1000000000) (B := 65) (by omega) (by omega); omega) (show -1000000000000000000 ≤ g 101 0 0 * (jf_A p) ∧ g 101 0 0 * (jf_A p) ≤ 1000000000000000000 from by have hx := jf_mb (a := g 101 0 0) (b := (jf_A p)) (A := 1000000000) (B := 65) (by omega) (by omega); omega) (fun g74 hof => ?_))
        replace hof : (g74 100 0 0, g74 101 0 0, g74 102 0 0) = jf_bst (g 100 0 0, g 101 0 0, g 102 0 0) ((k : Nat) : Int) (jf_wo p goal) (jf_A p) := hof
        show R (78, [some (aR 7 0), some (aI goal), some (aI ((k : Nat) : Int))], [], am_mix [100, 101, 102] g74 (am_mix [346, 17, 19] g73 (am_mix [12, 13, 14, 263, 264, 265, 266, 346, 17, 19] g72 (am_mix [12, 13, 14, 263, 264, 265, 266, 346, 17, 19, 100, 101, 102] g M))))
        refine hR _ (hR _ (?_))
        show R (21, [some (aR 7 0), some (aI goal), some (aI (((k : Nat) : Int) + 1))], [], am_mix [100, 101, 102] g74 (am_mix [346, 17, 19] g73 (am_mix [12, 13, 14, 263, 264, 265, 266, 346, 17, 19] g72 (am_mix [12, 13, 14, 263, 264, 265, 266, 346, 17, 19, 100, 101, 102] g M))))
        have e9 : am_ag [12, 13, 14, 263, 264, 265, 266, 346, 17, 19, 100, 101, 102] M (am_mix [100, 101, 102] g74 (am_mix [346, 17, 19] g73 (am_mix [12, 13, 14, 263, 264, 265, 266, 346, 17, 19] g72 (am_mix [12, 13, 14, 263, 264, 265, 266, 346, 17, 19, 100, 101, 102] g M)))) := ((((am_ag.rf).mix rfl).mix rfl).mix rfl).mix rfl
        rw [e9.eq]
        refine ih (k + 1) _ _ rfl (by omega) ?_
        refine hof.trans ?_
        rw [hst, hp]
        rfl
    have e9 : am_ag [12, 13, 14, 263, 264, 265, 266, 346, 17, 19, 100, 101, 102] M (am_wr (am_wr (am_wr M 100 0 0 (-1)) 101 0 0 0) 102 0 0 1) := (((am_ag.rf).wr rfl).wr rfl).wr rfl
    rw [e9.eq]
    exact key (M 227 0 0).toNat 0 _ _ rfl (by omega) rfl
  · show R (6, [some (aR 7 0), some (aI goal), none], [aI 0], M)
    refine hR _ (am_brf (rg := am_in 0) (P := (0 : Int) ≠ 0) (A := R (12, [some (aR 7 0), some (aI goal), none], [], M)) (B := R (9, [some (aR 7 0), some (aI goal), none], [], M)) (by omega) (by omega) ?_)
    show R (9, [some (aR 7 0), some (aI goal), none], [], M)
    refine hR _ (?_)
    show R (11, [some (aR 7 0), some (aI goal), none], [aI (-2)], M)
    refine hR _ (show K (some (aI (-2))) M from ?_)
    have hres : jx_who M goal = (-2) := by
      unfold jx_who
      repeat' split
      all_goals first | omega | rfl
    rw [hres] at hK
    have e9 : am_ag [12, 13, 14, 263, 264, 265, 266, 346, 17, 19, 100, 101, 102] M M := am_ag.rf
    rw [e9.eq]
    exact hK _

set_option maxHeartbeats 1000000 in
theorem sq_odds {d : Nat} (hd : 8 ≤ d) {sd n h q : Int} {M : am_M} {K : am_K} (hJ : jf_J M) (ha_sd : am_in sd) (ha_n : am_in n) (ha_h : am_in h) (ha_q : am_in q) (hK : ∀ g, K (some (aL (jx_odds M sd n h q))) (am_mix [12, 13, 14, 263, 264, 265, 266, 346, 17, 19, 100, 101, 102] g M)) : am_Call wb d 108 [aR 7 0, aI sd, aI n, aI h, aI q] M K := by
  obtain ⟨d, rfl⟩ : ∃ e, d = e + 1 := ⟨d - 1, by omega⟩
  refine ⟨rfl, fun R hR hC => ?_⟩
  replace hR : ∀ c, am_F wb tb_f108 5 (am_Call wb d) K R c → R c := hR
  have hn := hJ.1.1.2.2.2.2.2.2.2.1
  have hl0 := hJ.1.1.2.2.2.2.2.2.2.2
  have htc := hJ.2.2.1.1
  have hlt : 0 ≤ M 228 0 0 ∧ M 228 0 0 < 6 := by omega
  have hmk := hJ.1.1.1
  have hdr := hJ.1.1.2.1
  have hpr := hJ.1.1.2.2.1
  have hfu := hJ.1.1.2.2.2.1
  show R (0, [some (aR 7 0), some (aI sd), some (aI n), some (aI h), some (aI q), none, none, none], [], M)
  refine hR _ (hR _ (?_))
  show R (2, [some (aR 7 0), some (aI sd), some (aI n), some (aI h), some (aI q), none, none, none], [aI h, aR 7 0], M)
  refine hR _ (sp_handAt (by omega) hn (by omega) (fun k hhk hk5 => ?_) (fun hno => ?_))
  · replace hk5 : (k : Int) < M 227 0 0 := hk5
    have hkw := hJ.wk (k := k) (by omega)
    have hok := hJ.px (k := k) (by omega)
    show R (5, [some (aR 7 0), some (aI sd), some (aI n), some (aI h), some (aI q), none, none, none], [aR 1 k], M)
    refine hR _ (hR _ (hR _ (hR _ (?_))))
    show R (12, [some (aR 7 0), some (aI sd), some (aI n), some (aI h), some (aI q), some (aR 1 k), none, none], [aI 99999, aI 0, aI sd], M)
    refine hR _ (sp_within (by omega) (by omega) (fun h12 => ?_) (fun h12 => ?_))
    · show R (15, [some (aR 7 0), some (aI sd), some (aI n), some (aI h), some (aI q), some (aR 1 k), none, none], [aI 1], M)
      refine hR _ (am_brf (rg := am_in 1) (P := (1 : Int) = 0) (A := R (33, [some (aR 7 0), some (aI sd), some (aI n), some (aI h), some (aI q), some (aR 1 k), none, none], [], M)) (B := R (18, [some (aR 7 0), some (aI sd), some (aI n), some (aI h), some (aI q), some (aR 1 k), none, none], [], M)) (by omega) (by omega) ?_)
      show R (18, [some (aR 7 0), some (aI sd), some (aI n), some (aI h), some (aI q), some (aR 1 k), none, none], [], M)
      refine hR _ (hR _ (hR _ (?_)))
      show R (22, [some (aR 7 0), some (aI sd), some (aI n), some (aI h), some (aI q), some (aR 1 k), none, none], [aI 99, aI 1, aI n], M)
      refine hR _ (sp_within (by omega) (by omega) (fun h22 => ?_) (fun h22 => ?_))
      · show R (25, [some (aR 7 0), some (aI sd), some (aI n), some (aI h), some (aI q), some (aR 1 k), none, none], [aI 1], M)
        refine hR _ (am_brf (rg := am_in 1) (P := (1 : Int) = 0) (A := R (33, [some (aR 7 0), some (aI sd), some (aI n), some (aI h), some (aI q), some (aR 1 k), none, none], [], M)) (B := R (28, [some (aR 7 0), some (aI sd), some (aI n), some (aI h), some (aI q), some (aR 1 k), none, none], [], M)) (by omega) (by omega) ?_)
        show R (28, [some (aR 7 0), some (aI sd), some (aI n), some (aI h), some (aI q), some (aR 1 k), none, none], [], M)
        refine hR _ (hR _ (hR _ (hR _ (?_))))
        show R (40, [some (aR 7 0), some (aI sd), some (aI n), some (aI h), some (aI q), some (aR 1 k), none, none], [aR 1 k, aR 7 0], M)
        refine hR _ (sp_Xthink (by omega) hkw hlt hok (fun g75 hth => ?_))
        obtain ⟨p, hp⟩ : ∃ p, p = jf_px M k := ⟨_, rfl⟩
        replace hth : jf_th (am_mix [12, 13, 14, 263, 264, 265, 266, 346, 17, 19] g75 M) (jf_px M k) := hth
        rw [← hp] at hth hok
        have hthA : g75 263 0 0 = jf_A p := hth.2.1
        have hthN : g75 264 0 0 = (jf_P p).2.2 := hth.2.2
        have hA := jf_A_b hok
        have hPb := jf_P_b hok
        show R (43, [some (aR 7 0), some (aI sd), some (aI n), some (aI h), some (aI q), some (aR 1 k), none, none], [], am_mix [12, 13, 14, 263, 264, 265, 266, 346, 17, 19] g75 M)
        refine hR _ (hR _ (hR _ (hR _ (?_))))
        show R (49, [some (aR 7 0), some (aI sd), some (aI n), some (aI h), some (aI q), some (aR 1 k), some (aI 0), some (aI 0)], [], am_mix [12, 13, 14, 263, 264, 265, 266, 346, 17, 19] g75 M)
        have hse : 0 ≤ sd ∧ sd ≤ 99999 := by omega
        have hn2 : 1 ≤ n ∧ n ≤ 99 := by omega
        have key : ∀ (c i : Nat) (x : Int), x = (i : Int) → i + c = n.toNat → R (49, [some (aR 7 0), some (aI sd), some (aI n), some (aI h), some (aI q), some (aR 1 k), some (aI (jf_od p sd (M 220 0 0) i)), some (aI x)], [], am_mix [12, 13, 14, 263, 264, 265, 266, 346, 17, 19] g75 M) := by
          intro c
          induction c with
          | zero =>
            intro i x hx hin
            subst hx
            have hod := jf_od_b p sd (M 220 0 0) i
            refine hR _ (hR _ (hR _ (am_brt (rg := am_in ((i : Nat) : Int) ∧ am_in n) (P := n ≤ ((i : Nat) : Int)) (A := R (92, [some (aR 7 0), some (aI sd), some (aI n), some (aI h), some (aI q), some (aR 1 k), some (aI (jf_od p sd (M 220 0 0) i)), some (aI ((i : Nat) : Int))], [], am_mix [12, 13, 14, 263, 264, 265, 266, 346, 17, 19] g75 M)) (B := R (55, [some (aR 7 0), some (aI sd), some (aI n), some (aI h), some (aI q), some (aR 1 k), some (aI (jf_od p sd (M 220 0 0) i)), some (aI ((i : Nat) : Int))], [], am_mix [12, 13, 14, 263, 264, 265, 266, 346, 17, 19] g75 M)) (by omega) (by omega) ?_)))
            show R (92, [some (aR 7 0), some (aI sd), some (aI n), some (aI h), some (aI q), some (aR 1 k), some (aI (jf_od p sd (M 220 0 0) i)), some (aI ((i : Nat) : Int))], [], am_mix [12, 13, 14, 263, 264, 265, 266, 346, 17, 19] g75 M)
            refine hR _ (?_)
            show R (94, [some (aR 7 0), some (aI sd), some (aI n), some (aI h), some (aI q), some (aR 1 k), some (aI (jf_od p sd (M 220 0 0) i)), some (aI ((i : Nat) : Int))], [aI (jf_od p sd (M 220 0 0) i)], am_mix [12, 13, 14, 263, 264, 265, 266, 346, 17, 19] g75 M)
            refine hR _ ⟨(by omega), ?_⟩
            show R (95, [some (aR 7 0), some (aI sd), some (aI n), some (aI h), some (aI q), some (aR 1 k), some (aI (jf_od p sd (M 220 0 0) i)), some (aI ((i : Nat) : Int))], [aL (jf_od p sd (M 220 0 0) i)], am_mix [12, 13, 14, 263, 264, 265, 266, 346, 17, 19] g75 M)
            refine hR _ (?_)
            show R (96, [some (aR 7 0), some (aI sd), some (aI n), some (aI h), some (aI q), some (aR 1 k), some (aI (jf_od p sd (M 220 0 0) i)), some (aI ((i : Nat) : Int))], [aI n, aL (jf_od p sd (M 220 0 0) i)], am_mix [12, 13, 14, 263, 264, 265, 266, 346, 17, 19] g75 M)
            refine hR _ ⟨(by omega), ?_⟩
            show R (97, [some (aR 7 0), some (aI sd), some (aI n), some (aI h), some (aI q), some (aR 1 k), some (aI (jf_od p sd (M 220 0 0) i)), some (aI ((i : Nat) : Int))], [aL n, aL (jf_od p sd (M 220 0 0) i)], am_mix [12, 13, 14, 263, 264, 265, 266, 346, 17, 19] g75 M)
            refine hR _ (?_)
            show R (99, [some (aR 7 0), some (aI sd), some (aI n), some (aI h), some (aI q), some (aR 1 k), some (aI (jf_od p sd (M 220 0 0) i)), some (aI ((i : Nat) : Int))], [aI q, aL n, aL (jf_od p sd (M 220 0 0) i)], am_mix [12, 13, 14, 263, 264, 265, 266, 346, 17, 19] g75 M)
            refine hR _ (sp_il (by omega) (by omega) (by omega) (by omega) ?_)
            show R (102, [some (aR 7 0), some (aI sd), some (aI n), some (aI h), some (aI q), some (aR 1 k), some (aI (jf_od p sd (M 220 0 0) i)), some (aI ((i : Nat) : Int))], [aL (jf_il (jf_od p sd (M 220 0 0) i) n q)], am_mix [12, 13, 14, 263, 264, 265, 266, 346, 17, 19] g75 M)
            refine hR _ (show K (some (aL (jf_il (jf_od p sd (M 220 0 0) i) n q))) (am_mix [12, 13, 14, 263, 264, 265, 266, 346, 17, 19] g75 M) from ?_)
            have hres : jx_odds M sd n h q = (jf_il (jf_od p sd (M 220 0 0) i) n q) := by
              subst hhk
              subst hp
              unfold jx_odds
              rw [if_pos (by omega), ← show i = n.toNat from by omega]
              rfl
            rw [hres] at hK
            have e9 : am_ag [12, 13, 14, 263, 264, 265, 266, 346, 17, 19, 100, 101, 102] M (am_mix [12, 13, 14, 263, 264, 265, 266, 346, 17, 19] g75 M) := (am_ag.rf).mix rfl
            rw [e9.eq]
            exact hK _
          | succ c ih =>
            intro i x hx hin
            subst hx
            have hod := jf_od_b p sd (M 220 0 0) i
            refine hR _ (hR _ (hR _ (am_brf (rg := am_in ((i : Nat) : Int) ∧ am_in n) (P := n ≤ ((i : Nat) : Int)) (A := R (92, [some (aR 7 0), some (aI sd), some (aI n), some (aI h), some (aI q), some (aR 1 k), some (aI (jf_od p sd (M 220 0 0) i)), some (aI ((i : Nat) : Int))], [], am_mix [12, 13, 14, 263, 264, 265, 266, 346, 17, 19] g75 M)) (B := R (55, [some (aR 7 0), some (aI sd), some (aI n), some (aI h), some (aI q), some (aR 1 k), some (aI (jf_od p sd (M 220 0 0) i)), some (aI ((i : Nat) : Int))], [], am_mix [12, 13, 14, 263, 264, 265, 266, 346, 17, 19] g75 M)) (by omega) (by omega) ?_)))
            show R (55, [some (aR 7 0), some (aI sd), some (aI n), some (aI h), some (aI q), some (aR 1 k), some (aI (jf_od p sd (M 220 0 0) i)), some (aI ((i : Nat) : Int))], [], am_mix [12, 13, 14, 263, 264, 265, 266, 346, 17, 19] g75 M)
            refine hR _ (hR _ (hR _ (hR _ (hR _ (hR _ (hR _ (?_)))))))
            show R (67, [some (aR 7 0), some (aI sd), some (aI n), some (aI h), some (aI q), some (aR 1 k), some (aI (jf_od p sd (M 220 0 0) i)), some (aI ((i : Nat) : Int))], [aI (sd + ((i : Nat) : Int)), aR 4 0, aR 4 0], am_mix [12, 13, 14, 263, 264, 265, 266, 346, 17, 19] g75 M)
            refine hR _ (sp_lateBy (by omega) hok hth (by omega) ?_)
            have hlb67 := jf_lb_b p ((sd + ((i : Nat) : Int)))
            show R (70, [some (aR 7 0), some (aI sd), some (aI n), some (aI h), some (aI q), some (aR 1 k), some (aI (jf_od p sd (M 220 0 0) i)), some (aI ((i : Nat) : Int))], [aI ((jf_lb p (sd + ((i : Nat) : Int)) : Nat) : Int), aR 4 0], am_mix [12, 13, 14, 263, 264, 265, 266, 346, 17, 19] g75 M)
            refine hR _ (sp_endOf (by omega) hok hth (by omega) ?_)
            have hx70 := jf_E_b hok (a := (jf_lb p (sd + ((i : Nat) : Int)))) (by omega)
            show R (73, [some (aR 7 0), some (aI sd), some (aI n), some (aI h), some (aI q), some (aR 1 k), some (aI (jf_od p sd (M 220 0 0) i)), some (aI ((i : Nat) : Int))], [aI (jf_E p (jf_lb p (sd + ((i : Nat) : Int))))], am_mix [12, 13, 14, 263, 264, 265, 266, 346, 17, 19] g75 M)
            refine hR _ (hR _ (hR _ (?_)))
            show R (80, [some (aR 7 0), some (aI sd), some (aI n), some (aI h), some (aI q), some (aR 1 k), some (aI (jf_od p sd (M 220 0 0) i)), some (aI ((i : Nat) : Int))], [aI (M 220 0 0), aI (jf_E p (jf_lb p (sd + ((i : Nat) : Int))))], am_mix [12, 13, 14, 263, 264, 265, 266, 346, 17, 19] g75 M)
            suffices hJ : R (86, [some (aR 7 0), some (aI sd), some (aI n), some (aI h), some (aI q), some (aR 1 k), some (aI (jf_od p sd (M 220 0 0) (i + 1))), some (aI ((i : Nat) : Int))], [], am_mix [12, 13, 14, 263, 264, 265, 266, 346, 17, 19] g75 M) by
              refine hR _ (am_brc (rg := am_in (jf_E p (jf_lb p (sd + ((i : Nat) : Int)))) ∧ am_in (M 220 0 0)) (P := (jf_E p (jf_lb p (sd + ((i : Nat) : Int)))) ≠ M 220 0 0) (A := R (86, [some (aR 7 0), some (aI sd), some (aI n), some (aI h), some (aI q), some (aR 1 k), some (aI (jf_od p sd (M 220 0 0) i)), some (aI ((i : Nat) : Int))], [], am_mix [12, 13, 14, 263, 264, 265, 266, 346, 17, 19] g75 M)) (B := R (83, [some (aR 7 0), some (aI sd), some (aI n), some (aI h), some (aI q), some (aR 1 k), some (aI (jf_od p sd (M 220 0 0) i)), some (aI ((i : Nat) : Int))], [], am_mix [12, 13, 14, 263, 264, 265, 266, 346, 17, 19] g75 M)) (by omega) (fun c80 => ?_) (fun c80 => ?_))
              · rw [jf_od, if_neg (by omega)] at hJ
                exact hJ
              · refine hR _ (?_)
                show R (86, [some (aR 7 0), some (aI sd), some (aI n), some (aI h), some (aI q), some (aR 1 k), some (aI ((jf_od p sd (M 220 0 0) i) + 1)), some (aI ((i : Nat) : Int))], [], am_mix [12, 13, 14, 263, 264, 265, 266, 346, 17, 19] g75 M)
                rw [jf_od, if_pos (by omega)] at hJ
                exact hJ
            show R (86, [some (aR 7 0), some (aI sd), some (aI n), some (aI h), some (aI q), some (aR 1 k), some (aI (jf_od p sd (M 220 0 0) (i + 1))), some (aI ((i : Nat) : Int))], [], am_mix [12, 13, 14, 263, 264, 265, 266, 346, 17, 19] g75 M)
            refine hR _ (hR _ (?_))
            show R (49, [some (aR 7 0), some (aI sd), some (aI n), some (aI h), some (aI q), some (aR 1 k), some (aI (jf_od p sd (M 220 0 0) (i + 1))), some (aI (((i : Nat) : Int) + 1))], [], am_mix [12, 13, 14, 263, 264, 265, 266, 346, 17, 19] g75 M)
            exact ih (i + 1) _ rfl (by omega)
        exact key n.toNat 0 _ rfl (by omega)
      · show R (25, [some (aR 7 0), some (aI sd), some (aI n), some (aI h), some (aI q), some (aR 1 k), none, none], [aI 0], M)
        refine hR _ (am_brt (rg := am_in 0) (P := (0 : Int) = 0) (A := R (33, [some (aR 7 0), some (aI sd), some (aI n), some (aI h), some (aI q), some (aR 1 k), none, none], [], M)) (B := R (28, [some (aR 7 0), some (aI sd), some (aI n), some (aI h), some (aI q), some (aR 1 k), none, none], [], M)) (by omega) (by omega) ?_)
        show R (33, [some (aR 7 0), some (aI sd), some (aI n), some (aI h), some (aI q), some (aR 1 k), none, none], [], M)
        refine hR _ (?_)
        show R (36, [some (aR 7 0), some (aI sd), some (aI n), some (aI h), some (aI q), some (aR 1 k), none, none], [aL (-4611686018427387904)], M)
        refine hR _ (show K (some (aL (-4611686018427387904))) M from ?_)
        have hres : jx_odds M sd n h q = (-4611686018427387904) := by
          unfold jx_odds
          repeat' split
          all_goals first | omega | rfl
        rw [hres] at hK
        have e9 : am_ag [12, 13, 14, 263, 264, 265, 266, 346, 17, 19, 100, 101, 102] M M := am_ag.rf
        rw [e9.eq]
        exact hK _
    · show R (15, [some (aR 7 0), some (aI sd), some (aI n), some (aI h), some (aI q), some (aR 1 k), none, none], [aI 0], M)
      refine hR _ (am_brt (rg := am_in 0) (P := (0 : Int) = 0) (A := R (33, [some (aR 7 0), some (aI sd), some (aI n), some (aI h), some (aI q), some (aR 1 k), none, none], [], M)) (B := R (18, [some (aR 7 0), some (aI sd), some (aI n), some (aI h), some (aI q), some (aR 1 k), none, none], [], M)) (by omega) (by omega) ?_)
      show R (33, [some (aR 7 0), some (aI sd), some (aI n), some (aI h), some (aI q), some (aR 1 k), none, none], [], M)
      refine hR _ (?_)
      show R (36, [some (aR 7 0), some (aI sd), some (aI n), some (aI h), some (aI q), some (aR 1 k), none, none], [aL (-4611686018427387904)], M)
      refine hR _ (show K (some (aL (-4611686018427387904))) M from ?_)
      have hres : jx_odds M sd n h q = (-4611686018427387904) := by
        unfold jx_odds
        repeat' split
        all_goals first | omega | rfl
      rw [hres] at hK
      have e9 : am_ag [12, 13, 14, 263, 264, 265, 266, 346, 17, 19, 100, 101, 102] M M := am_ag.rf
      rw [e9.eq]
      exact hK _
  · replace hno : ¬ (0 ≤ h ∧ h < M 227 0 0) := hno
    show R (5, [some (aR 7 0), some (aI sd), some (aI n), some (aI h), some (aI q), none, none, none], [aN], M)
    refine hR _ (hR _ (hR _ (hR _ (?_))))
    show R (12, [some (aR 7 0), some (aI sd), some (aI n), some (aI h), some (aI q), some (aN), none, none], [aI 99999, aI 0, aI sd], M)
    refine hR _ (sp_within (by omega) (by omega) (fun h12 => ?_) (fun h12 => ?_))
    · show R (15, [some (aR 7 0), some (aI sd), some (aI n), some (aI h), some (aI q), some (aN), none, none], [aI 1], M)
      refine hR _ (am_brf (rg := am_in 1) (P := (1 : Int) = 0) (A := R (33, [some (aR 7 0), some (aI sd), some (aI n), some (aI h), some (aI q), some (aN), none, none], [], M)) (B := R (18, [some (aR 7 0), some (aI sd), some (aI n), some (aI h), some (aI q), some (aN), none, none], [], M)) (by omega) (by omega) ?_)
      show R (18, [some (aR 7 0), some (aI sd), some (aI n), some (aI h), some (aI q), some (aN), none, none], [], M)
      refine hR _ (hR _ (hR _ (?_)))
      show R (22, [some (aR 7 0), some (aI sd), some (aI n), some (aI h), some (aI q), some (aN), none, none], [aI 99, aI 1, aI n], M)
      refine hR _ (sp_within (by omega) (by omega) (fun h22 => ?_) (fun h22 => ?_))
      · show R (25, [some (aR 7 0), some (aI sd), some (aI n), some (aI h), some (aI q), some (aN), none, none], [aI 1], M)
        refine hR _ (am_brf (rg := am_in 1) (P := (1 : Int) = 0) (A := R (33, [some (aR 7 0), some (aI sd), some (aI n), some (aI h), some (aI q), some (aN), none, none], [], M)) (B := R (28, [some (aR 7 0), some (aI sd), some (aI n), some (aI h), some (aI q), some (aN), none, none], [], M)) (by omega) (by omega) ?_)
        show R (28, [some (aR 7 0), some (aI sd), some (aI n), some (aI h), some (aI q), some (aN), none, none], [], M)
        refine hR _ (hR _ (hR _ (?_)))
        show R (36, [some (aR 7 0), some (aI sd), some (aI n), some (aI h), some (aI q), some (aN), none, none], [aL (-4611686018427387904)], M)
        refine hR _ (show K (some (aL (-4611686018427387904))) M from ?_)
        have hres : jx_odds M sd n h q = (-4611686018427387904) := by
          unfold jx_odds
          repeat' split
          all_goals first | omega | rfl
        rw [hres] at hK
        have e9 : am_ag [12, 13, 14, 263, 264, 265, 266, 346, 17, 19, 100, 101, 102] M M := am_ag.rf
        rw [e9.eq]
        exact hK _
      · show R (25, [some (aR 7 0), some (aI sd), some (aI n), some (aI h), some (aI q), some (aN), none, none], [aI 0], M)
        refine hR _ (am_brt (rg := am_in 0) (P := (0 : Int) = 0) (A := R (33, [some (aR 7 0), some (aI sd), some (aI n), some (aI h), some (aI q), some (aN), none, none], [], M)) (B := R (28, [some (aR 7 0), some (aI sd), some (aI n), some (aI h), some (aI q), some (aN), none, none], [], M)) (by omega) (by omega) ?_)
        show R (33, [some (aR 7 0), some (aI sd), some (aI n), some (aI h), some (aI q), some (aN), none, none], [], M)
        refine hR _ (?_)
        show R (36, [some (aR 7 0), some (aI sd), some (aI n), some (aI h), some (aI q), some (aN), none, none], [aL (-4611686018427387904)], M)
        refine hR _ (show K (some (aL (-4611686018427387904))) M from ?_)
        have hres : jx_odds M sd n h q = (-4611686018427387904) := by
          unfold jx_odds
          repeat' split
          all_goals first | omega | rfl
        rw [hres] at hK
        have e9 : am_ag [12, 13, 14, 263, 264, 265, 266, 346, 17, 19, 100, 101, 102] M M := am_ag.rf
        rw [e9.eq]
        exact hK _
    · show R (15, [some (aR 7 0), some (aI sd), some (aI n), some (aI h), some (aI q), some (aN), none, none], [aI 0], M)
      refine hR _ (am_brt (rg := am_in 0) (P := (0 : Int) = 0) (A := R (33, [some (aR 7 0), some (aI sd), some (aI n), some (aI h), some (aI q), some (aN), none, none], [], M)) (B := R (18, [some (aR 7 0), some (aI sd), some (aI n), some (aI h), some (aI q), some (aN), none, none], [], M)) (by omega) (by omega) ?_)
      show R (33, [some (aR 7 0), some (aI sd), some (aI n), some (aI h), some (aI q), some (aN), none, none], [], M)
      refine hR _ (?_)
      show R (36, [some (aR 7 0), some (aI sd), some (aI n), some (aI h), some (aI q), some (aN), none, none], [aL (-4611686018427387904)], M)
      refine hR _ (show K (some (aL (-4611686018427387904))) M from ?_)
      have hres : jx_odds M sd n h q = (-4611686018427387904) := by
        unfold jx_odds
        repeat' split
        all_goals first | omega | rfl
      rw [hres] at hK
      have e9 : am_ag [12, 13, 14, 263, 264, 265, 266, 346, 17, 19, 100, 101, 102] M M := am_ag.rf
      rw [e9.eq]
      exact hK _

theorem sq_both {d : Nat} (hd : 8 ≤ d) {e b : Int} {M : am_M} {K : am_K} (hJ : jf_J M) (ha_e : am_in e) (ha_b : am_in b) (hK : ∀ g, K (some (aI (jx_bo M e b))) (am_mix [12, 13, 14, 263, 264, 265, 266, 346, 17, 19, 100, 101, 102] g M)) : am_Call wb d 84 [aR 7 0, aI e, aI b] M K := by
  obtain ⟨d, rfl⟩ : ∃ e, d = e + 1 := ⟨d - 1, by omega⟩
  refine ⟨rfl, fun R hR hC => ?_⟩
  replace hR : ∀ c, am_F wb tb_f84 1 (am_Call wb d) K R c → R c := hR
  have hn := hJ.1.1.2.2.2.2.2.2.2.1
  have hl0 := hJ.1.1.2.2.2.2.2.2.2.2
  have htc := hJ.2.2.1.1
  have hlt : 0 ≤ M 228 0 0 ∧ M 228 0 0 < 6 := by omega
  have hmk := hJ.1.1.1
  have hdr := hJ.1.1.2.1
  have hpr := hJ.1.1.2.2.1
  have hfu := hJ.1.1.2.2.2.1
  show R (0, [some (aR 7 0), some (aI e), some (aI b), none], [], M)
  refine hR _ (hR _ (hR _ (?_)))
  show R (5, [some (aR 7 0), some (aI e), some (aI b), none], [aI 5000, aI 0, aI e], M)
  refine hR _ (sp_within (by omega) (by omega) (fun h5 => ?_) (fun h5 => ?_))
  · show R (8, [some (aR 7 0), some (aI e), some (aI b), none], [aI 1], M)
    refine hR _ (am_brf (rg := am_in 1) (P := (1 : Int) = 0) (A := R (32, [some (aR 7 0), some (aI e), some (aI b), none], [], M)) (B := R (11, [some (aR 7 0), some (aI e), some (aI b), none], [], M)) (by omega) (by omega) ?_)
    show R (11, [some (aR 7 0), some (aI e), some (aI b), none], [], M)
    refine hR _ (hR _ (hR _ (?_)))
    show R (15, [some (aR 7 0), some (aI e), some (aI b), none], [aI 100, aI 1, aI b], M)
    refine hR _ (sp_within (by omega) (by omega) (fun h15 => ?_) (fun h15 => ?_))
    · show R (18, [some (aR 7 0), some (aI e), some (aI b), none], [aI 1], M)
      refine hR _ (am_brf (rg := am_in 1) (P := (1 : Int) = 0) (A := R (32, [some (aR 7 0), some (aI e), some (aI b), none], [], M)) (B := R (21, [some (aR 7 0), some (aI e), some (aI b), none], [], M)) (by omega) (by omega) ?_)
      show R (21, [some (aR 7 0), some (aI e), some (aI b), none], [], M)
      refine hR _ (hR _ (hR _ (hR _ (hR _ (am_brt (rg := am_in (M 222 0 0) ∧ am_in 1) (P := 1 ≤ M 222 0 0) (A := R (35, [some (aR 7 0), some (aI e), some (aI b), none], [], M)) (B := R (32, [some (aR 7 0), some (aI e), some (aI b), none], [], M)) (by omega) (by omega) ?_)))))
      show R (35, [some (aR 7 0), some (aI e), some (aI b), none], [], M)
      refine hR _ (hR _ (?_))
      show R (37, [some (aR 7 0), some (aI e), some (aI b), some (aI e)], [], M)
      have key : ∀ (c : Nat) (s : Int), 0 ≤ s → s + c = e + 1001 → jf_bo b (M 222 0 0) c s = jf_bo b (M 222 0 0) 1001 e → R (37, [some (aR 7 0), some (aI e), some (aI b), some (aI s)], [], M) := by
        intro c
        induction c with
        | zero =>
          intro s hs hin hb
          refine hR _ (hR _ (hR _ (hR _ (hR _ (am_brt (rg := am_in s ∧ am_in (e + 1000)) (P := (e + 1000) < s) (A := R (74, [some (aR 7 0), some (aI e), some (aI b), some (aI s)], [], M)) (B := R (46, [some (aR 7 0), some (aI e), some (aI b), some (aI s)], [], M)) (by omega) (by omega) ?_)))))
          show R (74, [some (aR 7 0), some (aI e), some (aI b), some (aI s)], [], M)
          refine hR _ (?_)
          show R (75, [some (aR 7 0), some (aI e), some (aI b), some (aI s)], [aI (-1)], M)
          refine hR _ (show K (some (aI (-1))) M from ?_)
          have hres : jx_bo M e b = -1 := by
            unfold jx_bo
            rw [if_pos (by omega), ← hb, jf_bo]
          rw [hres] at hK
          have e9 : am_ag [12, 13, 14, 263, 264, 265, 266, 346, 17, 19, 100, 101, 102] M M := am_ag.rf
          rw [e9.eq]
          exact hK _
        | succ c ih =>
          intro s hs hin hb
          have t1 : 0 ≤ Int.tmod s b ∧ Int.tmod s b < b := by
            rw [jf_tm _ _ hs]
            exact ⟨Int.emod_nonneg _ (by omega), Int.emod_lt_of_pos _ (by omega)⟩
          have t2 : 0 ≤ Int.tmod (4 * s) (M 222 0 0) ∧ Int.tmod (4 * s) (M 222 0 0) < M 222 0 0 := by
            rw [jf_tm _ _ (by omega)]
            exact ⟨Int.emod_nonneg _ (by omega), Int.emod_lt_of_pos _ (by omega)⟩
          refine hR _ (hR _ (hR _ (hR _ (hR _ (am_brf (rg := am_in s ∧ am_in (e + 1000)) (P := (e + 1000) < s) (A := R (74, [some (aR 7 0), some (aI e), some (aI b), some (aI s)], [], M)) (B := R (46, [some (aR 7 0), some (aI e), some (aI b), some (aI s)], [], M)) (by omega) (by omega) ?_)))))
          show R (46, [some (aR 7 0), some (aI e), some (aI b), some (aI s)], [], M)
          refine hR _ (hR _ (?_))
          show R (48, [some (aR 7 0), some (aI e), some (aI b), some (aI s)], [aI b, aI s], M)
          refine hR _ ⟨(by omega), ?_⟩
          show R (49, [some (aR 7 0), some (aI e), some (aI b), some (aI s)], [aI (Int.tmod s b)], M)
          refine hR _ (am_brc (rg := am_in (Int.tmod s b)) (P := (Int.tmod s b) ≠ 0) (A := R (68, [some (aR 7 0), some (aI e), some (aI b), some (aI s)], [], M)) (B := R (52, [some (aR 7 0), some (aI e), some (aI b), some (aI s)], [], M)) (by omega) (fun c49 => ?_) (fun c49 => ?_))
          · refine hR _ (hR _ (?_))
            show R (37, [some (aR 7 0), some (aI e), some (aI b), some (aI (s + 1))], [], M)
            rw [jf_bo, if_neg (by omega)] at hb
            exact ih _ (by omega) (by omega) hb
          · refine hR _ (hR _ (hR _ (hR _ (hR _ (hR _ (?_))))))
            show R (62, [some (aR 7 0), some (aI e), some (aI b), some (aI s)], [aI (M 222 0 0), aI (4 * s)], M)
            refine hR _ ⟨(by omega), ?_⟩
            show R (63, [some (aR 7 0), some (aI e), some (aI b), some (aI s)], [aI (Int.tmod (4 * s) (M 222 0 0))], M)
            refine hR _ (am_brc (rg := am_in (Int.tmod (4 * s) (M 222 0 0))) (P := (Int.tmod (4 * s) (M 222 0 0)) ≠ 0) (A := R (68, [some (aR 7 0), some (aI e), some (aI b), some (aI s)], [], M)) (B := R (66, [some (aR 7 0), some (aI e), some (aI b), some (aI s)], [], M)) (by omega) (fun c63 => ?_) (fun c63 => ?_))
            · refine hR _ (hR _ (?_))
              show R (37, [some (aR 7 0), some (aI e), some (aI b), some (aI (s + 1))], [], M)
              rw [jf_bo, if_neg (by omega)] at hb
              exact ih _ (by omega) (by omega) hb
            · refine hR _ (?_)
              show R (67, [some (aR 7 0), some (aI e), some (aI b), some (aI s)], [aI s], M)
              refine hR _ (show K (some (aI s)) M from ?_)
              have hres : jx_bo M e b = s := by
                unfold jx_bo
                rw [if_pos (by omega), ← hb, jf_bo, if_pos (by omega)]
              rw [hres] at hK
              have e9 : am_ag [12, 13, 14, 263, 264, 265, 266, 346, 17, 19, 100, 101, 102] M M := am_ag.rf
              rw [e9.eq]
              exact hK _
      exact key 1001 e (by omega) (by omega) rfl
    · show R (18, [some (aR 7 0), some (aI e), some (aI b), none], [aI 0], M)
      refine hR _ (am_brt (rg := am_in 0) (P := (0 : Int) = 0) (A := R (32, [some (aR 7 0), some (aI e), some (aI b), none], [], M)) (B := R (21, [some (aR 7 0), some (aI e), some (aI b), none], [], M)) (by omega) (by omega) ?_)
      show R (32, [some (aR 7 0), some (aI e), some (aI b), none], [], M)
      refine hR _ (?_)
      show R (34, [some (aR 7 0), some (aI e), some (aI b), none], [aI (-2)], M)
      refine hR _ (show K (some (aI (-2))) M from ?_)
      have hres : jx_bo M e b = (-2) := by
        unfold jx_bo
        repeat' split
        all_goals first | omega | rfl
      rw [hres] at hK
      have e9 : am_ag [12, 13, 14, 263, 264, 265, 266, 346, 17, 19, 100, 101, 102] M M := am_ag.rf
      rw [e9.eq]
      exact hK _
  · show R (8, [some (aR 7 0), some (aI e), some (aI b), none], [aI 0], M)
    refine hR _ (am_brt (rg := am_in 0) (P := (0 : Int) = 0) (A := R (32, [some (aR 7 0), some (aI e), some (aI b), none], [], M)) (B := R (11, [some (aR 7 0), some (aI e), some (aI b), none], [], M)) (by omega) (by omega) ?_)
    show R (32, [some (aR 7 0), some (aI e), some (aI b), none], [], M)
    refine hR _ (?_)
    show R (34, [some (aR 7 0), some (aI e), some (aI b), none], [aI (-2)], M)
    refine hR _ (show K (some (aI (-2))) M from ?_)
    have hres : jx_bo M e b = (-2) := by
      unfold jx_bo
      repeat' split
      all_goals first | omega | rfl
    rw [hres] at hK
    have e9 : am_ag [12, 13, 14, 263, 264, 265, 266, 346, 17, 19, 100, 101, 102] M M := am_ag.rf
    rw [e9.eq]
    exact hK _
