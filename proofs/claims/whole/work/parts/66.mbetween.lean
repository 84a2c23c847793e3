/-! wb -/
/-! THE REFERENCE: a sign between two -/
theorem sy_len (k : Int) : ∀ H : List Int, (sy_un k H).length + (sy_tk k H).length = H.length
  | [] => rfl
  | s :: r => by
    have ih := sy_len k r
    unfold sy_un sy_tk
    split
    · rw [List.length_cons, List.length_cons]
      omega
    · rw [List.length_cons, List.length_nil]
theorem sy_un_mem {k : Int} : ∀ {H : List Int} {s : Int}, s ∈ sy_un k H → s ∈ H
  | [], _, h => h
  | a :: r, s, h => by
    unfold sy_un at h
    split at h
    · exact List.mem_cons_of_mem _ (sy_un_mem h)
    · exact h
theorem sy_un_hd {k : Int} : ∀ {H r : List Int} {s : Int}, sy_un k H = s :: r → sy_rk s < k
  | [], _, _, h => by cases h
  | a :: t, r, s, h => by
    unfold sy_un at h
    by_cases hk : k ≤ sy_rk a
    · rw [if_pos hk] at h
      exact sy_un_hd h
    · rw [if_neg hk] at h
      cases h
      omega
theorem mo_mt_f {T : Int} (h : 0 ≤ T ∧ T ≤ 61) (h9 : T ≠ 9) : (T = 0 ∧ mo_mt T = 0) ∨ (T = 1 ∧ mo_mt T = -1) ∨ (T = 2 ∧ mo_mt T = 1) ∨ (3 ≤ T ∧ T ≤ 5 ∧ mo_mt T = 3) ∨ (T = 6 ∧ mo_mt T = 6) ∨ (T = 7 ∧ mo_mt T = 5) ∨ (T = 8 ∧ mo_mt T = 4) ∨ (10 ≤ T ∧ T ≤ 15 ∧ mo_mt T = 2) ∨ (16 ≤ T ∧ mo_mt T = T) := by
  unfold mo_mt
  repeat' split
  all_goals omega
theorem lx_T_9 (b : Nat → Int) (z n : Nat) : lx_T b z n ≠ 9 := by
  unfold lx_T lx_t
  have h1 := lx_wt_b (lx_sl b (lx_q b z (lx_P b z n)) (lx_e b z (lx_P b z n)))
  have h2 := lx_sg_b (lx_by b z (lx_q b z (lx_P b z n)))
  repeat' split
  all_goals omega
theorem sy_cv {T : Int} (h : sy_isop T) : 11 ≤ jf_cv T 0 ∧ jf_cv T 0 ≤ 18 ∧ jf_cv T 0 ≠ 13 ∧ 1 ≤ sy_kk (jf_cv T 0) ∧ sy_kk (jf_cv T 0) ≤ 6 ∧ ∀ l, sy_op (jf_cv T 0 :: l) = sy_op l := by
  rcases h with h | h | h | h | h | h | h <;> subst h <;> exact ⟨by decide, by decide, by decide, by decide, by decide, fun l => Nat.zero_add _⟩

theorem sm_signOf {d : Nat} (hd : 1 ≤ d) {T : Int} {M : am_M} {K : am_K} (hT0 : M 442 0 0 = mo_mt T) (hTr : 0 ≤ T ∧ T ≤ 61) (hT9 : T ≠ 9) (h1 : sy_isop T → K (some (aI (jf_cv T 0))) M) (h0 : ¬ sy_isop T → K (some (aI (-1))) M) : am_Call true d 133 [aR 8 0] M K := by
  obtain ⟨d, rfl⟩ : ∃ e, d = e + 1 := ⟨d - 1, by omega⟩
  refine ⟨rfl, fun R hR hC => ?_⟩
  replace hR : ∀ c, am_F true tb_f133 1 (am_Call true d) K R c → R c := hR
  have hm := mo_mt_f hTr hT9
  show R (0, [some (aR 8 0)], [], M)
  refine hR _ (hR _ (?_))
  show R (4, [some (aR 8 0)], [aI (M 442 0 0)], M)
  rw [(show M 442 0 0 = mo_mt T from hT0)]
  show R (4, [some (aR 8 0)], [aI (mo_mt T)], M)
  refine hR _ (hR _ (am_brc (rg := am_in (mo_mt T) ∧ am_in 4) (P := (mo_mt T) ≠ 4) (A := R (13, [some (aR 8 0)], [], M)) (B := R (8, [some (aR 8 0)], [], M)) (by omega) (fun c5 => ?_) (fun c5 => ?_)))
  · refine hR _ (hR _ (?_))
    show R (17, [some (aR 8 0)], [aI (M 442 0 0)], M)
    rw [(show M 442 0 0 = mo_mt T from hT0)]
    show R (17, [some (aR 8 0)], [aI (mo_mt T)], M)
    refine hR _ (hR _ (am_brc (rg := am_in (mo_mt T) ∧ am_in 5) (P := (mo_mt T) ≠ 5) (A := R (26, [some (aR 8 0)], [], M)) (B := R (21, [some (aR 8 0)], [], M)) (by omega) (fun c18 => ?_) (fun c18 => ?_)))
    · refine hR _ (hR _ (?_))
      show R (30, [some (aR 8 0)], [aI (M 442 0 0)], M)
      rw [(show M 442 0 0 = mo_mt T from hT0)]
      show R (30, [some (aR 8 0)], [aI (mo_mt T)], M)
      refine hR _ (hR _ (am_brc (rg := am_in (mo_mt T) ∧ am_in 60) (P := (mo_mt T) ≠ 60) (A := R (40, [some (aR 8 0)], [], M)) (B := R (35, [some (aR 8 0)], [], M)) (by omega) (fun c32 => ?_) (fun c32 => ?_)))
      · refine hR _ (hR _ (?_))
        show R (44, [some (aR 8 0)], [aI (M 442 0 0)], M)
        rw [(show M 442 0 0 = mo_mt T from hT0)]
        show R (44, [some (aR 8 0)], [aI (mo_mt T)], M)
        refine hR _ (hR _ (am_brc (rg := am_in (mo_mt T) ∧ am_in 61) (P := (mo_mt T) ≠ 61) (A := R (54, [some (aR 8 0)], [], M)) (B := R (49, [some (aR 8 0)], [], M)) (by omega) (fun c46 => ?_) (fun c46 => ?_)))
        · refine hR _ (hR _ (?_))
          show R (58, [some (aR 8 0)], [aI (M 442 0 0)], M)
          rw [(show M 442 0 0 = mo_mt T from hT0)]
          show R (58, [some (aR 8 0)], [aI (mo_mt T)], M)
          refine hR _ (hR _ (am_brc (rg := am_in (mo_mt T) ∧ am_in 43) (P := (mo_mt T) ≠ 43) (A := R (68, [some (aR 8 0)], [], M)) (B := R (63, [some (aR 8 0)], [], M)) (by omega) (fun c60 => ?_) (fun c60 => ?_)))
          · refine hR _ (hR _ (?_))
            show R (72, [some (aR 8 0)], [aI (M 442 0 0)], M)
            rw [(show M 442 0 0 = mo_mt T from hT0)]
            show R (72, [some (aR 8 0)], [aI (mo_mt T)], M)
            refine hR _ (hR _ (am_brc (rg := am_in (mo_mt T) ∧ am_in 45) (P := (mo_mt T) ≠ 45) (A := R (82, [some (aR 8 0)], [], M)) (B := R (77, [some (aR 8 0)], [], M)) (by omega) (fun c74 => ?_) (fun c74 => ?_)))
            · refine hR _ (hR _ (?_))
              show R (86, [some (aR 8 0)], [aI (M 442 0 0)], M)
              rw [(show M 442 0 0 = mo_mt T from hT0)]
              show R (86, [some (aR 8 0)], [aI (mo_mt T)], M)
              refine hR _ (hR _ (am_brc (rg := am_in (mo_mt T) ∧ am_in 42) (P := (mo_mt T) ≠ 42) (A := R (96, [some (aR 8 0)], [], M)) (B := R (91, [some (aR 8 0)], [], M)) (by omega) (fun c88 => ?_) (fun c88 => ?_)))
              · refine hR _ (?_)
                show R (97, [some (aR 8 0)], [aI (-1)], M)
                refine hR _ (show K (some (aI (-1))) M from ?_)
                exact h0 (by unfold sy_isop; omega)
              · refine hR _ (hR _ (?_))
                show R (97, [some (aR 8 0)], [aI 18], M)
                refine hR _ (show K (some (aI 18)) M from ?_)
                have hT : T = 42 := by omega
                have hj : jf_cv T 0 = 18 := by rw [hT]; rfl
                rw [hj] at h1
                exact h1 (by unfold sy_isop; omega)
            · refine hR _ (hR _ (?_))
              show R (97, [some (aR 8 0)], [aI 17], M)
              refine hR _ (show K (some (aI 17)) M from ?_)
              have hT : T = 45 := by omega
              have hj : jf_cv T 0 = 17 := by rw [hT]; rfl
              rw [hj] at h1
              exact h1 (by unfold sy_isop; omega)
          · refine hR _ (hR _ (?_))
            show R (97, [some (aR 8 0)], [aI 16], M)
            refine hR _ (show K (some (aI 16)) M from ?_)
            have hT : T = 43 := by omega
            have hj : jf_cv T 0 = 16 := by rw [hT]; rfl
            rw [hj] at h1
            exact h1 (by unfold sy_isop; omega)
        · refine hR _ (hR _ (?_))
          show R (97, [some (aR 8 0)], [aI 15], M)
          refine hR _ (show K (some (aI 15)) M from ?_)
          have hT : T = 61 := by omega
          have hj : jf_cv T 0 = 15 := by rw [hT]; rfl
          rw [hj] at h1
          exact h1 (by unfold sy_isop; omega)
      · refine hR _ (hR _ (?_))
        show R (97, [some (aR 8 0)], [aI 14], M)
        refine hR _ (show K (some (aI 14)) M from ?_)
        have hT : T = 60 := by omega
        have hj : jf_cv T 0 = 14 := by rw [hT]; rfl
        rw [hj] at h1
        exact h1 (by unfold sy_isop; omega)
    · refine hR _ (hR _ (?_))
      show R (97, [some (aR 8 0)], [aI 12], M)
      refine hR _ (show K (some (aI 12)) M from ?_)
      have hT : T = 7 := by omega
      have hj : jf_cv T 0 = 12 := by rw [hT]; rfl
      rw [hj] at h1
      exact h1 (by unfold sy_isop; omega)
  · refine hR _ (hR _ (?_))
    show R (97, [some (aR 8 0)], [aI 11], M)
    refine hR _ (show K (some (aI 11)) M from ?_)
    have hT : T = 8 := by omega
    have hj : jf_cv T 0 = 11 := by rw [hT]; rfl
    rw [hj] at h1
    exact h1 (by unfold sy_isop; omega)

set_option maxHeartbeats 1000000 in
theorem sm_between {d : Nat} (hd : 3 ≤ d) {t : Nat} {H out : List Int} {g : am_M} {s : Int} {M : am_M} {K : am_K} (ht : M 430 0 0 = (t : Int)) (ht5 : t ≤ 5) (hs : mo_hd M (am_mix mo_SR g M) t H (sy_op H : Int) out) (hlen : H.length + out.length < 199) (hs1 : 11 ≤ s ∧ s ≤ 18) (hkk : 1 ≤ sy_kk s ∧ sy_kk s ≤ 6) (hf : sy_rk s = 4 → (∃ s2 r, sy_un 5 H = s2 :: r ∧ sy_rk s2 = 4) → ∀ g2, mo_hd M (am_mix mo_SR g2 M) t (sy_un (sy_kk s) H) (sy_op (sy_un (sy_kk s) H) : Int) (out ++ sy_tk (sy_kk s) H) → mo_lx (am_mix mo_SR g2 M) g → K (some (aI 0)) (am_mix mo_SR g2 M)) (hy : ¬ (sy_rk s = 4 ∧ ∃ s2 r, sy_un 5 H = s2 :: r ∧ sy_rk s2 = 4) → ∀ g2, mo_hd M (am_mix mo_SR g2 M) t (s :: sy_un (sy_kk s) H) (sy_op (sy_un (sy_kk s) H) : Int) (out ++ sy_tk (sy_kk s) H) → mo_lx (am_mix mo_SR g2 M) g → K (some (aI 1)) (am_mix mo_SR g2 M)) : am_Call true d 134 [aR 8 0, aI s] (am_mix mo_SR g M) K := by
  obtain ⟨d, rfl⟩ : ∃ e, d = e + 1 := ⟨d - 1, by omega⟩
  refine ⟨rfl, fun R hR hC => ?_⟩
  replace hR : ∀ c, am_F true tb_f134 2 (am_Call true d) K R c → R c := hR
  have hrk0 := sy_rk_b s
  show R (0, [some (aR 8 0), some (aI s)], [], (am_mix mo_SR g M))
  refine hR _ (hR _ (?_))
  show R (2, [some (aR 8 0), some (aI s)], [aI s, aR 8 0], am_mix mo_SR g M)
  refine hR _ (sm_rank (by omega) (by omega) ?_)
  have hrk2 := sy_rk_b s
  show R (5, [some (aR 8 0), some (aI s)], [aI (sy_rk s), aR 8 0], am_mix mo_SR g M)
  refine hR _ (hR _ (am_brc (rg := am_in (sy_rk s) ∧ am_in 4) (P := (sy_rk s) ≠ 4) (A := R (13, [some (aR 8 0), some (aI s)], [aR 8 0], am_mix mo_SR g M)) (B := R (9, [some (aR 8 0), some (aI s)], [aR 8 0], am_mix mo_SR g M)) (by omega) (fun c6 => ?_) (fun c6 => ?_)))
  · refine hR _ (?_)
    show R (14, [some (aR 8 0), some (aI s)], [aI s, aR 8 0], am_mix mo_SR g M)
    refine hR _ (sm_rank (by omega) (by omega) ?_)
    have hrk14 := sy_rk_b s
    show R (17, [some (aR 8 0), some (aI s)], [aI (sy_rk s), aR 8 0], am_mix mo_SR g M)
    rw [show ((sy_rk s) : Int) = sy_kk s by unfold sy_kk; first | (rw [if_pos (by omega)]; done) | (rw [if_neg (by omega)]; done)]
    show R (17, [some (aR 8 0), some (aI s)], [aI (sy_kk s), aR 8 0], am_mix mo_SR g M)
    refine hR _ (sm_unwinds (t := t) (H := H) (o := (sy_op H : Int)) (out := out) (k := sy_kk s) (by omega) ht ht5 hs (by omega) (by omega) rfl (fun g1 n1 n2 => ?_))
    show R (20, [some (aR 8 0), some (aI s)], [], am_mix mo_SR g1 M)
    have hlu := sy_len (sy_kk s) H
    have hz : g1 446 0 0 = (((sy_un (sy_kk s) H).length : Nat) : Int) := n1.1.1
    refine hR _ (?_)
    show R (21, [some (aR 8 0), some (aI s)], [aI s], am_mix mo_SR g1 M)
    refine hR _ (sm_rank (by omega) (by omega) ?_)
    have hrk21 := sy_rk_b s
    show R (24, [some (aR 8 0), some (aI s)], [aI (sy_rk s)], am_mix mo_SR g1 M)
    refine hR _ (hR _ (am_brc (rg := am_in (sy_rk s) ∧ am_in 4) (P := (sy_rk s) ≠ 4) (A := R (55, [some (aR 8 0), some (aI s)], [], am_mix mo_SR g1 M)) (B := R (28, [some (aR 8 0), some (aI s)], [], am_mix mo_SR g1 M)) (by omega) (fun c25 => ?_) (fun c25 => ?_)))
    · refine hR _ (hR _ (?_))
      show R (57, [some (aR 8 0), some (aI s)], [aI s, aR 8 0], am_mix mo_SR g1 M)
      refine hR _ (sm_holds (t := t) (H := sy_un (sy_kk s) H) (o := (sy_op (sy_un (sy_kk s) H) : Int)) (out := out ++ sy_tk (sy_kk s) H) (by omega) ht ht5 n1 (by omega) (by omega) (fun g3 n3 n4 => ?_))
      show R (60, [some (aR 8 0), some (aI s)], [], am_mix mo_SR g3 M)
      refine hR _ (?_)
      show R (61, [some (aR 8 0), some (aI s)], [aI 1], am_mix mo_SR g3 M)
      refine hR _ (show ((1 : Int) = 0 ∨ (1 : Int) = 1) ∧ K (some (aI 1)) (am_mix mo_SR g3 M) from ?_)
      refine ⟨by omega, hy (fun hh => ?_) _ n3 (n4.tr n2)⟩
      obtain ⟨h4, s2, r2, h5, h6⟩ := hh
      have hk5 : sy_kk s = 5 := by unfold sy_kk; rw [if_pos h4]
      first | omega | skip
      all_goals (rw [← hk5] at h5; first | (rw [hsr] at h5; cases h5; omega) | (rw [h5] at hz; simp at hz; omega))
    · refine hR _ (hR _ (hR _ (am_brc (rg := am_in (g1 446 0 0)) (P := g1 446 0 0 ≤ 0) (A := R (55, [some (aR 8 0), some (aI s)], [], am_mix mo_SR g1 M)) (B := R (35, [some (aR 8 0), some (aI s)], [], am_mix mo_SR g1 M)) (by omega) (fun c32 => ?_) (fun c32 => ?_))))
      · refine hR _ (hR _ (?_))
        show R (57, [some (aR 8 0), some (aI s)], [aI s, aR 8 0], am_mix mo_SR g1 M)
        refine hR _ (sm_holds (t := t) (H := sy_un (sy_kk s) H) (o := (sy_op (sy_un (sy_kk s) H) : Int)) (out := out ++ sy_tk (sy_kk s) H) (by omega) ht ht5 n1 (by omega) (by omega) (fun g3 n3 n4 => ?_))
        show R (60, [some (aR 8 0), some (aI s)], [], am_mix mo_SR g3 M)
        refine hR _ (?_)
        show R (61, [some (aR 8 0), some (aI s)], [aI 1], am_mix mo_SR g3 M)
        refine hR _ (show ((1 : Int) = 0 ∨ (1 : Int) = 1) ∧ K (some (aI 1)) (am_mix mo_SR g3 M) from ?_)
        refine ⟨by omega, hy (fun hh => ?_) _ n3 (n4.tr n2)⟩
        obtain ⟨h4, s2, r2, h5, h6⟩ := hh
        have hk5 : sy_kk s = 5 := by unfold sy_kk; rw [if_pos h4]
        first | omega | skip
        all_goals (rw [← hk5] at h5; first | (rw [hsr] at h5; cases h5; omega) | (rw [h5] at hz; simp at hz; omega))
      · obtain ⟨s1, r1, hsr⟩ : ∃ s1 r1, sy_un (sy_kk s) H = s1 :: r1 := by
          cases hq : sy_un (sy_kk s) H with
          | nil => rw [hq] at hz; simp at hz; omega
          | cons s1 r1 => exact ⟨s1, r1, rfl⟩
        have n1b := n1
        rw [hsr] at n1b
        have htop := n1b.top
        have hz2 : g1 446 0 0 = ((r1.length : Nat) : Int) + 1 := by rw [hz, hsr]; simp
        refine hR _ (hR _ (hR _ (hR _ (hR _ (hR _ (?_))))))
        show R (45, [some (aR 8 0), some (aI s)], [aI (g1 446 0 0 - 1), aR 36 0], am_mix mo_SR g1 M)
        refine hR _ ⟨(show 0 ≤ ((g1 446 0 0 - 1) : Int) ∧ ((g1 446 0 0 - 1) : Int) < 200 from (by omega)), ?_⟩
        show R (46, [some (aR 8 0), some (aI s)], [aI (g1 36 0 (((g1 446 0 0 - 1)).toNat))], am_mix mo_SR g1 M)
        rw [(show g1 36 0 (((g1 446 0 0 - 1)).toNat) = s1 by rw [show ((g1 446 0 0 - 1)).toNat = r1.length by omega]; exact htop.1)]
        show R (46, [some (aR 8 0), some (aI s)], [aI s1], am_mix mo_SR g1 M)
        refine hR _ (sm_rank (by omega) (by omega) ?_)
        have hrk46 := sy_rk_b s1
        show R (49, [some (aR 8 0), some (aI s)], [aI (sy_rk s1)], am_mix mo_SR g1 M)
        refine hR _ (hR _ (am_brc (rg := am_in (sy_rk s1) ∧ am_in 4) (P := (sy_rk s1) ≠ 4) (A := R (55, [some (aR 8 0), some (aI s)], [], am_mix mo_SR g1 M)) (B := R (53, [some (aR 8 0), some (aI s)], [], am_mix mo_SR g1 M)) (by omega) (fun c50 => ?_) (fun c50 => ?_)))
        · refine hR _ (hR _ (?_))
          show R (57, [some (aR 8 0), some (aI s)], [aI s, aR 8 0], am_mix mo_SR g1 M)
          refine hR _ (sm_holds (t := t) (H := sy_un (sy_kk s) H) (o := (sy_op (sy_un (sy_kk s) H) : Int)) (out := out ++ sy_tk (sy_kk s) H) (by omega) ht ht5 n1 (by omega) (by omega) (fun g3 n3 n4 => ?_))
          show R (60, [some (aR 8 0), some (aI s)], [], am_mix mo_SR g3 M)
          refine hR _ (?_)
          show R (61, [some (aR 8 0), some (aI s)], [aI 1], am_mix mo_SR g3 M)
          refine hR _ (show ((1 : Int) = 0 ∨ (1 : Int) = 1) ∧ K (some (aI 1)) (am_mix mo_SR g3 M) from ?_)
          refine ⟨by omega, hy (fun hh => ?_) _ n3 (n4.tr n2)⟩
          obtain ⟨h4, s2, r2, h5, h6⟩ := hh
          have hk5 : sy_kk s = 5 := by unfold sy_kk; rw [if_pos h4]
          first | omega | skip
          all_goals (rw [← hk5] at h5; first | (rw [hsr] at h5; cases h5; omega) | (rw [h5] at hz; simp at hz; omega))
        · refine hR _ (?_)
          show R (54, [some (aR 8 0), some (aI s)], [aI 0], am_mix mo_SR g1 M)
          refine hR _ (show ((0 : Int) = 0 ∨ (0 : Int) = 1) ∧ K (some (aI 0)) (am_mix mo_SR g1 M) from ?_)
          refine ⟨by omega, hf (by omega) ⟨s1, r1, by rw [← hsr]; congr 1; unfold sy_kk; rw [if_pos (by omega)], by omega⟩ _ n1 n2⟩
  · refine hR _ (hR _ (?_))
    show R (17, [some (aR 8 0), some (aI s)], [aI 5, aR 8 0], am_mix mo_SR g M)
    rw [show (5 : Int) = sy_kk s by unfold sy_kk; first | (rw [if_pos (by omega)]; done) | (rw [if_neg (by omega)]; done)]
    show R (17, [some (aR 8 0), some (aI s)], [aI (sy_kk s), aR 8 0], am_mix mo_SR g M)
    refine hR _ (sm_unwinds (t := t) (H := H) (o := (sy_op H : Int)) (out := out) (k := sy_kk s) (by omega) ht ht5 hs (by omega) (by omega) rfl (fun g1 n1 n2 => ?_))
    show R (20, [some (aR 8 0), some (aI s)], [], am_mix mo_SR g1 M)
    have hlu := sy_len (sy_kk s) H
    have hz : g1 446 0 0 = (((sy_un (sy_kk s) H).length : Nat) : Int) := n1.1.1
    refine hR _ (?_)
    show R (21, [some (aR 8 0), some (aI s)], [aI s], am_mix mo_SR g1 M)
    refine hR _ (sm_rank (by omega) (by omega) ?_)
    have hrk21 := sy_rk_b s
    show R (24, [some (aR 8 0), some (aI s)], [aI (sy_rk s)], am_mix mo_SR g1 M)
    refine hR _ (hR _ (am_brc (rg := am_in (sy_rk s) ∧ am_in 4) (P := (sy_rk s) ≠ 4) (A := R (55, [some (aR 8 0), some (aI s)], [], am_mix mo_SR g1 M)) (B := R (28, [some (aR 8 0), some (aI s)], [], am_mix mo_SR g1 M)) (by omega) (fun c25 => ?_) (fun c25 => ?_)))
    · refine hR _ (hR _ (?_))
      show R (57, [some (aR 8 0), some (aI s)], [aI s, aR 8 0], am_mix mo_SR g1 M)
      refine hR _ (sm_holds (t := t) (H := sy_un (sy_kk s) H) (o := (sy_op (sy_un (sy_kk s) H) : Int)) (out := out ++ sy_tk (sy_kk s) H) (by omega) ht ht5 n1 (by omega) (by omega) (fun g3 n3 n4 => ?_))
      show R (60, [some (aR 8 0), some (aI s)], [], am_mix mo_SR g3 M)
      refine hR _ (?_)
      show R (61, [some (aR 8 0), some (aI s)], [aI 1], am_mix mo_SR g3 M)
      refine hR _ (show ((1 : Int) = 0 ∨ (1 : Int) = 1) ∧ K (some (aI 1)) (am_mix mo_SR g3 M) from ?_)
      refine ⟨by omega, hy (fun hh => ?_) _ n3 (n4.tr n2)⟩
      obtain ⟨h4, s2, r2, h5, h6⟩ := hh
      have hk5 : sy_kk s = 5 := by unfold sy_kk; rw [if_pos h4]
      first | omega | skip
      all_goals (rw [← hk5] at h5; first | (rw [hsr] at h5; cases h5; omega) | (rw [h5] at hz; simp at hz; omega))
    · refine hR _ (hR _ (hR _ (am_brc (rg := am_in (g1 446 0 0)) (P := g1 446 0 0 ≤ 0) (A := R (55, [some (aR 8 0), some (aI s)], [], am_mix mo_SR g1 M)) (B := R (35, [some (aR 8 0), some (aI s)], [], am_mix mo_SR g1 M)) (by omega) (fun c32 => ?_) (fun c32 => ?_))))
      · refine hR _ (hR _ (?_))
        show R (57, [some (aR 8 0), some (aI s)], [aI s, aR 8 0], am_mix mo_SR g1 M)
        refine hR _ (sm_holds (t := t) (H := sy_un (sy_kk s) H) (o := (sy_op (sy_un (sy_kk s) H) : Int)) (out := out ++ sy_tk (sy_kk s) H) (by omega) ht ht5 n1 (by omega) (by omega) (fun g3 n3 n4 => ?_))
        show R (60, [some (aR 8 0), some (aI s)], [], am_mix mo_SR g3 M)
        refine hR _ (?_)
        show R (61, [some (aR 8 0), some (aI s)], [aI 1], am_mix mo_SR g3 M)
        refine hR _ (show ((1 : Int) = 0 ∨ (1 : Int) = 1) ∧ K (some (aI 1)) (am_mix mo_SR g3 M) from ?_)
        refine ⟨by omega, hy (fun hh => ?_) _ n3 (n4.tr n2)⟩
        obtain ⟨h4, s2, r2, h5, h6⟩ := hh
        have hk5 : sy_kk s = 5 := by unfold sy_kk; rw [if_pos h4]
        first | omega | skip
        all_goals (rw [← hk5] at h5; first | (rw [hsr] at h5; cases h5; omega) | (rw [h5] at hz; simp at hz; omega))
      · obtain ⟨s1, r1, hsr⟩ : ∃ s1 r1, sy_un (sy_kk s) H = s1 :: r1 := by
          cases hq : sy_un (sy_kk s) H with
          | nil => rw [hq] at hz; simp at hz; omega
          | cons s1 r1 => exact ⟨s1, r1, rfl⟩
        have n1b := n1
        rw [hsr] at n1b
        have htop := n1b.top
        have hz2 : g1 446 0 0 = ((r1.length : Nat) : Int) + 1 := by rw [hz, hsr]; simp
        refine hR _ (hR _ (hR _ (hR _ (hR _ (hR _ (?_))))))
        show R (45, [some (aR 8 0), some (aI s)], [aI (g1 446 0 0 - 1), aR 36 0], am_mix mo_SR g1 M)
        refine hR _ ⟨(show 0 ≤ ((g1 446 0 0 - 1) : Int) ∧ ((g1 446 0 0 - 1) : Int) < 200 from (by omega)), ?_⟩
        show R (46, [some (aR 8 0), some (aI s)], [aI (g1 36 0 (((g1 446 0 0 - 1)).toNat))], am_mix mo_SR g1 M)
        rw [(show g1 36 0 (((g1 446 0 0 - 1)).toNat) = s1 by rw [show ((g1 446 0 0 - 1)).toNat = r1.length by omega]; exact htop.1)]
        show R (46, [some (aR 8 0), some (aI s)], [aI s1], am_mix mo_SR g1 M)
        refine hR _ (sm_rank (by omega) (by omega) ?_)
        have hrk46 := sy_rk_b s1
        show R (49, [some (aR 8 0), some (aI s)], [aI (sy_rk s1)], am_mix mo_SR g1 M)
        refine hR _ (hR _ (am_brc (rg := am_in (sy_rk s1) ∧ am_in 4) (P := (sy_rk s1) ≠ 4) (A := R (55, [some (aR 8 0), some (aI s)], [], am_mix mo_SR g1 M)) (B := R (53, [some (aR 8 0), some (aI s)], [], am_mix mo_SR g1 M)) (by omega) (fun c50 => ?_) (fun c50 => ?_)))
        · refine hR _ (hR _ (?_))
          show R (57, [some (aR 8 0), some (aI s)], [aI s, aR 8 0], am_mix mo_SR g1 M)
          refine hR _ (sm_holds (t := t) (H := sy_un (sy_kk s) H) (o := (sy_op (sy_un (sy_kk s) H) : Int)) (out := out ++ sy_tk (sy_kk s) H) (by omega) ht ht5 n1 (by omega) (by omega) (fun g3 n3 n4 => ?_))
          show R (60, [some (aR 8 0), some (aI s)], [], am_mix mo_SR g3 M)
          refine hR _ (?_)
          show R (61, [some (aR 8 0), some (aI s)], [aI 1], am_mix mo_SR g3 M)
          refine hR _ (show ((1 : Int) = 0 ∨ (1 : Int) = 1) ∧ K (some (aI 1)) (am_mix mo_SR g3 M) from ?_)
          refine ⟨by omega, hy (fun hh => ?_) _ n3 (n4.tr n2)⟩
          obtain ⟨h4, s2, r2, h5, h6⟩ := hh
          have hk5 : sy_kk s = 5 := by unfold sy_kk; rw [if_pos h4]
          first | omega | skip
          all_goals (rw [← hk5] at h5; first | (rw [hsr] at h5; cases h5; omega) | (rw [h5] at hz; simp at hz; omega))
        · refine hR _ (?_)
          show R (54, [some (aR 8 0), some (aI s)], [aI 0], am_mix mo_SR g1 M)
          refine hR _ (show ((0 : Int) = 0 ∨ (0 : Int) = 1) ∧ K (some (aI 0)) (am_mix mo_SR g1 M) from ?_)
          refine ⟨by omega, hf (by omega) ⟨s1, r1, by rw [← hsr]; congr 1; unfold sy_kk; rw [if_pos (by omega)], by omega⟩ _ n1 n2⟩
