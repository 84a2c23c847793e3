/-! wb -/
variable {wb : Bool}
theorem sp_named {d : Nat} (hd : 1 ≤ d) {t : Nat} {v : Int} {M : am_M} {K : am_K} (ht : t < 6) (hv : 0 ≤ v ∧ v ≤ 5) (h : K (some (aI (M 19 t v.toNat))) M) : am_Call wb d 40 [aR 6 t, aI v] M K := by
  obtain ⟨d, rfl⟩ : ∃ e, d = e + 1 := ⟨d - 1, by omega⟩
  refine ⟨rfl, fun R hR hC => ?_⟩
  replace hR : ∀ c, am_F wb tb_f40 1 (am_Call wb d) K R c → R c := hR
  show R (0, [some (aR 6 t), some (aI v)], [], M)
  refine hR _ (hR _ (am_brc (rg := am_in v) (P := v < 0) (A := R (19, [some (aR 6 t), some (aI v)], [], M)) (B := R (4, [some (aR 6 t), some (aI v)], [], M)) (by omega) (fun c1 => ?_) (fun c1 => ?_)))
  · refine hR _ (?_)
    show R (20, [some (aR 6 t), some (aI v)], [aI 0], M)
    refine hR _ (show K (some (aI 0)) M from ?_)
    exact absurd hv (by omega)
  · refine hR _ (hR _ (hR _ (am_brc (rg := am_in v ∧ am_in 6) (P := 6 ≤ v) (A := R (19, [some (aR 6 t), some (aI v)], [], M)) (B := R (10, [some (aR 6 t), some (aI v)], [], M)) (by omega) (fun c7 => ?_) (fun c7 => ?_))))
    · refine hR _ (?_)
      show R (20, [some (aR 6 t), some (aI v)], [aI 0], M)
      refine hR _ (show K (some (aI 0)) M from ?_)
      exact absurd hv (by omega)
    · refine hR _ (?_)
      show R (11, [some (aR 6 t), some (aI v)], [aR 6 t], M)
      refine hR _ (am_ct (am_vi (by omega : t < 6)) ?_)
      show R (14, [some (aR 6 t), some (aI v)], [aR 19 t], M)
      refine hR _ (?_)
      show R (15, [some (aR 6 t), some (aI v)], [aI v, aR 19 t], M)
      refine hR _ (am_ct (am_vi (by omega : t < 6)) ⟨(show 0 ≤ (v : Int) ∧ (v : Int) < 6 from (by omega)), ?_⟩)
      show R (16, [some (aR 6 t), some (aI v)], [aI (M 19 t ((v).toNat))], M)
      refine hR _ (?_)
      show R (20, [some (aR 6 t), some (aI v)], [aI (M 19 t ((v).toNat))], M)
      refine hR _ (show K (some (aI (M 19 t ((v).toNat)))) M from ?_)
      exact h

theorem sp_push {d : Nat} (hd : 1 ≤ d) {t : Nat} {v : Int} {l : List Int} {M : am_M} {K : am_K} (ht : t < 6) (hst : jf_stk M t l) (hl : l.length < 160) (hv : am_in v) (h : ∀ g, jf_stk (am_mix [346, 17] g M) t (v :: l) → K none (am_mix [346, 17] g M)) : am_Call wb d 41 [aR 6 t, aI v] M K := by
  obtain ⟨d, rfl⟩ : ∃ e, d = e + 1 := ⟨d - 1, by omega⟩
  refine ⟨rfl, fun R hR hC => ?_⟩
  replace hR : ∀ c, am_F wb tb_f41 0 (am_Call wb d) K R c → R c := hR
  have hq := hst.1
  show R (0, [some (aR 6 t), some (aI v)], [], M)
  refine hR _ (?_)
  show R (1, [some (aR 6 t), some (aI v)], [aR 6 t], M)
  refine hR _ (am_ct (am_vi (by omega : t < 6)) ?_)
  show R (4, [some (aR 6 t), some (aI v)], [aI (M 346 t 0)], M)
  refine hR _ (am_brc (rg := am_in (M 346 t 0)) (P := M 346 t 0 < 0) (A := R (17, [some (aR 6 t), some (aI v)], [], M)) (B := R (7, [some (aR 6 t), some (aI v)], [], M)) (by omega) (fun c4 => ?_) (fun c4 => ?_))
  · refine hR _ (show K none M from ?_)
    exact absurd hst.1 (by omega)
  · refine hR _ (?_)
    show R (8, [some (aR 6 t), some (aI v)], [aR 6 t], M)
    refine hR _ (am_ct (am_vi (by omega : t < 6)) ?_)
    show R (11, [some (aR 6 t), some (aI v)], [aI (M 346 t 0)], M)
    refine hR _ (hR _ (am_brc (rg := am_in (M 346 t 0) ∧ am_in 160) (P := M 346 t 0 < 160) (A := R (18, [some (aR 6 t), some (aI v)], [], M)) (B := R (17, [some (aR 6 t), some (aI v)], [], M)) (by omega) (fun c14 => ?_) (fun c14 => ?_)))
    · refine hR _ (?_)
      show R (19, [some (aR 6 t), some (aI v)], [aR 6 t], M)
      refine hR _ (am_ct (am_vi (by omega : t < 6)) ?_)
      show R (22, [some (aR 6 t), some (aI v)], [aR 17 t], M)
      refine hR _ (?_)
      show R (23, [some (aR 6 t), some (aI v)], [aR 6 t, aR 17 t], M)
      refine hR _ (am_ct (am_vi (by omega : t < 6)) ?_)
      show R (26, [some (aR 6 t), some (aI v)], [aI (M 346 t 0), aR 17 t], M)
      refine hR _ (?_)
      show R (27, [some (aR 6 t), some (aI v)], [aI v, aI (M 346 t 0), aR 17 t], M)
      refine hR _ (am_ct (am_vi (by omega : t < 6)) ⟨(show 0 ≤ (M 346 t 0 : Int) ∧ (M 346 t 0 : Int) < 160 from (by omega)), ?_⟩)
      show R (28, [some (aR 6 t), some (aI v)], [], am_wr M 17 t ((M 346 t 0).toNat) v)
      refine hR _ (hR _ (?_))
      show R (30, [some (aR 6 t), some (aI v)], [aR 6 t, aR 6 t], am_wr M 17 t ((M 346 t 0).toNat) v)
      refine hR _ (am_ct (am_vi (by omega : t < 6)) ?_)
      show R (33, [some (aR 6 t), some (aI v)], [aI (M 346 t 0), aR 6 t], am_wr M 17 t ((M 346 t 0).toNat) v)
      refine hR _ (hR _ (?_))
      show R (35, [some (aR 6 t), some (aI v)], [aI (M 346 t 0 + 1), aR 6 t], am_wr M 17 t ((M 346 t 0).toNat) v)
      refine hR _ (am_ct (am_vi (by omega : t < 6)) ?_)
      show R (38, [some (aR 6 t), some (aI v)], [], am_wr (am_wr M 17 t ((M 346 t 0).toNat) v) 346 t 0 (M 346 t 0 + 1))
      refine hR _ (show K none (am_wr (am_wr M 17 t ((M 346 t 0).toNat) v) 346 t 0 (M 346 t 0 + 1)) from ?_)
      have e1 : (M 346 t 0).toNat = l.length := by rw [hst.1]; omega
      have e2 := hst.push hv
      rw [e1, hst.1]
      exact am_fin (S := [346, 17]) (F := fun m => jf_stk m t (v :: l)) ((am_ag.rf.wr rfl).wr rfl) e2 h
    · refine hR _ (show K none M from ?_)
      exact absurd hst.1 (by omega)

theorem sp_pop {d : Nat} (hd : 1 ≤ d) {t : Nat} {x : Int} {r : List Int} {M : am_M} {K : am_K} (ht : t < 6) (hst : jf_stk M t (x :: r)) (hl : r.length < 160) (h : ∀ g, jf_stk (am_mix [346] g M) t r → am_in x → K (some (aI x)) (am_mix [346] g M)) : am_Call wb d 42 [aR 6 t] M K := by
  obtain ⟨d, rfl⟩ : ∃ e, d = e + 1 := ⟨d - 1, by omega⟩
  refine ⟨rfl, fun R hR hC => ?_⟩
  replace hR : ∀ c, am_F wb tb_f42 1 (am_Call wb d) K R c → R c := hR
  have hq : M 346 t 0 = (r.length : Int) + 1 := by rw [hst.1]; simp
  have hp := hst.pop
  have e1 : M 346 t 0 - 1 = (r.length : Int) := by omega
  have e2 : ((r.length : Int)).toNat = r.length := by omega
  show R (0, [some (aR 6 t)], [], M)
  refine hR _ (?_)
  show R (1, [some (aR 6 t)], [aR 6 t], M)
  refine hR _ (am_ct (am_vi (by omega : t < 6)) ?_)
  show R (4, [some (aR 6 t)], [aI (M 346 t 0)], M)
  refine hR _ (hR _ (am_brc (rg := am_in (M 346 t 0) ∧ am_in 1) (P := M 346 t 0 < 1) (A := R (18, [some (aR 6 t)], [], M)) (B := R (8, [some (aR 6 t)], [], M)) (by omega) (fun c5 => ?_) (fun c5 => ?_)))
  · refine hR _ (?_)
    show R (19, [some (aR 6 t)], [aI 0], M)
    refine hR _ (show K (some (aI 0)) M from ?_)
    exact absurd hst.1 (by simp; omega)
  · refine hR _ (?_)
    show R (9, [some (aR 6 t)], [aR 6 t], M)
    refine hR _ (am_ct (am_vi (by omega : t < 6)) ?_)
    show R (12, [some (aR 6 t)], [aI (M 346 t 0)], M)
    refine hR _ (hR _ (am_brc (rg := am_in (M 346 t 0) ∧ am_in 160) (P := M 346 t 0 ≤ 160) (A := R (20, [some (aR 6 t)], [], M)) (B := R (18, [some (aR 6 t)], [], M)) (by omega) (fun c15 => ?_) (fun c15 => ?_)))
    · refine hR _ (hR _ (?_))
      show R (22, [some (aR 6 t)], [aR 6 t, aR 6 t], M)
      refine hR _ (am_ct (am_vi (by omega : t < 6)) ?_)
      show R (25, [some (aR 6 t)], [aI (M 346 t 0), aR 6 t], M)
      refine hR _ (hR _ (?_))
      show R (27, [some (aR 6 t)], [aI (M 346 t 0 - 1), aR 6 t], M)
      refine hR _ (am_ct (am_vi (by omega : t < 6)) ?_)
      show R (30, [some (aR 6 t)], [], am_wr M 346 t 0 (M 346 t 0 - 1))
      refine hR _ (?_)
      show R (31, [some (aR 6 t)], [aR 6 t], am_wr M 346 t 0 (M 346 t 0 - 1))
      refine hR _ (am_ct (am_vi (by omega : t < 6)) ?_)
      show R (34, [some (aR 6 t)], [aR 17 t], am_wr M 346 t 0 (M 346 t 0 - 1))
      refine hR _ (?_)
      show R (35, [some (aR 6 t)], [aR 6 t, aR 17 t], am_wr M 346 t 0 (M 346 t 0 - 1))
      refine hR _ (am_ct (am_vi (by omega : t < 6)) ?_)
      show R (38, [some (aR 6 t)], [aI ((am_wr M 346 t 0 (M 346 t 0 - 1)) 346 t 0), aR 17 t], am_wr M 346 t 0 (M 346 t 0 - 1))
      rw [am_wr_eq]
      refine hR _ (am_ct (am_vi (by omega : t < 6)) ⟨(show 0 ≤ ((M 346 t 0 - 1) : Int) ∧ ((M 346 t 0 - 1) : Int) < 160 from (by omega)), ?_⟩)
      show R (39, [some (aR 6 t)], [aI (M 17 t (((M 346 t 0 - 1)).toNat))], am_wr M 346 t 0 (M 346 t 0 - 1))
      refine hR _ (show K (some (aI (M 17 t (((M 346 t 0 - 1)).toNat)))) (am_wr M 346 t 0 (M 346 t 0 - 1)) from ?_)
      rw [e1, e2, hp.1]
      exact am_fin (S := [346]) (F := fun m => jf_stk m t r) (am_ag.rf.wr rfl) hp.2.1 (fun g hg => h g hg hp.2.2)
    · refine hR _ (?_)
      show R (19, [some (aR 6 t)], [aI 0], M)
      refine hR _ (show K (some (aI 0)) M from ?_)
      exact absurd hst.1 (by simp; omega)

theorem sp_joined {d : Nat} (hd : 1 ≤ d) {s x y : Int} {M : am_M} {K : am_K} (hs : s = 8 ∨ s = 7 ∨ s = 60 ∨ s = 61 ∨ s = 43 ∨ s = 45 ∨ s = 42) (hx : am_in x) (hy : am_in y) (h : K (some (aI (jf_two (jf_cv s 0) x y))) M) : am_Call wb d 43 [aI s, aI x, aI y] M K := by
  obtain ⟨d, rfl⟩ : ∃ e, d = e + 1 := ⟨d - 1, by omega⟩
  refine ⟨rfl, fun R hR hC => ?_⟩
  replace hR : ∀ c, am_F wb tb_f43 1 (am_Call wb d) K R c → R c := hR
  show R (0, [some (aI s), some (aI x), some (aI y)], [], M)
  refine hR _ (?_)
  show R (1, [some (aI s), some (aI x), some (aI y)], [aI s], M)
  refine hR _ ⟨(by omega), fun c1 => ?_, fun c1 => ?_, fun c1 => ?_, fun c1 => ?_, fun c1 => ?_, fun c1 => ?_, fun c1_0 c1_1 c1_2 c1_3 c1_4 c1_5 => ?_⟩
  · show R (94, [some (aI s), some (aI x), some (aI y)], [], M)
    refine hR _ (hR _ (am_brc (rg := am_in x) (P := x = 0) (A := R (106, [some (aI s), some (aI x), some (aI y)], [], M)) (B := R (98, [some (aI s), some (aI x), some (aI y)], [], M)) (by omega) (fun c95 => ?_) (fun c95 => ?_)))
    · refine hR _ (?_)
      show R (107, [some (aI s), some (aI x), some (aI y)], [aI 0], M)
      refine hR _ (show K (some (aI 0)) M from ?_)
      refine am_kr h ?_
      rcases hs with rfl | rfl | rfl | rfl | rfl | rfl | rfl <;> first | omega | rfl | (show (if x ≠ 0 ∨ y ≠ 0 then (1:Int) else 0) = _; split <;> omega) | (show (if x ≠ 0 ∧ y ≠ 0 then (1:Int) else 0) = _; split <;> omega) | (show (if x < y then (1:Int) else 0) = _; split <;> omega) | (show (if x = y then (1:Int) else 0) = _; split <;> omega)
    · refine hR _ (hR _ (am_brc (rg := am_in y) (P := y = 0) (A := R (106, [some (aI s), some (aI x), some (aI y)], [], M)) (B := R (102, [some (aI s), some (aI x), some (aI y)], [], M)) (by omega) (fun c99 => ?_) (fun c99 => ?_)))
      · refine hR _ (?_)
        show R (107, [some (aI s), some (aI x), some (aI y)], [aI 0], M)
        refine hR _ (show K (some (aI 0)) M from ?_)
        refine am_kr h ?_
        rcases hs with rfl | rfl | rfl | rfl | rfl | rfl | rfl <;> first | omega | rfl | (show (if x ≠ 0 ∨ y ≠ 0 then (1:Int) else 0) = _; split <;> omega) | (show (if x ≠ 0 ∧ y ≠ 0 then (1:Int) else 0) = _; split <;> omega) | (show (if x < y then (1:Int) else 0) = _; split <;> omega) | (show (if x = y then (1:Int) else 0) = _; split <;> omega)
      · refine hR _ (hR _ (?_))
        show R (107, [some (aI s), some (aI x), some (aI y)], [aI 1], M)
        refine hR _ (show K (some (aI 1)) M from ?_)
        refine am_kr h ?_
        rcases hs with rfl | rfl | rfl | rfl | rfl | rfl | rfl <;> first | omega | rfl | (show (if x ≠ 0 ∨ y ≠ 0 then (1:Int) else 0) = _; split <;> omega) | (show (if x ≠ 0 ∧ y ≠ 0 then (1:Int) else 0) = _; split <;> omega) | (show (if x < y then (1:Int) else 0) = _; split <;> omega) | (show (if x = y then (1:Int) else 0) = _; split <;> omega)
  · show R (68, [some (aI s), some (aI x), some (aI y)], [], M)
    refine hR _ (hR _ (hR _ (?_)))
    show R (71, [some (aI s), some (aI x), some (aI y)], [aI (x * y)], M)
    refine hC _ _ _ (am_bm (x * y)) _ _ (i3_bm _).symm ?_
    show R (71, [some (aI s), some (aI x), some (aI y)], [aI (am_bm (x * y))], M)
    refine hR _ (show K (some (aI (am_bm (x * y)))) M from ?_)
    refine am_kr h ?_
    rcases hs with rfl | rfl | rfl | rfl | rfl | rfl | rfl <;> first | omega | rfl | (show (if x ≠ 0 ∨ y ≠ 0 then (1:Int) else 0) = _; split <;> omega) | (show (if x ≠ 0 ∧ y ≠ 0 then (1:Int) else 0) = _; split <;> omega) | (show (if x < y then (1:Int) else 0) = _; split <;> omega) | (show (if x = y then (1:Int) else 0) = _; split <;> omega)
  · show R (60, [some (aI s), some (aI x), some (aI y)], [], M)
    refine hR _ (hR _ (hR _ (?_)))
    show R (63, [some (aI s), some (aI x), some (aI y)], [aI (x + y)], M)
    refine hC _ _ _ (am_bm (x + y)) _ _ (i3_bm _).symm ?_
    show R (63, [some (aI s), some (aI x), some (aI y)], [aI (am_bm (x + y))], M)
    refine hR _ (show K (some (aI (am_bm (x + y)))) M from ?_)
    refine am_kr h ?_
    rcases hs with rfl | rfl | rfl | rfl | rfl | rfl | rfl <;> first | omega | rfl | (show (if x ≠ 0 ∨ y ≠ 0 then (1:Int) else 0) = _; split <;> omega) | (show (if x ≠ 0 ∧ y ≠ 0 then (1:Int) else 0) = _; split <;> omega) | (show (if x < y then (1:Int) else 0) = _; split <;> omega) | (show (if x = y then (1:Int) else 0) = _; split <;> omega)
  · show R (64, [some (aI s), some (aI x), some (aI y)], [], M)
    refine hR _ (hR _ (hR _ (?_)))
    show R (67, [some (aI s), some (aI x), some (aI y)], [aI (x - y)], M)
    refine hC _ _ _ (am_bm (x - y)) _ _ (i3_bm _).symm ?_
    show R (67, [some (aI s), some (aI x), some (aI y)], [aI (am_bm (x - y))], M)
    refine hR _ (show K (some (aI (am_bm (x - y)))) M from ?_)
    refine am_kr h ?_
    rcases hs with rfl | rfl | rfl | rfl | rfl | rfl | rfl <;> first | omega | rfl | (show (if x ≠ 0 ∨ y ≠ 0 then (1:Int) else 0) = _; split <;> omega) | (show (if x ≠ 0 ∧ y ≠ 0 then (1:Int) else 0) = _; split <;> omega) | (show (if x < y then (1:Int) else 0) = _; split <;> omega) | (show (if x = y then (1:Int) else 0) = _; split <;> omega)
  · show R (72, [some (aI s), some (aI x), some (aI y)], [], M)
    refine hR _ (hR _ (hR _ (am_brc (rg := am_in x ∧ am_in y) (P := y ≤ x) (A := R (81, [some (aI s), some (aI x), some (aI y)], [], M)) (B := R (77, [some (aI s), some (aI x), some (aI y)], [], M)) (by omega) (fun c74 => ?_) (fun c74 => ?_))))
    · refine hR _ (?_)
      show R (82, [some (aI s), some (aI x), some (aI y)], [aI 0], M)
      refine hR _ (show K (some (aI 0)) M from ?_)
      refine am_kr h ?_
      rcases hs with rfl | rfl | rfl | rfl | rfl | rfl | rfl <;> first | omega | rfl | (show (if x ≠ 0 ∨ y ≠ 0 then (1:Int) else 0) = _; split <;> omega) | (show (if x ≠ 0 ∧ y ≠ 0 then (1:Int) else 0) = _; split <;> omega) | (show (if x < y then (1:Int) else 0) = _; split <;> omega) | (show (if x = y then (1:Int) else 0) = _; split <;> omega)
    · refine hR _ (hR _ (?_))
      show R (82, [some (aI s), some (aI x), some (aI y)], [aI 1], M)
      refine hR _ (show K (some (aI 1)) M from ?_)
      refine am_kr h ?_
      rcases hs with rfl | rfl | rfl | rfl | rfl | rfl | rfl <;> first | omega | rfl | (show (if x ≠ 0 ∨ y ≠ 0 then (1:Int) else 0) = _; split <;> omega) | (show (if x ≠ 0 ∧ y ≠ 0 then (1:Int) else 0) = _; split <;> omega) | (show (if x < y then (1:Int) else 0) = _; split <;> omega) | (show (if x = y then (1:Int) else 0) = _; split <;> omega)
  · show R (83, [some (aI s), some (aI x), some (aI y)], [], M)
    refine hR _ (hR _ (hR _ (am_brc (rg := am_in x ∧ am_in y) (P := x ≠ y) (A := R (92, [some (aI s), some (aI x), some (aI y)], [], M)) (B := R (88, [some (aI s), some (aI x), some (aI y)], [], M)) (by omega) (fun c85 => ?_) (fun c85 => ?_))))
    · refine hR _ (?_)
      show R (93, [some (aI s), some (aI x), some (aI y)], [aI 0], M)
      refine hR _ (show K (some (aI 0)) M from ?_)
      refine am_kr h ?_
      rcases hs with rfl | rfl | rfl | rfl | rfl | rfl | rfl <;> first | omega | rfl | (show (if x ≠ 0 ∨ y ≠ 0 then (1:Int) else 0) = _; split <;> omega) | (show (if x ≠ 0 ∧ y ≠ 0 then (1:Int) else 0) = _; split <;> omega) | (show (if x < y then (1:Int) else 0) = _; split <;> omega) | (show (if x = y then (1:Int) else 0) = _; split <;> omega)
    · refine hR _ (hR _ (?_))
      show R (93, [some (aI s), some (aI x), some (aI y)], [aI 1], M)
      refine hR _ (show K (some (aI 1)) M from ?_)
      refine am_kr h ?_
      rcases hs with rfl | rfl | rfl | rfl | rfl | rfl | rfl <;> first | omega | rfl | (show (if x ≠ 0 ∨ y ≠ 0 then (1:Int) else 0) = _; split <;> omega) | (show (if x ≠ 0 ∧ y ≠ 0 then (1:Int) else 0) = _; split <;> omega) | (show (if x < y then (1:Int) else 0) = _; split <;> omega) | (show (if x = y then (1:Int) else 0) = _; split <;> omega)
  · show R (108, [some (aI s), some (aI x), some (aI y)], [], M)
    refine hR _ (hR _ (am_brc (rg := am_in x) (P := x ≠ 0) (A := R (116, [some (aI s), some (aI x), some (aI y)], [], M)) (B := R (112, [some (aI s), some (aI x), some (aI y)], [], M)) (by omega) (fun c109 => ?_) (fun c109 => ?_)))
    · refine hR _ (hR _ (?_))
      show R (121, [some (aI s), some (aI x), some (aI y)], [aI 1], M)
      refine hR _ (show K (some (aI 1)) M from ?_)
      refine am_kr h ?_
      rcases hs with rfl | rfl | rfl | rfl | rfl | rfl | rfl <;> first | omega | rfl | (show (if x ≠ 0 ∨ y ≠ 0 then (1:Int) else 0) = _; split <;> omega) | (show (if x ≠ 0 ∧ y ≠ 0 then (1:Int) else 0) = _; split <;> omega) | (show (if x < y then (1:Int) else 0) = _; split <;> omega) | (show (if x = y then (1:Int) else 0) = _; split <;> omega)
    · refine hR _ (hR _ (am_brc (rg := am_in y) (P := y = 0) (A := R (120, [some (aI s), some (aI x), some (aI y)], [], M)) (B := R (116, [some (aI s), some (aI x), some (aI y)], [], M)) (by omega) (fun c113 => ?_) (fun c113 => ?_)))
      · refine hR _ (?_)
        show R (121, [some (aI s), some (aI x), some (aI y)], [aI 0], M)
        refine hR _ (show K (some (aI 0)) M from ?_)
        refine am_kr h ?_
        rcases hs with rfl | rfl | rfl | rfl | rfl | rfl | rfl <;> first | omega | rfl | (show (if x ≠ 0 ∨ y ≠ 0 then (1:Int) else 0) = _; split <;> omega) | (show (if x ≠ 0 ∧ y ≠ 0 then (1:Int) else 0) = _; split <;> omega) | (show (if x < y then (1:Int) else 0) = _; split <;> omega) | (show (if x = y then (1:Int) else 0) = _; split <;> omega)
      · refine hR _ (hR _ (?_))
        show R (121, [some (aI s), some (aI x), some (aI y)], [aI 1], M)
        refine hR _ (show K (some (aI 1)) M from ?_)
        refine am_kr h ?_
        rcases hs with rfl | rfl | rfl | rfl | rfl | rfl | rfl <;> first | omega | rfl | (show (if x ≠ 0 ∨ y ≠ 0 then (1:Int) else 0) = _; split <;> omega) | (show (if x ≠ 0 ∧ y ≠ 0 then (1:Int) else 0) = _; split <;> omega) | (show (if x < y then (1:Int) else 0) = _; split <;> omega) | (show (if x = y then (1:Int) else 0) = _; split <;> omega)

theorem jf_stp_num {nm : Nat → Int} {v : Int} {l : List Int} (h : 0 ≤ v) : jf_stp nm (100000 + v) l = v :: l := by
  unfold jf_stp
  rw [if_neg (by omega), if_pos (by omega), show 100000 + v - 100000 = v by omega]
theorem jf_stp_name {nm : Nat → Int} {v : Int} {l : List Int} (h : v ≤ 5) : jf_stp nm v l = nm v.toNat :: l := by
  unfold jf_stp
  rw [if_pos (by omega)]
theorem sp_run {d : Nat} (hd : 2 ≤ d) {t : Nat} {s v : Int} {l : List Int} {nm : Nat → Int} {M : am_M} {K : am_K} (ht : t < 6) (hsv : jf_sv s v) (hst : jf_stk M t l) (hl : l.length < 160) (har : jf_ar (jf_cv s v) ≤ l.length) (hnm : ∀ j : Nat, j < 6 → M 19 t j = nm j ∧ am_in (nm j)) (h : ∀ g, jf_stk (am_mix [346, 17] g M) t (jf_stp nm (jf_cv s v) l) → K none (am_mix [346, 17] g M)) : am_Call wb d 39 [aR 6 t, aI s, aI v] M K := by
  obtain ⟨d, rfl⟩ : ∃ e, d = e + 1 := ⟨d - 1, by omega⟩
  refine ⟨rfl, fun R hR hC => ?_⟩
  replace hR : ∀ c, am_F wb tb_f39 0 (am_Call wb d) K R c → R c := hR
  show R (0, [some (aR 6 t), some (aI s), some (aI v), none], [], M)
  rcases hsv with ⟨rfl, hv⟩ | ⟨rfl, hv⟩ | rfl | rfl | rfl | rfl | rfl | rfl | rfl | rfl | rfl
  · skip
    refine hR _ (hR _ (hR _ (am_brt (rg := am_in 2 ∧ am_in 2) (P := (2 : Int) = 2) (A := R (11, [some (aR 6 t), some (aI 2), some (aI v), none], [], M)) (B := R (5, [some (aR 6 t), some (aI 2), some (aI v), none], [], M)) (by omega) (by omega) ?_)))
    show R (11, [some (aR 6 t), some (aI 2), some (aI v), none], [], M)
    refine hR _ (hR _ (hR _ (hR _ (am_brf (rg := am_in 2 ∧ am_in 2) (P := (2 : Int) ≠ 2) (A := R (21, [some (aR 6 t), some (aI 2), some (aI v), none], [aR 6 t], M)) (B := R (17, [some (aR 6 t), some (aI 2), some (aI v), none], [aR 6 t], M)) (by omega) (by omega) ?_))))
    show R (17, [some (aR 6 t), some (aI 2), some (aI v), none], [aR 6 t], M)
    refine hR _ (hR _ (?_))
    show R (26, [some (aR 6 t), some (aI 2), some (aI v), none], [aI v, aR 6 t], M)
    refine hR _ (am_ct (am_vi (by omega : t < 6)) (sp_push (l := (l)) (by omega) (by omega) hst (by first | (simp; done) | (simp at *; omega) | omega) (by omega) (fun g1 hst => ?_)))
    show R (29, [some (aR 6 t), some (aI 2), some (aI v), none], [], am_mix [346, 17] g1 M)
    refine hR _ (show K none (am_mix [346, 17] g1 M) from ?_)
    have e : am_ag [346, 17] M (am_mix [346, 17] g1 M) := (am_ag.rf).mix rfl
    refine am_fin (S := [346, 17]) (F := fun m => jf_stk m t (jf_stp nm (jf_cv 2 v) l)) e ?_ h
    rw [show jf_cv 2 v = 100000 + v from rfl, jf_stp_num (by omega)]; exact hst
  · skip
    have hn := hnm v.toNat (by omega)
    have hn2 := hn.1
    refine hR _ (hR _ (hR _ (am_brf (rg := am_in 9 ∧ am_in 2) (P := (9 : Int) = 2) (A := R (11, [some (aR 6 t), some (aI 9), some (aI v), none], [], M)) (B := R (5, [some (aR 6 t), some (aI 9), some (aI v), none], [], M)) (by omega) (by omega) ?_)))
    show R (5, [some (aR 6 t), some (aI 9), some (aI v), none], [], M)
    refine hR _ (hR _ (hR _ (am_brf (rg := am_in 9 ∧ am_in 9) (P := (9 : Int) ≠ 9) (A := R (30, [some (aR 6 t), some (aI 9), some (aI v), none], [], M)) (B := R (11, [some (aR 6 t), some (aI 9), some (aI v), none], [], M)) (by omega) (by omega) ?_)))
    show R (11, [some (aR 6 t), some (aI 9), some (aI v), none], [], M)
    refine hR _ (hR _ (hR _ (hR _ (am_brt (rg := am_in 9 ∧ am_in 2) (P := (9 : Int) ≠ 2) (A := R (21, [some (aR 6 t), some (aI 9), some (aI v), none], [aR 6 t], M)) (B := R (17, [some (aR 6 t), some (aI 9), some (aI v), none], [aR 6 t], M)) (by omega) (by omega) ?_))))
    show R (21, [some (aR 6 t), some (aI 9), some (aI v), none], [aR 6 t], M)
    refine hR _ (hR _ (?_))
    show R (23, [some (aR 6 t), some (aI 9), some (aI v), none], [aI v, aR 6 t, aR 6 t], M)
    refine hR _ (am_ct (am_vi (by omega : t < 6)) (sp_named (by omega) (by omega) (by omega) ?_))
    show R (26, [some (aR 6 t), some (aI 9), some (aI v), none], [aI (M 19 t ((v).toNat)), aR 6 t], M)
    refine hR _ (am_ct (am_vi (by omega : t < 6)) (sp_push (l := (l)) (by omega) (by omega) hst (by first | (simp; done) | (simp at *; omega) | omega) (by omega) (fun g2 hst => ?_)))
    show R (29, [some (aR 6 t), some (aI 9), some (aI v), none], [], am_mix [346, 17] g2 M)
    refine hR _ (show K none (am_mix [346, 17] g2 M) from ?_)
    have e : am_ag [346, 17] M (am_mix [346, 17] g2 M) := (am_ag.rf).mix rfl
    refine am_fin (S := [346, 17]) (F := fun m => jf_stk m t (jf_stp nm (jf_cv 9 v) l)) e ?_ h
    rw [show jf_cv 9 v = v from rfl, jf_stp_name (by omega), ← (hnm v.toNat (by omega)).1]; exact hst
  · obtain ⟨x, r, rfl⟩ : ∃ x r, l = x :: r := by
      cases l with
      | nil => exact absurd (show 1 ≤ 0 from har) (by decide)
      | cons x r => exact ⟨x, r, rfl⟩
    refine hR _ (hR _ (hR _ (am_brf (rg := am_in 6 ∧ am_in 2) (P := (6 : Int) = 2) (A := R (11, [some (aR 6 t), some (aI 6), some (aI v), none], [], M)) (B := R (5, [some (aR 6 t), some (aI 6), some (aI v), none], [], M)) (by omega) (by omega) ?_)))
    show R (5, [some (aR 6 t), some (aI 6), some (aI v), none], [], M)
    refine hR _ (hR _ (hR _ (am_brt (rg := am_in 6 ∧ am_in 9) (P := (6 : Int) ≠ 9) (A := R (30, [some (aR 6 t), some (aI 6), some (aI v), none], [], M)) (B := R (11, [some (aR 6 t), some (aI 6), some (aI v), none], [], M)) (by omega) (by omega) ?_)))
    show R (30, [some (aR 6 t), some (aI 6), some (aI v), none], [], M)
    refine hR _ (?_)
    show R (31, [some (aR 6 t), some (aI 6), some (aI v), none], [aR 6 t], M)
    refine hR _ (am_ct (am_vi (by omega : t < 6)) (sp_pop (x := x) (r := (r)) (by omega) (by omega) hst (by first | (simp; done) | (simp at *; omega) | omega) (fun g3 hst hin31 => ?_)))
    show R (34, [some (aR 6 t), some (aI 6), some (aI v), none], [aI x], am_mix [346] g3 M)
    refine hR _ (hR _ (hR _ (hR _ (am_brt (rg := am_in 6 ∧ am_in 16) (P := (6 : Int) ≠ 16) (A := R (50, [some (aR 6 t), some (aI 6), some (aI v), some (aI x)], [], am_mix [346] g3 M)) (B := R (41, [some (aR 6 t), some (aI 6), some (aI v), some (aI x)], [], am_mix [346] g3 M)) (by omega) (by omega) ?_))))
    show R (50, [some (aR 6 t), some (aI 6), some (aI v), some (aI x)], [], am_mix [346] g3 M)
    refine hR _ (hR _ (hR _ (am_brf (rg := am_in 6 ∧ am_in 6) (P := (6 : Int) ≠ 6) (A := R (72, [some (aR 6 t), some (aI 6), some (aI v), some (aI x)], [], am_mix [346] g3 M)) (B := R (56, [some (aR 6 t), some (aI 6), some (aI v), some (aI x)], [], am_mix [346] g3 M)) (by omega) (by omega) ?_)))
    show R (56, [some (aR 6 t), some (aI 6), some (aI v), some (aI x)], [], am_mix [346] g3 M)
    refine hR _ (hR _ (hR _ (am_brc (rg := am_in x) (P := x ≠ 0) (A := R (65, [some (aR 6 t), some (aI 6), some (aI v), some (aI x)], [aR 6 t], am_mix [346] g3 M)) (B := R (61, [some (aR 6 t), some (aI 6), some (aI v), some (aI x)], [aR 6 t], am_mix [346] g3 M)) (by omega) (fun c58 => ?_) (fun c58 => ?_))))
    · refine hR _ (?_)
      show R (66, [some (aR 6 t), some (aI 6), some (aI v), some (aI x)], [aI 0, aR 6 t], am_mix [346] g3 M)
      refine hR _ (am_ct (am_vi (by omega : t < 6)) (sp_push (l := (r)) (by omega) (by omega) hst (by first | (simp; done) | (simp at *; omega) | omega) (by omega) (fun g4 hst => ?_)))
      rw [am_mix_sub (S := [346]) (S2 := [346, 17]) rfl] at hst
      dsimp only
      rw [am_mix_sub (S := [346]) (S2 := [346, 17]) rfl]
      show R (69, [some (aR 6 t), some (aI 6), some (aI v), some (aI x)], [], am_mix [346, 17] g4 M)
      refine hR _ (?_)
      show R (85, [some (aR 6 t), some (aI 6), some (aI v), some (aI x)], [], am_mix [346, 17] g4 M)
      refine hR _ (show K none (am_mix [346, 17] g4 M) from ?_)
      have e : am_ag [346, 17] M (am_mix [346, 17] g4 M) := (am_ag.rf).mix rfl
      refine am_fin (S := [346, 17]) (F := fun m => jf_stk m t (jf_stp nm (jf_cv 6 v) (x :: r))) e ?_ h
      first | (rw [show jf_stp nm (jf_cv 6 v) (x :: r) = (if x = 0 then 1 else 0) :: r from rfl, if_pos (by omega)]; exact hst) | (rw [show jf_stp nm (jf_cv 6 v) (x :: r) = (if x = 0 then 1 else 0) :: r from rfl, if_neg (by omega)]; exact hst)
    · refine hR _ (hR _ (?_))
      show R (66, [some (aR 6 t), some (aI 6), some (aI v), some (aI x)], [aI 1, aR 6 t], am_mix [346] g3 M)
      refine hR _ (am_ct (am_vi (by omega : t < 6)) (sp_push (l := (r)) (by omega) (by omega) hst (by first | (simp; done) | (simp at *; omega) | omega) (by omega) (fun g5 hst => ?_)))
      rw [am_mix_sub (S := [346]) (S2 := [346, 17]) rfl] at hst
      dsimp only
      rw [am_mix_sub (S := [346]) (S2 := [346, 17]) rfl]
      show R (69, [some (aR 6 t), some (aI 6), some (aI v), some (aI x)], [], am_mix [346, 17] g5 M)
      refine hR _ (?_)
      show R (85, [some (aR 6 t), some (aI 6), some (aI v), some (aI x)], [], am_mix [346, 17] g5 M)
      refine hR _ (show K none (am_mix [346, 17] g5 M) from ?_)
      have e : am_ag [346, 17] M (am_mix [346, 17] g5 M) := (am_ag.rf).mix rfl
      refine am_fin (S := [346, 17]) (F := fun m => jf_stk m t (jf_stp nm (jf_cv 6 v) (x :: r))) e ?_ h
      first | (rw [show jf_stp nm (jf_cv 6 v) (x :: r) = (if x = 0 then 1 else 0) :: r from rfl, if_pos (by omega)]; exact hst) | (rw [show jf_stp nm (jf_cv 6 v) (x :: r) = (if x = 0 then 1 else 0) :: r from rfl, if_neg (by omega)]; exact hst)
  · obtain ⟨x, r, rfl⟩ : ∃ x r, l = x :: r := by
      cases l with
      | nil => exact absurd (show 1 ≤ 0 from har) (by decide)
      | cons x r => exact ⟨x, r, rfl⟩
    have hbm := am_bm_in (-x)
    refine hR _ (hR _ (hR _ (am_brf (rg := am_in 16 ∧ am_in 2) (P := (16 : Int) = 2) (A := R (11, [some (aR 6 t), some (aI 16), some (aI v), none], [], M)) (B := R (5, [some (aR 6 t), some (aI 16), some (aI v), none], [], M)) (by omega) (by omega) ?_)))
    show R (5, [some (aR 6 t), some (aI 16), some (aI v), none], [], M)
    refine hR _ (hR _ (hR _ (am_brt (rg := am_in 16 ∧ am_in 9) (P := (16 : Int) ≠ 9) (A := R (30, [some (aR 6 t), some (aI 16), some (aI v), none], [], M)) (B := R (11, [some (aR 6 t), some (aI 16), some (aI v), none], [], M)) (by omega) (by omega) ?_)))
    show R (30, [some (aR 6 t), some (aI 16), some (aI v), none], [], M)
    refine hR _ (?_)
    show R (31, [some (aR 6 t), some (aI 16), some (aI v), none], [aR 6 t], M)
    refine hR _ (am_ct (am_vi (by omega : t < 6)) (sp_pop (x := x) (r := (r)) (by omega) (by omega) hst (by first | (simp; done) | (simp at *; omega) | omega) (fun g6 hst hin31 => ?_)))
    show R (34, [some (aR 6 t), some (aI 16), some (aI v), none], [aI x], am_mix [346] g6 M)
    refine hR _ (hR _ (hR _ (hR _ (am_brf (rg := am_in 16 ∧ am_in 16) (P := (16 : Int) ≠ 16) (A := R (50, [some (aR 6 t), some (aI 16), some (aI v), some (aI x)], [], am_mix [346] g6 M)) (B := R (41, [some (aR 6 t), some (aI 16), some (aI v), some (aI x)], [], am_mix [346] g6 M)) (by omega) (by omega) ?_))))
    show R (41, [some (aR 6 t), some (aI 16), some (aI v), some (aI x)], [], am_mix [346] g6 M)
    refine hR _ (hR _ (hR _ (?_)))
    show R (44, [some (aR 6 t), some (aI 16), some (aI v), some (aI x)], [aI (-x), aR 6 t], am_mix [346] g6 M)
    refine hC _ _ _ (am_bm (-x)) _ _ (i3_bm _).symm ?_
    show R (44, [some (aR 6 t), some (aI 16), some (aI v), some (aI x)], [aI (am_bm (-x)), aR 6 t], am_mix [346] g6 M)
    refine hR _ (am_ct (am_vi (by omega : t < 6)) (sp_push (l := (r)) (by omega) (by omega) hst (by first | (simp; done) | (simp at *; omega) | omega) (by omega) (fun g7 hst => ?_)))
    rw [am_mix_sub (S := [346]) (S2 := [346, 17]) rfl] at hst
    dsimp only
    rw [am_mix_sub (S := [346]) (S2 := [346, 17]) rfl]
    show R (47, [some (aR 6 t), some (aI 16), some (aI v), some (aI x)], [], am_mix [346, 17] g7 M)
    refine hR _ (?_)
    show R (85, [some (aR 6 t), some (aI 16), some (aI v), some (aI x)], [], am_mix [346, 17] g7 M)
    refine hR _ (show K none (am_mix [346, 17] g7 M) from ?_)
    have e : am_ag [346, 17] M (am_mix [346, 17] g7 M) := (am_ag.rf).mix rfl
    refine am_fin (S := [346, 17]) (F := fun m => jf_stk m t (jf_stp nm (jf_cv 16 v) (x :: r))) e ?_ h
    exact hst
  · obtain ⟨y, x, r, rfl⟩ : ∃ y x r, l = y :: x :: r := by
      match l, har with
      | y :: x :: r, _ => exact ⟨y, x, r, rfl⟩
      | [y], har => exact absurd (show 2 ≤ 1 from har) (by decide)
      | [], har => exact absurd (show 2 ≤ 0 from har) (by decide)
    refine hR _ (hR _ (hR _ (am_brf (rg := am_in 8 ∧ am_in 2) (P := (8 : Int) = 2) (A := R (11, [some (aR 6 t), some (aI 8), some (aI v), none], [], M)) (B := R (5, [some (aR 6 t), some (aI 8), some (aI v), none], [], M)) (by omega) (by omega) ?_)))
    show R (5, [some (aR 6 t), some (aI 8), some (aI v), none], [], M)
    refine hR _ (hR _ (hR _ (am_brt (rg := am_in 8 ∧ am_in 9) (P := (8 : Int) ≠ 9) (A := R (30, [some (aR 6 t), some (aI 8), some (aI v), none], [], M)) (B := R (11, [some (aR 6 t), some (aI 8), some (aI v), none], [], M)) (by omega) (by omega) ?_)))
    show R (30, [some (aR 6 t), some (aI 8), some (aI v), none], [], M)
    refine hR _ (?_)
    show R (31, [some (aR 6 t), some (aI 8), some (aI v), none], [aR 6 t], M)
    refine hR _ (am_ct (am_vi (by omega : t < 6)) (sp_pop (x := y) (r := (x :: r)) (by omega) (by omega) hst (by first | (simp; done) | (simp at *; omega) | omega) (fun g8 hst hin31 => ?_)))
    show R (34, [some (aR 6 t), some (aI 8), some (aI v), none], [aI y], am_mix [346] g8 M)
    refine hR _ (hR _ (hR _ (hR _ (am_brt (rg := am_in 8 ∧ am_in 16) (P := (8 : Int) ≠ 16) (A := R (50, [some (aR 6 t), some (aI 8), some (aI v), some (aI y)], [], am_mix [346] g8 M)) (B := R (41, [some (aR 6 t), some (aI 8), some (aI v), some (aI y)], [], am_mix [346] g8 M)) (by omega) (by omega) ?_))))
    show R (50, [some (aR 6 t), some (aI 8), some (aI v), some (aI y)], [], am_mix [346] g8 M)
    refine hR _ (hR _ (hR _ (am_brt (rg := am_in 8 ∧ am_in 6) (P := (8 : Int) ≠ 6) (A := R (72, [some (aR 6 t), some (aI 8), some (aI v), some (aI y)], [], am_mix [346] g8 M)) (B := R (56, [some (aR 6 t), some (aI 8), some (aI v), some (aI y)], [], am_mix [346] g8 M)) (by omega) (by omega) ?_)))
    show R (72, [some (aR 6 t), some (aI 8), some (aI v), some (aI y)], [], am_mix [346] g8 M)
    refine hR _ (hR _ (hR _ (?_)))
    show R (75, [some (aR 6 t), some (aI 8), some (aI v), some (aI y)], [aR 6 t, aI 8, aR 6 t], am_mix [346] g8 M)
    refine hR _ (am_ct (am_vi (by omega : t < 6)) (sp_pop (x := x) (r := (r)) (by omega) (by omega) hst (by first | (simp; done) | (simp at *; omega) | omega) (fun g9 hst hin75 => ?_)))
    rw [am_mix_sub (S := [346]) (S2 := [346]) rfl] at hst
    dsimp only
    rw [am_mix_sub (S := [346]) (S2 := [346]) rfl]
    show R (78, [some (aR 6 t), some (aI 8), some (aI v), some (aI y)], [aI x, aI 8, aR 6 t], am_mix [346] g9 M)
    refine hR _ (hR _ (sp_joined (by omega) (by omega) (by omega) (by omega) ?_))
    have hj := jf_two_in (jf_cv 8 0) x y
    show R (82, [some (aR 6 t), some (aI 8), some (aI v), some (aI y)], [aI (jf_two (jf_cv 8 0) x y), aR 6 t], am_mix [346] g9 M)
    refine hR _ (am_ct (am_vi (by omega : t < 6)) (sp_push (l := (r)) (by omega) (by omega) hst (by first | (simp; done) | (simp at *; omega) | omega) (by omega) (fun g10 hst => ?_)))
    rw [am_mix_sub (S := [346]) (S2 := [346, 17]) rfl] at hst
    dsimp only
    rw [am_mix_sub (S := [346]) (S2 := [346, 17]) rfl]
    show R (85, [some (aR 6 t), some (aI 8), some (aI v), some (aI y)], [], am_mix [346, 17] g10 M)
    refine hR _ (show K none (am_mix [346, 17] g10 M) from ?_)
    have e : am_ag [346, 17] M (am_mix [346, 17] g10 M) := (am_ag.rf).mix rfl
    refine am_fin (S := [346, 17]) (F := fun m => jf_stk m t (jf_stp nm (jf_cv 8 v) (y :: x :: r))) e ?_ h
    exact hst
  · obtain ⟨y, x, r, rfl⟩ : ∃ y x r, l = y :: x :: r := by
      match l, har with
      | y :: x :: r, _ => exact ⟨y, x, r, rfl⟩
      | [y], har => exact absurd (show 2 ≤ 1 from har) (by decide)
      | [], har => exact absurd (show 2 ≤ 0 from har) (by decide)
    refine hR _ (hR _ (hR _ (am_brf (rg := am_in 7 ∧ am_in 2) (P := (7 : Int) = 2) (A := R (11, [some (aR 6 t), some (aI 7), some (aI v), none], [], M)) (B := R (5, [some (aR 6 t), some (aI 7), some (aI v), none], [], M)) (by omega) (by omega) ?_)))
    show R (5, [some (aR 6 t), some (aI 7), some (aI v), none], [], M)
    refine hR _ (hR _ (hR _ (am_brt (rg := am_in 7 ∧ am_in 9) (P := (7 : Int) ≠ 9) (A := R (30, [some (aR 6 t), some (aI 7), some (aI v), none], [], M)) (B := R (11, [some (aR 6 t), some (aI 7), some (aI v), none], [], M)) (by omega) (by omega) ?_)))
    show R (30, [some (aR 6 t), some (aI 7), some (aI v), none], [], M)
    refine hR _ (?_)
    show R (31, [some (aR 6 t), some (aI 7), some (aI v), none], [aR 6 t], M)
    refine hR _ (am_ct (am_vi (by omega : t < 6)) (sp_pop (x := y) (r := (x :: r)) (by omega) (by omega) hst (by first | (simp; done) | (simp at *; omega) | omega) (fun g11 hst hin31 => ?_)))
    show R (34, [some (aR 6 t), some (aI 7), some (aI v), none], [aI y], am_mix [346] g11 M)
    refine hR _ (hR _ (hR _ (hR _ (am_brt (rg := am_in 7 ∧ am_in 16) (P := (7 : Int) ≠ 16) (A := R (50, [some (aR 6 t), some (aI 7), some (aI v), some (aI y)], [], am_mix [346] g11 M)) (B := R (41, [some (aR 6 t), some (aI 7), some (aI v), some (aI y)], [], am_mix [346] g11 M)) (by omega) (by omega) ?_))))
    show R (50, [some (aR 6 t), some (aI 7), some (aI v), some (aI y)], [], am_mix [346] g11 M)
    refine hR _ (hR _ (hR _ (am_brt (rg := am_in 7 ∧ am_in 6) (P := (7 : Int) ≠ 6) (A := R (72, [some (aR 6 t), some (aI 7), some (aI v), some (aI y)], [], am_mix [346] g11 M)) (B := R (56, [some (aR 6 t), some (aI 7), some (aI v), some (aI y)], [], am_mix [346] g11 M)) (by omega) (by omega) ?_)))
    show R (72, [some (aR 6 t), some (aI 7), some (aI v), some (aI y)], [], am_mix [346] g11 M)
    refine hR _ (hR _ (hR _ (?_)))
    show R (75, [some (aR 6 t), some (aI 7), some (aI v), some (aI y)], [aR 6 t, aI 7, aR 6 t], am_mix [346] g11 M)
    refine hR _ (am_ct (am_vi (by omega : t < 6)) (sp_pop (x := x) (r := (r)) (by omega) (by omega) hst (by first | (simp; done) | (simp at *; omega) | omega) (fun g12 hst hin75 => ?_)))
    rw [am_mix_sub (S := [346]) (S2 := [346]) rfl] at hst
    dsimp only
    rw [am_mix_sub (S := [346]) (S2 := [346]) rfl]
    show R (78, [some (aR 6 t), some (aI 7), some (aI v), some (aI y)], [aI x, aI 7, aR 6 t], am_mix [346] g12 M)
    refine hR _ (hR _ (sp_joined (by omega) (by omega) (by omega) (by omega) ?_))
    have hj := jf_two_in (jf_cv 7 0) x y
    show R (82, [some (aR 6 t), some (aI 7), some (aI v), some (aI y)], [aI (jf_two (jf_cv 7 0) x y), aR 6 t], am_mix [346] g12 M)
    refine hR _ (am_ct (am_vi (by omega : t < 6)) (sp_push (l := (r)) (by omega) (by omega) hst (by first | (simp; done) | (simp at *; omega) | omega) (by omega) (fun g13 hst => ?_)))
    rw [am_mix_sub (S := [346]) (S2 := [346, 17]) rfl] at hst
    dsimp only
    rw [am_mix_sub (S := [346]) (S2 := [346, 17]) rfl]
    show R (85, [some (aR 6 t), some (aI 7), some (aI v), some (aI y)], [], am_mix [346, 17] g13 M)
    refine hR _ (show K none (am_mix [346, 17] g13 M) from ?_)
    have e : am_ag [346, 17] M (am_mix [346, 17] g13 M) := (am_ag.rf).mix rfl
    refine am_fin (S := [346, 17]) (F := fun m => jf_stk m t (jf_stp nm (jf_cv 7 v) (y :: x :: r))) e ?_ h
    exact hst
  · obtain ⟨y, x, r, rfl⟩ : ∃ y x r, l = y :: x :: r := by
      match l, har with
      | y :: x :: r, _ => exact ⟨y, x, r, rfl⟩
      | [y], har => exact absurd (show 2 ≤ 1 from har) (by decide)
      | [], har => exact absurd (show 2 ≤ 0 from har) (by decide)
    refine hR _ (hR _ (hR _ (am_brf (rg := am_in 60 ∧ am_in 2) (P := (60 : Int) = 2) (A := R (11, [some (aR 6 t), some (aI 60), some (aI v), none], [], M)) (B := R (5, [some (aR 6 t), some (aI 60), some (aI v), none], [], M)) (by omega) (by omega) ?_)))
    show R (5, [some (aR 6 t), some (aI 60), some (aI v), none], [], M)
    refine hR _ (hR _ (hR _ (am_brt (rg := am_in 60 ∧ am_in 9) (P := (60 : Int) ≠ 9) (A := R (30, [some (aR 6 t), some (aI 60), some (aI v), none], [], M)) (B := R (11, [some (aR 6 t), some (aI 60), some (aI v), none], [], M)) (by omega) (by omega) ?_)))
    show R (30, [some (aR 6 t), some (aI 60), some (aI v), none], [], M)
    refine hR _ (?_)
    show R (31, [some (aR 6 t), some (aI 60), some (aI v), none], [aR 6 t], M)
    refine hR _ (am_ct (am_vi (by omega : t < 6)) (sp_pop (x := y) (r := (x :: r)) (by omega) (by omega) hst (by first | (simp; done) | (simp at *; omega) | omega) (fun g14 hst hin31 => ?_)))
    show R (34, [some (aR 6 t), some (aI 60), some (aI v), none], [aI y], am_mix [346] g14 M)
    refine hR _ (hR _ (hR _ (hR _ (am_brt (rg := am_in 60 ∧ am_in 16) (P := (60 : Int) ≠ 16) (A := R (50, [some (aR 6 t), some (aI 60), some (aI v), some (aI y)], [], am_mix [346] g14 M)) (B := R (41, [some (aR 6 t), some (aI 60), some (aI v), some (aI y)], [], am_mix [346] g14 M)) (by omega) (by omega) ?_))))
    show R (50, [some (aR 6 t), some (aI 60), some (aI v), some (aI y)], [], am_mix [346] g14 M)
    refine hR _ (hR _ (hR _ (am_brt (rg := am_in 60 ∧ am_in 6) (P := (60 : Int) ≠ 6) (A := R (72, [some (aR 6 t), some (aI 60), some (aI v), some (aI y)], [], am_mix [346] g14 M)) (B := R (56, [some (aR 6 t), some (aI 60), some (aI v), some (aI y)], [], am_mix [346] g14 M)) (by omega) (by omega) ?_)))
    show R (72, [some (aR 6 t), some (aI 60), some (aI v), some (aI y)], [], am_mix [346] g14 M)
    refine hR _ (hR _ (hR _ (?_)))
    show R (75, [some (aR 6 t), some (aI 60), some (aI v), some (aI y)], [aR 6 t, aI 60, aR 6 t], am_mix [346] g14 M)
    refine hR _ (am_ct (am_vi (by omega : t < 6)) (sp_pop (x := x) (r := (r)) (by omega) (by omega) hst (by first | (simp; done) | (simp at *; omega) | omega) (fun g15 hst hin75 => ?_)))
    rw [am_mix_sub (S := [346]) (S2 := [346]) rfl] at hst
    dsimp only
    rw [am_mix_sub (S := [346]) (S2 := [346]) rfl]
    show R (78, [some (aR 6 t), some (aI 60), some (aI v), some (aI y)], [aI x, aI 60, aR 6 t], am_mix [346] g15 M)
    refine hR _ (hR _ (sp_joined (by omega) (by omega) (by omega) (by omega) ?_))
    have hj := jf_two_in (jf_cv 60 0) x y
    show R (82, [some (aR 6 t), some (aI 60), some (aI v), some (aI y)], [aI (jf_two (jf_cv 60 0) x y), aR 6 t], am_mix [346] g15 M)
    refine hR _ (am_ct (am_vi (by omega : t < 6)) (sp_push (l := (r)) (by omega) (by omega) hst (by first | (simp; done) | (simp at *; omega) | omega) (by omega) (fun g16 hst => ?_)))
    rw [am_mix_sub (S := [346]) (S2 := [346, 17]) rfl] at hst
    dsimp only
    rw [am_mix_sub (S := [346]) (S2 := [346, 17]) rfl]
    show R (85, [some (aR 6 t), some (aI 60), some (aI v), some (aI y)], [], am_mix [346, 17] g16 M)
    refine hR _ (show K none (am_mix [346, 17] g16 M) from ?_)
    have e : am_ag [346, 17] M (am_mix [346, 17] g16 M) := (am_ag.rf).mix rfl
    refine am_fin (S := [346, 17]) (F := fun m => jf_stk m t (jf_stp nm (jf_cv 60 v) (y :: x :: r))) e ?_ h
    exact hst
  · obtain ⟨y, x, r, rfl⟩ : ∃ y x r, l = y :: x :: r := by
      match l, har with
      | y :: x :: r, _ => exact ⟨y, x, r, rfl⟩
      | [y], har => exact absurd (show 2 ≤ 1 from har) (by decide)
      | [], har => exact absurd (show 2 ≤ 0 from har) (by decide)
    refine hR _ (hR _ (hR _ (am_brf (rg := am_in 61 ∧ am_in 2) (P := (61 : Int) = 2) (A := R (11, [some (aR 6 t), some (aI 61), some (aI v), none], [], M)) (B := R (5, [some (aR 6 t), some (aI 61), some (aI v), none], [], M)) (by omega) (by omega) ?_)))
    show R (5, [some (aR 6 t), some (aI 61), some (aI v), none], [], M)
    refine hR _ (hR _ (hR _ (am_brt (rg := am_in 61 ∧ am_in 9) (P := (61 : Int) ≠ 9) (A := R (30, [some (aR 6 t), some (aI 61), some (aI v), none], [], M)) (B := R (11, [some (aR 6 t), some (aI 61), some (aI v), none], [], M)) (by omega) (by omega) ?_)))
    show R (30, [some (aR 6 t), some (aI 61), some (aI v), none], [], M)
    refine hR _ (?_)
    show R (31, [some (aR 6 t), some (aI 61), some (aI v), none], [aR 6 t], M)
    refine hR _ (am_ct (am_vi (by omega : t < 6)) (sp_pop (x := y) (r := (x :: r)) (by omega) (by omega) hst (by first | (simp; done) | (simp at *; omega) | omega) (fun g17 hst hin31 => ?_)))
    show R (34, [some (aR 6 t), some (aI 61), some (aI v), none], [aI y], am_mix [346] g17 M)
    refine hR _ (hR _ (hR _ (hR _ (am_brt (rg := am_in 61 ∧ am_in 16) (P := (61 : Int) ≠ 16) (A := R (50, [some (aR 6 t), some (aI 61), some (aI v), some (aI y)], [], am_mix [346] g17 M)) (B := R (41, [some (aR 6 t), some (aI 61), some (aI v), some (aI y)], [], am_mix [346] g17 M)) (by omega) (by omega) ?_))))
    show R (50, [some (aR 6 t), some (aI 61), some (aI v), some (aI y)], [], am_mix [346] g17 M)
    refine hR _ (hR _ (hR _ (am_brt (rg := am_in 61 ∧ am_in 6) (P := (61 : Int) ≠ 6) (A := R (72, [some (aR 6 t), some (aI 61), some (aI v), some (aI y)], [], am_mix [346] g17 M)) (B := R (56, [some (aR 6 t), some (aI 61), some (aI v), some (aI y)], [], am_mix [346] g17 M)) (by omega) (by omega) ?_)))
    show R (72, [some (aR 6 t), some (aI 61), some (aI v), some (aI y)], [], am_mix [346] g17 M)
    refine hR _ (hR _ (hR _ (?_)))
    show R (75, [some (aR 6 t), some (aI 61), some (aI v), some (aI y)], [aR 6 t, aI 61, aR 6 t], am_mix [346] g17 M)
    refine hR _ (am_ct (am_vi (by omega : t < 6)) (sp_pop (x := x) (r := (r)) (by omega) (by omega) hst (by first | (simp; done) | (simp at *; omega) | omega) (fun g18 hst hin75 => ?_)))
    rw [am_mix_sub (S := [346]) (S2 := [346]) rfl] at hst
    dsimp only
    rw [am_mix_sub (S := [346]) (S2 := [346]) rfl]
    show R (78, [some (aR 6 t), some (aI 61), some (aI v), some (aI y)], [aI x, aI 61, aR 6 t], am_mix [346] g18 M)
    refine hR _ (hR _ (sp_joined (by omega) (by omega) (by omega) (by omega) ?_))
    have hj := jf_two_in (jf_cv 61 0) x y
    show R (82, [some (aR 6 t), some (aI 61), some (aI v), some (aI y)], [aI (jf_two (jf_cv 61 0) x y), aR 6 t], am_mix [346] g18 M)
    refine hR _ (am_ct (am_vi (by omega : t < 6)) (sp_push (l := (r)) (by omega) (by omega) hst (by first | (simp; done) | (simp at *; omega) | omega) (by omega) (fun g19 hst => ?_)))
    rw [am_mix_sub (S := [346]) (S2 := [346, 17]) rfl] at hst
    dsimp only
    rw [am_mix_sub (S := [346]) (S2 := [346, 17]) rfl]
    show R (85, [some (aR 6 t), some (aI 61), some (aI v), some (aI y)], [], am_mix [346, 17] g19 M)
    refine hR _ (show K none (am_mix [346, 17] g19 M) from ?_)
    have e : am_ag [346, 17] M (am_mix [346, 17] g19 M) := (am_ag.rf).mix rfl
    refine am_fin (S := [346, 17]) (F := fun m => jf_stk m t (jf_stp nm (jf_cv 61 v) (y :: x :: r))) e ?_ h
    exact hst
  · obtain ⟨y, x, r, rfl⟩ : ∃ y x r, l = y :: x :: r := by
      match l, har with
      | y :: x :: r, _ => exact ⟨y, x, r, rfl⟩
      | [y], har => exact absurd (show 2 ≤ 1 from har) (by decide)
      | [], har => exact absurd (show 2 ≤ 0 from har) (by decide)
    refine hR _ (hR _ (hR _ (am_brf (rg := am_in 43 ∧ am_in 2) (P := (43 : Int) = 2) (A := R (11, [some (aR 6 t), some (aI 43), some (aI v), none], [], M)) (B := R (5, [some (aR 6 t), some (aI 43), some (aI v), none], [], M)) (by omega) (by omega) ?_)))
    show R (5, [some (aR 6 t), some (aI 43), some (aI v), none], [], M)
    refine hR _ (hR _ (hR _ (am_brt (rg := am_in 43 ∧ am_in 9) (P := (43 : Int) ≠ 9) (A := R (30, [some (aR 6 t), some (aI 43), some (aI v), none], [], M)) (B := R (11, [some (aR 6 t), some (aI 43), some (aI v), none], [], M)) (by omega) (by omega) ?_)))
    show R (30, [some (aR 6 t), some (aI 43), some (aI v), none], [], M)
    refine hR _ (?_)
    show R (31, [some (aR 6 t), some (aI 43), some (aI v), none], [aR 6 t], M)
    refine hR _ (am_ct (am_vi (by omega : t < 6)) (sp_pop (x := y) (r := (x :: r)) (by omega) (by omega) hst (by first | (simp; done) | (simp at *; omega) | omega) (fun g20 hst hin31 => ?_)))
    show R (34, [some (aR 6 t), some (aI 43), some (aI v), none], [aI y], am_mix [346] g20 M)
    refine hR _ (hR _ (hR _ (hR _ (am_brt (rg := am_in 43 ∧ am_in 16) (P := (43 : Int) ≠ 16) (A := R (50, [some (aR 6 t), some (aI 43), some (aI v), some (aI y)], [], am_mix [346] g20 M)) (B := R (41, [some (aR 6 t), some (aI 43), some (aI v), some (aI y)], [], am_mix [346] g20 M)) (by omega) (by omega) ?_))))
    show R (50, [some (aR 6 t), some (aI 43), some (aI v), some (aI y)], [], am_mix [346] g20 M)
    refine hR _ (hR _ (hR _ (am_brt (rg := am_in 43 ∧ am_in 6) (P := (43 : Int) ≠ 6) (A := R (72, [some (aR 6 t), some (aI 43), some (aI v), some (aI y)], [], am_mix [346] g20 M)) (B := R (56, [some (aR 6 t), some (aI 43), some (aI v), some (aI y)], [], am_mix [346] g20 M)) (by omega) (by omega) ?_)))
    show R (72, [some (aR 6 t), some (aI 43), some (aI v), some (aI y)], [], am_mix [346] g20 M)
    refine hR _ (hR _ (hR _ (?_)))
    show R (75, [some (aR 6 t), some (aI 43), some (aI v), some (aI y)], [aR 6 t, aI 43, aR 6 t], am_mix [346] g20 M)
    refine hR _ (am_ct (am_vi (by omega : t < 6)) (sp_pop (x := x) (r := (r)) (by omega) (by omega) hst (by first | (simp; done) | (simp at *; omega) | omega) (fun g21 hst hin75 => ?_)))
    rw [am_mix_sub (S := [346]) (S2 := [346]) rfl] at hst
    dsimp only
    rw [am_mix_sub (S := [346]) (S2 := [346]) rfl]
    show R (78, [some (aR 6 t), some (aI 43), some (aI v), some (aI y)], [aI x, aI 43, aR 6 t], am_mix [346] g21 M)
    refine hR _ (hR _ (sp_joined (by omega) (by omega) (by omega) (by omega) ?_))
    have hj := jf_two_in (jf_cv 43 0) x y
    show R (82, [some (aR 6 t), some (aI 43), some (aI v), some (aI y)], [aI (jf_two (jf_cv 43 0) x y), aR 6 t], am_mix [346] g21 M)
    refine hR _ (am_ct (am_vi (by omega : t < 6)) (sp_push (l := (r)) (by omega) (by omega) hst (by first | (simp; done) | (simp at *; omega) | omega) (by omega) (fun g22 hst => ?_)))
    rw [am_mix_sub (S := [346]) (S2 := [346, 17]) rfl] at hst
    dsimp only
    rw [am_mix_sub (S := [346]) (S2 := [346, 17]) rfl]
    show R (85, [some (aR 6 t), some (aI 43), some (aI v), some (aI y)], [], am_mix [346, 17] g22 M)
    refine hR _ (show K none (am_mix [346, 17] g22 M) from ?_)
    have e : am_ag [346, 17] M (am_mix [346, 17] g22 M) := (am_ag.rf).mix rfl
    refine am_fin (S := [346, 17]) (F := fun m => jf_stk m t (jf_stp nm (jf_cv 43 v) (y :: x :: r))) e ?_ h
    exact hst
  · obtain ⟨y, x, r, rfl⟩ : ∃ y x r, l = y :: x :: r := by
      match l, har with
      | y :: x :: r, _ => exact ⟨y, x, r, rfl⟩
      | [y], har => exact absurd (show 2 ≤ 1 from har) (by decide)
      | [], har => exact absurd (show 2 ≤ 0 from har) (by decide)
    refine hR _ (hR _ (hR _ (am_brf (rg := am_in 45 ∧ am_in 2) (P := (45 : Int) = 2) (A := R (11, [some (aR 6 t), some (aI 45), some (aI v), none], [], M)) (B := R (5, [some (aR 6 t), some (aI 45), some (aI v), none], [], M)) (by omega) (by omega) ?_)))
    show R (5, [some (aR 6 t), some (aI 45), some (aI v), none], [], M)
    refine hR _ (hR _ (hR _ (am_brt (rg := am_in 45 ∧ am_in 9) (P := (45 : Int) ≠ 9) (A := R (30, [some (aR 6 t), some (aI 45), some (aI v), none], [], M)) (B := R (11, [some (aR 6 t), some (aI 45), some (aI v), none], [], M)) (by omega) (by omega) ?_)))
    show R (30, [some (aR 6 t), some (aI 45), some (aI v), none], [], M)
    refine hR _ (?_)
    show R (31, [some (aR 6 t), some (aI 45), some (aI v), none], [aR 6 t], M)
    refine hR _ (am_ct (am_vi (by omega : t < 6)) (sp_pop (x := y) (r := (x :: r)) (by omega) (by omega) hst (by first | (simp; done) | (simp at *; omega) | omega) (fun g23 hst hin31 => ?_)))
    show R (34, [some (aR 6 t), some (aI 45), some (aI v), none], [aI y], am_mix [346] g23 M)
    refine hR _ (hR _ (hR _ (hR _ (am_brt (rg := am_in 45 ∧ am_in 16) (P := (45 : Int) ≠ 16) (A := R (50, [some (aR 6 t), some (aI 45), some (aI v), some (aI y)], [], am_mix [346] g23 M)) (B := R (41, [some (aR 6 t), some (aI 45), some (aI v), some (aI y)], [], am_mix [346] g23 M)) (by omega) (by omega) ?_))))
    show R (50, [some (aR 6 t), some (aI 45), some (aI v), some (aI y)], [], am_mix [346] g23 M)
    refine hR _ (hR _ (hR _ (am_brt (rg := am_in 45 ∧ am_in 6) (P := (45 : Int) ≠ 6) (A := R (72, [some (aR 6 t), some (aI 45), some (aI v), some (aI y)], [], am_mix [346] g23 M)) (B := R (56, [some (aR 6 t), some (aI 45), some (aI v), some (aI y)], [], am_mix [346] g23 M)) (by omega) (by omega) ?_)))
    show R (72, [some (aR 6 t), some (aI 45), some (aI v), some (aI y)], [], am_mix [346] g23 M)
    refine hR _ (hR _ (hR _ (?_)))
    show R (75, [some (aR 6 t), some (aI 45), some (aI v), some (aI y)], [aR 6 t, aI 45, aR 6 t], am_mix [346] g23 M)
    refine hR _ (am_ct (am_vi (by omega : t < 6)) (sp_pop (x := x) (r := (r)) (by omega) (by omega) hst (by first | (simp; done) | (simp at *; omega) | omega) (fun g24 hst hin75 => ?_)))
    rw [am_mix_sub (S := [346]) (S2 := [346]) rfl] at hst
    dsimp only
    rw [am_mix_sub (S := [346]) (S2 := [346]) rfl]
    show R (78, [some (aR 6 t), some (aI 45), some (aI v), some (aI y)], [aI x, aI 45, aR 6 t], am_mix [346] g24 M)
    refine hR _ (hR _ (sp_joined (by omega) (by omega) (by omega) (by omega) ?_))
    have hj := jf_two_in (jf_cv 45 0) x y
    show R (82, [some (aR 6 t), some (aI 45), some (aI v), some (aI y)], [aI (jf_two (jf_cv 45 0) x y), aR 6 t], am_mix [346] g24 M)
    refine hR _ (am_ct (am_vi (by omega : t < 6)) (sp_push (l := (r)) (by omega) (by omega) hst (by first | (simp; done) | (simp at *; omega) | omega) (by omega) (fun g25 hst => ?_)))
    rw [am_mix_sub (S := [346]) (S2 := [346, 17]) rfl] at hst
    dsimp only
    rw [am_mix_sub (S := [346]) (S2 := [346, 17]) rfl]
    show R (85, [some (aR 6 t), some (aI 45), some (aI v), some (aI y)], [], am_mix [346, 17] g25 M)
    refine hR _ (show K none (am_mix [346, 17] g25 M) from ?_)
    have e : am_ag [346, 17] M (am_mix [346, 17] g25 M) := (am_ag.rf).mix rfl
    refine am_fin (S := [346, 17]) (F := fun m => jf_stk m t (jf_stp nm (jf_cv 45 v) (y :: x :: r))) e ?_ h
    exact hst
  · obtain ⟨y, x, r, rfl⟩ : ∃ y x r, l = y :: x :: r := by
      match l, har with
      | y :: x :: r, _ => exact ⟨y, x, r, rfl⟩
      | [y], har => exact absurd (show 2 ≤ 1 from har) (by decide)
      | [], har => exact absurd (show 2 ≤ 0 from har) (by decide)
    refine hR _ (hR _ (hR _ (am_brf (rg := am_in 42 ∧ am_in 2) (P := (42 : Int) = 2) (A := R (11, [some (aR 6 t), some (aI 42), some (aI v), none], [], M)) (B := R (5, [some (aR 6 t), some (aI 42), some (aI v), none], [], M)) (by omega) (by omega) ?_)))
    show R (5, [some (aR 6 t), some (aI 42), some (aI v), none], [], M)
    refine hR _ (hR _ (hR _ (am_brt (rg := am_in 42 ∧ am_in 9) (P := (42 : Int) ≠ 9) (A := R (30, [some (aR 6 t), some (aI 42), some (aI v), none], [], M)) (B := R (11, [some (aR 6 t), some (aI 42), some (aI v), none], [], M)) (by omega) (by omega) ?_)))
    show R (30, [some (aR 6 t), some (aI 42), some (aI v), none], [], M)
    refine hR _ (?_)
    show R (31, [some (aR 6 t), some (aI 42), some (aI v), none], [aR 6 t], M)
    refine hR _ (am_ct (am_vi (by omega : t < 6)) (sp_pop (x := y) (r := (x :: r)) (by omega) (by omega) hst (by first | (simp; done) | (simp at *; omega) | omega) (fun g26 hst hin31 => ?_)))
    show R (34, [some (aR 6 t), some (aI 42), some (aI v), none], [aI y], am_mix [346] g26 M)
    refine hR _ (hR _ (hR _ (hR _ (am_brt (rg := am_in 42 ∧ am_in 16) (P := (42 : Int) ≠ 16) (A := R (50, [some (aR 6 t), some (aI 42), some (aI v), some (aI y)], [], am_mix [346] g26 M)) (B := R (41, [some (aR 6 t), some (aI 42), some (aI v), some (aI y)], [], am_mix [346] g26 M)) (by omega) (by omega) ?_))))
    show R (50, [some (aR 6 t), some (aI 42), some (aI v), some (aI y)], [], am_mix [346] g26 M)
    refine hR _ (hR _ (hR _ (am_brt (rg := am_in 42 ∧ am_in 6) (P := (42 : Int) ≠ 6) (A := R (72, [some (aR 6 t), some (aI 42), some (aI v), some (aI y)], [], am_mix [346] g26 M)) (B := R (56, [some (aR 6 t), some (aI 42), some (aI v), some (aI y)], [], am_mix [346] g26 M)) (by omega) (by omega) ?_)))
    show R (72, [some (aR 6 t), some (aI 42), some (aI v), some (aI y)], [], am_mix [346] g26 M)
    refine hR _ (hR _ (hR _ (?_)))
    show R (75, [some (aR 6 t), some (aI 42), some (aI v), some (aI y)], [aR 6 t, aI 42, aR 6 t], am_mix [346] g26 M)
    refine hR _ (am_ct (am_vi (by omega : t < 6)) (sp_pop (x := x) (r := (r)) (by omega) (by omega) hst (by first | (simp; done) | (simp at *; omega) | omega) (fun g27 hst hin75 => ?_)))
    rw [am_mix_sub (S := [346]) (S2 := [346]) rfl] at hst
    dsimp only
    rw [am_mix_sub (S := [346]) (S2 := [346]) rfl]
    show R (78, [some (aR 6 t), some (aI 42), some (aI v), some (aI y)], [aI x, aI 42, aR 6 t], am_mix [346] g27 M)
    refine hR _ (hR _ (sp_joined (by omega) (by omega) (by omega) (by omega) ?_))
    have hj := jf_two_in (jf_cv 42 0) x y
    show R (82, [some (aR 6 t), some (aI 42), some (aI v), some (aI y)], [aI (jf_two (jf_cv 42 0) x y), aR 6 t], am_mix [346] g27 M)
    refine hR _ (am_ct (am_vi (by omega : t < 6)) (sp_push (l := (r)) (by omega) (by omega) hst (by first | (simp; done) | (simp at *; omega) | omega) (by omega) (fun g28 hst => ?_)))
    rw [am_mix_sub (S := [346]) (S2 := [346, 17]) rfl] at hst
    dsimp only
    rw [am_mix_sub (S := [346]) (S2 := [346, 17]) rfl]
    show R (85, [some (aR 6 t), some (aI 42), some (aI v), some (aI y)], [], am_mix [346, 17] g28 M)
    refine hR _ (show K none (am_mix [346, 17] g28 M) from ?_)
    have e : am_ag [346, 17] M (am_mix [346, 17] g28 M) := (am_ag.rf).mix rfl
    refine am_fin (S := [346, 17]) (F := fun m => jf_stk m t (jf_stp nm (jf_cv 42 v) (y :: x :: r))) e ?_ h
    exact hst

set_option maxHeartbeats 1000000 in
theorem sp_says_0 {d : Nat} (hd : 3 ≤ d) {t : Nat} {a b c e f u : Int} {M : am_M} {K : am_K} (ht : t < 6) (hwt : jf_wt M t) (ha : am_in a ∧ am_in b ∧ am_in c ∧ am_in e ∧ am_in f ∧ am_in u) (h : ∀ g, K (some (aI (jf_cl 0 (jf_val (jf_nm a b c e f u) (jf_tk M t 0))))) (am_mix [346, 17, 19] g M)) : am_Call wb d 38 [aR 6 t, aI 0, aI a, aI b, aI c, aI e, aI f, aI u] M K := by
  obtain ⟨d, rfl⟩ : ∃ e, d = e + 1 := ⟨d - 1, by omega⟩
  refine ⟨rfl, fun R hR hC => ?_⟩
  replace hR : ∀ c, am_F wb tb_f38 1 (am_Call wb d) K R c → R c := hR
  show R (0, [some (aR 6 t), some (aI 0), some (aI a), some (aI b), some (aI c), some (aI e), some (aI f), some (aI u), none], [], M)
  obtain ⟨⟨hp0, hp1, hp2, hp3⟩, hwf, hsv0⟩ := hwt
  obtain ⟨nm, hnme⟩ : ∃ nm, jf_nm a b c e f u = nm := ⟨_, rfl⟩
  rw [hnme] at h
  have key : ∀ (n i : Nat) (l : List Int) (g : am_M) (x : Int), n = (M 18 t 0).toNat - i → i ≤ (M 18 t 0).toNat → jf_lo M t 0 ≤ i → jf_stk (am_mix [346, 17, 19] g M) t l → l.length ≤ i → jf_wf ((List.range' i n).map fun k => jf_cv (M 15 t k) (M 16 t k)) l.length → (∀ j : Nat, j < 6 → am_mix [346, 17, 19] g M 19 t j = nm j ∧ am_in (nm j)) → jf_ev nm ((List.range' i n).map fun k => jf_cv (M 15 t k) (M 16 t k)) l = jf_ev nm (jf_tk M t 0) [] → x = (i : Int) → R (80, [some (aR 6 t), some (aI 0), some (aI a), some (aI b), some (aI c), some (aI e), some (aI f), some (aI u), some (aI x)], [], am_mix [346, 17, 19] g M) := by
    intro n
    induction n with
    | zero =>
      intro i l g x hn hi2 hlo hst hli hwf1 hnm hev hx
      subst hx
      obtain ⟨y, rfl⟩ : ∃ y, l = [y] := List.length_eq_one_iff.mp hwf1
      have hy : jf_val nm (jf_tk M t 0) = y := by unfold jf_val; rw [← hev]; rfl
      refine hR _ (hR _ (?_))
      show R (83, [some (aR 6 t), some (aI 0), some (aI a), some (aI b), some (aI c), some (aI e), some (aI f), some (aI u), some (aI (i : Int))], [aR 6 t, aI (i : Int)], am_mix [346, 17, 19] g M)
      refine hR _ (am_ct (am_vi (by omega : t < 6)) ?_)
      show R (86, [some (aR 6 t), some (aI 0), some (aI a), some (aI b), some (aI c), some (aI e), some (aI f), some (aI u), some (aI (i : Int))], [aR 18 t, aI (i : Int)], am_mix [346, 17, 19] g M)
      refine hR _ (?_)
      show R (87, [some (aR 6 t), some (aI 0), some (aI a), some (aI b), some (aI c), some (aI e), some (aI f), some (aI u), some (aI (i : Int))], [aI 0, aR 18 t, aI (i : Int)], am_mix [346, 17, 19] g M)
      refine hR _ (am_ct (am_vi (by omega : t < 6)) ⟨(show 0 ≤ (0 : Int) ∧ (0 : Int) < 3 from (by omega)), ?_⟩)
      show R (88, [some (aR 6 t), some (aI 0), some (aI a), some (aI b), some (aI c), some (aI e), some (aI f), some (aI u), some (aI (i : Int))], [aI (M 18 t 0), aI (i : Int)], am_mix [346, 17, 19] g M)
      refine hR _ (am_brt (rg := am_in (i : Int) ∧ am_in (M 18 t 0)) (P := M 18 t 0 ≤ (i : Int)) (A := R (123, [some (aR 6 t), some (aI 0), some (aI a), some (aI b), some (aI c), some (aI e), some (aI f), some (aI u), some (aI (i : Int))], [], am_mix [346, 17, 19] g M)) (B := R (91, [some (aR 6 t), some (aI 0), some (aI a), some (aI b), some (aI c), some (aI e), some (aI f), some (aI u), some (aI (i : Int))], [], am_mix [346, 17, 19] g M)) (by omega) (by omega) ?_)
      show R (123, [some (aR 6 t), some (aI 0), some (aI a), some (aI b), some (aI c), some (aI e), some (aI f), some (aI u), some (aI (i : Int))], [], am_mix [346, 17, 19] g M)
      refine hR _ (hR _ (?_))
      show R (127, [some (aR 6 t), some (aI 0), some (aI a), some (aI b), some (aI c), some (aI e), some (aI f), some (aI u), some (aI (i : Int))], [aI 0, aR 51 1], am_mix [346, 17, 19] g M)
      refine hR _ ⟨(show 0 ≤ (0 : Int) ∧ (0 : Int) < 3 from (by omega)), ?_⟩
      show R (128, [some (aR 6 t), some (aI 0), some (aI a), some (aI b), some (aI c), some (aI e), some (aI f), some (aI u), some (aI (i : Int))], [aI 1], am_mix [346, 17, 19] g M)
      refine hR _ (hR _ (?_))
      show R (132, [some (aR 6 t), some (aI 0), some (aI a), some (aI b), some (aI c), some (aI e), some (aI f), some (aI u), some (aI (i : Int))], [aI 0, aR 51 2, aI 1], am_mix [346, 17, 19] g M)
      refine hR _ ⟨(show 0 ≤ (0 : Int) ∧ (0 : Int) < 3 from (by omega)), ?_⟩
      show R (133, [some (aR 6 t), some (aI 0), some (aI a), some (aI b), some (aI c), some (aI e), some (aI f), some (aI u), some (aI (i : Int))], [aI 50, aI 1], am_mix [346, 17, 19] g M)
      refine hR _ (?_)
      show R (134, [some (aR 6 t), some (aI 0), some (aI a), some (aI b), some (aI c), some (aI e), some (aI f), some (aI u), some (aI (i : Int))], [aR 6 t, aI 50, aI 1], am_mix [346, 17, 19] g M)
      refine hR _ (am_ct (am_vi (by omega : t < 6)) (sp_pop (x := y) (r := ([])) (by omega) (by omega) hst (by first | (simp; done) | (simp at *; omega) | omega) (fun g29 hst hin134 => ?_)))
      show R (137, [some (aR 6 t), some (aI 0), some (aI a), some (aI b), some (aI c), some (aI e), some (aI f), some (aI u), some (aI (i : Int))], [aI y, aI 50, aI 1], am_mix [346] g29 (am_mix [346, 17, 19] g M))
      refine hR _ ⟨(by omega), ?_⟩
      show R (140, [some (aR 6 t), some (aI 0), some (aI a), some (aI b), some (aI c), some (aI e), some (aI f), some (aI u), some (aI (i : Int))], [aI (min 50 y), aI 1], am_mix [346] g29 (am_mix [346, 17, 19] g M))
      refine hR _ ⟨(by omega), ?_⟩
      show R (143, [some (aR 6 t), some (aI 0), some (aI a), some (aI b), some (aI c), some (aI e), some (aI f), some (aI u), some (aI (i : Int))], [aI (max 1 (min 50 y))], am_mix [346] g29 (am_mix [346, 17, 19] g M))
      refine hR _ (show K (some (aI (max 1 (min 50 y)))) (am_mix [346] g29 (am_mix [346, 17, 19] g M)) from ?_)
      refine am_fin (S := [346, 17, 19]) (F := fun _ => True) (((am_ag.rf).mix rfl).mix rfl) trivial (fun g _ => ?_)
      have h9 := h g
      rw [hy] at h9
      exact h9
    | succ n ih =>
      intro i l g x hn hi2 hlo hst hli hwf1 hnm hev hx
      subst hx
      rw [List.range'_succ, List.map_cons] at hwf1 hev
      have hsv := hsv0 i (by omega)
      have har := hwf1.1
      have hlen := jf_stp_len (nm := nm) har
      refine hR _ (hR _ (?_))
      show R (83, [some (aR 6 t), some (aI 0), some (aI a), some (aI b), some (aI c), some (aI e), some (aI f), some (aI u), some (aI (i : Int))], [aR 6 t, aI (i : Int)], am_mix [346, 17, 19] g M)
      refine hR _ (am_ct (am_vi (by omega : t < 6)) ?_)
      show R (86, [some (aR 6 t), some (aI 0), some (aI a), some (aI b), some (aI c), some (aI e), some (aI f), some (aI u), some (aI (i : Int))], [aR 18 t, aI (i : Int)], am_mix [346, 17, 19] g M)
      refine hR _ (?_)
      show R (87, [some (aR 6 t), some (aI 0), some (aI a), some (aI b), some (aI c), some (aI e), some (aI f), some (aI u), some (aI (i : Int))], [aI 0, aR 18 t, aI (i : Int)], am_mix [346, 17, 19] g M)
      refine hR _ (am_ct (am_vi (by omega : t < 6)) ⟨(show 0 ≤ (0 : Int) ∧ (0 : Int) < 3 from (by omega)), ?_⟩)
      show R (88, [some (aR 6 t), some (aI 0), some (aI a), some (aI b), some (aI c), some (aI e), some (aI f), some (aI u), some (aI (i : Int))], [aI (M 18 t 0), aI (i : Int)], am_mix [346, 17, 19] g M)
      refine hR _ (am_brf (rg := am_in (i : Int) ∧ am_in (M 18 t 0)) (P := M 18 t 0 ≤ (i : Int)) (A := R (123, [some (aR 6 t), some (aI 0), some (aI a), some (aI b), some (aI c), some (aI e), some (aI f), some (aI u), some (aI (i : Int))], [], am_mix [346, 17, 19] g M)) (B := R (91, [some (aR 6 t), some (aI 0), some (aI a), some (aI b), some (aI c), some (aI e), some (aI f), some (aI u), some (aI (i : Int))], [], am_mix [346, 17, 19] g M)) (by omega) (by omega) ?_)
      show R (91, [some (aR 6 t), some (aI 0), some (aI a), some (aI b), some (aI c), some (aI e), some (aI f), some (aI u), some (aI (i : Int))], [], am_mix [346, 17, 19] g M)
      refine hR _ (hR _ (hR _ (am_brf (rg := am_in (i : Int) ∧ am_in 160) (P := 160 ≤ (i : Int)) (A := R (123, [some (aR 6 t), some (aI 0), some (aI a), some (aI b), some (aI c), some (aI e), some (aI f), some (aI u), some (aI (i : Int))], [], am_mix [346, 17, 19] g M)) (B := R (99, [some (aR 6 t), some (aI 0), some (aI a), some (aI b), some (aI c), some (aI e), some (aI f), some (aI u), some (aI (i : Int))], [], am_mix [346, 17, 19] g M)) (by omega) (by omega) ?_)))
      show R (99, [some (aR 6 t), some (aI 0), some (aI a), some (aI b), some (aI c), some (aI e), some (aI f), some (aI u), some (aI (i : Int))], [], am_mix [346, 17, 19] g M)
      refine hR _ (hR _ (?_))
      show R (101, [some (aR 6 t), some (aI 0), some (aI a), some (aI b), some (aI c), some (aI e), some (aI f), some (aI u), some (aI (i : Int))], [aR 6 t, aR 6 t], am_mix [346, 17, 19] g M)
      refine hR _ (am_ct (am_vi (by omega : t < 6)) ?_)
      show R (104, [some (aR 6 t), some (aI 0), some (aI a), some (aI b), some (aI c), some (aI e), some (aI f), some (aI u), some (aI (i : Int))], [aR 15 t, aR 6 t], am_mix [346, 17, 19] g M)
      refine hR _ (?_)
      show R (106, [some (aR 6 t), some (aI 0), some (aI a), some (aI b), some (aI c), some (aI e), some (aI f), some (aI u), some (aI (i : Int))], [aI (i : Int), aR 15 t, aR 6 t], am_mix [346, 17, 19] g M)
      refine hR _ (am_ct (am_vi (by omega : t < 6)) ⟨(show 0 ≤ ((i : Int) : Int) ∧ ((i : Int) : Int) < 160 from (by omega)), ?_⟩)
      show R (107, [some (aR 6 t), some (aI 0), some (aI a), some (aI b), some (aI c), some (aI e), some (aI f), some (aI u), some (aI (i : Int))], [aI (M 15 t i), aR 6 t], am_mix [346, 17, 19] g M)
      refine hR _ (?_)
      show R (108, [some (aR 6 t), some (aI 0), some (aI a), some (aI b), some (aI c), some (aI e), some (aI f), some (aI u), some (aI (i : Int))], [aR 6 t, aI (M 15 t i), aR 6 t], am_mix [346, 17, 19] g M)
      refine hR _ (am_ct (am_vi (by omega : t < 6)) ?_)
      show R (111, [some (aR 6 t), some (aI 0), some (aI a), some (aI b), some (aI c), some (aI e), some (aI f), some (aI u), some (aI (i : Int))], [aR 16 t, aI (M 15 t i), aR 6 t], am_mix [346, 17, 19] g M)
      refine hR _ (?_)
      show R (113, [some (aR 6 t), some (aI 0), some (aI a), some (aI b), some (aI c), some (aI e), some (aI f), some (aI u), some (aI (i : Int))], [aI (i : Int), aR 16 t, aI (M 15 t i), aR 6 t], am_mix [346, 17, 19] g M)
      refine hR _ (am_ct (am_vi (by omega : t < 6)) ⟨(show 0 ≤ ((i : Int) : Int) ∧ ((i : Int) : Int) < 160 from (by omega)), ?_⟩)
      show R (114, [some (aR 6 t), some (aI 0), some (aI a), some (aI b), some (aI c), some (aI e), some (aI f), some (aI u), some (aI (i : Int))], [aI (M 16 t i), aI (M 15 t i), aR 6 t], am_mix [346, 17, 19] g M)
      refine hR _ (am_ct (am_vi (by omega : t < 6)) (sp_run (l := l) (nm := nm) (by omega) (by omega) hsv hst (by omega) har hnm (fun g30 hst => ?_)))
      show R (117, [some (aR 6 t), some (aI 0), some (aI a), some (aI b), some (aI c), some (aI e), some (aI f), some (aI u), some (aI (i : Int))], [], am_mix [346, 17] g30 (am_mix [346, 17, 19] g M))
      refine hR _ (hR _ (?_))
      show R (80, [some (aR 6 t), some (aI 0), some (aI a), some (aI b), some (aI c), some (aI e), some (aI f), some (aI u), some (aI ((i : Int) + 1))], [], am_mix [346, 17] g30 (am_mix [346, 17, 19] g M))
      have e9 : am_ag [346, 17, 19] M (am_mix [346, 17] g30 (am_mix [346, 17, 19] g M)) := ((am_ag.rf).mix rfl).mix rfl
      have hnm2 : ∀ j : Nat, j < 6 → (am_mix [346, 17] g30 (am_mix [346, 17, 19] g M)) 19 t j = nm j ∧ am_in (nm j) := hnm
      rw [e9.eq] at hst hnm2 ⊢
      have hw2 := hwf1.2
      rw [← hlen] at hw2
      exact ih (i + 1) _ _ _ (by omega) (by omega) (by omega) hst (by omega) hw2 hnm2 hev (by omega)
  refine hR _ (hR _ (hR _ (hR _ (sp_within (by omega) (by omega) (fun _ => ?_) (fun hb3 => absurd (by omega) hb3)))))
  show R (6, [some (aR 6 t), some (aI 0), some (aI a), some (aI b), some (aI c), some (aI e), some (aI f), some (aI u), none], [aI 1], M)
  refine hR _ (am_brt (rg := am_in 1) (P := (1 : Int) ≠ 0) (A := R (11, [some (aR 6 t), some (aI 0), some (aI a), some (aI b), some (aI c), some (aI e), some (aI f), some (aI u), none], [], M)) (B := R (9, [some (aR 6 t), some (aI 0), some (aI a), some (aI b), some (aI c), some (aI e), some (aI f), some (aI u), none], [], M)) (by omega) (by omega) ?_)
  show R (11, [some (aR 6 t), some (aI 0), some (aI a), some (aI b), some (aI c), some (aI e), some (aI f), some (aI u), none], [], M)
  refine hR _ (?_)
  show R (12, [some (aR 6 t), some (aI 0), some (aI a), some (aI b), some (aI c), some (aI e), some (aI f), some (aI u), none], [aR 6 t], M)
  refine hR _ (am_ct (am_vi (by omega : t < 6)) ?_)
  show R (15, [some (aR 6 t), some (aI 0), some (aI a), some (aI b), some (aI c), some (aI e), some (aI f), some (aI u), none], [aR 19 t], M)
  refine hR _ (hR _ (?_))
  show R (17, [some (aR 6 t), some (aI 0), some (aI a), some (aI b), some (aI c), some (aI e), some (aI f), some (aI u), none], [aI a, aI 0, aR 19 t], M)
  refine hR _ (am_ct (am_vi (by omega : t < 6)) ⟨(show 0 ≤ (0 : Int) ∧ (0 : Int) < 6 from (by omega)), ?_⟩)
  show R (18, [some (aR 6 t), some (aI 0), some (aI a), some (aI b), some (aI c), some (aI e), some (aI f), some (aI u), none], [], am_wr M 19 t 0 a)
  refine hR _ (?_)
  show R (19, [some (aR 6 t), some (aI 0), some (aI a), some (aI b), some (aI c), some (aI e), some (aI f), some (aI u), none], [aR 6 t], am_wr M 19 t 0 a)
  refine hR _ (am_ct (am_vi (by omega : t < 6)) ?_)
  show R (22, [some (aR 6 t), some (aI 0), some (aI a), some (aI b), some (aI c), some (aI e), some (aI f), some (aI u), none], [aR 19 t], am_wr M 19 t 0 a)
  refine hR _ (hR _ (?_))
  show R (24, [some (aR 6 t), some (aI 0), some (aI a), some (aI b), some (aI c), some (aI e), some (aI f), some (aI u), none], [aI b, aI 1, aR 19 t], am_wr M 19 t 0 a)
  refine hR _ (am_ct (am_vi (by omega : t < 6)) ⟨(show 0 ≤ (1 : Int) ∧ (1 : Int) < 6 from (by omega)), ?_⟩)
  show R (25, [some (aR 6 t), some (aI 0), some (aI a), some (aI b), some (aI c), some (aI e), some (aI f), some (aI u), none], [], am_wr (am_wr M 19 t 0 a) 19 t 1 b)
  refine hR _ (?_)
  show R (26, [some (aR 6 t), some (aI 0), some (aI a), some (aI b), some (aI c), some (aI e), some (aI f), some (aI u), none], [aR 6 t], am_wr (am_wr M 19 t 0 a) 19 t 1 b)
  refine hR _ (am_ct (am_vi (by omega : t < 6)) ?_)
  show R (29, [some (aR 6 t), some (aI 0), some (aI a), some (aI b), some (aI c), some (aI e), some (aI f), some (aI u), none], [aR 19 t], am_wr (am_wr M 19 t 0 a) 19 t 1 b)
  refine hR _ (hR _ (?_))
  show R (32, [some (aR 6 t), some (aI 0), some (aI a), some (aI b), some (aI c), some (aI e), some (aI f), some (aI u), none], [aI c, aI 2, aR 19 t], am_wr (am_wr M 19 t 0 a) 19 t 1 b)
  refine hR _ (am_ct (am_vi (by omega : t < 6)) ⟨(show 0 ≤ (2 : Int) ∧ (2 : Int) < 6 from (by omega)), ?_⟩)
  show R (33, [some (aR 6 t), some (aI 0), some (aI a), some (aI b), some (aI c), some (aI e), some (aI f), some (aI u), none], [], am_wr (am_wr (am_wr M 19 t 0 a) 19 t 1 b) 19 t 2 c)
  refine hR _ (?_)
  show R (34, [some (aR 6 t), some (aI 0), some (aI a), some (aI b), some (aI c), some (aI e), some (aI f), some (aI u), none], [aR 6 t], am_wr (am_wr (am_wr M 19 t 0 a) 19 t 1 b) 19 t 2 c)
  refine hR _ (am_ct (am_vi (by omega : t < 6)) ?_)
  show R (37, [some (aR 6 t), some (aI 0), some (aI a), some (aI b), some (aI c), some (aI e), some (aI f), some (aI u), none], [aR 19 t], am_wr (am_wr (am_wr M 19 t 0 a) 19 t 1 b) 19 t 2 c)
  refine hR _ (hR _ (?_))
  show R (40, [some (aR 6 t), some (aI 0), some (aI a), some (aI b), some (aI c), some (aI e), some (aI f), some (aI u), none], [aI e, aI 3, aR 19 t], am_wr (am_wr (am_wr M 19 t 0 a) 19 t 1 b) 19 t 2 c)
  refine hR _ (am_ct (am_vi (by omega : t < 6)) ⟨(show 0 ≤ (3 : Int) ∧ (3 : Int) < 6 from (by omega)), ?_⟩)
  show R (41, [some (aR 6 t), some (aI 0), some (aI a), some (aI b), some (aI c), some (aI e), some (aI f), some (aI u), none], [], am_wr (am_wr (am_wr (am_wr M 19 t 0 a) 19 t 1 b) 19 t 2 c) 19 t 3 e)
  refine hR _ (?_)
  show R (42, [some (aR 6 t), some (aI 0), some (aI a), some (aI b), some (aI c), some (aI e), some (aI f), some (aI u), none], [aR 6 t], am_wr (am_wr (am_wr (am_wr M 19 t 0 a) 19 t 1 b) 19 t 2 c) 19 t 3 e)
  refine hR _ (am_ct (am_vi (by omega : t < 6)) ?_)
  show R (45, [some (aR 6 t), some (aI 0), some (aI a), some (aI b), some (aI c), some (aI e), some (aI f), some (aI u), none], [aR 19 t], am_wr (am_wr (am_wr (am_wr M 19 t 0 a) 19 t 1 b) 19 t 2 c) 19 t 3 e)
  refine hR _ (hR _ (?_))
  show R (48, [some (aR 6 t), some (aI 0), some (aI a), some (aI b), some (aI c), some (aI e), some (aI f), some (aI u), none], [aI f, aI 4, aR 19 t], am_wr (am_wr (am_wr (am_wr M 19 t 0 a) 19 t 1 b) 19 t 2 c) 19 t 3 e)
  refine hR _ (am_ct (am_vi (by omega : t < 6)) ⟨(show 0 ≤ (4 : Int) ∧ (4 : Int) < 6 from (by omega)), ?_⟩)
  show R (49, [some (aR 6 t), some (aI 0), some (aI a), some (aI b), some (aI c), some (aI e), some (aI f), some (aI u), none], [], am_wr (am_wr (am_wr (am_wr (am_wr M 19 t 0 a) 19 t 1 b) 19 t 2 c) 19 t 3 e) 19 t 4 f)
  refine hR _ (?_)
  show R (50, [some (aR 6 t), some (aI 0), some (aI a), some (aI b), some (aI c), some (aI e), some (aI f), some (aI u), none], [aR 6 t], am_wr (am_wr (am_wr (am_wr (am_wr M 19 t 0 a) 19 t 1 b) 19 t 2 c) 19 t 3 e) 19 t 4 f)
  refine hR _ (am_ct (am_vi (by omega : t < 6)) ?_)
  show R (53, [some (aR 6 t), some (aI 0), some (aI a), some (aI b), some (aI c), some (aI e), some (aI f), some (aI u), none], [aR 19 t], am_wr (am_wr (am_wr (am_wr (am_wr M 19 t 0 a) 19 t 1 b) 19 t 2 c) 19 t 3 e) 19 t 4 f)
  refine hR _ (hR _ (?_))
  show R (56, [some (aR 6 t), some (aI 0), some (aI a), some (aI b), some (aI c), some (aI e), some (aI f), some (aI u), none], [aI u, aI 5, aR 19 t], am_wr (am_wr (am_wr (am_wr (am_wr M 19 t 0 a) 19 t 1 b) 19 t 2 c) 19 t 3 e) 19 t 4 f)
  refine hR _ (am_ct (am_vi (by omega : t < 6)) ⟨(show 0 ≤ (5 : Int) ∧ (5 : Int) < 6 from (by omega)), ?_⟩)
  show R (57, [some (aR 6 t), some (aI 0), some (aI a), some (aI b), some (aI c), some (aI e), some (aI f), some (aI u), none], [], am_wr (am_wr (am_wr (am_wr (am_wr (am_wr M 19 t 0 a) 19 t 1 b) 19 t 2 c) 19 t 3 e) 19 t 4 f) 19 t 5 u)
  refine hR _ (hR _ (?_))
  show R (59, [some (aR 6 t), some (aI 0), some (aI a), some (aI b), some (aI c), some (aI e), some (aI f), some (aI u), none], [aI 0, aR 6 t], am_wr (am_wr (am_wr (am_wr (am_wr (am_wr M 19 t 0 a) 19 t 1 b) 19 t 2 c) 19 t 3 e) 19 t 4 f) 19 t 5 u)
  refine hR _ (am_ct (am_vi (by omega : t < 6)) ?_)
  show R (62, [some (aR 6 t), some (aI 0), some (aI a), some (aI b), some (aI c), some (aI e), some (aI f), some (aI u), none], [], am_wr (am_wr (am_wr (am_wr (am_wr (am_wr (am_wr M 19 t 0 a) 19 t 1 b) 19 t 2 c) 19 t 3 e) 19 t 4 f) 19 t 5 u) 346 t 0 0)
  refine hR _ (hR _ (am_brf (rg := am_in 0) (P := (0 : Int) ≠ 0) (A := R (70, [some (aR 6 t), some (aI 0), some (aI a), some (aI b), some (aI c), some (aI e), some (aI f), some (aI u), none], [], am_wr (am_wr (am_wr (am_wr (am_wr (am_wr (am_wr M 19 t 0 a) 19 t 1 b) 19 t 2 c) 19 t 3 e) 19 t 4 f) 19 t 5 u) 346 t 0 0)) (B := R (66, [some (aR 6 t), some (aI 0), some (aI a), some (aI b), some (aI c), some (aI e), some (aI f), some (aI u), none], [], am_wr (am_wr (am_wr (am_wr (am_wr (am_wr (am_wr M 19 t 0 a) 19 t 1 b) 19 t 2 c) 19 t 3 e) 19 t 4 f) 19 t 5 u) 346 t 0 0)) (by omega) (by omega) ?_))
  show R (66, [some (aR 6 t), some (aI 0), some (aI a), some (aI b), some (aI c), some (aI e), some (aI f), some (aI u), none], [], am_wr (am_wr (am_wr (am_wr (am_wr (am_wr (am_wr M 19 t 0 a) 19 t 1 b) 19 t 2 c) 19 t 3 e) 19 t 4 f) 19 t 5 u) 346 t 0 0)
  refine hR _ (hR _ (hR _ (?_)))
  show R (80, [some (aR 6 t), some (aI 0), some (aI a), some (aI b), some (aI c), some (aI e), some (aI f), some (aI u), some (aI 0)], [], am_wr (am_wr (am_wr (am_wr (am_wr (am_wr (am_wr M 19 t 0 a) 19 t 1 b) 19 t 2 c) 19 t 3 e) 19 t 4 f) 19 t 5 u) 346 t 0 0)
  have hag : am_ag [346, 17, 19] M (am_wr (am_wr (am_wr (am_wr (am_wr (am_wr (am_wr M 19 t 0 a) 19 t 1 b) 19 t 2 c) 19 t 3 e) 19 t 4 f) 19 t 5 u) 346 t 0 0) := (((((((am_ag.rf).wr rfl).wr rfl).wr rfl).wr rfl).wr rfl).wr rfl).wr rfl
  have hst0 : jf_stk (am_wr (am_wr (am_wr (am_wr (am_wr (am_wr (am_wr M 19 t 0 a) 19 t 1 b) 19 t 2 c) 19 t 3 e) 19 t 4 f) 19 t 5 u) 346 t 0 0) t [] := ⟨am_wr_eq, fun j hj => absurd hj (by simp), fun x hx => absurd hx (by simp)⟩
  have hnm0 : ∀ j : Nat, j < 6 → (am_wr (am_wr (am_wr (am_wr (am_wr (am_wr (am_wr M 19 t 0 a) 19 t 1 b) 19 t 2 c) 19 t 3 e) 19 t 4 f) 19 t 5 u) 346 t 0 0) 19 t j = nm j ∧ am_in (nm j) := by
    rw [← hnme]
    intro j hj
    match j, hj with
    | 0, _ => exact ⟨(am_wr_ne (Or.inl (by decide))).trans ((am_wr_ne (Or.inr (Or.inr (by decide)))).trans ((am_wr_ne (Or.inr (Or.inr (by decide)))).trans ((am_wr_ne (Or.inr (Or.inr (by decide)))).trans ((am_wr_ne (Or.inr (Or.inr (by decide)))).trans ((am_wr_ne (Or.inr (Or.inr (by decide)))).trans (am_wr_eq)))))), ha.1⟩
    | 1, _ => exact ⟨(am_wr_ne (Or.inl (by decide))).trans ((am_wr_ne (Or.inr (Or.inr (by decide)))).trans ((am_wr_ne (Or.inr (Or.inr (by decide)))).trans ((am_wr_ne (Or.inr (Or.inr (by decide)))).trans ((am_wr_ne (Or.inr (Or.inr (by decide)))).trans (am_wr_eq))))), ha.2.1⟩
    | 2, _ => exact ⟨(am_wr_ne (Or.inl (by decide))).trans ((am_wr_ne (Or.inr (Or.inr (by decide)))).trans ((am_wr_ne (Or.inr (Or.inr (by decide)))).trans ((am_wr_ne (Or.inr (Or.inr (by decide)))).trans (am_wr_eq)))), ha.2.2.1⟩
    | 3, _ => exact ⟨(am_wr_ne (Or.inl (by decide))).trans ((am_wr_ne (Or.inr (Or.inr (by decide)))).trans ((am_wr_ne (Or.inr (Or.inr (by decide)))).trans (am_wr_eq))), ha.2.2.2.1⟩
    | 4, _ => exact ⟨(am_wr_ne (Or.inl (by decide))).trans ((am_wr_ne (Or.inr (Or.inr (by decide)))).trans (am_wr_eq)), ha.2.2.2.2.1⟩
    | 5, _ => exact ⟨(am_wr_ne (Or.inl (by decide))).trans (am_wr_eq), ha.2.2.2.2.2⟩
  rw [hag.eq] at hst0 hnm0 ⊢
  generalize (am_wr (am_wr (am_wr (am_wr (am_wr (am_wr (am_wr M 19 t 0 a) 19 t 1 b) 19 t 2 c) 19 t 3 e) 19 t 4 f) 19 t 5 u) 346 t 0 0) = g0 at hst0 hnm0 ⊢
  exact key _ 0 [] g0 (0 : Int) rfl (by omega) (Nat.le_refl _) hst0 (Nat.zero_le _) (hwf 0 (by omega)) hnm0 rfl (by omega)

set_option maxHeartbeats 1000000 in
theorem sp_says_1 {d : Nat} (hd : 3 ≤ d) {t : Nat} {a b c e f u : Int} {M : am_M} {K : am_K} (ht : t < 6) (hwt : jf_wt M t) (ha : am_in a ∧ am_in b ∧ am_in c ∧ am_in e ∧ am_in f ∧ am_in u) (h : ∀ g, K (some (aI (jf_cl 1 (jf_val (jf_nm a b c e f u) (jf_tk M t 1))))) (am_mix [346, 17, 19] g M)) : am_Call wb d 38 [aR 6 t, aI 1, aI a, aI b, aI c, aI e, aI f, aI u] M K := by
  obtain ⟨d, rfl⟩ : ∃ e, d = e + 1 := ⟨d - 1, by omega⟩
  refine ⟨rfl, fun R hR hC => ?_⟩
  replace hR : ∀ c, am_F wb tb_f38 1 (am_Call wb d) K R c → R c := hR
  show R (0, [some (aR 6 t), some (aI 1), some (aI a), some (aI b), some (aI c), some (aI e), some (aI f), some (aI u), none], [], M)
  obtain ⟨⟨hp0, hp1, hp2, hp3⟩, hwf, hsv0⟩ := hwt
  obtain ⟨nm, hnme⟩ : ∃ nm, jf_nm a b c e f u = nm := ⟨_, rfl⟩
  rw [hnme] at h
  have key : ∀ (n i : Nat) (l : List Int) (g : am_M) (x : Int), n = (M 18 t 1).toNat - i → i ≤ (M 18 t 1).toNat → jf_lo M t 1 ≤ i → jf_stk (am_mix [346, 17, 19] g M) t l → l.length ≤ i → jf_wf ((List.range' i n).map fun k => jf_cv (M 15 t k) (M 16 t k)) l.length → (∀ j : Nat, j < 6 → am_mix [346, 17, 19] g M 19 t j = nm j ∧ am_in (nm j)) → jf_ev nm ((List.range' i n).map fun k => jf_cv (M 15 t k) (M 16 t k)) l = jf_ev nm (jf_tk M t 1) [] → x = (i : Int) → R (80, [some (aR 6 t), some (aI 1), some (aI a), some (aI b), some (aI c), some (aI e), some (aI f), some (aI u), some (aI x)], [], am_mix [346, 17, 19] g M) := by
    intro n
    induction n with
    | zero =>
      intro i l g x hn hi2 hlo hst hli hwf1 hnm hev hx
      subst hx
      obtain ⟨y, rfl⟩ : ∃ y, l = [y] := List.length_eq_one_iff.mp hwf1
      have hy : jf_val nm (jf_tk M t 1) = y := by unfold jf_val; rw [← hev]; rfl
      refine hR _ (hR _ (?_))
      show R (83, [some (aR 6 t), some (aI 1), some (aI a), some (aI b), some (aI c), some (aI e), some (aI f), some (aI u), some (aI (i : Int))], [aR 6 t, aI (i : Int)], am_mix [346, 17, 19] g M)
      refine hR _ (am_ct (am_vi (by omega : t < 6)) ?_)
      show R (86, [some (aR 6 t), some (aI 1), some (aI a), some (aI b), some (aI c), some (aI e), some (aI f), some (aI u), some (aI (i : Int))], [aR 18 t, aI (i : Int)], am_mix [346, 17, 19] g M)
      refine hR _ (?_)
      show R (87, [some (aR 6 t), some (aI 1), some (aI a), some (aI b), some (aI c), some (aI e), some (aI f), some (aI u), some (aI (i : Int))], [aI 1, aR 18 t, aI (i : Int)], am_mix [346, 17, 19] g M)
      refine hR _ (am_ct (am_vi (by omega : t < 6)) ⟨(show 0 ≤ (1 : Int) ∧ (1 : Int) < 3 from (by omega)), ?_⟩)
      show R (88, [some (aR 6 t), some (aI 1), some (aI a), some (aI b), some (aI c), some (aI e), some (aI f), some (aI u), some (aI (i : Int))], [aI (M 18 t 1), aI (i : Int)], am_mix [346, 17, 19] g M)
      refine hR _ (am_brt (rg := am_in (i : Int) ∧ am_in (M 18 t 1)) (P := M 18 t 1 ≤ (i : Int)) (A := R (123, [some (aR 6 t), some (aI 1), some (aI a), some (aI b), some (aI c), some (aI e), some (aI f), some (aI u), some (aI (i : Int))], [], am_mix [346, 17, 19] g M)) (B := R (91, [some (aR 6 t), some (aI 1), some (aI a), some (aI b), some (aI c), some (aI e), some (aI f), some (aI u), some (aI (i : Int))], [], am_mix [346, 17, 19] g M)) (by omega) (by omega) ?_)
      show R (123, [some (aR 6 t), some (aI 1), some (aI a), some (aI b), some (aI c), some (aI e), some (aI f), some (aI u), some (aI (i : Int))], [], am_mix [346, 17, 19] g M)
      refine hR _ (hR _ (?_))
      show R (127, [some (aR 6 t), some (aI 1), some (aI a), some (aI b), some (aI c), some (aI e), some (aI f), some (aI u), some (aI (i : Int))], [aI 1, aR 51 1], am_mix [346, 17, 19] g M)
      refine hR _ ⟨(show 0 ≤ (1 : Int) ∧ (1 : Int) < 3 from (by omega)), ?_⟩
      show R (128, [some (aR 6 t), some (aI 1), some (aI a), some (aI b), some (aI c), some (aI e), some (aI f), some (aI u), some (aI (i : Int))], [aI 0], am_mix [346, 17, 19] g M)
      refine hR _ (hR _ (?_))
      show R (132, [some (aR 6 t), some (aI 1), some (aI a), some (aI b), some (aI c), some (aI e), some (aI f), some (aI u), some (aI (i : Int))], [aI 1, aR 51 2, aI 0], am_mix [346, 17, 19] g M)
      refine hR _ ⟨(show 0 ≤ (1 : Int) ∧ (1 : Int) < 3 from (by omega)), ?_⟩
      show R (133, [some (aR 6 t), some (aI 1), some (aI a), some (aI b), some (aI c), some (aI e), some (aI f), some (aI u), some (aI (i : Int))], [aI 9, aI 0], am_mix [346, 17, 19] g M)
      refine hR _ (?_)
      show R (134, [some (aR 6 t), some (aI 1), some (aI a), some (aI b), some (aI c), some (aI e), some (aI f), some (aI u), some (aI (i : Int))], [aR 6 t, aI 9, aI 0], am_mix [346, 17, 19] g M)
      refine hR _ (am_ct (am_vi (by omega : t < 6)) (sp_pop (x := y) (r := ([])) (by omega) (by omega) hst (by first | (simp; done) | (simp at *; omega) | omega) (fun g31 hst hin134 => ?_)))
      show R (137, [some (aR 6 t), some (aI 1), some (aI a), some (aI b), some (aI c), some (aI e), some (aI f), some (aI u), some (aI (i : Int))], [aI y, aI 9, aI 0], am_mix [346] g31 (am_mix [346, 17, 19] g M))
      refine hR _ ⟨(by omega), ?_⟩
      show R (140, [some (aR 6 t), some (aI 1), some (aI a), some (aI b), some (aI c), some (aI e), some (aI f), some (aI u), some (aI (i : Int))], [aI (min 9 y), aI 0], am_mix [346] g31 (am_mix [346, 17, 19] g M))
      refine hR _ ⟨(by omega), ?_⟩
      show R (143, [some (aR 6 t), some (aI 1), some (aI a), some (aI b), some (aI c), some (aI e), some (aI f), some (aI u), some (aI (i : Int))], [aI (max 0 (min 9 y))], am_mix [346] g31 (am_mix [346, 17, 19] g M))
      refine hR _ (show K (some (aI (max 0 (min 9 y)))) (am_mix [346] g31 (am_mix [346, 17, 19] g M)) from ?_)
      refine am_fin (S := [346, 17, 19]) (F := fun _ => True) (((am_ag.rf).mix rfl).mix rfl) trivial (fun g _ => ?_)
      have h9 := h g
      rw [hy] at h9
      exact h9
    | succ n ih =>
      intro i l g x hn hi2 hlo hst hli hwf1 hnm hev hx
      subst hx
      rw [List.range'_succ, List.map_cons] at hwf1 hev
      have hsv := hsv0 i (by omega)
      have har := hwf1.1
      have hlen := jf_stp_len (nm := nm) har
      refine hR _ (hR _ (?_))
      show R (83, [some (aR 6 t), some (aI 1), some (aI a), some (aI b), some (aI c), some (aI e), some (aI f), some (aI u), some (aI (i : Int))], [aR 6 t, aI (i : Int)], am_mix [346, 17, 19] g M)
      refine hR _ (am_ct (am_vi (by omega : t < 6)) ?_)
      show R (86, [some (aR 6 t), some (aI 1), some (aI a), some (aI b), some (aI c), some (aI e), some (aI f), some (aI u), some (aI (i : Int))], [aR 18 t, aI (i : Int)], am_mix [346, 17, 19] g M)
      refine hR _ (?_)
      show R (87, [some (aR 6 t), some (aI 1), some (aI a), some (aI b), some (aI c), some (aI e), some (aI f), some (aI u), some (aI (i : Int))], [aI 1, aR 18 t, aI (i : Int)], am_mix [346, 17, 19] g M)
      refine hR _ (am_ct (am_vi (by omega : t < 6)) ⟨(show 0 ≤ (1 : Int) ∧ (1 : Int) < 3 from (by omega)), ?_⟩)
      show R (88, [some (aR 6 t), some (aI 1), some (aI a), some (aI b), some (aI c), some (aI e), some (aI f), some (aI u), some (aI (i : Int))], [aI (M 18 t 1), aI (i : Int)], am_mix [346, 17, 19] g M)
      refine hR _ (am_brf (rg := am_in (i : Int) ∧ am_in (M 18 t 1)) (P := M 18 t 1 ≤ (i : Int)) (A := R (123, [some (aR 6 t), some (aI 1), some (aI a), some (aI b), some (aI c), some (aI e), some (aI f), some (aI u), some (aI (i : Int))], [], am_mix [346, 17, 19] g M)) (B := R (91, [some (aR 6 t), some (aI 1), some (aI a), some (aI b), some (aI c), some (aI e), some (aI f), some (aI u), some (aI (i : Int))], [], am_mix [346, 17, 19] g M)) (by omega) (by omega) ?_)
      show R (91, [some (aR 6 t), some (aI 1), some (aI a), some (aI b), some (aI c), some (aI e), some (aI f), some (aI u), some (aI (i : Int))], [], am_mix [346, 17, 19] g M)
      refine hR _ (hR _ (hR _ (am_brf (rg := am_in (i : Int) ∧ am_in 160) (P := 160 ≤ (i : Int)) (A := R (123, [some (aR 6 t), some (aI 1), some (aI a), some (aI b), some (aI c), some (aI e), some (aI f), some (aI u), some (aI (i : Int))], [], am_mix [346, 17, 19] g M)) (B := R (99, [some (aR 6 t), some (aI 1), some (aI a), some (aI b), some (aI c), some (aI e), some (aI f), some (aI u), some (aI (i : Int))], [], am_mix [346, 17, 19] g M)) (by omega) (by omega) ?_)))
      show R (99, [some (aR 6 t), some (aI 1), some (aI a), some (aI b), some (aI c), some (aI e), some (aI f), some (aI u), some (aI (i : Int))], [], am_mix [346, 17, 19] g M)
      refine hR _ (hR _ (?_))
      show R (101, [some (aR 6 t), some (aI 1), some (aI a), some (aI b), some (aI c), some (aI e), some (aI f), some (aI u), some (aI (i : Int))], [aR 6 t, aR 6 t], am_mix [346, 17, 19] g M)
      refine hR _ (am_ct (am_vi (by omega : t < 6)) ?_)
      show R (104, [some (aR 6 t), some (aI 1), some (aI a), some (aI b), some (aI c), some (aI e), some (aI f), some (aI u), some (aI (i : Int))], [aR 15 t, aR 6 t], am_mix [346, 17, 19] g M)
      refine hR _ (?_)
      show R (106, [some (aR 6 t), some (aI 1), some (aI a), some (aI b), some (aI c), some (aI e), some (aI f), some (aI u), some (aI (i : Int))], [aI (i : Int), aR 15 t, aR 6 t], am_mix [346, 17, 19] g M)
      refine hR _ (am_ct (am_vi (by omega : t < 6)) ⟨(show 0 ≤ ((i : Int) : Int) ∧ ((i : Int) : Int) < 160 from (by omega)), ?_⟩)
      show R (107, [some (aR 6 t), some (aI 1), some (aI a), some (aI b), some (aI c), some (aI e), some (aI f), some (aI u), some (aI (i : Int))], [aI (M 15 t i), aR 6 t], am_mix [346, 17, 19] g M)
      refine hR _ (?_)
      show R (108, [some (aR 6 t), some (aI 1), some (aI a), some (aI b), some (aI c), some (aI e), some (aI f), some (aI u), some (aI (i : Int))], [aR 6 t, aI (M 15 t i), aR 6 t], am_mix [346, 17, 19] g M)
      refine hR _ (am_ct (am_vi (by omega : t < 6)) ?_)
      show R (111, [some (aR 6 t), some (aI 1), some (aI a), some (aI b), some (aI c), some (aI e), some (aI f), some (aI u), some (aI (i : Int))], [aR 16 t, aI (M 15 t i), aR 6 t], am_mix [346, 17, 19] g M)
      refine hR _ (?_)
      show R (113, [some (aR 6 t), some (aI 1), some (aI a), some (aI b), some (aI c), some (aI e), some (aI f), some (aI u), some (aI (i : Int))], [aI (i : Int), aR 16 t, aI (M 15 t i), aR 6 t], am_mix [346, 17, 19] g M)
      refine hR _ (am_ct (am_vi (by omega : t < 6)) ⟨(show 0 ≤ ((i : Int) : Int) ∧ ((i : Int) : Int) < 160 from (by omega)), ?_⟩)
      show R (114, [some (aR 6 t), some (aI 1), some (aI a), some (aI b), some (aI c), some (aI e), some (aI f), some (aI u), some (aI (i : Int))], [aI (M 16 t i), aI (M 15 t i), aR 6 t], am_mix [346, 17, 19] g M)
      refine hR _ (am_ct (am_vi (by omega : t < 6)) (sp_run (l := l) (nm := nm) (by omega) (by omega) hsv hst (by omega) har hnm (fun g32 hst => ?_)))
      show R (117, [some (aR 6 t), some (aI 1), some (aI a), some (aI b), some (aI c), some (aI e), some (aI f), some (aI u), some (aI (i : Int))], [], am_mix [346, 17] g32 (am_mix [346, 17, 19] g M))
      refine hR _ (hR _ (?_))
      show R (80, [some (aR 6 t), some (aI 1), some (aI a), some (aI b), some (aI c), some (aI e), some (aI f), some (aI u), some (aI ((i : Int) + 1))], [], am_mix [346, 17] g32 (am_mix [346, 17, 19] g M))
      have e9 : am_ag [346, 17, 19] M (am_mix [346, 17] g32 (am_mix [346, 17, 19] g M)) := ((am_ag.rf).mix rfl).mix rfl
      have hnm2 : ∀ j : Nat, j < 6 → (am_mix [346, 17] g32 (am_mix [346, 17, 19] g M)) 19 t j = nm j ∧ am_in (nm j) := hnm
      rw [e9.eq] at hst hnm2 ⊢
      have hw2 := hwf1.2
      rw [← hlen] at hw2
      exact ih (i + 1) _ _ _ (by omega) (by omega) (by omega) hst (by omega) hw2 hnm2 hev (by omega)
  refine hR _ (hR _ (hR _ (hR _ (sp_within (by omega) (by omega) (fun _ => ?_) (fun hb3 => absurd (by omega) hb3)))))
  show R (6, [some (aR 6 t), some (aI 1), some (aI a), some (aI b), some (aI c), some (aI e), some (aI f), some (aI u), none], [aI 1], M)
  refine hR _ (am_brt (rg := am_in 1) (P := (1 : Int) ≠ 0) (A := R (11, [some (aR 6 t), some (aI 1), some (aI a), some (aI b), some (aI c), some (aI e), some (aI f), some (aI u), none], [], M)) (B := R (9, [some (aR 6 t), some (aI 1), some (aI a), some (aI b), some (aI c), some (aI e), some (aI f), some (aI u), none], [], M)) (by omega) (by omega) ?_)
  show R (11, [some (aR 6 t), some (aI 1), some (aI a), some (aI b), some (aI c), some (aI e), some (aI f), some (aI u), none], [], M)
  refine hR _ (?_)
  show R (12, [some (aR 6 t), some (aI 1), some (aI a), some (aI b), some (aI c), some (aI e), some (aI f), some (aI u), none], [aR 6 t], M)
  refine hR _ (am_ct (am_vi (by omega : t < 6)) ?_)
  show R (15, [some (aR 6 t), some (aI 1), some (aI a), some (aI b), some (aI c), some (aI e), some (aI f), some (aI u), none], [aR 19 t], M)
  refine hR _ (hR _ (?_))
  show R (17, [some (aR 6 t), some (aI 1), some (aI a), some (aI b), some (aI c), some (aI e), some (aI f), some (aI u), none], [aI a, aI 0, aR 19 t], M)
  refine hR _ (am_ct (am_vi (by omega : t < 6)) ⟨(show 0 ≤ (0 : Int) ∧ (0 : Int) < 6 from (by omega)), ?_⟩)
  show R (18, [some (aR 6 t), some (aI 1), some (aI a), some (aI b), some (aI c), some (aI e), some (aI f), some (aI u), none], [], am_wr M 19 t 0 a)
  refine hR _ (?_)
  show R (19, [some (aR 6 t), some (aI 1), some (aI a), some (aI b), some (aI c), some (aI e), some (aI f), some (aI u), none], [aR 6 t], am_wr M 19 t 0 a)
  refine hR _ (am_ct (am_vi (by omega : t < 6)) ?_)
  show R (22, [some (aR 6 t), some (aI 1), some (aI a), some (aI b), some (aI c), some (aI e), some (aI f), some (aI u), none], [aR 19 t], am_wr M 19 t 0 a)
  refine hR _ (hR _ (?_))
  show R (24, [some (aR 6 t), some (aI 1), some (aI a), some (aI b), some (aI c), some (aI e), some (aI f), some (aI u), none], [aI b, aI 1, aR 19 t], am_wr M 19 t 0 a)
  refine hR _ (am_ct (am_vi (by omega : t < 6)) ⟨(show 0 ≤ (1 : Int) ∧ (1 : Int) < 6 from (by omega)), ?_⟩)
  show R (25, [some (aR 6 t), some (aI 1), some (aI a), some (aI b), some (aI c), some (aI e), some (aI f), some (aI u), none], [], am_wr (am_wr M 19 t 0 a) 19 t 1 b)
  refine hR _ (?_)
  show R (26, [some (aR 6 t), some (aI 1), some (aI a), some (aI b), some (aI c), some (aI e), some (aI f), some (aI u), none], [aR 6 t], am_wr (am_wr M 19 t 0 a) 19 t 1 b)
  refine hR _ (am_ct (am_vi (by omega : t < 6)) ?_)
  show R (29, [some (aR 6 t), some (aI 1), some (aI a), some (aI b), some (aI c), some (aI e), some (aI f), some (aI u), none], [aR 19 t], am_wr (am_wr M 19 t 0 a) 19 t 1 b)
  refine hR _ (hR _ (?_))
  show R (32, [some (aR 6 t), some (aI 1), some (aI a), some (aI b), some (aI c), some (aI e), some (aI f), some (aI u), none], [aI c, aI 2, aR 19 t], am_wr (am_wr M 19 t 0 a) 19 t 1 b)
  refine hR _ (am_ct (am_vi (by omega : t < 6)) ⟨(show 0 ≤ (2 : Int) ∧ (2 : Int) < 6 from (by omega)), ?_⟩)
  show R (33, [some (aR 6 t), some (aI 1), some (aI a), some (aI b), some (aI c), some (aI e), some (aI f), some (aI u), none], [], am_wr (am_wr (am_wr M 19 t 0 a) 19 t 1 b) 19 t 2 c)
  refine hR _ (?_)
  show R (34, [some (aR 6 t), some (aI 1), some (aI a), some (aI b), some (aI c), some (aI e), some (aI f), some (aI u), none], [aR 6 t], am_wr (am_wr (am_wr M 19 t 0 a) 19 t 1 b) 19 t 2 c)
  refine hR _ (am_ct (am_vi (by omega : t < 6)) ?_)
  show R (37, [some (aR 6 t), some (aI 1), some (aI a), some (aI b), some (aI c), some (aI e), some (aI f), some (aI u), none], [aR 19 t], am_wr (am_wr (am_wr M 19 t 0 a) 19 t 1 b) 19 t 2 c)
  refine hR _ (hR _ (?_))
  show R (40, [some (aR 6 t), some (aI 1), some (aI a), some (aI b), some (aI c), some (aI e), some (aI f), some (aI u), none], [aI e, aI 3, aR 19 t], am_wr (am_wr (am_wr M 19 t 0 a) 19 t 1 b) 19 t 2 c)
  refine hR _ (am_ct (am_vi (by omega : t < 6)) ⟨(show 0 ≤ (3 : Int) ∧ (3 : Int) < 6 from (by omega)), ?_⟩)
  show R (41, [some (aR 6 t), some (aI 1), some (aI a), some (aI b), some (aI c), some (aI e), some (aI f), some (aI u), none], [], am_wr (am_wr (am_wr (am_wr M 19 t 0 a) 19 t 1 b) 19 t 2 c) 19 t 3 e)
  refine hR _ (?_)
  show R (42, [some (aR 6 t), some (aI 1), some (aI a), some (aI b), some (aI c), some (aI e), some (aI f), some (aI u), none], [aR 6 t], am_wr (am_wr (am_wr (am_wr M 19 t 0 a) 19 t 1 b) 19 t 2 c) 19 t 3 e)
  refine hR _ (am_ct (am_vi (by omega : t < 6)) ?_)
  show R (45, [some (aR 6 t), some (aI 1), some (aI a), some (aI b), some (aI c), some (aI e), some (aI f), some (aI u), none], [aR 19 t], am_wr (am_wr (am_wr (am_wr M 19 t 0 a) 19 t 1 b) 19 t 2 c) 19 t 3 e)
  refine hR _ (hR _ (?_))
  show R (48, [some (aR 6 t), some (aI 1), some (aI a), some (aI b), some (aI c), some (aI e), some (aI f), some (aI u), none], [aI f, aI 4, aR 19 t], am_wr (am_wr (am_wr (am_wr M 19 t 0 a) 19 t 1 b) 19 t 2 c) 19 t 3 e)
  refine hR _ (am_ct (am_vi (by omega : t < 6)) ⟨(show 0 ≤ (4 : Int) ∧ (4 : Int) < 6 from (by omega)), ?_⟩)
  show R (49, [some (aR 6 t), some (aI 1), some (aI a), some (aI b), some (aI c), some (aI e), some (aI f), some (aI u), none], [], am_wr (am_wr (am_wr (am_wr (am_wr M 19 t 0 a) 19 t 1 b) 19 t 2 c) 19 t 3 e) 19 t 4 f)
  refine hR _ (?_)
  show R (50, [some (aR 6 t), some (aI 1), some (aI a), some (aI b), some (aI c), some (aI e), some (aI f), some (aI u), none], [aR 6 t], am_wr (am_wr (am_wr (am_wr (am_wr M 19 t 0 a) 19 t 1 b) 19 t 2 c) 19 t 3 e) 19 t 4 f)
  refine hR _ (am_ct (am_vi (by omega : t < 6)) ?_)
  show R (53, [some (aR 6 t), some (aI 1), some (aI a), some (aI b), some (aI c), some (aI e), some (aI f), some (aI u), none], [aR 19 t], am_wr (am_wr (am_wr (am_wr (am_wr M 19 t 0 a) 19 t 1 b) 19 t 2 c) 19 t 3 e) 19 t 4 f)
  refine hR _ (hR _ (?_))
  show R (56, [some (aR 6 t), some (aI 1), some (aI a), some (aI b), some (aI c), some (aI e), some (aI f), some (aI u), none], [aI u, aI 5, aR 19 t], am_wr (am_wr (am_wr (am_wr (am_wr M 19 t 0 a) 19 t 1 b) 19 t 2 c) 19 t 3 e) 19 t 4 f)
  refine hR _ (am_ct (am_vi (by omega : t < 6)) ⟨(show 0 ≤ (5 : Int) ∧ (5 : Int) < 6 from (by omega)), ?_⟩)
  show R (57, [some (aR 6 t), some (aI 1), some (aI a), some (aI b), some (aI c), some (aI e), some (aI f), some (aI u), none], [], am_wr (am_wr (am_wr (am_wr (am_wr (am_wr M 19 t 0 a) 19 t 1 b) 19 t 2 c) 19 t 3 e) 19 t 4 f) 19 t 5 u)
  refine hR _ (hR _ (?_))
  show R (59, [some (aR 6 t), some (aI 1), some (aI a), some (aI b), some (aI c), some (aI e), some (aI f), some (aI u), none], [aI 0, aR 6 t], am_wr (am_wr (am_wr (am_wr (am_wr (am_wr M 19 t 0 a) 19 t 1 b) 19 t 2 c) 19 t 3 e) 19 t 4 f) 19 t 5 u)
  refine hR _ (am_ct (am_vi (by omega : t < 6)) ?_)
  show R (62, [some (aR 6 t), some (aI 1), some (aI a), some (aI b), some (aI c), some (aI e), some (aI f), some (aI u), none], [], am_wr (am_wr (am_wr (am_wr (am_wr (am_wr (am_wr M 19 t 0 a) 19 t 1 b) 19 t 2 c) 19 t 3 e) 19 t 4 f) 19 t 5 u) 346 t 0 0)
  refine hR _ (hR _ (am_brt (rg := am_in 1) (P := (1 : Int) ≠ 0) (A := R (70, [some (aR 6 t), some (aI 1), some (aI a), some (aI b), some (aI c), some (aI e), some (aI f), some (aI u), none], [], am_wr (am_wr (am_wr (am_wr (am_wr (am_wr (am_wr M 19 t 0 a) 19 t 1 b) 19 t 2 c) 19 t 3 e) 19 t 4 f) 19 t 5 u) 346 t 0 0)) (B := R (66, [some (aR 6 t), some (aI 1), some (aI a), some (aI b), some (aI c), some (aI e), some (aI f), some (aI u), none], [], am_wr (am_wr (am_wr (am_wr (am_wr (am_wr (am_wr M 19 t 0 a) 19 t 1 b) 19 t 2 c) 19 t 3 e) 19 t 4 f) 19 t 5 u) 346 t 0 0)) (by omega) (by omega) ?_))
  show R (70, [some (aR 6 t), some (aI 1), some (aI a), some (aI b), some (aI c), some (aI e), some (aI f), some (aI u), none], [], am_wr (am_wr (am_wr (am_wr (am_wr (am_wr (am_wr M 19 t 0 a) 19 t 1 b) 19 t 2 c) 19 t 3 e) 19 t 4 f) 19 t 5 u) 346 t 0 0)
  refine hR _ (?_)
  show R (71, [some (aR 6 t), some (aI 1), some (aI a), some (aI b), some (aI c), some (aI e), some (aI f), some (aI u), none], [aR 6 t], am_wr (am_wr (am_wr (am_wr (am_wr (am_wr (am_wr M 19 t 0 a) 19 t 1 b) 19 t 2 c) 19 t 3 e) 19 t 4 f) 19 t 5 u) 346 t 0 0)
  refine hR _ (am_ct (am_vi (by omega : t < 6)) ?_)
  show R (74, [some (aR 6 t), some (aI 1), some (aI a), some (aI b), some (aI c), some (aI e), some (aI f), some (aI u), none], [aR 18 t], am_wr (am_wr (am_wr (am_wr (am_wr (am_wr (am_wr M 19 t 0 a) 19 t 1 b) 19 t 2 c) 19 t 3 e) 19 t 4 f) 19 t 5 u) 346 t 0 0)
  refine hR _ (hR _ (hR _ (?_)))
  show R (77, [some (aR 6 t), some (aI 1), some (aI a), some (aI b), some (aI c), some (aI e), some (aI f), some (aI u), none], [aI 0, aR 18 t], am_wr (am_wr (am_wr (am_wr (am_wr (am_wr (am_wr M 19 t 0 a) 19 t 1 b) 19 t 2 c) 19 t 3 e) 19 t 4 f) 19 t 5 u) 346 t 0 0)
  refine hR _ (am_ct (am_vi (by omega : t < 6)) ⟨(show 0 ≤ (0 : Int) ∧ (0 : Int) < 3 from (by omega)), ?_⟩)
  show R (78, [some (aR 6 t), some (aI 1), some (aI a), some (aI b), some (aI c), some (aI e), some (aI f), some (aI u), none], [aI (M 18 t 0)], am_wr (am_wr (am_wr (am_wr (am_wr (am_wr (am_wr M 19 t 0 a) 19 t 1 b) 19 t 2 c) 19 t 3 e) 19 t 4 f) 19 t 5 u) 346 t 0 0)
  refine hR _ (?_)
  show R (80, [some (aR 6 t), some (aI 1), some (aI a), some (aI b), some (aI c), some (aI e), some (aI f), some (aI u), some (aI (M 18 t 0))], [], am_wr (am_wr (am_wr (am_wr (am_wr (am_wr (am_wr M 19 t 0 a) 19 t 1 b) 19 t 2 c) 19 t 3 e) 19 t 4 f) 19 t 5 u) 346 t 0 0)
  have hag : am_ag [346, 17, 19] M (am_wr (am_wr (am_wr (am_wr (am_wr (am_wr (am_wr M 19 t 0 a) 19 t 1 b) 19 t 2 c) 19 t 3 e) 19 t 4 f) 19 t 5 u) 346 t 0 0) := (((((((am_ag.rf).wr rfl).wr rfl).wr rfl).wr rfl).wr rfl).wr rfl).wr rfl
  have hst0 : jf_stk (am_wr (am_wr (am_wr (am_wr (am_wr (am_wr (am_wr M 19 t 0 a) 19 t 1 b) 19 t 2 c) 19 t 3 e) 19 t 4 f) 19 t 5 u) 346 t 0 0) t [] := ⟨am_wr_eq, fun j hj => absurd hj (by simp), fun x hx => absurd hx (by simp)⟩
  have hnm0 : ∀ j : Nat, j < 6 → (am_wr (am_wr (am_wr (am_wr (am_wr (am_wr (am_wr M 19 t 0 a) 19 t 1 b) 19 t 2 c) 19 t 3 e) 19 t 4 f) 19 t 5 u) 346 t 0 0) 19 t j = nm j ∧ am_in (nm j) := by
    rw [← hnme]
    intro j hj
    match j, hj with
    | 0, _ => exact ⟨(am_wr_ne (Or.inl (by decide))).trans ((am_wr_ne (Or.inr (Or.inr (by decide)))).trans ((am_wr_ne (Or.inr (Or.inr (by decide)))).trans ((am_wr_ne (Or.inr (Or.inr (by decide)))).trans ((am_wr_ne (Or.inr (Or.inr (by decide)))).trans ((am_wr_ne (Or.inr (Or.inr (by decide)))).trans (am_wr_eq)))))), ha.1⟩
    | 1, _ => exact ⟨(am_wr_ne (Or.inl (by decide))).trans ((am_wr_ne (Or.inr (Or.inr (by decide)))).trans ((am_wr_ne (Or.inr (Or.inr (by decide)))).trans ((am_wr_ne (Or.inr (Or.inr (by decide)))).trans ((am_wr_ne (Or.inr (Or.inr (by decide)))).trans (am_wr_eq))))), ha.2.1⟩
    | 2, _ => exact ⟨(am_wr_ne (Or.inl (by decide))).trans ((am_wr_ne (Or.inr (Or.inr (by decide)))).trans ((am_wr_ne (Or.inr (Or.inr (by decide)))).trans ((am_wr_ne (Or.inr (Or.inr (by decide)))).trans (am_wr_eq)))), ha.2.2.1⟩
    | 3, _ => exact ⟨(am_wr_ne (Or.inl (by decide))).trans ((am_wr_ne (Or.inr (Or.inr (by decide)))).trans ((am_wr_ne (Or.inr (Or.inr (by decide)))).trans (am_wr_eq))), ha.2.2.2.1⟩
    | 4, _ => exact ⟨(am_wr_ne (Or.inl (by decide))).trans ((am_wr_ne (Or.inr (Or.inr (by decide)))).trans (am_wr_eq)), ha.2.2.2.2.1⟩
    | 5, _ => exact ⟨(am_wr_ne (Or.inl (by decide))).trans (am_wr_eq), ha.2.2.2.2.2⟩
  rw [hag.eq] at hst0 hnm0 ⊢
  generalize (am_wr (am_wr (am_wr (am_wr (am_wr (am_wr (am_wr M 19 t 0 a) 19 t 1 b) 19 t 2 c) 19 t 3 e) 19 t 4 f) 19 t 5 u) 346 t 0 0) = g0 at hst0 hnm0 ⊢
  exact key _ (M 18 t 0).toNat [] g0 (M 18 t 0) rfl (by omega) (Nat.le_refl _) hst0 (Nat.zero_le _) (hwf 1 (by omega)) hnm0 rfl (by omega)

set_option maxHeartbeats 1000000 in
theorem sp_says_2 {d : Nat} (hd : 3 ≤ d) {t : Nat} {a b c e f u : Int} {M : am_M} {K : am_K} (ht : t < 6) (hwt : jf_wt M t) (ha : am_in a ∧ am_in b ∧ am_in c ∧ am_in e ∧ am_in f ∧ am_in u) (h : ∀ g, K (some (aI (jf_cl 2 (jf_val (jf_nm a b c e f u) (jf_tk M t 2))))) (am_mix [346, 17, 19] g M)) : am_Call wb d 38 [aR 6 t, aI 2, aI a, aI b, aI c, aI e, aI f, aI u] M K := by
  obtain ⟨d, rfl⟩ : ∃ e, d = e + 1 := ⟨d - 1, by omega⟩
  refine ⟨rfl, fun R hR hC => ?_⟩
  replace hR : ∀ c, am_F wb tb_f38 1 (am_Call wb d) K R c → R c := hR
  show R (0, [some (aR 6 t), some (aI 2), some (aI a), some (aI b), some (aI c), some (aI e), some (aI f), some (aI u), none], [], M)
  obtain ⟨⟨hp0, hp1, hp2, hp3⟩, hwf, hsv0⟩ := hwt
  obtain ⟨nm, hnme⟩ : ∃ nm, jf_nm a b c e f u = nm := ⟨_, rfl⟩
  rw [hnme] at h
  have key : ∀ (n i : Nat) (l : List Int) (g : am_M) (x : Int), n = (M 18 t 2).toNat - i → i ≤ (M 18 t 2).toNat → jf_lo M t 2 ≤ i → jf_stk (am_mix [346, 17, 19] g M) t l → l.length ≤ i → jf_wf ((List.range' i n).map fun k => jf_cv (M 15 t k) (M 16 t k)) l.length → (∀ j : Nat, j < 6 → am_mix [346, 17, 19] g M 19 t j = nm j ∧ am_in (nm j)) → jf_ev nm ((List.range' i n).map fun k => jf_cv (M 15 t k) (M 16 t k)) l = jf_ev nm (jf_tk M t 2) [] → x = (i : Int) → R (80, [some (aR 6 t), some (aI 2), some (aI a), some (aI b), some (aI c), some (aI e), some (aI f), some (aI u), some (aI x)], [], am_mix [346, 17, 19] g M) := by
    intro n
    induction n with
    | zero =>
      intro i l g x hn hi2 hlo hst hli hwf1 hnm hev hx
      subst hx
      obtain ⟨y, rfl⟩ : ∃ y, l = [y] := List.length_eq_one_iff.mp hwf1
      have hy : jf_val nm (jf_tk M t 2) = y := by unfold jf_val; rw [← hev]; rfl
      refine hR _ (hR _ (?_))
      show R (83, [some (aR 6 t), some (aI 2), some (aI a), some (aI b), some (aI c), some (aI e), some (aI f), some (aI u), some (aI (i : Int))], [aR 6 t, aI (i : Int)], am_mix [346, 17, 19] g M)
      refine hR _ (am_ct (am_vi (by omega : t < 6)) ?_)
      show R (86, [some (aR 6 t), some (aI 2), some (aI a), some (aI b), some (aI c), some (aI e), some (aI f), some (aI u), some (aI (i : Int))], [aR 18 t, aI (i : Int)], am_mix [346, 17, 19] g M)
      refine hR _ (?_)
      show R (87, [some (aR 6 t), some (aI 2), some (aI a), some (aI b), some (aI c), some (aI e), some (aI f), some (aI u), some (aI (i : Int))], [aI 2, aR 18 t, aI (i : Int)], am_mix [346, 17, 19] g M)
      refine hR _ (am_ct (am_vi (by omega : t < 6)) ⟨(show 0 ≤ (2 : Int) ∧ (2 : Int) < 3 from (by omega)), ?_⟩)
      show R (88, [some (aR 6 t), some (aI 2), some (aI a), some (aI b), some (aI c), some (aI e), some (aI f), some (aI u), some (aI (i : Int))], [aI (M 18 t 2), aI (i : Int)], am_mix [346, 17, 19] g M)
      refine hR _ (am_brt (rg := am_in (i : Int) ∧ am_in (M 18 t 2)) (P := M 18 t 2 ≤ (i : Int)) (A := R (123, [some (aR 6 t), some (aI 2), some (aI a), some (aI b), some (aI c), some (aI e), some (aI f), some (aI u), some (aI (i : Int))], [], am_mix [346, 17, 19] g M)) (B := R (91, [some (aR 6 t), some (aI 2), some (aI a), some (aI b), some (aI c), some (aI e), some (aI f), some (aI u), some (aI (i : Int))], [], am_mix [346, 17, 19] g M)) (by omega) (by omega) ?_)
      show R (123, [some (aR 6 t), some (aI 2), some (aI a), some (aI b), some (aI c), some (aI e), some (aI f), some (aI u), some (aI (i : Int))], [], am_mix [346, 17, 19] g M)
      refine hR _ (hR _ (?_))
      show R (127, [some (aR 6 t), some (aI 2), some (aI a), some (aI b), some (aI c), some (aI e), some (aI f), some (aI u), some (aI (i : Int))], [aI 2, aR 51 1], am_mix [346, 17, 19] g M)
      refine hR _ ⟨(show 0 ≤ (2 : Int) ∧ (2 : Int) < 3 from (by omega)), ?_⟩
      show R (128, [some (aR 6 t), some (aI 2), some (aI a), some (aI b), some (aI c), some (aI e), some (aI f), some (aI u), some (aI (i : Int))], [aI 0], am_mix [346, 17, 19] g M)
      refine hR _ (hR _ (?_))
      show R (132, [some (aR 6 t), some (aI 2), some (aI a), some (aI b), some (aI c), some (aI e), some (aI f), some (aI u), some (aI (i : Int))], [aI 2, aR 51 2, aI 0], am_mix [346, 17, 19] g M)
      refine hR _ ⟨(show 0 ≤ (2 : Int) ∧ (2 : Int) < 3 from (by omega)), ?_⟩
      show R (133, [some (aR 6 t), some (aI 2), some (aI a), some (aI b), some (aI c), some (aI e), some (aI f), some (aI u), some (aI (i : Int))], [aI 999, aI 0], am_mix [346, 17, 19] g M)
      refine hR _ (?_)
      show R (134, [some (aR 6 t), some (aI 2), some (aI a), some (aI b), some (aI c), some (aI e), some (aI f), some (aI u), some (aI (i : Int))], [aR 6 t, aI 999, aI 0], am_mix [346, 17, 19] g M)
      refine hR _ (am_ct (am_vi (by omega : t < 6)) (sp_pop (x := y) (r := ([])) (by omega) (by omega) hst (by first | (simp; done) | (simp at *; omega) | omega) (fun g33 hst hin134 => ?_)))
      show R (137, [some (aR 6 t), some (aI 2), some (aI a), some (aI b), some (aI c), some (aI e), some (aI f), some (aI u), some (aI (i : Int))], [aI y, aI 999, aI 0], am_mix [346] g33 (am_mix [346, 17, 19] g M))
      refine hR _ ⟨(by omega), ?_⟩
      show R (140, [some (aR 6 t), some (aI 2), some (aI a), some (aI b), some (aI c), some (aI e), some (aI f), some (aI u), some (aI (i : Int))], [aI (min 999 y), aI 0], am_mix [346] g33 (am_mix [346, 17, 19] g M))
      refine hR _ ⟨(by omega), ?_⟩
      show R (143, [some (aR 6 t), some (aI 2), some (aI a), some (aI b), some (aI c), some (aI e), some (aI f), some (aI u), some (aI (i : Int))], [aI (max 0 (min 999 y))], am_mix [346] g33 (am_mix [346, 17, 19] g M))
      refine hR _ (show K (some (aI (max 0 (min 999 y)))) (am_mix [346] g33 (am_mix [346, 17, 19] g M)) from ?_)
      refine am_fin (S := [346, 17, 19]) (F := fun _ => True) (((am_ag.rf).mix rfl).mix rfl) trivial (fun g _ => ?_)
      have h9 := h g
      rw [hy] at h9
      exact h9
    | succ n ih =>
      intro i l g x hn hi2 hlo hst hli hwf1 hnm hev hx
      subst hx
      rw [List.range'_succ, List.map_cons] at hwf1 hev
      have hsv := hsv0 i (by omega)
      have har := hwf1.1
      have hlen := jf_stp_len (nm := nm) har
      refine hR _ (hR _ (?_))
      show R (83, [some (aR 6 t), some (aI 2), some (aI a), some (aI b), some (aI c), some (aI e), some (aI f), some (aI u), some (aI (i : Int))], [aR 6 t, aI (i : Int)], am_mix [346, 17, 19] g M)
      refine hR _ (am_ct (am_vi (by omega : t < 6)) ?_)
      show R (86, [some (aR 6 t), some (aI 2), some (aI a), some (aI b), some (aI c), some (aI e), some (aI f), some (aI u), some (aI (i : Int))], [aR 18 t, aI (i : Int)], am_mix [346, 17, 19] g M)
      refine hR _ (?_)
      show R (87, [some (aR 6 t), some (aI 2), some (aI a), some (aI b), some (aI c), some (aI e), some (aI f), some (aI u), some (aI (i : Int))], [aI 2, aR 18 t, aI (i : Int)], am_mix [346, 17, 19] g M)
      refine hR _ (am_ct (am_vi (by omega : t < 6)) ⟨(show 0 ≤ (2 : Int) ∧ (2 : Int) < 3 from (by omega)), ?_⟩)
      show R (88, [some (aR 6 t), some (aI 2), some (aI a), some (aI b), some (aI c), some (aI e), some (aI f), some (aI u), some (aI (i : Int))], [aI (M 18 t 2), aI (i : Int)], am_mix [346, 17, 19] g M)
      refine hR _ (am_brf (rg := am_in (i : Int) ∧ am_in (M 18 t 2)) (P := M 18 t 2 ≤ (i : Int)) (A := R (123, [some (aR 6 t), some (aI 2), some (aI a), some (aI b), some (aI c), some (aI e), some (aI f), some (aI u), some (aI (i : Int))], [], am_mix [346, 17, 19] g M)) (B := R (91, [some (aR 6 t), some (aI 2), some (aI a), some (aI b), some (aI c), some (aI e), some (aI f), some (aI u), some (aI (i : Int))], [], am_mix [346, 17, 19] g M)) (by omega) (by omega) ?_)
      show R (91, [some (aR 6 t), some (aI 2), some (aI a), some (aI b), some (aI c), some (aI e), some (aI f), some (aI u), some (aI (i : Int))], [], am_mix [346, 17, 19] g M)
      refine hR _ (hR _ (hR _ (am_brf (rg := am_in (i : Int) ∧ am_in 160) (P := 160 ≤ (i : Int)) (A := R (123, [some (aR 6 t), some (aI 2), some (aI a), some (aI b), some (aI c), some (aI e), some (aI f), some (aI u), some (aI (i : Int))], [], am_mix [346, 17, 19] g M)) (B := R (99, [some (aR 6 t), some (aI 2), some (aI a), some (aI b), some (aI c), some (aI e), some (aI f), some (aI u), some (aI (i : Int))], [], am_mix [346, 17, 19] g M)) (by omega) (by omega) ?_)))
      show R (99, [some (aR 6 t), some (aI 2), some (aI a), some (aI b), some (aI c), some (aI e), some (aI f), some (aI u), some (aI (i : Int))], [], am_mix [346, 17, 19] g M)
      refine hR _ (hR _ (?_))
      show R (101, [some (aR 6 t), some (aI 2), some (aI a), some (aI b), some (aI c), some (aI e), some (aI f), some (aI u), some (aI (i : Int))], [aR 6 t, aR 6 t], am_mix [346, 17, 19] g M)
      refine hR _ (am_ct (am_vi (by omega : t < 6)) ?_)
      show R (104, [some (aR 6 t), some (aI 2), some (aI a), some (aI b), some (aI c), some (aI e), some (aI f), some (aI u), some (aI (i : Int))], [aR 15 t, aR 6 t], am_mix [346, 17, 19] g M)
      refine hR _ (?_)
      show R (106, [some (aR 6 t), some (aI 2), some (aI a), some (aI b), some (aI c), some (aI e), some (aI f), some (aI u), some (aI (i : Int))], [aI (i : Int), aR 15 t, aR 6 t], am_mix [346, 17, 19] g M)
      refine hR _ (am_ct (am_vi (by omega : t < 6)) ⟨(show 0 ≤ ((i : Int) : Int) ∧ ((i : Int) : Int) < 160 from (by omega)), ?_⟩)
      show R (107, [some (aR 6 t), some (aI 2), some (aI a), some (aI b), some (aI c), some (aI e), some (aI f), some (aI u), some (aI (i : Int))], [aI (M 15 t i), aR 6 t], am_mix [346, 17, 19] g M)
      refine hR _ (?_)
      show R (108, [some (aR 6 t), some (aI 2), some (aI a), some (aI b), some (aI c), some (aI e), some (aI f), some (aI u), some (aI (i : Int))], [aR 6 t, aI (M 15 t i), aR 6 t], am_mix [346, 17, 19] g M)
      refine hR _ (am_ct (am_vi (by omega : t < 6)) ?_)
      show R (111, [some (aR 6 t), some (aI 2), some (aI a), some (aI b), some (aI c), some (aI e), some (aI f), some (aI u), some (aI (i : Int))], [aR 16 t, aI (M 15 t i), aR 6 t], am_mix [346, 17, 19] g M)
      refine hR _ (?_)
      show R (113, [some (aR 6 t), some (aI 2), some (aI a), some (aI b), some (aI c), some (aI e), some (aI f), some (aI u), some (aI (i : Int))], [aI (i : Int), aR 16 t, aI (M 15 t i), aR 6 t], am_mix [346, 17, 19] g M)
      refine hR _ (am_ct (am_vi (by omega : t < 6)) ⟨(show 0 ≤ ((i : Int) : Int) ∧ ((i : Int) : Int) < 160 from (by omega)), ?_⟩)
      show R (114, [some (aR 6 t), some (aI 2), some (aI a), some (aI b), some (aI c), some (aI e), some (aI f), some (aI u), some (aI (i : Int))], [aI (M 16 t i), aI (M 15 t i), aR 6 t], am_mix [346, 17, 19] g M)
      refine hR _ (am_ct (am_vi (by omega : t < 6)) (sp_run (l := l) (nm := nm) (by omega) (by omega) hsv hst (by omega) har hnm (fun g34 hst => ?_)))
      show R (117, [some (aR 6 t), some (aI 2), some (aI a), some (aI b), some (aI c), some (aI e), some (aI f), some (aI u), some (aI (i : Int))], [], am_mix [346, 17] g34 (am_mix [346, 17, 19] g M))
      refine hR _ (hR _ (?_))
      show R (80, [some (aR 6 t), some (aI 2), some (aI a), some (aI b), some (aI c), some (aI e), some (aI f), some (aI u), some (aI ((i : Int) + 1))], [], am_mix [346, 17] g34 (am_mix [346, 17, 19] g M))
      have e9 : am_ag [346, 17, 19] M (am_mix [346, 17] g34 (am_mix [346, 17, 19] g M)) := ((am_ag.rf).mix rfl).mix rfl
      have hnm2 : ∀ j : Nat, j < 6 → (am_mix [346, 17] g34 (am_mix [346, 17, 19] g M)) 19 t j = nm j ∧ am_in (nm j) := hnm
      rw [e9.eq] at hst hnm2 ⊢
      have hw2 := hwf1.2
      rw [← hlen] at hw2
      exact ih (i + 1) _ _ _ (by omega) (by omega) (by omega) hst (by omega) hw2 hnm2 hev (by omega)
  refine hR _ (hR _ (hR _ (hR _ (sp_within (by omega) (by omega) (fun _ => ?_) (fun hb3 => absurd (by omega) hb3)))))
  show R (6, [some (aR 6 t), some (aI 2), some (aI a), some (aI b), some (aI c), some (aI e), some (aI f), some (aI u), none], [aI 1], M)
  refine hR _ (am_brt (rg := am_in 1) (P := (1 : Int) ≠ 0) (A := R (11, [some (aR 6 t), some (aI 2), some (aI a), some (aI b), some (aI c), some (aI e), some (aI f), some (aI u), none], [], M)) (B := R (9, [some (aR 6 t), some (aI 2), some (aI a), some (aI b), some (aI c), some (aI e), some (aI f), some (aI u), none], [], M)) (by omega) (by omega) ?_)
  show R (11, [some (aR 6 t), some (aI 2), some (aI a), some (aI b), some (aI c), some (aI e), some (aI f), some (aI u), none], [], M)
  refine hR _ (?_)
  show R (12, [some (aR 6 t), some (aI 2), some (aI a), some (aI b), some (aI c), some (aI e), some (aI f), some (aI u), none], [aR 6 t], M)
  refine hR _ (am_ct (am_vi (by omega : t < 6)) ?_)
  show R (15, [some (aR 6 t), some (aI 2), some (aI a), some (aI b), some (aI c), some (aI e), some (aI f), some (aI u), none], [aR 19 t], M)
  refine hR _ (hR _ (?_))
  show R (17, [some (aR 6 t), some (aI 2), some (aI a), some (aI b), some (aI c), some (aI e), some (aI f), some (aI u), none], [aI a, aI 0, aR 19 t], M)
  refine hR _ (am_ct (am_vi (by omega : t < 6)) ⟨(show 0 ≤ (0 : Int) ∧ (0 : Int) < 6 from (by omega)), ?_⟩)
  show R (18, [some (aR 6 t), some (aI 2), some (aI a), some (aI b), some (aI c), some (aI e), some (aI f), some (aI u), none], [], am_wr M 19 t 0 a)
  refine hR _ (?_)
  show R (19, [some (aR 6 t), some (aI 2), some (aI a), some (aI b), some (aI c), some (aI e), some (aI f), some (aI u), none], [aR 6 t], am_wr M 19 t 0 a)
  refine hR _ (am_ct (am_vi (by omega : t < 6)) ?_)
  show R (22, [some (aR 6 t), some (aI 2), some (aI a), some (aI b), some (aI c), some (aI e), some (aI f), some (aI u), none], [aR 19 t], am_wr M 19 t 0 a)
  refine hR _ (hR _ (?_))
  show R (24, [some (aR 6 t), some (aI 2), some (aI a), some (aI b), some (aI c), some (aI e), some (aI f), some (aI u), none], [aI b, aI 1, aR 19 t], am_wr M 19 t 0 a)
  refine hR _ (am_ct (am_vi (by omega : t < 6)) ⟨(show 0 ≤ (1 : Int) ∧ (1 : Int) < 6 from (by omega)), ?_⟩)
  show R (25, [some (aR 6 t), some (aI 2), some (aI a), some (aI b), some (aI c), some (aI e), some (aI f), some (aI u), none], [], am_wr (am_wr M 19 t 0 a) 19 t 1 b)
  refine hR _ (?_)
  show R (26, [some (aR 6 t), some (aI 2), some (aI a), some (aI b), some (aI c), some (aI e), some (aI f), some (aI u), none], [aR 6 t], am_wr (am_wr M 19 t 0 a) 19 t 1 b)
  refine hR _ (am_ct (am_vi (by omega : t < 6)) ?_)
  show R (29, [some (aR 6 t), some (aI 2), some (aI a), some (aI b), some (aI c), some (aI e), some (aI f), some (aI u), none], [aR 19 t], am_wr (am_wr M 19 t 0 a) 19 t 1 b)
  refine hR _ (hR _ (?_))
  show R (32, [some (aR 6 t), some (aI 2), some (aI a), some (aI b), some (aI c), some (aI e), some (aI f), some (aI u), none], [aI c, aI 2, aR 19 t], am_wr (am_wr M 19 t 0 a) 19 t 1 b)
  refine hR _ (am_ct (am_vi (by omega : t < 6)) ⟨(show 0 ≤ (2 : Int) ∧ (2 : Int) < 6 from (by omega)), ?_⟩)
  show R (33, [some (aR 6 t), some (aI 2), some (aI a), some (aI b), some (aI c), some (aI e), some (aI f), some (aI u), none], [], am_wr (am_wr (am_wr M 19 t 0 a) 19 t 1 b) 19 t 2 c)
  refine hR _ (?_)
  show R (34, [some (aR 6 t), some (aI 2), some (aI a), some (aI b), some (aI c), some (aI e), some (aI f), some (aI u), none], [aR 6 t], am_wr (am_wr (am_wr M 19 t 0 a) 19 t 1 b) 19 t 2 c)
  refine hR _ (am_ct (am_vi (by omega : t < 6)) ?_)
  show R (37, [some (aR 6 t), some (aI 2), some (aI a), some (aI b), some (aI c), some (aI e), some (aI f), some (aI u), none], [aR 19 t], am_wr (am_wr (am_wr M 19 t 0 a) 19 t 1 b) 19 t 2 c)
  refine hR _ (hR _ (?_))
  show R (40, [some (aR 6 t), some (aI 2), some (aI a), some (aI b), some (aI c), some (aI e), some (aI f), some (aI u), none], [aI e, aI 3, aR 19 t], am_wr (am_wr (am_wr M 19 t 0 a) 19 t 1 b) 19 t 2 c)
  refine hR _ (am_ct (am_vi (by omega : t < 6)) ⟨(show 0 ≤ (3 : Int) ∧ (3 : Int) < 6 from (by omega)), ?_⟩)
  show R (41, [some (aR 6 t), some (aI 2), some (aI a), some (aI b), some (aI c), some (aI e), some (aI f), some (aI u), none], [], am_wr (am_wr (am_wr (am_wr M 19 t 0 a) 19 t 1 b) 19 t 2 c) 19 t 3 e)
  refine hR _ (?_)
  show R (42, [some (aR 6 t), some (aI 2), some (aI a), some (aI b), some (aI c), some (aI e), some (aI f), some (aI u), none], [aR 6 t], am_wr (am_wr (am_wr (am_wr M 19 t 0 a) 19 t 1 b) 19 t 2 c) 19 t 3 e)
  refine hR _ (am_ct (am_vi (by omega : t < 6)) ?_)
  show R (45, [some (aR 6 t), some (aI 2), some (aI a), some (aI b), some (aI c), some (aI e), some (aI f), some (aI u), none], [aR 19 t], am_wr (am_wr (am_wr (am_wr M 19 t 0 a) 19 t 1 b) 19 t 2 c) 19 t 3 e)
  refine hR _ (hR _ (?_))
  show R (48, [some (aR 6 t), some (aI 2), some (aI a), some (aI b), some (aI c), some (aI e), some (aI f), some (aI u), none], [aI f, aI 4, aR 19 t], am_wr (am_wr (am_wr (am_wr M 19 t 0 a) 19 t 1 b) 19 t 2 c) 19 t 3 e)
  refine hR _ (am_ct (am_vi (by omega : t < 6)) ⟨(show 0 ≤ (4 : Int) ∧ (4 : Int) < 6 from (by omega)), ?_⟩)
  show R (49, [some (aR 6 t), some (aI 2), some (aI a), some (aI b), some (aI c), some (aI e), some (aI f), some (aI u), none], [], am_wr (am_wr (am_wr (am_wr (am_wr M 19 t 0 a) 19 t 1 b) 19 t 2 c) 19 t 3 e) 19 t 4 f)
  refine hR _ (?_)
  show R (50, [some (aR 6 t), some (aI 2), some (aI a), some (aI b), some (aI c), some (aI e), some (aI f), some (aI u), none], [aR 6 t], am_wr (am_wr (am_wr (am_wr (am_wr M 19 t 0 a) 19 t 1 b) 19 t 2 c) 19 t 3 e) 19 t 4 f)
  refine hR _ (am_ct (am_vi (by omega : t < 6)) ?_)
  show R (53, [some (aR 6 t), some (aI 2), some (aI a), some (aI b), some (aI c), some (aI e), some (aI f), some (aI u), none], [aR 19 t], am_wr (am_wr (am_wr (am_wr (am_wr M 19 t 0 a) 19 t 1 b) 19 t 2 c) 19 t 3 e) 19 t 4 f)
  refine hR _ (hR _ (?_))
  show R (56, [some (aR 6 t), some (aI 2), some (aI a), some (aI b), some (aI c), some (aI e), some (aI f), some (aI u), none], [aI u, aI 5, aR 19 t], am_wr (am_wr (am_wr (am_wr (am_wr M 19 t 0 a) 19 t 1 b) 19 t 2 c) 19 t 3 e) 19 t 4 f)
  refine hR _ (am_ct (am_vi (by omega : t < 6)) ⟨(show 0 ≤ (5 : Int) ∧ (5 : Int) < 6 from (by omega)), ?_⟩)
  show R (57, [some (aR 6 t), some (aI 2), some (aI a), some (aI b), some (aI c), some (aI e), some (aI f), some (aI u), none], [], am_wr (am_wr (am_wr (am_wr (am_wr (am_wr M 19 t 0 a) 19 t 1 b) 19 t 2 c) 19 t 3 e) 19 t 4 f) 19 t 5 u)
  refine hR _ (hR _ (?_))
  show R (59, [some (aR 6 t), some (aI 2), some (aI a), some (aI b), some (aI c), some (aI e), some (aI f), some (aI u), none], [aI 0, aR 6 t], am_wr (am_wr (am_wr (am_wr (am_wr (am_wr M 19 t 0 a) 19 t 1 b) 19 t 2 c) 19 t 3 e) 19 t 4 f) 19 t 5 u)
  refine hR _ (am_ct (am_vi (by omega : t < 6)) ?_)
  show R (62, [some (aR 6 t), some (aI 2), some (aI a), some (aI b), some (aI c), some (aI e), some (aI f), some (aI u), none], [], am_wr (am_wr (am_wr (am_wr (am_wr (am_wr (am_wr M 19 t 0 a) 19 t 1 b) 19 t 2 c) 19 t 3 e) 19 t 4 f) 19 t 5 u) 346 t 0 0)
  refine hR _ (hR _ (am_brt (rg := am_in 2) (P := (2 : Int) ≠ 0) (A := R (70, [some (aR 6 t), some (aI 2), some (aI a), some (aI b), some (aI c), some (aI e), some (aI f), some (aI u), none], [], am_wr (am_wr (am_wr (am_wr (am_wr (am_wr (am_wr M 19 t 0 a) 19 t 1 b) 19 t 2 c) 19 t 3 e) 19 t 4 f) 19 t 5 u) 346 t 0 0)) (B := R (66, [some (aR 6 t), some (aI 2), some (aI a), some (aI b), some (aI c), some (aI e), some (aI f), some (aI u), none], [], am_wr (am_wr (am_wr (am_wr (am_wr (am_wr (am_wr M 19 t 0 a) 19 t 1 b) 19 t 2 c) 19 t 3 e) 19 t 4 f) 19 t 5 u) 346 t 0 0)) (by omega) (by omega) ?_))
  show R (70, [some (aR 6 t), some (aI 2), some (aI a), some (aI b), some (aI c), some (aI e), some (aI f), some (aI u), none], [], am_wr (am_wr (am_wr (am_wr (am_wr (am_wr (am_wr M 19 t 0 a) 19 t 1 b) 19 t 2 c) 19 t 3 e) 19 t 4 f) 19 t 5 u) 346 t 0 0)
  refine hR _ (?_)
  show R (71, [some (aR 6 t), some (aI 2), some (aI a), some (aI b), some (aI c), some (aI e), some (aI f), some (aI u), none], [aR 6 t], am_wr (am_wr (am_wr (am_wr (am_wr (am_wr (am_wr M 19 t 0 a) 19 t 1 b) 19 t 2 c) 19 t 3 e) 19 t 4 f) 19 t 5 u) 346 t 0 0)
  refine hR _ (am_ct (am_vi (by omega : t < 6)) ?_)
  show R (74, [some (aR 6 t), some (aI 2), some (aI a), some (aI b), some (aI c), some (aI e), some (aI f), some (aI u), none], [aR 18 t], am_wr (am_wr (am_wr (am_wr (am_wr (am_wr (am_wr M 19 t 0 a) 19 t 1 b) 19 t 2 c) 19 t 3 e) 19 t 4 f) 19 t 5 u) 346 t 0 0)
  refine hR _ (hR _ (hR _ (?_)))
  show R (77, [some (aR 6 t), some (aI 2), some (aI a), some (aI b), some (aI c), some (aI e), some (aI f), some (aI u), none], [aI 1, aR 18 t], am_wr (am_wr (am_wr (am_wr (am_wr (am_wr (am_wr M 19 t 0 a) 19 t 1 b) 19 t 2 c) 19 t 3 e) 19 t 4 f) 19 t 5 u) 346 t 0 0)
  refine hR _ (am_ct (am_vi (by omega : t < 6)) ⟨(show 0 ≤ (1 : Int) ∧ (1 : Int) < 3 from (by omega)), ?_⟩)
  show R (78, [some (aR 6 t), some (aI 2), some (aI a), some (aI b), some (aI c), some (aI e), some (aI f), some (aI u), none], [aI (M 18 t 1)], am_wr (am_wr (am_wr (am_wr (am_wr (am_wr (am_wr M 19 t 0 a) 19 t 1 b) 19 t 2 c) 19 t 3 e) 19 t 4 f) 19 t 5 u) 346 t 0 0)
  refine hR _ (?_)
  show R (80, [some (aR 6 t), some (aI 2), some (aI a), some (aI b), some (aI c), some (aI e), some (aI f), some (aI u), some (aI (M 18 t 1))], [], am_wr (am_wr (am_wr (am_wr (am_wr (am_wr (am_wr M 19 t 0 a) 19 t 1 b) 19 t 2 c) 19 t 3 e) 19 t 4 f) 19 t 5 u) 346 t 0 0)
  have hag : am_ag [346, 17, 19] M (am_wr (am_wr (am_wr (am_wr (am_wr (am_wr (am_wr M 19 t 0 a) 19 t 1 b) 19 t 2 c) 19 t 3 e) 19 t 4 f) 19 t 5 u) 346 t 0 0) := (((((((am_ag.rf).wr rfl).wr rfl).wr rfl).wr rfl).wr rfl).wr rfl).wr rfl
  have hst0 : jf_stk (am_wr (am_wr (am_wr (am_wr (am_wr (am_wr (am_wr M 19 t 0 a) 19 t 1 b) 19 t 2 c) 19 t 3 e) 19 t 4 f) 19 t 5 u) 346 t 0 0) t [] := ⟨am_wr_eq, fun j hj => absurd hj (by simp), fun x hx => absurd hx (by simp)⟩
  have hnm0 : ∀ j : Nat, j < 6 → (am_wr (am_wr (am_wr (am_wr (am_wr (am_wr (am_wr M 19 t 0 a) 19 t 1 b) 19 t 2 c) 19 t 3 e) 19 t 4 f) 19 t 5 u) 346 t 0 0) 19 t j = nm j ∧ am_in (nm j) := by
    rw [← hnme]
    intro j hj
    match j, hj with
    | 0, _ => exact ⟨(am_wr_ne (Or.inl (by decide))).trans ((am_wr_ne (Or.inr (Or.inr (by decide)))).trans ((am_wr_ne (Or.inr (Or.inr (by decide)))).trans ((am_wr_ne (Or.inr (Or.inr (by decide)))).trans ((am_wr_ne (Or.inr (Or.inr (by decide)))).trans ((am_wr_ne (Or.inr (Or.inr (by decide)))).trans (am_wr_eq)))))), ha.1⟩
    | 1, _ => exact ⟨(am_wr_ne (Or.inl (by decide))).trans ((am_wr_ne (Or.inr (Or.inr (by decide)))).trans ((am_wr_ne (Or.inr (Or.inr (by decide)))).trans ((am_wr_ne (Or.inr (Or.inr (by decide)))).trans ((am_wr_ne (Or.inr (Or.inr (by decide)))).trans (am_wr_eq))))), ha.2.1⟩
    | 2, _ => exact ⟨(am_wr_ne (Or.inl (by decide))).trans ((am_wr_ne (Or.inr (Or.inr (by decide)))).trans ((am_wr_ne (Or.inr (Or.inr (by decide)))).trans ((am_wr_ne (Or.inr (Or.inr (by decide)))).trans (am_wr_eq)))), ha.2.2.1⟩
    | 3, _ => exact ⟨(am_wr_ne (Or.inl (by decide))).trans ((am_wr_ne (Or.inr (Or.inr (by decide)))).trans ((am_wr_ne (Or.inr (Or.inr (by decide)))).trans (am_wr_eq))), ha.2.2.2.1⟩
    | 4, _ => exact ⟨(am_wr_ne (Or.inl (by decide))).trans ((am_wr_ne (Or.inr (Or.inr (by decide)))).trans (am_wr_eq)), ha.2.2.2.2.1⟩
    | 5, _ => exact ⟨(am_wr_ne (Or.inl (by decide))).trans (am_wr_eq), ha.2.2.2.2.2⟩
  rw [hag.eq] at hst0 hnm0 ⊢
  generalize (am_wr (am_wr (am_wr (am_wr (am_wr (am_wr (am_wr M 19 t 0 a) 19 t 1 b) 19 t 2 c) 19 t 3 e) 19 t 4 f) 19 t 5 u) 346 t 0 0) = g0 at hst0 hnm0 ⊢
  exact key _ (M 18 t 1).toNat [] g0 (M 18 t 1) rfl (by omega) (Nat.le_refl _) hst0 (Nat.zero_le _) (hwf 2 (by omega)) hnm0 rfl (by omega)
