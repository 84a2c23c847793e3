/-! wb -/
variable {wb : Bool}
/-! The class's other calls -/
theorem jf_dm (x : Int) : x = 10 * Int.tdiv x 10 + Int.tmod x 10 ∧ (0 ≤ x → 0 ≤ Int.tmod x 10 ∧ Int.tmod x 10 ≤ 9) ∧ (x ≤ 0 → -9 ≤ Int.tmod x 10 ∧ Int.tmod x 10 ≤ 0) := by
  have h1 := Int.tmod_add_mul_tdiv x 10
  refine ⟨by omega, fun h => ?_, fun h => ?_⟩
  · rw [jf_tm _ _ h]
    omega
  · have e : Int.tmod x 10 = -(Int.tmod (-x) 10) := by rw [Int.neg_tmod, Int.neg_neg]
    rw [e, jf_tm _ _ (by omega)]
    omega
def jx_count (M : am_M) (w : Int) : Int := if w = 0 then M 227 0 0 else if w = 1 then M 220 0 0 else if w = 2 then M 221 0 0 else if w = 3 then M 222 0 0 else if w = 4 then M 223 0 0 else if w = 5 then M 386 0 0 else if w = 6 then M 228 0 0 else if w = 7 then M 301 0 0 else -2
def jg_asks (pt na oo mo : Int) : Prop := (0 ≤ pt ∧ pt ≤ 2) ∧ (1 ≤ Int.tdiv na 10 ∧ Int.tdiv na 10 ≤ 3) ∧ (0 ≤ Int.tmod na 10 ∧ Int.tmod na 10 ≤ 4) ∧ (0 ≤ Int.tdiv oo 10 ∧ Int.tdiv oo 10 ≤ 999) ∧ (0 ≤ Int.tmod oo 10 ∧ Int.tmod oo 10 ≤ 1) ∧ 0 ≤ mo ∧ mo ≤ 9
def jv_asks (M : am_M) (pt na oo mo : Int) : Int := jf_cl pt.toNat (jf_val (jf_nm (Int.tdiv na 10) (Int.tmod na 10) (Int.tdiv oo 10) (Int.tmod oo 10) mo (M 222 0 0)) (jf_tk M (M 228 0 0).toNat pt.toNat))
def jx_told (M : am_M) (h w : Int) : Int := if 0 ≤ h ∧ h < M 227 0 0 then (if w = 0 then M 140 h.toNat 0 else if w = 1 then M 141 h.toNat 0 else if w = 2 then M 142 h.toNat 0 else if w = 3 then M 143 h.toNat 0 else -7) else -5
def jx_book (M : am_M) (w : Int) : Int := if w = 0 then M 224 0 0 else if w = 1 then M 225 0 0 else if w = 2 then M 226 0 0 else -2
def jx_taken (M : am_M) (i w : Int) : Int := if 0 ≤ w ∧ w ≤ 6 then (if 0 ≤ i ∧ i ≤ 6 then (if 5 ≤ i then (if w = 6 then (if i = 5 then M 220 0 0 else M 222 0 0) else -13) else if i < M 227 0 0 then (if w ≠ 6 ∧ (w = M 140 i.toNat 0 ∨ w = 0 ∨ (w = 1 ∧ M 140 i.toNat 0 = 3) ∨ (w = 2 ∧ M 140 i.toNat 0 = 4)) then i else -13) else -11) else -12) else -2
def jf_fed (f0 f : Nat → Int) (T n : Nat) (l : List Int) : Prop := ∀ j, j < T + n → f j = if j < T then f0 j else l.getD (j - T) 0
theorem jf_fed.step {f0 f f2 : Nat → Int} {T n : Nat} {l : List Int} (h : jf_fed f0 f T n l) (h1 : f2 (T + n) = l.getD n 0) (h2 : ∀ j, j ≠ T + n → f2 j = f j) : jf_fed f0 f2 T (n + 1) l := by
  intro j hj
  by_cases e : j = T + n
  · rw [e, h1, if_neg (by omega), show T + n - T = n by omega]
  · rw [h2 j e, h j (by omega)]
theorem jf_fed.base (f0 : Nat → Int) (T : Nat) (l : List Int) : jf_fed f0 f0 T 0 l := by
  intro j hj
  rw [if_pos (by omega)]

theorem sq_count {d : Nat} (hd : 2 ≤ d) {w : Int} {M : am_M} {K : am_K} (hJ : jf_J M) (ha : am_in w) (hK : K (some (aI (jx_count M w))) M) : am_Call wb d 31 [aR 7 0, aI w] M K := by
  obtain ⟨d, rfl⟩ : ∃ e, d = e + 1 := ⟨d - 1, by omega⟩
  refine ⟨rfl, fun R hR hC => ?_⟩
  replace hR : ∀ c, am_F wb tb_f31 1 (am_Call wb d) K R c → R c := hR
  have hn := hJ.1.1.2.2.2.2.2.2.2.1
  have hl0 := hJ.1.1.2.2.2.2.2.2.2.2
  have htc := hJ.2.2.1.1
  have hlt : 0 ≤ M 228 0 0 ∧ M 228 0 0 < 6 := by omega
  have hmk := hJ.1.1.1
  have hdr := hJ.1.1.2.1
  have hpr := hJ.1.1.2.2.1
  have hfu := hJ.1.1.2.2.2.1
  show R (0, [some (aR 7 0), some (aI w)], [], M)
  refine hR _ (?_)
  show R (1, [some (aR 7 0), some (aI w)], [aI w], M)
  refine hR _ ⟨(by omega), ⟨fun c1 => ?_, fun c1 => ?_, fun c1 => ?_, fun c1 => ?_, fun c1 => ?_, fun c1 => ?_, fun c1 => ?_, fun c1 => ?_, trivial⟩, fun c1 => ?_⟩
  · show R (48, [some (aR 7 0), some (aI w)], [], M)
    refine hR _ (hR _ (hR _ (?_)))
    show R (55, [some (aR 7 0), some (aI w)], [aI (M 227 0 0)], M)
    refine hR _ (show K (some (aI (M 227 0 0))) M from ?_)
    rw [show jx_count M w = M 227 0 0 by unfold jx_count; repeat' split; all_goals omega] at hK
    exact hK
  · show R (56, [some (aR 7 0), some (aI w)], [], M)
    refine hR _ (hR _ (hR _ (?_)))
    show R (63, [some (aR 7 0), some (aI w)], [aI (M 220 0 0)], M)
    refine hR _ (show K (some (aI (M 220 0 0))) M from ?_)
    rw [show jx_count M w = M 220 0 0 by unfold jx_count; repeat' split; all_goals omega] at hK
    exact hK
  · show R (64, [some (aR 7 0), some (aI w)], [], M)
    refine hR _ (hR _ (hR _ (?_)))
    show R (71, [some (aR 7 0), some (aI w)], [aI (M 221 0 0)], M)
    refine hR _ (show K (some (aI (M 221 0 0))) M from ?_)
    rw [show jx_count M w = M 221 0 0 by unfold jx_count; repeat' split; all_goals omega] at hK
    exact hK
  · show R (72, [some (aR 7 0), some (aI w)], [], M)
    refine hR _ (hR _ (hR _ (?_)))
    show R (79, [some (aR 7 0), some (aI w)], [aI (M 222 0 0)], M)
    refine hR _ (show K (some (aI (M 222 0 0))) M from ?_)
    rw [show jx_count M w = M 222 0 0 by unfold jx_count; repeat' split; all_goals omega] at hK
    exact hK
  · show R (80, [some (aR 7 0), some (aI w)], [], M)
    refine hR _ (hR _ (hR _ (?_)))
    show R (87, [some (aR 7 0), some (aI w)], [aI (M 223 0 0)], M)
    refine hR _ (show K (some (aI (M 223 0 0))) M from ?_)
    rw [show jx_count M w = M 223 0 0 by unfold jx_count; repeat' split; all_goals omega] at hK
    exact hK
  · show R (88, [some (aR 7 0), some (aI w)], [], M)
    refine hR _ (hR _ (?_))
    show R (92, [some (aR 7 0), some (aI w)], [aI (M 386 0 0)], M)
    refine hR _ (show K (some (aI (M 386 0 0))) M from ?_)
    rw [show jx_count M w = M 386 0 0 by unfold jx_count; repeat' split; all_goals omega] at hK
    exact hK
  · show R (93, [some (aR 7 0), some (aI w)], [], M)
    refine hR _ (hR _ (hR _ (?_)))
    show R (100, [some (aR 7 0), some (aI w)], [aI (M 228 0 0)], M)
    refine hR _ (show K (some (aI (M 228 0 0))) M from ?_)
    rw [show jx_count M w = M 228 0 0 by unfold jx_count; repeat' split; all_goals omega] at hK
    exact hK
  · show R (101, [some (aR 7 0), some (aI w)], [], M)
    refine hR _ (hR _ (hR _ (?_)))
    show R (108, [some (aR 7 0), some (aI w)], [aI (M 301 0 0)], M)
    refine hR _ (show K (some (aI (M 301 0 0))) M from ?_)
    rw [show jx_count M w = M 301 0 0 by unfold jx_count; repeat' split; all_goals omega] at hK
    exact hK
  · show R (109, [some (aR 7 0), some (aI w)], [], M)
    refine hR _ (?_)
    show R (111, [some (aR 7 0), some (aI w)], [aI (-2)], M)
    refine hR _ (show K (some (aI (-2))) M from ?_)
    rw [show jx_count M w = (-2) by unfold jx_count; repeat' split; all_goals omega] at hK
    exact hK

theorem sq_set {d : Nat} (hd : 3 ≤ d) {w v : Int} {M : am_M} {K : am_K} (hJ : jf_J M) (ha : am_in w) (hb : am_in v) (hK0 : w = 0 → 1 ≤ v ∧ v ≤ 2000 → K (some (aI (M 220 0 0))) (am_wr M 220 0 0 v)) (hK1 : w = 1 → 0 ≤ v ∧ v ≤ 9 → K (some (aI (M 221 0 0))) (am_wr M 221 0 0 v)) (hK2 : w = 2 → 1 ≤ v ∧ v ≤ 99 → K (some (aI (M 222 0 0))) (am_wr M 222 0 0 v)) (hK3 : w = 3 → 1 ≤ v ∧ v ≤ 5000 → K (some (aI (M 223 0 0))) (am_wr M 223 0 0 v)) (hK : ¬ ((w = 0 ∧ 1 ≤ v ∧ v ≤ 2000) ∨ (w = 1 ∧ 0 ≤ v ∧ v ≤ 9) ∨ (w = 2 ∧ 1 ≤ v ∧ v ≤ 99) ∨ (w = 3 ∧ 1 ≤ v ∧ v ≤ 5000)) → K (some (aI (if 0 ≤ w ∧ w ≤ 3 then -7 else -5))) M) : am_Call wb d 32 [aR 7 0, aI w, aI v] M K := by
  obtain ⟨d, rfl⟩ : ∃ e, d = e + 1 := ⟨d - 1, by omega⟩
  refine ⟨rfl, fun R hR hC => ?_⟩
  replace hR : ∀ c, am_F wb tb_f32 1 (am_Call wb d) K R c → R c := hR
  have hn := hJ.1.1.2.2.2.2.2.2.2.1
  have hl0 := hJ.1.1.2.2.2.2.2.2.2.2
  have htc := hJ.2.2.1.1
  have hlt : 0 ≤ M 228 0 0 ∧ M 228 0 0 < 6 := by omega
  have hmk := hJ.1.1.1
  have hdr := hJ.1.1.2.1
  have hpr := hJ.1.1.2.2.1
  have hfu := hJ.1.1.2.2.2.1
  have hbm := am_bm_in (w + 1)
  show R (0, [some (aR 7 0), some (aI w), some (aI v), none], [], M)
  refine hR _ (hR _ (hR _ (hR _ (?_))))
  show R (4, [some (aR 7 0), some (aI w), some (aI v), none], [aI (w + 1), aR 7 0], M)
  refine hC _ _ _ (am_bm (w + 1)) _ _ (i3_bm _).symm ?_
  show R (4, [some (aR 7 0), some (aI w), some (aI v), none], [aI (am_bm (w + 1)), aR 7 0], M)
  refine hR _ (sq_count (by omega) hJ (by omega) ?_)
  show R (7, [some (aR 7 0), some (aI w), some (aI v), none], [aI (jx_count M (am_bm (w + 1)))], M)
  refine hR _ (hR _ (?_))
  show R (9, [some (aR 7 0), some (aI w), some (aI v), some (aI (jx_count M (am_bm (w + 1))))], [aI w], M)
  refine hR _ ⟨(by omega), ⟨fun c9 => ?_, fun c9 => ?_, fun c9 => ?_, fun c9 => ?_, trivial⟩, fun c9 => ?_⟩
  · show R (40, [some (aR 7 0), some (aI w), some (aI v), some (aI (jx_count M (am_bm (w + 1))))], [], M)
    refine hR _ (hR _ (hR _ (?_)))
    show R (45, [some (aR 7 0), some (aI w), some (aI v), some (aI (jx_count M (am_bm (w + 1))))], [aI 2000, aI 1, aI v], M)
    refine hR _ (sp_within (by omega) (by omega) (fun h45 => ?_) (fun h45 => ?_))
    · show R (48, [some (aR 7 0), some (aI w), some (aI v), some (aI (jx_count M (am_bm (w + 1))))], [aI 1], M)
      refine hR _ (am_brt (rg := am_in 1) (P := (1 : Int) ≠ 0) (A := R (54, [some (aR 7 0), some (aI w), some (aI v), some (aI (jx_count M (am_bm (w + 1))))], [], M)) (B := R (51, [some (aR 7 0), some (aI w), some (aI v), some (aI (jx_count M (am_bm (w + 1))))], [], M)) (by omega) (by omega) ?_)
      show R (54, [some (aR 7 0), some (aI w), some (aI v), some (aI (jx_count M (am_bm (w + 1))))], [], M)
      refine hR _ (hR _ (hR _ (hR _ (hR _ (?_)))))
      show R (63, [some (aR 7 0), some (aI w), some (aI v), some (aI (jx_count M (am_bm (w + 1))))], [aI (jx_count M (am_bm (w + 1)))], am_wr M 220 0 0 v)
      refine hR _ (show K (some (aI (jx_count M (am_bm (w + 1))))) (am_wr M 220 0 0 v) from ?_)
      have hres : jx_count M (am_bm (w + 1)) = M 220 0 0 := by
        rw [show am_bm (w + 1) = 1 from (am_bm_of (by omega)).trans (by omega)]
        rfl
      rw [hres]
      exact hK0 (by omega) (by omega)
    · show R (48, [some (aR 7 0), some (aI w), some (aI v), some (aI (jx_count M (am_bm (w + 1))))], [aI 0], M)
      refine hR _ (am_brf (rg := am_in 0) (P := (0 : Int) ≠ 0) (A := R (54, [some (aR 7 0), some (aI w), some (aI v), some (aI (jx_count M (am_bm (w + 1))))], [], M)) (B := R (51, [some (aR 7 0), some (aI w), some (aI v), some (aI (jx_count M (am_bm (w + 1))))], [], M)) (by omega) (by omega) ?_)
      show R (51, [some (aR 7 0), some (aI w), some (aI v), some (aI (jx_count M (am_bm (w + 1))))], [], M)
      refine hR _ (?_)
      show R (53, [some (aR 7 0), some (aI w), some (aI v), some (aI (jx_count M (am_bm (w + 1))))], [aI (-7)], M)
      refine hR _ (show K (some (aI (-7))) M from ?_)
      refine am_kr (hK (by omega)) ?_
      repeat' split
      all_goals omega
  · show R (64, [some (aR 7 0), some (aI w), some (aI v), some (aI (jx_count M (am_bm (w + 1))))], [], M)
    refine hR _ (hR _ (hR _ (?_)))
    show R (68, [some (aR 7 0), some (aI w), some (aI v), some (aI (jx_count M (am_bm (w + 1))))], [aI 9, aI 0, aI v], M)
    refine hR _ (sp_within (by omega) (by omega) (fun h68 => ?_) (fun h68 => ?_))
    · show R (71, [some (aR 7 0), some (aI w), some (aI v), some (aI (jx_count M (am_bm (w + 1))))], [aI 1], M)
      refine hR _ (am_brt (rg := am_in 1) (P := (1 : Int) ≠ 0) (A := R (77, [some (aR 7 0), some (aI w), some (aI v), some (aI (jx_count M (am_bm (w + 1))))], [], M)) (B := R (74, [some (aR 7 0), some (aI w), some (aI v), some (aI (jx_count M (am_bm (w + 1))))], [], M)) (by omega) (by omega) ?_)
      show R (77, [some (aR 7 0), some (aI w), some (aI v), some (aI (jx_count M (am_bm (w + 1))))], [], M)
      refine hR _ (hR _ (hR _ (hR _ (hR _ (?_)))))
      show R (86, [some (aR 7 0), some (aI w), some (aI v), some (aI (jx_count M (am_bm (w + 1))))], [aI (jx_count M (am_bm (w + 1)))], am_wr M 221 0 0 v)
      refine hR _ (show K (some (aI (jx_count M (am_bm (w + 1))))) (am_wr M 221 0 0 v) from ?_)
      have hres : jx_count M (am_bm (w + 1)) = M 221 0 0 := by
        rw [show am_bm (w + 1) = 2 from (am_bm_of (by omega)).trans (by omega)]
        rfl
      rw [hres]
      exact hK1 (by omega) (by omega)
    · show R (71, [some (aR 7 0), some (aI w), some (aI v), some (aI (jx_count M (am_bm (w + 1))))], [aI 0], M)
      refine hR _ (am_brf (rg := am_in 0) (P := (0 : Int) ≠ 0) (A := R (77, [some (aR 7 0), some (aI w), some (aI v), some (aI (jx_count M (am_bm (w + 1))))], [], M)) (B := R (74, [some (aR 7 0), some (aI w), some (aI v), some (aI (jx_count M (am_bm (w + 1))))], [], M)) (by omega) (by omega) ?_)
      show R (74, [some (aR 7 0), some (aI w), some (aI v), some (aI (jx_count M (am_bm (w + 1))))], [], M)
      refine hR _ (?_)
      show R (76, [some (aR 7 0), some (aI w), some (aI v), some (aI (jx_count M (am_bm (w + 1))))], [aI (-7)], M)
      refine hR _ (show K (some (aI (-7))) M from ?_)
      refine am_kr (hK (by omega)) ?_
      repeat' split
      all_goals omega
  · show R (87, [some (aR 7 0), some (aI w), some (aI v), some (aI (jx_count M (am_bm (w + 1))))], [], M)
    refine hR _ (hR _ (hR _ (?_)))
    show R (91, [some (aR 7 0), some (aI w), some (aI v), some (aI (jx_count M (am_bm (w + 1))))], [aI 99, aI 1, aI v], M)
    refine hR _ (sp_within (by omega) (by omega) (fun h91 => ?_) (fun h91 => ?_))
    · show R (94, [some (aR 7 0), some (aI w), some (aI v), some (aI (jx_count M (am_bm (w + 1))))], [aI 1], M)
      refine hR _ (am_brt (rg := am_in 1) (P := (1 : Int) ≠ 0) (A := R (100, [some (aR 7 0), some (aI w), some (aI v), some (aI (jx_count M (am_bm (w + 1))))], [], M)) (B := R (97, [some (aR 7 0), some (aI w), some (aI v), some (aI (jx_count M (am_bm (w + 1))))], [], M)) (by omega) (by omega) ?_)
      show R (100, [some (aR 7 0), some (aI w), some (aI v), some (aI (jx_count M (am_bm (w + 1))))], [], M)
      refine hR _ (hR _ (hR _ (hR _ (hR _ (?_)))))
      show R (109, [some (aR 7 0), some (aI w), some (aI v), some (aI (jx_count M (am_bm (w + 1))))], [aI (jx_count M (am_bm (w + 1)))], am_wr M 222 0 0 v)
      refine hR _ (show K (some (aI (jx_count M (am_bm (w + 1))))) (am_wr M 222 0 0 v) from ?_)
      have hres : jx_count M (am_bm (w + 1)) = M 222 0 0 := by
        rw [show am_bm (w + 1) = 3 from (am_bm_of (by omega)).trans (by omega)]
        rfl
      rw [hres]
      exact hK2 (by omega) (by omega)
    · show R (94, [some (aR 7 0), some (aI w), some (aI v), some (aI (jx_count M (am_bm (w + 1))))], [aI 0], M)
      refine hR _ (am_brf (rg := am_in 0) (P := (0 : Int) ≠ 0) (A := R (100, [some (aR 7 0), some (aI w), some (aI v), some (aI (jx_count M (am_bm (w + 1))))], [], M)) (B := R (97, [some (aR 7 0), some (aI w), some (aI v), some (aI (jx_count M (am_bm (w + 1))))], [], M)) (by omega) (by omega) ?_)
      show R (97, [some (aR 7 0), some (aI w), some (aI v), some (aI (jx_count M (am_bm (w + 1))))], [], M)
      refine hR _ (?_)
      show R (99, [some (aR 7 0), some (aI w), some (aI v), some (aI (jx_count M (am_bm (w + 1))))], [aI (-7)], M)
      refine hR _ (show K (some (aI (-7))) M from ?_)
      refine am_kr (hK (by omega)) ?_
      repeat' split
      all_goals omega
  · show R (110, [some (aR 7 0), some (aI w), some (aI v), some (aI (jx_count M (am_bm (w + 1))))], [], M)
    refine hR _ (hR _ (hR _ (?_)))
    show R (115, [some (aR 7 0), some (aI w), some (aI v), some (aI (jx_count M (am_bm (w + 1))))], [aI 5000, aI 1, aI v], M)
    refine hR _ (sp_within (by omega) (by omega) (fun h115 => ?_) (fun h115 => ?_))
    · show R (118, [some (aR 7 0), some (aI w), some (aI v), some (aI (jx_count M (am_bm (w + 1))))], [aI 1], M)
      refine hR _ (am_brt (rg := am_in 1) (P := (1 : Int) ≠ 0) (A := R (124, [some (aR 7 0), some (aI w), some (aI v), some (aI (jx_count M (am_bm (w + 1))))], [], M)) (B := R (121, [some (aR 7 0), some (aI w), some (aI v), some (aI (jx_count M (am_bm (w + 1))))], [], M)) (by omega) (by omega) ?_)
      show R (124, [some (aR 7 0), some (aI w), some (aI v), some (aI (jx_count M (am_bm (w + 1))))], [], M)
      refine hR _ (hR _ (hR _ (hR _ (hR _ (?_)))))
      show R (133, [some (aR 7 0), some (aI w), some (aI v), some (aI (jx_count M (am_bm (w + 1))))], [aI (jx_count M (am_bm (w + 1)))], am_wr M 223 0 0 v)
      refine hR _ (show K (some (aI (jx_count M (am_bm (w + 1))))) (am_wr M 223 0 0 v) from ?_)
      have hres : jx_count M (am_bm (w + 1)) = M 223 0 0 := by
        rw [show am_bm (w + 1) = 4 from (am_bm_of (by omega)).trans (by omega)]
        rfl
      rw [hres]
      exact hK3 (by omega) (by omega)
    · show R (118, [some (aR 7 0), some (aI w), some (aI v), some (aI (jx_count M (am_bm (w + 1))))], [aI 0], M)
      refine hR _ (am_brf (rg := am_in 0) (P := (0 : Int) ≠ 0) (A := R (124, [some (aR 7 0), some (aI w), some (aI v), some (aI (jx_count M (am_bm (w + 1))))], [], M)) (B := R (121, [some (aR 7 0), some (aI w), some (aI v), some (aI (jx_count M (am_bm (w + 1))))], [], M)) (by omega) (by omega) ?_)
      show R (121, [some (aR 7 0), some (aI w), some (aI v), some (aI (jx_count M (am_bm (w + 1))))], [], M)
      refine hR _ (?_)
      show R (123, [some (aR 7 0), some (aI w), some (aI v), some (aI (jx_count M (am_bm (w + 1))))], [aI (-7)], M)
      refine hR _ (show K (some (aI (-7))) M from ?_)
      refine am_kr (hK (by omega)) ?_
      repeat' split
      all_goals omega
  · show R (134, [some (aR 7 0), some (aI w), some (aI v), some (aI (jx_count M (am_bm (w + 1))))], [], M)
    refine hR _ (?_)
    show R (136, [some (aR 7 0), some (aI w), some (aI v), some (aI (jx_count M (am_bm (w + 1))))], [aI (-5)], M)
    refine hR _ (show K (some (aI (-5))) M from ?_)
    refine am_kr (hK (by omega)) ?_
    repeat' split
    all_goals omega

theorem sp_put {d : Nat} (hd : 2 ≤ d) {b : Int} {M : am_M} {K : am_K} (hz : 0 ≤ M 301 0 0 ∧ M 301 0 0 ≤ 159) (h : ∀ g : am_M, g 301 0 0 = M 301 0 0 + 1 → g 20 0 (M 301 0 0).toNat = b → (∀ j, j ≠ (M 301 0 0).toNat → g 20 0 j = M 20 0 j) → K none (am_mix [20, 301] g M)) : am_Call wb d 9 [aR 5 0, aI b] M K := by
  obtain ⟨d, rfl⟩ : ∃ e, d = e + 1 := ⟨d - 1, by omega⟩
  refine ⟨rfl, fun R hR hC => ?_⟩
  replace hR : ∀ c, am_F wb tb_f9 0 (am_Call wb d) K R c → R c := hR
  show R (0, [some (aR 5 0), some (aI b)], [], M)
  refine hR _ (hR _ (hR _ (hR _ (?_))))
  show R (8, [some (aR 5 0), some (aI b)], [aI 159, aI 0, aI (M 301 0 0)], M)
  refine hR _ (sp_within (by omega) (by omega) (fun h8 => ?_) (fun h8 => ?_))
  · show R (11, [some (aR 5 0), some (aI b)], [aI 1], M)
    refine hR _ (am_brt (rg := am_in 1) (P := (1 : Int) ≠ 0) (A := R (15, [some (aR 5 0), some (aI b)], [], M)) (B := R (14, [some (aR 5 0), some (aI b)], [], M)) (by omega) (by omega) ?_)
    show R (15, [some (aR 5 0), some (aI b)], [], M)
    refine hR _ (hR _ (hR _ (hR _ (hR _ (?_)))))
    show R (24, [some (aR 5 0), some (aI b)], [aI b, aI (M 301 0 0), aR 20 0], M)
    refine hR _ ⟨(show 0 ≤ (M 301 0 0 : Int) ∧ (M 301 0 0 : Int) < 160 from (by omega)), ?_⟩
    show R (25, [some (aR 5 0), some (aI b)], [], am_wr M 20 0 ((M 301 0 0).toNat) b)
    refine hR _ (hR _ (hR _ (hR _ (hR _ (hR _ (?_))))))
    show R (35, [some (aR 5 0), some (aI b)], [], am_wr (am_wr M 20 0 ((M 301 0 0).toNat) b) 301 0 0 (M 301 0 0 + 1))
    refine hR _ (show K none (am_wr (am_wr M 20 0 ((M 301 0 0).toNat) b) 301 0 0 (M 301 0 0 + 1)) from ?_)
    refine am_fin (S := [20, 301]) (F := fun m => m 301 0 0 = M 301 0 0 + 1 ∧ m 20 0 (M 301 0 0).toNat = b ∧ ∀ j, j ≠ (M 301 0 0).toNat → m 20 0 j = M 20 0 j) (((am_ag.rf).wr rfl).wr rfl) ⟨am_wr_eq, ?_, ?_⟩ (fun g hg => h g hg.1 hg.2.1 hg.2.2)
    · exact (am_wr_ne (Or.inl (by decide))).trans am_wr_eq
    · intro j hj
      exact (am_wr_ne (Or.inl (by decide))).trans (am_wr_ne (Or.inr (Or.inr hj)))
  · show R (11, [some (aR 5 0), some (aI b)], [aI 0], M)
    refine hR _ (am_brf (rg := am_in 0) (P := (0 : Int) ≠ 0) (A := R (15, [some (aR 5 0), some (aI b)], [], M)) (B := R (14, [some (aR 5 0), some (aI b)], [], M)) (by omega) (by omega) ?_)
    show R (14, [some (aR 5 0), some (aI b)], [], M)
    refine hR _ (show K none M from ?_)
    exact absurd hz (by omega)

theorem sq_feed {d : Nat} (hd : 3 ≤ d) {n a b c e f : Int} {M : am_M} {K : am_K} (hJ : jf_J M) (ha_n : am_in n) (ha_a : am_in a) (ha_b : am_in b) (ha_c : am_in c) (ha_e : am_in e) (ha_f : am_in f) (hK1 : ((1 ≤ n ∧ n ≤ 5) ∧ (0 ≤ a ∧ a ≤ 255) ∧ (0 ≤ b ∧ b ≤ 255) ∧ (0 ≤ c ∧ c ≤ 255) ∧ (0 ≤ e ∧ e ≤ 255) ∧ 0 ≤ f ∧ f ≤ 255) → M 301 0 0 + n ≤ 160 → ∀ g : am_M, g 301 0 0 = M 301 0 0 + n → jf_fed (fun j => M 20 0 j) (g 20 0) (M 301 0 0).toNat n.toNat [a, b, c, e, f] → K (some (aI (M 301 0 0 + n))) (am_mix [20, 301] g M)) (hK0 : ¬ (((1 ≤ n ∧ n ≤ 5) ∧ (0 ≤ a ∧ a ≤ 255) ∧ (0 ≤ b ∧ b ≤ 255) ∧ (0 ≤ c ∧ c ≤ 255) ∧ (0 ≤ e ∧ e ≤ 255) ∧ 0 ≤ f ∧ f ≤ 255) ∧ M 301 0 0 + n ≤ 160) → K (some (aI (if (1 ≤ n ∧ n ≤ 5) ∧ (0 ≤ a ∧ a ≤ 255) ∧ (0 ≤ b ∧ b ≤ 255) ∧ (0 ≤ c ∧ c ≤ 255) ∧ (0 ≤ e ∧ e ≤ 255) ∧ 0 ≤ f ∧ f ≤ 255 then -4 else -2))) M) : am_Call wb d 33 [aR 7 0, aI n, aI a, aI b, aI c, aI e, aI f] M K := by
  obtain ⟨d, rfl⟩ : ∃ e, d = e + 1 := ⟨d - 1, by omega⟩
  refine ⟨rfl, fun R hR hC => ?_⟩
  replace hR : ∀ c, am_F wb tb_f33 1 (am_Call wb d) K R c → R c := hR
  have hn := hJ.1.1.2.2.2.2.2.2.2.1
  have hl0 := hJ.1.1.2.2.2.2.2.2.2.2
  have htc := hJ.2.2.1.1
  have hlt : 0 ≤ M 228 0 0 ∧ M 228 0 0 < 6 := by omega
  have hmk := hJ.1.1.1
  have hdr := hJ.1.1.2.1
  have hpr := hJ.1.1.2.2.1
  have hfu := hJ.1.1.2.2.2.1
  have hz := hJ.2.2.2.2.1.1
  have hf0 := jf_fed.base (fun j => M 20 0 j) (M 301 0 0).toNat [a, b, c, e, f]
  show R (0, [some (aR 7 0), some (aI n), some (aI a), some (aI b), some (aI c), some (aI e), some (aI f)], [], M)
  refine hR _ (hR _ (hR _ (?_)))
  show R (3, [some (aR 7 0), some (aI n), some (aI a), some (aI b), some (aI c), some (aI e), some (aI f)], [aI 5, aI 1, aI n], M)
  refine hR _ (sp_within (by omega) (by omega) (fun h3 => ?_) (fun h3 => ?_))
  · show R (6, [some (aR 7 0), some (aI n), some (aI a), some (aI b), some (aI c), some (aI e), some (aI f)], [aI 1], M)
    refine hR _ (am_brt (rg := am_in 1) (P := (1 : Int) ≠ 0) (A := R (12, [some (aR 7 0), some (aI n), some (aI a), some (aI b), some (aI c), some (aI e), some (aI f)], [], M)) (B := R (9, [some (aR 7 0), some (aI n), some (aI a), some (aI b), some (aI c), some (aI e), some (aI f)], [], M)) (by omega) (by omega) ?_)
    show R (12, [some (aR 7 0), some (aI n), some (aI a), some (aI b), some (aI c), some (aI e), some (aI f)], [], M)
    refine hR _ (?_)
    show R (13, [some (aR 7 0), some (aI n), some (aI a), some (aI b), some (aI c), some (aI e), some (aI f)], [aI a], M)
    refine hR _ (sp_X_isByte (by omega) (by omega) (fun h13 => ?_) (fun h13 => ?_))
    · show R (16, [some (aR 7 0), some (aI n), some (aI a), some (aI b), some (aI c), some (aI e), some (aI f)], [aI 1], M)
      refine hR _ (am_brf (rg := am_in 1) (P := (1 : Int) = 0) (A := R (50, [some (aR 7 0), some (aI n), some (aI a), some (aI b), some (aI c), some (aI e), some (aI f)], [], M)) (B := R (19, [some (aR 7 0), some (aI n), some (aI a), some (aI b), some (aI c), some (aI e), some (aI f)], [], M)) (by omega) (by omega) ?_)
      show R (19, [some (aR 7 0), some (aI n), some (aI a), some (aI b), some (aI c), some (aI e), some (aI f)], [], M)
      refine hR _ (?_)
      show R (20, [some (aR 7 0), some (aI n), some (aI a), some (aI b), some (aI c), some (aI e), some (aI f)], [aI b], M)
      refine hR _ (sp_X_isByte (by omega) (by omega) (fun h20 => ?_) (fun h20 => ?_))
      · show R (23, [some (aR 7 0), some (aI n), some (aI a), some (aI b), some (aI c), some (aI e), some (aI f)], [aI 1], M)
        refine hR _ (am_brf (rg := am_in 1) (P := (1 : Int) = 0) (A := R (50, [some (aR 7 0), some (aI n), some (aI a), some (aI b), some (aI c), some (aI e), some (aI f)], [], M)) (B := R (26, [some (aR 7 0), some (aI n), some (aI a), some (aI b), some (aI c), some (aI e), some (aI f)], [], M)) (by omega) (by omega) ?_)
        show R (26, [some (aR 7 0), some (aI n), some (aI a), some (aI b), some (aI c), some (aI e), some (aI f)], [], M)
        refine hR _ (?_)
        show R (28, [some (aR 7 0), some (aI n), some (aI a), some (aI b), some (aI c), some (aI e), some (aI f)], [aI c], M)
        refine hR _ (sp_X_isByte (by omega) (by omega) (fun h28 => ?_) (fun h28 => ?_))
        · show R (31, [some (aR 7 0), some (aI n), some (aI a), some (aI b), some (aI c), some (aI e), some (aI f)], [aI 1], M)
          refine hR _ (am_brf (rg := am_in 1) (P := (1 : Int) = 0) (A := R (50, [some (aR 7 0), some (aI n), some (aI a), some (aI b), some (aI c), some (aI e), some (aI f)], [], M)) (B := R (34, [some (aR 7 0), some (aI n), some (aI a), some (aI b), some (aI c), some (aI e), some (aI f)], [], M)) (by omega) (by omega) ?_)
          show R (34, [some (aR 7 0), some (aI n), some (aI a), some (aI b), some (aI c), some (aI e), some (aI f)], [], M)
          refine hR _ (?_)
          show R (36, [some (aR 7 0), some (aI n), some (aI a), some (aI b), some (aI c), some (aI e), some (aI f)], [aI e], M)
          refine hR _ (sp_X_isByte (by omega) (by omega) (fun h36 => ?_) (fun h36 => ?_))
          · show R (39, [some (aR 7 0), some (aI n), some (aI a), some (aI b), some (aI c), some (aI e), some (aI f)], [aI 1], M)
            refine hR _ (am_brf (rg := am_in 1) (P := (1 : Int) = 0) (A := R (50, [some (aR 7 0), some (aI n), some (aI a), some (aI b), some (aI c), some (aI e), some (aI f)], [], M)) (B := R (42, [some (aR 7 0), some (aI n), some (aI a), some (aI b), some (aI c), some (aI e), some (aI f)], [], M)) (by omega) (by omega) ?_)
            show R (42, [some (aR 7 0), some (aI n), some (aI a), some (aI b), some (aI c), some (aI e), some (aI f)], [], M)
            refine hR _ (?_)
            show R (44, [some (aR 7 0), some (aI n), some (aI a), some (aI b), some (aI c), some (aI e), some (aI f)], [aI f], M)
            refine hR _ (sp_X_isByte (by omega) (by omega) (fun h44 => ?_) (fun h44 => ?_))
            · show R (47, [some (aR 7 0), some (aI n), some (aI a), some (aI b), some (aI c), some (aI e), some (aI f)], [aI 1], M)
              refine hR _ (am_brt (rg := am_in 1) (P := (1 : Int) ≠ 0) (A := R (53, [some (aR 7 0), some (aI n), some (aI a), some (aI b), some (aI c), some (aI e), some (aI f)], [], M)) (B := R (50, [some (aR 7 0), some (aI n), some (aI a), some (aI b), some (aI c), some (aI e), some (aI f)], [], M)) (by omega) (by omega) ?_)
              show R (53, [some (aR 7 0), some (aI n), some (aI a), some (aI b), some (aI c), some (aI e), some (aI f)], [], M)
              refine hR _ (hR _ (hR _ (hR _ (hR _ (hR _ (hR _ (am_brc (rg := am_in (M 301 0 0) ∧ am_in (160 - n)) (P := M 301 0 0 ≤ (160 - n)) (A := R (71, [some (aR 7 0), some (aI n), some (aI a), some (aI b), some (aI c), some (aI e), some (aI f)], [], M)) (B := R (68, [some (aR 7 0), some (aI n), some (aI a), some (aI b), some (aI c), some (aI e), some (aI f)], [], M)) (by omega) (fun c65 => ?_) (fun c65 => ?_))))))))
              · refine hR _ (hR _ (hR _ (?_)))
                show R (76, [some (aR 7 0), some (aI n), some (aI a), some (aI b), some (aI c), some (aI e), some (aI f)], [aI a, aR 5 0], M)
                refine hR _ (sp_put (by omega) (show 0 ≤ M 301 0 0 ∧ M 301 0 0 ≤ 159 from by omega) (fun g102 hs hb ho => ?_))
                replace hs : g102 301 0 0 = M 301 0 0 + 1 := hs
                have he1 : (M 301 0 0).toNat = (M 301 0 0).toNat + 0 := by omega
                replace hb : g102 20 0 (M 301 0 0).toNat = a := hb
                replace ho : ∀ j, j ≠ (M 301 0 0).toNat → g102 20 0 j = M 20 0 j := ho
                rw [he1] at hb ho
                have hf1 := hf0.step (f2 := g102 20 0) (by rw [hb]; first | rfl | omega) ho
                have hsz1 : g102 301 0 0 = M 301 0 0 + 1 := by omega
                show R (79, [some (aR 7 0), some (aI n), some (aI a), some (aI b), some (aI c), some (aI e), some (aI f)], [], am_mix [20, 301] g102 M)
                refine hR _ (hR _ (hR _ (am_brc (rg := am_in n ∧ am_in 1) (P := n ≤ 1) (A := R (92, [some (aR 7 0), some (aI n), some (aI a), some (aI b), some (aI c), some (aI e), some (aI f)], [], am_mix [20, 301] g102 M)) (B := R (84, [some (aR 7 0), some (aI n), some (aI a), some (aI b), some (aI c), some (aI e), some (aI f)], [], am_mix [20, 301] g102 M)) (by omega) (fun c81 => ?_) (fun c81 => ?_))))
                · refine hR _ (hR _ (hR _ (am_brc (rg := am_in n ∧ am_in 2) (P := n ≤ 2) (A := R (106, [some (aR 7 0), some (aI n), some (aI a), some (aI b), some (aI c), some (aI e), some (aI f)], [], am_mix [20, 301] g102 M)) (B := R (97, [some (aR 7 0), some (aI n), some (aI a), some (aI b), some (aI c), some (aI e), some (aI f)], [], am_mix [20, 301] g102 M)) (by omega) (fun c94 => ?_) (fun c94 => ?_))))
                  · refine hR _ (hR _ (hR _ (am_brc (rg := am_in n ∧ am_in 3) (P := n ≤ 3) (A := R (120, [some (aR 7 0), some (aI n), some (aI a), some (aI b), some (aI c), some (aI e), some (aI f)], [], am_mix [20, 301] g102 M)) (B := R (111, [some (aR 7 0), some (aI n), some (aI a), some (aI b), some (aI c), some (aI e), some (aI f)], [], am_mix [20, 301] g102 M)) (by omega) (fun c108 => ?_) (fun c108 => ?_))))
                    · refine hR _ (hR _ (hR _ (am_brc (rg := am_in n ∧ am_in 4) (P := n ≤ 4) (A := R (134, [some (aR 7 0), some (aI n), some (aI a), some (aI b), some (aI c), some (aI e), some (aI f)], [], am_mix [20, 301] g102 M)) (B := R (125, [some (aR 7 0), some (aI n), some (aI a), some (aI b), some (aI c), some (aI e), some (aI f)], [], am_mix [20, 301] g102 M)) (by omega) (fun c122 => ?_) (fun c122 => ?_))))
                      · refine hR _ (hR _ (hR _ (?_)))
                        show R (141, [some (aR 7 0), some (aI n), some (aI a), some (aI b), some (aI c), some (aI e), some (aI f)], [aI (g102 301 0 0)], am_mix [20, 301] g102 M)
                        refine hR _ (show K (some (aI (g102 301 0 0))) (am_mix [20, 301] g102 M) from ?_)
                        have hn : n = 1 := by omega
                        subst hn
                        rw [show g102 301 0 0 = M 301 0 0 + 1 by omega]
                        have e9 : am_ag [20, 301] M (am_mix [20, 301] g102 M) := (am_ag.rf).mix rfl
                        rw [e9.eq]
                        exact hK1 (by omega) (by omega) _ hsz1 hf1
                      · refine hR _ (hR _ (hR _ (?_)))
                        show R (131, [some (aR 7 0), some (aI n), some (aI a), some (aI b), some (aI c), some (aI e), some (aI f)], [aI f, aR 5 0], am_mix [20, 301] g102 M)
                        refine hR _ (sp_put (by omega) (show 0 ≤ g102 301 0 0 ∧ g102 301 0 0 ≤ 159 from by omega) (fun g103 hs hb ho => ?_))
                        replace hs : g103 301 0 0 = g102 301 0 0 + 1 := hs
                        have he2 : (g102 301 0 0).toNat = (M 301 0 0).toNat + 1 := by omega
                        replace hb : g103 20 0 (g102 301 0 0).toNat = f := hb
                        replace ho : ∀ j, j ≠ (g102 301 0 0).toNat → g103 20 0 j = g102 20 0 j := ho
                        rw [he2] at hb ho
                        have hf2 := hf1.step (f2 := g103 20 0) (by rw [hb]; first | rfl | omega) ho
                        have hsz2 : g103 301 0 0 = M 301 0 0 + 2 := by omega
                        show R (134, [some (aR 7 0), some (aI n), some (aI a), some (aI b), some (aI c), some (aI e), some (aI f)], [], am_mix [20, 301] g103 (am_mix [20, 301] g102 M))
                        refine hR _ (hR _ (hR _ (?_)))
                        show R (141, [some (aR 7 0), some (aI n), some (aI a), some (aI b), some (aI c), some (aI e), some (aI f)], [aI (g103 301 0 0)], am_mix [20, 301] g103 (am_mix [20, 301] g102 M))
                        refine hR _ (show K (some (aI (g103 301 0 0))) (am_mix [20, 301] g103 (am_mix [20, 301] g102 M)) from ?_)
                        have hn : n = 2 := by omega
                        subst hn
                        rw [show g103 301 0 0 = M 301 0 0 + 2 by omega]
                        have e9 : am_ag [20, 301] M (am_mix [20, 301] g103 (am_mix [20, 301] g102 M)) := ((am_ag.rf).mix rfl).mix rfl
                        rw [e9.eq]
                        exact hK1 (by omega) (by omega) _ hsz2 hf2
                    · refine hR _ (hR _ (hR _ (?_)))
                      show R (117, [some (aR 7 0), some (aI n), some (aI a), some (aI b), some (aI c), some (aI e), some (aI f)], [aI e, aR 5 0], am_mix [20, 301] g102 M)
                      refine hR _ (sp_put (by omega) (show 0 ≤ g102 301 0 0 ∧ g102 301 0 0 ≤ 159 from by omega) (fun g104 hs hb ho => ?_))
                      replace hs : g104 301 0 0 = g102 301 0 0 + 1 := hs
                      have he2 : (g102 301 0 0).toNat = (M 301 0 0).toNat + 1 := by omega
                      replace hb : g104 20 0 (g102 301 0 0).toNat = e := hb
                      replace ho : ∀ j, j ≠ (g102 301 0 0).toNat → g104 20 0 j = g102 20 0 j := ho
                      rw [he2] at hb ho
                      have hf2 := hf1.step (f2 := g104 20 0) (by rw [hb]; first | rfl | omega) ho
                      have hsz2 : g104 301 0 0 = M 301 0 0 + 2 := by omega
                      show R (120, [some (aR 7 0), some (aI n), some (aI a), some (aI b), some (aI c), some (aI e), some (aI f)], [], am_mix [20, 301] g104 (am_mix [20, 301] g102 M))
                      refine hR _ (hR _ (hR _ (am_brc (rg := am_in n ∧ am_in 4) (P := n ≤ 4) (A := R (134, [some (aR 7 0), some (aI n), some (aI a), some (aI b), some (aI c), some (aI e), some (aI f)], [], am_mix [20, 301] g104 (am_mix [20, 301] g102 M))) (B := R (125, [some (aR 7 0), some (aI n), some (aI a), some (aI b), some (aI c), some (aI e), some (aI f)], [], am_mix [20, 301] g104 (am_mix [20, 301] g102 M))) (by omega) (fun c122 => ?_) (fun c122 => ?_))))
                      · refine hR _ (hR _ (hR _ (?_)))
                        show R (141, [some (aR 7 0), some (aI n), some (aI a), some (aI b), some (aI c), some (aI e), some (aI f)], [aI (g104 301 0 0)], am_mix [20, 301] g104 (am_mix [20, 301] g102 M))
                        refine hR _ (show K (some (aI (g104 301 0 0))) (am_mix [20, 301] g104 (am_mix [20, 301] g102 M)) from ?_)
                        have hn : n = 2 := by omega
                        subst hn
                        rw [show g104 301 0 0 = M 301 0 0 + 2 by omega]
                        have e9 : am_ag [20, 301] M (am_mix [20, 301] g104 (am_mix [20, 301] g102 M)) := ((am_ag.rf).mix rfl).mix rfl
                        rw [e9.eq]
                        exact hK1 (by omega) (by omega) _ hsz2 hf2
                      · refine hR _ (hR _ (hR _ (?_)))
                        show R (131, [some (aR 7 0), some (aI n), some (aI a), some (aI b), some (aI c), some (aI e), some (aI f)], [aI f, aR 5 0], am_mix [20, 301] g104 (am_mix [20, 301] g102 M))
                        refine hR _ (sp_put (by omega) (show 0 ≤ g104 301 0 0 ∧ g104 301 0 0 ≤ 159 from by omega) (fun g105 hs hb ho => ?_))
                        replace hs : g105 301 0 0 = g104 301 0 0 + 1 := hs
                        have he3 : (g104 301 0 0).toNat = (M 301 0 0).toNat + 2 := by omega
                        replace hb : g105 20 0 (g104 301 0 0).toNat = f := hb
                        replace ho : ∀ j, j ≠ (g104 301 0 0).toNat → g105 20 0 j = g104 20 0 j := ho
                        rw [he3] at hb ho
                        have hf3 := hf2.step (f2 := g105 20 0) (by rw [hb]; first | rfl | omega) ho
                        have hsz3 : g105 301 0 0 = M 301 0 0 + 3 := by omega
                        show R (134, [some (aR 7 0), some (aI n), some (aI a), some (aI b), some (aI c), some (aI e), some (aI f)], [], am_mix [20, 301] g105 (am_mix [20, 301] g104 (am_mix [20, 301] g102 M)))
                        refine hR _ (hR _ (hR _ (?_)))
                        show R (141, [some (aR 7 0), some (aI n), some (aI a), some (aI b), some (aI c), some (aI e), some (aI f)], [aI (g105 301 0 0)], am_mix [20, 301] g105 (am_mix [20, 301] g104 (am_mix [20, 301] g102 M)))
                        refine hR _ (show K (some (aI (g105 301 0 0))) (am_mix [20, 301] g105 (am_mix [20, 301] g104 (am_mix [20, 301] g102 M))) from ?_)
                        have hn : n = 3 := by omega
                        subst hn
                        rw [show g105 301 0 0 = M 301 0 0 + 3 by omega]
                        have e9 : am_ag [20, 301] M (am_mix [20, 301] g105 (am_mix [20, 301] g104 (am_mix [20, 301] g102 M))) := (((am_ag.rf).mix rfl).mix rfl).mix rfl
                        rw [e9.eq]
                        exact hK1 (by omega) (by omega) _ hsz3 hf3
                  · refine hR _ (hR _ (hR _ (?_)))
                    show R (103, [some (aR 7 0), some (aI n), some (aI a), some (aI b), some (aI c), some (aI e), some (aI f)], [aI c, aR 5 0], am_mix [20, 301] g102 M)
                    refine hR _ (sp_put (by omega) (show 0 ≤ g102 301 0 0 ∧ g102 301 0 0 ≤ 159 from by omega) (fun g106 hs hb ho => ?_))
                    replace hs : g106 301 0 0 = g102 301 0 0 + 1 := hs
                    have he2 : (g102 301 0 0).toNat = (M 301 0 0).toNat + 1 := by omega
                    replace hb : g106 20 0 (g102 301 0 0).toNat = c := hb
                    replace ho : ∀ j, j ≠ (g102 301 0 0).toNat → g106 20 0 j = g102 20 0 j := ho
                    rw [he2] at hb ho
                    have hf2 := hf1.step (f2 := g106 20 0) (by rw [hb]; first | rfl | omega) ho
                    have hsz2 : g106 301 0 0 = M 301 0 0 + 2 := by omega
                    show R (106, [some (aR 7 0), some (aI n), some (aI a), some (aI b), some (aI c), some (aI e), some (aI f)], [], am_mix [20, 301] g106 (am_mix [20, 301] g102 M))
                    refine hR _ (hR _ (hR _ (am_brc (rg := am_in n ∧ am_in 3) (P := n ≤ 3) (A := R (120, [some (aR 7 0), some (aI n), some (aI a), some (aI b), some (aI c), some (aI e), some (aI f)], [], am_mix [20, 301] g106 (am_mix [20, 301] g102 M))) (B := R (111, [some (aR 7 0), some (aI n), some (aI a), some (aI b), some (aI c), some (aI e), some (aI f)], [], am_mix [20, 301] g106 (am_mix [20, 301] g102 M))) (by omega) (fun c108 => ?_) (fun c108 => ?_))))
                    · refine hR _ (hR _ (hR _ (am_brc (rg := am_in n ∧ am_in 4) (P := n ≤ 4) (A := R (134, [some (aR 7 0), some (aI n), some (aI a), some (aI b), some (aI c), some (aI e), some (aI f)], [], am_mix [20, 301] g106 (am_mix [20, 301] g102 M))) (B := R (125, [some (aR 7 0), some (aI n), some (aI a), some (aI b), some (aI c), some (aI e), some (aI f)], [], am_mix [20, 301] g106 (am_mix [20, 301] g102 M))) (by omega) (fun c122 => ?_) (fun c122 => ?_))))
                      · refine hR _ (hR _ (hR _ (?_)))
                        show R (141, [some (aR 7 0), some (aI n), some (aI a), some (aI b), some (aI c), some (aI e), some (aI f)], [aI (g106 301 0 0)], am_mix [20, 301] g106 (am_mix [20, 301] g102 M))
                        refine hR _ (show K (some (aI (g106 301 0 0))) (am_mix [20, 301] g106 (am_mix [20, 301] g102 M)) from ?_)
                        have hn : n = 2 := by omega
                        subst hn
                        rw [show g106 301 0 0 = M 301 0 0 + 2 by omega]
                        have e9 : am_ag [20, 301] M (am_mix [20, 301] g106 (am_mix [20, 301] g102 M)) := ((am_ag.rf).mix rfl).mix rfl
                        rw [e9.eq]
                        exact hK1 (by omega) (by omega) _ hsz2 hf2
                      · refine hR _ (hR _ (hR _ (?_)))
                        show R (131, [some (aR 7 0), some (aI n), some (aI a), some (aI b), some (aI c), some (aI e), some (aI f)], [aI f, aR 5 0], am_mix [20, 301] g106 (am_mix [20, 301] g102 M))
                        refine hR _ (sp_put (by omega) (show 0 ≤ g106 301 0 0 ∧ g106 301 0 0 ≤ 159 from by omega) (fun g107 hs hb ho => ?_))
                        replace hs : g107 301 0 0 = g106 301 0 0 + 1 := hs
                        have he3 : (g106 301 0 0).toNat = (M 301 0 0).toNat + 2 := by omega
                        replace hb : g107 20 0 (g106 301 0 0).toNat = f := hb
                        replace ho : ∀ j, j ≠ (g106 301 0 0).toNat → g107 20 0 j = g106 20 0 j := ho
                        rw [he3] at hb ho
                        have hf3 := hf2.step (f2 := g107 20 0) (by rw [hb]; first | rfl | omega) ho
                        have hsz3 : g107 301 0 0 = M 301 0 0 + 3 := by omega
                        show R (134, [some (aR 7 0), some (aI n), some (aI a), some (aI b), some (aI c), some (aI e), some (aI f)], [], am_mix [20, 301] g107 (am_mix [20, 301] g106 (am_mix [20, 301] g102 M)))
                        refine hR _ (hR _ (hR _ (?_)))
                        show R (141, [some (aR 7 0), some (aI n), some (aI a), some (aI b), some (aI c), some (aI e), some (aI f)], [aI (g107 301 0 0)], am_mix [20, 301] g107 (am_mix [20, 301] g106 (am_mix [20, 301] g102 M)))
                        refine hR _ (show K (some (aI (g107 301 0 0))) (am_mix [20, 301] g107 (am_mix [20, 301] g106 (am_mix [20, 301] g102 M))) from ?_)
                        have hn : n = 3 := by omega
                        subst hn
                        rw [show g107 301 0 0 = M 301 0 0 + 3 by omega]
                        have e9 : am_ag [20, 301] M (am_mix [20, 301] g107 (am_mix [20, 301] g106 (am_mix [20, 301] g102 M))) := (((am_ag.rf).mix rfl).mix rfl).mix rfl
                        rw [e9.eq]
                        exact hK1 (by omega) (by omega) _ hsz3 hf3
                    · refine hR _ (hR _ (hR _ (?_)))
                      show R (117, [some (aR 7 0), some (aI n), some (aI a), some (aI b), some (aI c), some (aI e), some (aI f)], [aI e, aR 5 0], am_mix [20, 301] g106 (am_mix [20, 301] g102 M))
                      refine hR _ (sp_put (by omega) (show 0 ≤ g106 301 0 0 ∧ g106 301 0 0 ≤ 159 from by omega) (fun g108 hs hb ho => ?_))
                      replace hs : g108 301 0 0 = g106 301 0 0 + 1 := hs
                      have he3 : (g106 301 0 0).toNat = (M 301 0 0).toNat + 2 := by omega
                      replace hb : g108 20 0 (g106 301 0 0).toNat = e := hb
                      replace ho : ∀ j, j ≠ (g106 301 0 0).toNat → g108 20 0 j = g106 20 0 j := ho
                      rw [he3] at hb ho
                      have hf3 := hf2.step (f2 := g108 20 0) (by rw [hb]; first | rfl | omega) ho
                      have hsz3 : g108 301 0 0 = M 301 0 0 + 3 := by omega
                      show R (120, [some (aR 7 0), some (aI n), some (aI a), some (aI b), some (aI c), some (aI e), some (aI f)], [], am_mix [20, 301] g108 (am_mix [20, 301] g106 (am_mix [20, 301] g102 M)))
                      refine hR _ (hR _ (hR _ (am_brc (rg := am_in n ∧ am_in 4) (P := n ≤ 4) (A := R (134, [some (aR 7 0), some (aI n), some (aI a), some (aI b), some (aI c), some (aI e), some (aI f)], [], am_mix [20, 301] g108 (am_mix [20, 301] g106 (am_mix [20, 301] g102 M)))) (B := R (125, [some (aR 7 0), some (aI n), some (aI a), some (aI b), some (aI c), some (aI e), some (aI f)], [], am_mix [20, 301] g108 (am_mix [20, 301] g106 (am_mix [20, 301] g102 M)))) (by omega) (fun c122 => ?_) (fun c122 => ?_))))
                      · refine hR _ (hR _ (hR _ (?_)))
                        show R (141, [some (aR 7 0), some (aI n), some (aI a), some (aI b), some (aI c), some (aI e), some (aI f)], [aI (g108 301 0 0)], am_mix [20, 301] g108 (am_mix [20, 301] g106 (am_mix [20, 301] g102 M)))
                        refine hR _ (show K (some (aI (g108 301 0 0))) (am_mix [20, 301] g108 (am_mix [20, 301] g106 (am_mix [20, 301] g102 M))) from ?_)
                        have hn : n = 3 := by omega
                        subst hn
                        rw [show g108 301 0 0 = M 301 0 0 + 3 by omega]
                        have e9 : am_ag [20, 301] M (am_mix [20, 301] g108 (am_mix [20, 301] g106 (am_mix [20, 301] g102 M))) := (((am_ag.rf).mix rfl).mix rfl).mix rfl
                        rw [e9.eq]
                        exact hK1 (by omega) (by omega) _ hsz3 hf3
                      · refine hR _ (hR _ (hR _ (?_)))
                        show R (131, [some (aR 7 0), some (aI n), some (aI a), some (aI b), some (aI c), some (aI e), some (aI f)], [aI f, aR 5 0], am_mix [20, 301] g108 (am_mix [20, 301] g106 (am_mix [20, 301] g102 M)))
                        refine hR _ (sp_put (by omega) (show 0 ≤ g108 301 0 0 ∧ g108 301 0 0 ≤ 159 from by omega) (fun g109 hs hb ho => ?_))
                        replace hs : g109 301 0 0 = g108 301 0 0 + 1 := hs
                        have he4 : (g108 301 0 0).toNat = (M 301 0 0).toNat + 3 := by omega
                        replace hb : g109 20 0 (g108 301 0 0).toNat = f := hb
                        replace ho : ∀ j, j ≠ (g108 301 0 0).toNat → g109 20 0 j = g108 20 0 j := ho
                        rw [he4] at hb ho
                        have hf4 := hf3.step (f2 := g109 20 0) (by rw [hb]; first | rfl | omega) ho
                        have hsz4 : g109 301 0 0 = M 301 0 0 + 4 := by omega
                        show R (134, [some (aR 7 0), some (aI n), some (aI a), some (aI b), some (aI c), some (aI e), some (aI f)], [], am_mix [20, 301] g109 (am_mix [20, 301] g108 (am_mix [20, 301] g106 (am_mix [20, 301] g102 M))))
                        refine hR _ (hR _ (hR _ (?_)))
                        show R (141, [some (aR 7 0), some (aI n), some (aI a), some (aI b), some (aI c), some (aI e), some (aI f)], [aI (g109 301 0 0)], am_mix [20, 301] g109 (am_mix [20, 301] g108 (am_mix [20, 301] g106 (am_mix [20, 301] g102 M))))
                        refine hR _ (show K (some (aI (g109 301 0 0))) (am_mix [20, 301] g109 (am_mix [20, 301] g108 (am_mix [20, 301] g106 (am_mix [20, 301] g102 M)))) from ?_)
                        have hn : n = 4 := by omega
                        subst hn
                        rw [show g109 301 0 0 = M 301 0 0 + 4 by omega]
                        have e9 : am_ag [20, 301] M (am_mix [20, 301] g109 (am_mix [20, 301] g108 (am_mix [20, 301] g106 (am_mix [20, 301] g102 M)))) := ((((am_ag.rf).mix rfl).mix rfl).mix rfl).mix rfl
                        rw [e9.eq]
                        exact hK1 (by omega) (by omega) _ hsz4 hf4
                · refine hR _ (hR _ (hR _ (?_)))
                  show R (89, [some (aR 7 0), some (aI n), some (aI a), some (aI b), some (aI c), some (aI e), some (aI f)], [aI b, aR 5 0], am_mix [20, 301] g102 M)
                  refine hR _ (sp_put (by omega) (show 0 ≤ g102 301 0 0 ∧ g102 301 0 0 ≤ 159 from by omega) (fun g110 hs hb ho => ?_))
                  replace hs : g110 301 0 0 = g102 301 0 0 + 1 := hs
                  have he2 : (g102 301 0 0).toNat = (M 301 0 0).toNat + 1 := by omega
                  replace hb : g110 20 0 (g102 301 0 0).toNat = b := hb
                  replace ho : ∀ j, j ≠ (g102 301 0 0).toNat → g110 20 0 j = g102 20 0 j := ho
                  rw [he2] at hb ho
                  have hf2 := hf1.step (f2 := g110 20 0) (by rw [hb]; first | rfl | omega) ho
                  have hsz2 : g110 301 0 0 = M 301 0 0 + 2 := by omega
                  show R (92, [some (aR 7 0), some (aI n), some (aI a), some (aI b), some (aI c), some (aI e), some (aI f)], [], am_mix [20, 301] g110 (am_mix [20, 301] g102 M))
                  refine hR _ (hR _ (hR _ (am_brc (rg := am_in n ∧ am_in 2) (P := n ≤ 2) (A := R (106, [some (aR 7 0), some (aI n), some (aI a), some (aI b), some (aI c), some (aI e), some (aI f)], [], am_mix [20, 301] g110 (am_mix [20, 301] g102 M))) (B := R (97, [some (aR 7 0), some (aI n), some (aI a), some (aI b), some (aI c), some (aI e), some (aI f)], [], am_mix [20, 301] g110 (am_mix [20, 301] g102 M))) (by omega) (fun c94 => ?_) (fun c94 => ?_))))
                  · refine hR _ (hR _ (hR _ (am_brc (rg := am_in n ∧ am_in 3) (P := n ≤ 3) (A := R (120, [some (aR 7 0), some (aI n), some (aI a), some (aI b), some (aI c), some (aI e), some (aI f)], [], am_mix [20, 301] g110 (am_mix [20, 301] g102 M))) (B := R (111, [some (aR 7 0), some (aI n), some (aI a), some (aI b), some (aI c), some (aI e), some (aI f)], [], am_mix [20, 301] g110 (am_mix [20, 301] g102 M))) (by omega) (fun c108 => ?_) (fun c108 => ?_))))
                    · refine hR _ (hR _ (hR _ (am_brc (rg := am_in n ∧ am_in 4) (P := n ≤ 4) (A := R (134, [some (aR 7 0), some (aI n), some (aI a), some (aI b), some (aI c), some (aI e), some (aI f)], [], am_mix [20, 301] g110 (am_mix [20, 301] g102 M))) (B := R (125, [some (aR 7 0), some (aI n), some (aI a), some (aI b), some (aI c), some (aI e), some (aI f)], [], am_mix [20, 301] g110 (am_mix [20, 301] g102 M))) (by omega) (fun c122 => ?_) (fun c122 => ?_))))
                      · refine hR _ (hR _ (hR _ (?_)))
                        show R (141, [some (aR 7 0), some (aI n), some (aI a), some (aI b), some (aI c), some (aI e), some (aI f)], [aI (g110 301 0 0)], am_mix [20, 301] g110 (am_mix [20, 301] g102 M))
                        refine hR _ (show K (some (aI (g110 301 0 0))) (am_mix [20, 301] g110 (am_mix [20, 301] g102 M)) from ?_)
                        have hn : n = 2 := by omega
                        subst hn
                        rw [show g110 301 0 0 = M 301 0 0 + 2 by omega]
                        have e9 : am_ag [20, 301] M (am_mix [20, 301] g110 (am_mix [20, 301] g102 M)) := ((am_ag.rf).mix rfl).mix rfl
                        rw [e9.eq]
                        exact hK1 (by omega) (by omega) _ hsz2 hf2
                      · refine hR _ (hR _ (hR _ (?_)))
                        show R (131, [some (aR 7 0), some (aI n), some (aI a), some (aI b), some (aI c), some (aI e), some (aI f)], [aI f, aR 5 0], am_mix [20, 301] g110 (am_mix [20, 301] g102 M))
                        refine hR _ (sp_put (by omega) (show 0 ≤ g110 301 0 0 ∧ g110 301 0 0 ≤ 159 from by omega) (fun g111 hs hb ho => ?_))
                        replace hs : g111 301 0 0 = g110 301 0 0 + 1 := hs
                        have he3 : (g110 301 0 0).toNat = (M 301 0 0).toNat + 2 := by omega
                        replace hb : g111 20 0 (g110 301 0 0).toNat = f := hb
                        replace ho : ∀ j, j ≠ (g110 301 0 0).toNat → g111 20 0 j = g110 20 0 j := ho
                        rw [he3] at hb ho
                        have hf3 := hf2.step (f2 := g111 20 0) (by rw [hb]; first | rfl | omega) ho
                        have hsz3 : g111 301 0 0 = M 301 0 0 + 3 := by omega
                        show R (134, [some (aR 7 0), some (aI n), some (aI a), some (aI b), some (aI c), some (aI e), some (aI f)], [], am_mix [20, 301] g111 (am_mix [20, 301] g110 (am_mix [20, 301] g102 M)))
                        refine hR _ (hR _ (hR _ (?_)))
                        show R (141, [some (aR 7 0), some (aI n), some (aI a), some (aI b), some (aI c), some (aI e), some (aI f)], [aI (g111 301 0 0)], am_mix [20, 301] g111 (am_mix [20, 301] g110 (am_mix [20, 301] g102 M)))
                        refine hR _ (show K (some (aI (g111 301 0 0))) (am_mix [20, 301] g111 (am_mix [20, 301] g110 (am_mix [20, 301] g102 M))) from ?_)
                        have hn : n = 3 := by omega
                        subst hn
                        rw [show g111 301 0 0 = M 301 0 0 + 3 by omega]
                        have e9 : am_ag [20, 301] M (am_mix [20, 301] g111 (am_mix [20, 301] g110 (am_mix [20, 301] g102 M))) := (((am_ag.rf).mix rfl).mix rfl).mix rfl
                        rw [e9.eq]
                        exact hK1 (by omega) (by omega) _ hsz3 hf3
                    · refine hR _ (hR _ (hR _ (?_)))
                      show R (117, [some (aR 7 0), some (aI n), some (aI a), some (aI b), some (aI c), some (aI e), some (aI f)], [aI e, aR 5 0], am_mix [20, 301] g110 (am_mix [20, 301] g102 M))
                      refine hR _ (sp_put (by omega) (show 0 ≤ g110 301 0 0 ∧ g110 301 0 0 ≤ 159 from by omega) (fun g112 hs hb ho => ?_))
                      replace hs : g112 301 0 0 = g110 301 0 0 + 1 := hs
                      have he3 : (g110 301 0 0).toNat = (M 301 0 0).toNat + 2 := by omega
                      replace hb : g112 20 0 (g110 301 0 0).toNat = e := hb
                      replace ho : ∀ j, j ≠ (g110 301 0 0).toNat → g112 20 0 j = g110 20 0 j := ho
                      rw [he3] at hb ho
                      have hf3 := hf2.step (f2 := g112 20 0) (by rw [hb]; first | rfl | omega) ho
                      have hsz3 : g112 301 0 0 = M 301 0 0 + 3 := by omega
                      show R (120, [some (aR 7 0), some (aI n), some (aI a), some (aI b), some (aI c), some (aI e), some (aI f)], [], am_mix [20, 301] g112 (am_mix [20, 301] g110 (am_mix [20, 301] g102 M)))
                      refine hR _ (hR _ (hR _ (am_brc (rg := am_in n ∧ am_in 4) (P := n ≤ 4) (A := R (134, [some (aR 7 0), some (aI n), some (aI a), some (aI b), some (aI c), some (aI e), some (aI f)], [], am_mix [20, 301] g112 (am_mix [20, 301] g110 (am_mix [20, 301] g102 M)))) (B := R (125, [some (aR 7 0), some (aI n), some (aI a), some (aI b), some (aI c), some (aI e), some (aI f)], [], am_mix [20, 301] g112 (am_mix [20, 301] g110 (am_mix [20, 301] g102 M)))) (by omega) (fun c122 => ?_) (fun c122 => ?_))))
                      · refine hR _ (hR _ (hR _ (?_)))
                        show R (141, [some (aR 7 0), some (aI n), some (aI a), some (aI b), some (aI c), some (aI e), some (aI f)], [aI (g112 301 0 0)], am_mix [20, 301] g112 (am_mix [20, 301] g110 (am_mix [20, 301] g102 M)))
                        refine hR _ (show K (some (aI (g112 301 0 0))) (am_mix [20, 301] g112 (am_mix [20, 301] g110 (am_mix [20, 301] g102 M))) from ?_)
                        have hn : n = 3 := by omega
                        subst hn
                        rw [show g112 301 0 0 = M 301 0 0 + 3 by omega]
                        have e9 : am_ag [20, 301] M (am_mix [20, 301] g112 (am_mix [20, 301] g110 (am_mix [20, 301] g102 M))) := (((am_ag.rf).mix rfl).mix rfl).mix rfl
                        rw [e9.eq]
                        exact hK1 (by omega) (by omega) _ hsz3 hf3
                      · refine hR _ (hR _ (hR _ (?_)))
                        show R (131, [some (aR 7 0), some (aI n), some (aI a), some (aI b), some (aI c), some (aI e), some (aI f)], [aI f, aR 5 0], am_mix [20, 301] g112 (am_mix [20, 301] g110 (am_mix [20, 301] g102 M)))
                        refine hR _ (sp_put (by omega) (show 0 ≤ g112 301 0 0 ∧ g112 301 0 0 ≤ 159 from by omega) (fun g113 hs hb ho => ?_))
                        replace hs : g113 301 0 0 = g112 301 0 0 + 1 := hs
                        have he4 : (g112 301 0 0).toNat = (M 301 0 0).toNat + 3 := by omega
                        replace hb : g113 20 0 (g112 301 0 0).toNat = f := hb
                        replace ho : ∀ j, j ≠ (g112 301 0 0).toNat → g113 20 0 j = g112 20 0 j := ho
                        rw [he4] at hb ho
                        have hf4 := hf3.step (f2 := g113 20 0) (by rw [hb]; first | rfl | omega) ho
                        have hsz4 : g113 301 0 0 = M 301 0 0 + 4 := by omega
                        show R (134, [some (aR 7 0), some (aI n), some (aI a), some (aI b), some (aI c), some (aI e), some (aI f)], [], am_mix [20, 301] g113 (am_mix [20, 301] g112 (am_mix [20, 301] g110 (am_mix [20, 301] g102 M))))
                        refine hR _ (hR _ (hR _ (?_)))
                        show R (141, [some (aR 7 0), some (aI n), some (aI a), some (aI b), some (aI c), some (aI e), some (aI f)], [aI (g113 301 0 0)], am_mix [20, 301] g113 (am_mix [20, 301] g112 (am_mix [20, 301] g110 (am_mix [20, 301] g102 M))))
                        refine hR _ (show K (some (aI (g113 301 0 0))) (am_mix [20, 301] g113 (am_mix [20, 301] g112 (am_mix [20, 301] g110 (am_mix [20, 301] g102 M)))) from ?_)
                        have hn : n = 4 := by omega
                        subst hn
                        rw [show g113 301 0 0 = M 301 0 0 + 4 by omega]
                        have e9 : am_ag [20, 301] M (am_mix [20, 301] g113 (am_mix [20, 301] g112 (am_mix [20, 301] g110 (am_mix [20, 301] g102 M)))) := ((((am_ag.rf).mix rfl).mix rfl).mix rfl).mix rfl
                        rw [e9.eq]
                        exact hK1 (by omega) (by omega) _ hsz4 hf4
                  · refine hR _ (hR _ (hR _ (?_)))
                    show R (103, [some (aR 7 0), some (aI n), some (aI a), some (aI b), some (aI c), some (aI e), some (aI f)], [aI c, aR 5 0], am_mix [20, 301] g110 (am_mix [20, 301] g102 M))
                    refine hR _ (sp_put (by omega) (show 0 ≤ g110 301 0 0 ∧ g110 301 0 0 ≤ 159 from by omega) (fun g114 hs hb ho => ?_))
                    replace hs : g114 301 0 0 = g110 301 0 0 + 1 := hs
                    have he3 : (g110 301 0 0).toNat = (M 301 0 0).toNat + 2 := by omega
                    replace hb : g114 20 0 (g110 301 0 0).toNat = c := hb
                    replace ho : ∀ j, j ≠ (g110 301 0 0).toNat → g114 20 0 j = g110 20 0 j := ho
                    rw [he3] at hb ho
                    have hf3 := hf2.step (f2 := g114 20 0) (by rw [hb]; first | rfl | omega) ho
                    have hsz3 : g114 301 0 0 = M 301 0 0 + 3 := by omega
                    show R (106, [some (aR 7 0), some (aI n), some (aI a), some (aI b), some (aI c), some (aI e), some (aI f)], [], am_mix [20, 301] g114 (am_mix [20, 301] g110 (am_mix [20, 301] g102 M)))
                    refine hR _ (hR _ (hR _ (am_brc (rg := am_in n ∧ am_in 3) (P := n ≤ 3) (A := R (120, [some (aR 7 0), some (aI n), some (aI a), some (aI b), some (aI c), some (aI e), some (aI f)], [], am_mix [20, 301] g114 (am_mix [20, 301] g110 (am_mix [20, 301] g102 M)))) (B := R (111, [some (aR 7 0), some (aI n), some (aI a), some (aI b), some (aI c), some (aI e), some (aI f)], [], am_mix [20, 301] g114 (am_mix [20, 301] g110 (am_mix [20, 301] g102 M)))) (by omega) (fun c108 => ?_) (fun c108 => ?_))))
                    · refine hR _ (hR _ (hR _ (am_brc (rg := am_in n ∧ am_in 4) (P := n ≤ 4) (A := R (134, [some (aR 7 0), some (aI n), some (aI a), some (aI b), some (aI c), some (aI e), some (aI f)], [], am_mix [20, 301] g114 (am_mix [20, 301] g110 (am_mix [20, 301] g102 M)))) (B := R (125, [some (aR 7 0), some (aI n), some (aI a), some (aI b), some (aI c), some (aI e), some (aI f)], [], am_mix [20, 301] g114 (am_mix [20, 301] g110 (am_mix [20, 301] g102 M)))) (by omega) (fun c122 => ?_) (fun c122 => ?_))))
                      · refine hR _ (hR _ (hR _ (?_)))
                        show R (141, [some (aR 7 0), some (aI n), some (aI a), some (aI b), some (aI c), some (aI e), some (aI f)], [aI (g114 301 0 0)], am_mix [20, 301] g114 (am_mix [20, 301] g110 (am_mix [20, 301] g102 M)))
                        refine hR _ (show K (some (aI (g114 301 0 0))) (am_mix [20, 301] g114 (am_mix [20, 301] g110 (am_mix [20, 301] g102 M))) from ?_)
                        have hn : n = 3 := by omega
                        subst hn
                        rw [show g114 301 0 0 = M 301 0 0 + 3 by omega]
                        have e9 : am_ag [20, 301] M (am_mix [20, 301] g114 (am_mix [20, 301] g110 (am_mix [20, 301] g102 M))) := (((am_ag.rf).mix rfl).mix rfl).mix rfl
                        rw [e9.eq]
                        exact hK1 (by omega) (by omega) _ hsz3 hf3
                      · refine hR _ (hR _ (hR _ (?_)))
                        show R (131, [some (aR 7 0), some (aI n), some (aI a), some (aI b), some (aI c), some (aI e), some (aI f)], [aI f, aR 5 0], am_mix [20, 301] g114 (am_mix [20, 301] g110 (am_mix [20, 301] g102 M)))
                        refine hR _ (sp_put (by omega) (show 0 ≤ g114 301 0 0 ∧ g114 301 0 0 ≤ 159 from by omega) (fun g115 hs hb ho => ?_))
                        replace hs : g115 301 0 0 = g114 301 0 0 + 1 := hs
                        have he4 : (g114 301 0 0).toNat = (M 301 0 0).toNat + 3 := by omega
                        replace hb : g115 20 0 (g114 301 0 0).toNat = f := hb
                        replace ho : ∀ j, j ≠ (g114 301 0 0).toNat → g115 20 0 j = g114 20 0 j := ho
                        rw [he4] at hb ho
                        have hf4 := hf3.step (f2 := g115 20 0) (by rw [hb]; first | rfl | omega) ho
                        have hsz4 : g115 301 0 0 = M 301 0 0 + 4 := by omega
                        show R (134, [some (aR 7 0), some (aI n), some (aI a), some (aI b), some (aI c), some (aI e), some (aI f)], [], am_mix [20, 301] g115 (am_mix [20, 301] g114 (am_mix [20, 301] g110 (am_mix [20, 301] g102 M))))
                        refine hR _ (hR _ (hR _ (?_)))
                        show R (141, [some (aR 7 0), some (aI n), some (aI a), some (aI b), some (aI c), some (aI e), some (aI f)], [aI (g115 301 0 0)], am_mix [20, 301] g115 (am_mix [20, 301] g114 (am_mix [20, 301] g110 (am_mix [20, 301] g102 M))))
                        refine hR _ (show K (some (aI (g115 301 0 0))) (am_mix [20, 301] g115 (am_mix [20, 301] g114 (am_mix [20, 301] g110 (am_mix [20, 301] g102 M)))) from ?_)
                        have hn : n = 4 := by omega
                        subst hn
                        rw [show g115 301 0 0 = M 301 0 0 + 4 by omega]
                        have e9 : am_ag [20, 301] M (am_mix [20, 301] g115 (am_mix [20, 301] g114 (am_mix [20, 301] g110 (am_mix [20, 301] g102 M)))) := ((((am_ag.rf).mix rfl).mix rfl).mix rfl).mix rfl
                        rw [e9.eq]
                        exact hK1 (by omega) (by omega) _ hsz4 hf4
                    · refine hR _ (hR _ (hR _ (?_)))
                      show R (117, [some (aR 7 0), some (aI n), some (aI a), some (aI b), some (aI c), some (aI e), some (aI f)], [aI e, aR 5 0], am_mix [20, 301] g114 (am_mix [20, 301] g110 (am_mix [20, 301] g102 M)))
                      refine hR _ (sp_put (by omega) (show 0 ≤ g114 301 0 0 ∧ g114 301 0 0 ≤ 159 from by omega) (fun g116 hs hb ho => ?_))
                      replace hs : g116 301 0 0 = g114 301 0 0 + 1 := hs
                      have he4 : (g114 301 0 0).toNat = (M 301 0 0).toNat + 3 := by omega
                      replace hb : g116 20 0 (g114 301 0 0).toNat = e := hb
                      replace ho : ∀ j, j ≠ (g114 301 0 0).toNat → g116 20 0 j = g114 20 0 j := ho
                      rw [he4] at hb ho
                      have hf4 := hf3.step (f2 := g116 20 0) (by rw [hb]; first | rfl | omega) ho
                      have hsz4 : g116 301 0 0 = M 301 0 0 + 4 := by omega
                      show R (120, [some (aR 7 0), some (aI n), some (aI a), some (aI b), some (aI c), some (aI e), some (aI f)], [], am_mix [20, 301] g116 (am_mix [20, 301] g114 (am_mix [20, 301] g110 (am_mix [20, 301] g102 M))))
                      refine hR _ (hR _ (hR _ (am_brc (rg := am_in n ∧ am_in 4) (P := n ≤ 4) (A := R (134, [some (aR 7 0), some (aI n), some (aI a), some (aI b), some (aI c), some (aI e), some (aI f)], [], am_mix [20, 301] g116 (am_mix [20, 301] g114 (am_mix [20, 301] g110 (am_mix [20, 301] g102 M))))) (B := R (125, [some (aR 7 0), some (aI n), some (aI a), some (aI b), some (aI c), some (aI e), some (aI f)], [], am_mix [20, 301] g116 (am_mix [20, 301] g114 (am_mix [20, 301] g110 (am_mix [20, 301] g102 M))))) (by omega) (fun c122 => ?_) (fun c122 => ?_))))
                      · refine hR _ (hR _ (hR _ (?_)))
                        show R (141, [some (aR 7 0), some (aI n), some (aI a), some (aI b), some (aI c), some (aI e), some (aI f)], [aI (g116 301 0 0)], am_mix [20, 301] g116 (am_mix [20, 301] g114 (am_mix [20, 301] g110 (am_mix [20, 301] g102 M))))
                        refine hR _ (show K (some (aI (g116 301 0 0))) (am_mix [20, 301] g116 (am_mix [20, 301] g114 (am_mix [20, 301] g110 (am_mix [20, 301] g102 M)))) from ?_)
                        have hn : n = 4 := by omega
                        subst hn
                        rw [show g116 301 0 0 = M 301 0 0 + 4 by omega]
                        have e9 : am_ag [20, 301] M (am_mix [20, 301] g116 (am_mix [20, 301] g114 (am_mix [20, 301] g110 (am_mix [20, 301] g102 M)))) := ((((am_ag.rf).mix rfl).mix rfl).mix rfl).mix rfl
                        rw [e9.eq]
                        exact hK1 (by omega) (by omega) _ hsz4 hf4
                      · refine hR _ (hR _ (hR _ (?_)))
                        show R (131, [some (aR 7 0), some (aI n), some (aI a), some (aI b), some (aI c), some (aI e), some (aI f)], [aI f, aR 5 0], am_mix [20, 301] g116 (am_mix [20, 301] g114 (am_mix [20, 301] g110 (am_mix [20, 301] g102 M))))
                        refine hR _ (sp_put (by omega) (show 0 ≤ g116 301 0 0 ∧ g116 301 0 0 ≤ 159 from by omega) (fun g117 hs hb ho => ?_))
                        replace hs : g117 301 0 0 = g116 301 0 0 + 1 := hs
                        have he5 : (g116 301 0 0).toNat = (M 301 0 0).toNat + 4 := by omega
                        replace hb : g117 20 0 (g116 301 0 0).toNat = f := hb
                        replace ho : ∀ j, j ≠ (g116 301 0 0).toNat → g117 20 0 j = g116 20 0 j := ho
                        rw [he5] at hb ho
                        have hf5 := hf4.step (f2 := g117 20 0) (by rw [hb]; first | rfl | omega) ho
                        have hsz5 : g117 301 0 0 = M 301 0 0 + 5 := by omega
                        show R (134, [some (aR 7 0), some (aI n), some (aI a), some (aI b), some (aI c), some (aI e), some (aI f)], [], am_mix [20, 301] g117 (am_mix [20, 301] g116 (am_mix [20, 301] g114 (am_mix [20, 301] g110 (am_mix [20, 301] g102 M)))))
                        refine hR _ (hR _ (hR _ (?_)))
                        show R (141, [some (aR 7 0), some (aI n), some (aI a), some (aI b), some (aI c), some (aI e), some (aI f)], [aI (g117 301 0 0)], am_mix [20, 301] g117 (am_mix [20, 301] g116 (am_mix [20, 301] g114 (am_mix [20, 301] g110 (am_mix [20, 301] g102 M)))))
                        refine hR _ (show K (some (aI (g117 301 0 0))) (am_mix [20, 301] g117 (am_mix [20, 301] g116 (am_mix [20, 301] g114 (am_mix [20, 301] g110 (am_mix [20, 301] g102 M))))) from ?_)
                        have hn : n = 5 := by omega
                        subst hn
                        rw [show g117 301 0 0 = M 301 0 0 + 5 by omega]
                        have e9 : am_ag [20, 301] M (am_mix [20, 301] g117 (am_mix [20, 301] g116 (am_mix [20, 301] g114 (am_mix [20, 301] g110 (am_mix [20, 301] g102 M))))) := (((((am_ag.rf).mix rfl).mix rfl).mix rfl).mix rfl).mix rfl
                        rw [e9.eq]
                        exact hK1 (by omega) (by omega) _ hsz5 hf5
              · refine hR _ (?_)
                show R (70, [some (aR 7 0), some (aI n), some (aI a), some (aI b), some (aI c), some (aI e), some (aI f)], [aI (-4)], M)
                refine hR _ (show K (some (aI (-4))) M from ?_)
                refine am_kr (hK0 (by omega)) ?_
                split
                all_goals omega
            · show R (47, [some (aR 7 0), some (aI n), some (aI a), some (aI b), some (aI c), some (aI e), some (aI f)], [aI 0], M)
              refine hR _ (am_brf (rg := am_in 0) (P := (0 : Int) ≠ 0) (A := R (53, [some (aR 7 0), some (aI n), some (aI a), some (aI b), some (aI c), some (aI e), some (aI f)], [], M)) (B := R (50, [some (aR 7 0), some (aI n), some (aI a), some (aI b), some (aI c), some (aI e), some (aI f)], [], M)) (by omega) (by omega) ?_)
              show R (50, [some (aR 7 0), some (aI n), some (aI a), some (aI b), some (aI c), some (aI e), some (aI f)], [], M)
              refine hR _ (?_)
              show R (52, [some (aR 7 0), some (aI n), some (aI a), some (aI b), some (aI c), some (aI e), some (aI f)], [aI (-2)], M)
              refine hR _ (show K (some (aI (-2))) M from ?_)
              refine am_kr (hK0 (by omega)) ?_
              split
              all_goals omega
          · show R (39, [some (aR 7 0), some (aI n), some (aI a), some (aI b), some (aI c), some (aI e), some (aI f)], [aI 0], M)
            refine hR _ (am_brt (rg := am_in 0) (P := (0 : Int) = 0) (A := R (50, [some (aR 7 0), some (aI n), some (aI a), some (aI b), some (aI c), some (aI e), some (aI f)], [], M)) (B := R (42, [some (aR 7 0), some (aI n), some (aI a), some (aI b), some (aI c), some (aI e), some (aI f)], [], M)) (by omega) (by omega) ?_)
            show R (50, [some (aR 7 0), some (aI n), some (aI a), some (aI b), some (aI c), some (aI e), some (aI f)], [], M)
            refine hR _ (?_)
            show R (52, [some (aR 7 0), some (aI n), some (aI a), some (aI b), some (aI c), some (aI e), some (aI f)], [aI (-2)], M)
            refine hR _ (show K (some (aI (-2))) M from ?_)
            refine am_kr (hK0 (by omega)) ?_
            split
            all_goals omega
        · show R (31, [some (aR 7 0), some (aI n), some (aI a), some (aI b), some (aI c), some (aI e), some (aI f)], [aI 0], M)
          refine hR _ (am_brt (rg := am_in 0) (P := (0 : Int) = 0) (A := R (50, [some (aR 7 0), some (aI n), some (aI a), some (aI b), some (aI c), some (aI e), some (aI f)], [], M)) (B := R (34, [some (aR 7 0), some (aI n), some (aI a), some (aI b), some (aI c), some (aI e), some (aI f)], [], M)) (by omega) (by omega) ?_)
          show R (50, [some (aR 7 0), some (aI n), some (aI a), some (aI b), some (aI c), some (aI e), some (aI f)], [], M)
          refine hR _ (?_)
          show R (52, [some (aR 7 0), some (aI n), some (aI a), some (aI b), some (aI c), some (aI e), some (aI f)], [aI (-2)], M)
          refine hR _ (show K (some (aI (-2))) M from ?_)
          refine am_kr (hK0 (by omega)) ?_
          split
          all_goals omega
      · show R (23, [some (aR 7 0), some (aI n), some (aI a), some (aI b), some (aI c), some (aI e), some (aI f)], [aI 0], M)
        refine hR _ (am_brt (rg := am_in 0) (P := (0 : Int) = 0) (A := R (50, [some (aR 7 0), some (aI n), some (aI a), some (aI b), some (aI c), some (aI e), some (aI f)], [], M)) (B := R (26, [some (aR 7 0), some (aI n), some (aI a), some (aI b), some (aI c), some (aI e), some (aI f)], [], M)) (by omega) (by omega) ?_)
        show R (50, [some (aR 7 0), some (aI n), some (aI a), some (aI b), some (aI c), some (aI e), some (aI f)], [], M)
        refine hR _ (?_)
        show R (52, [some (aR 7 0), some (aI n), some (aI a), some (aI b), some (aI c), some (aI e), some (aI f)], [aI (-2)], M)
        refine hR _ (show K (some (aI (-2))) M from ?_)
        refine am_kr (hK0 (by omega)) ?_
        split
        all_goals omega
    · show R (16, [some (aR 7 0), some (aI n), some (aI a), some (aI b), some (aI c), some (aI e), some (aI f)], [aI 0], M)
      refine hR _ (am_brt (rg := am_in 0) (P := (0 : Int) = 0) (A := R (50, [some (aR 7 0), some (aI n), some (aI a), some (aI b), some (aI c), some (aI e), some (aI f)], [], M)) (B := R (19, [some (aR 7 0), some (aI n), some (aI a), some (aI b), some (aI c), some (aI e), some (aI f)], [], M)) (by omega) (by omega) ?_)
      show R (50, [some (aR 7 0), some (aI n), some (aI a), some (aI b), some (aI c), some (aI e), some (aI f)], [], M)
      refine hR _ (?_)
      show R (52, [some (aR 7 0), some (aI n), some (aI a), some (aI b), some (aI c), some (aI e), some (aI f)], [aI (-2)], M)
      refine hR _ (show K (some (aI (-2))) M from ?_)
      refine am_kr (hK0 (by omega)) ?_
      split
      all_goals omega
  · show R (6, [some (aR 7 0), some (aI n), some (aI a), some (aI b), some (aI c), some (aI e), some (aI f)], [aI 0], M)
    refine hR _ (am_brf (rg := am_in 0) (P := (0 : Int) ≠ 0) (A := R (12, [some (aR 7 0), some (aI n), some (aI a), some (aI b), some (aI c), some (aI e), some (aI f)], [], M)) (B := R (9, [some (aR 7 0), some (aI n), some (aI a), some (aI b), some (aI c), some (aI e), some (aI f)], [], M)) (by omega) (by omega) ?_)
    show R (9, [some (aR 7 0), some (aI n), some (aI a), some (aI b), some (aI c), some (aI e), some (aI f)], [], M)
    refine hR _ (?_)
    show R (11, [some (aR 7 0), some (aI n), some (aI a), some (aI b), some (aI c), some (aI e), some (aI f)], [aI (-2)], M)
    refine hR _ (show K (some (aI (-2))) M from ?_)
    refine am_kr (hK0 (by omega)) ?_
    split
    all_goals omega

theorem sq_force {d : Nat} (hd : 3 ≤ d) {t : Int} {M : am_M} {K : am_K} (hJ : jf_J M) (ha : am_in t) (hK1 : 0 ≤ t ∧ t < M 386 0 0 → K (some (aI (M 228 0 0))) (am_wr M 228 0 0 t)) (hK0 : ¬ (0 ≤ t ∧ t < M 386 0 0) → K (some (aI (-2))) M) : am_Call wb d 35 [aR 7 0, aI t] M K := by
  obtain ⟨d, rfl⟩ : ∃ e, d = e + 1 := ⟨d - 1, by omega⟩
  refine ⟨rfl, fun R hR hC => ?_⟩
  replace hR : ∀ c, am_F wb tb_f35 1 (am_Call wb d) K R c → R c := hR
  have hn := hJ.1.1.2.2.2.2.2.2.2.1
  have hl0 := hJ.1.1.2.2.2.2.2.2.2.2
  have htc := hJ.2.2.1.1
  have hlt : 0 ≤ M 228 0 0 ∧ M 228 0 0 < 6 := by omega
  have hmk := hJ.1.1.1
  have hdr := hJ.1.1.2.1
  have hpr := hJ.1.1.2.2.1
  have hfu := hJ.1.1.2.2.2.1
  show R (0, [some (aR 7 0), some (aI t), none], [], M)
  refine hR _ (hR _ (hR _ (hR _ (hR _ (hR _ (?_))))))
  show R (8, [some (aR 7 0), some (aI t), none], [aI (M 386 0 0 - 1), aI 0, aI t], M)
  refine hR _ (sp_within (by omega) (by omega) (fun h8 => ?_) (fun h8 => ?_))
  · show R (11, [some (aR 7 0), some (aI t), none], [aI 1], M)
    refine hR _ (am_brt (rg := am_in 1) (P := (1 : Int) ≠ 0) (A := R (17, [some (aR 7 0), some (aI t), none], [], M)) (B := R (14, [some (aR 7 0), some (aI t), none], [], M)) (by omega) (by omega) ?_)
    show R (17, [some (aR 7 0), some (aI t), none], [], M)
    refine hR _ (hR _ (hR _ (hR _ (hR _ (hR _ (hR _ (hR _ (hR _ (?_)))))))))
    show R (34, [some (aR 7 0), some (aI t), some (aI (M 228 0 0))], [aI (M 228 0 0)], am_wr M 228 0 0 t)
    refine hR _ (show K (some (aI (M 228 0 0))) (am_wr M 228 0 0 t) from ?_)
    exact hK1 (by omega)
  · show R (11, [some (aR 7 0), some (aI t), none], [aI 0], M)
    refine hR _ (am_brf (rg := am_in 0) (P := (0 : Int) ≠ 0) (A := R (17, [some (aR 7 0), some (aI t), none], [], M)) (B := R (14, [some (aR 7 0), some (aI t), none], [], M)) (by omega) (by omega) ?_)
    show R (14, [some (aR 7 0), some (aI t), none], [], M)
    refine hR _ (?_)
    show R (16, [some (aR 7 0), some (aI t), none], [aI (-2)], M)
    refine hR _ (show K (some (aI (-2))) M from ?_)
    exact hK0 (by omega)

theorem sq_asks {d : Nat} (hd : 4 ≤ d) {pt na oo mo : Int} {M : am_M} {K : am_K} (hJ : jf_J M) (ha_pt : am_in pt) (ha_na : am_in na) (ha_oo : am_in oo) (ha_mo : am_in mo) (hK1 : jg_asks pt na oo mo → ∀ g, K (some (aI (jv_asks M pt na oo mo))) (am_mix [12, 13, 14, 263, 264, 265, 266, 346, 17, 19, 100, 101, 102] g M)) (hK0 : ¬ jg_asks pt na oo mo → K (some (aI (-2))) M) : am_Call wb d 36 [aR 7 0, aI pt, aI na, aI oo, aI mo] M K := by
  obtain ⟨d, rfl⟩ : ∃ e, d = e + 1 := ⟨d - 1, by omega⟩
  refine ⟨rfl, fun R hR hC => ?_⟩
  replace hR : ∀ c, am_F wb tb_f36 1 (am_Call wb d) K R c → R c := hR
  have hn := hJ.1.1.2.2.2.2.2.2.2.1
  have hl0 := hJ.1.1.2.2.2.2.2.2.2.2
  have htc := hJ.2.2.1.1
  have hlt : 0 ≤ M 228 0 0 ∧ M 228 0 0 < 6 := by omega
  have hmk := hJ.1.1.1
  have hdr := hJ.1.1.2.1
  have hpr := hJ.1.1.2.2.1
  have hfu := hJ.1.1.2.2.2.1
  have hd1 := jf_dm na
  have hd2 := jf_dm oo
  show R (0, [some (aR 7 0), some (aI pt), some (aI na), some (aI oo), some (aI mo), none, none, none, none], [], M)
  refine hR _ (hR _ (?_))
  show R (3, [some (aR 7 0), some (aI pt), some (aI na), some (aI oo), some (aI mo), none, none, none, none], [aI 10, aI na], M)
  refine hR _ ⟨(by omega), ?_⟩
  show R (4, [some (aR 7 0), some (aI pt), some (aI na), some (aI oo), some (aI mo), none, none, none, none], [aI (Int.tdiv na 10)], M)
  refine hR _ (hR _ (hR _ (?_)))
  show R (9, [some (aR 7 0), some (aI pt), some (aI na), some (aI oo), some (aI mo), some (aI (Int.tdiv na 10)), none, none, none], [aI 10, aI na], M)
  refine hR _ ⟨(by omega), ?_⟩
  show R (10, [some (aR 7 0), some (aI pt), some (aI na), some (aI oo), some (aI mo), some (aI (Int.tdiv na 10)), none, none, none], [aI (Int.tmod na 10)], M)
  refine hR _ (hR _ (hR _ (?_)))
  show R (15, [some (aR 7 0), some (aI pt), some (aI na), some (aI oo), some (aI mo), some (aI (Int.tdiv na 10)), some (aI (Int.tmod na 10)), none, none], [aI 10, aI oo], M)
  refine hR _ ⟨(by omega), ?_⟩
  show R (16, [some (aR 7 0), some (aI pt), some (aI na), some (aI oo), some (aI mo), some (aI (Int.tdiv na 10)), some (aI (Int.tmod na 10)), none, none], [aI (Int.tdiv oo 10)], M)
  refine hR _ (hR _ (hR _ (?_)))
  show R (21, [some (aR 7 0), some (aI pt), some (aI na), some (aI oo), some (aI mo), some (aI (Int.tdiv na 10)), some (aI (Int.tmod na 10)), some (aI (Int.tdiv oo 10)), none], [aI 10, aI oo], M)
  refine hR _ ⟨(by omega), ?_⟩
  show R (22, [some (aR 7 0), some (aI pt), some (aI na), some (aI oo), some (aI mo), some (aI (Int.tdiv na 10)), some (aI (Int.tmod na 10)), some (aI (Int.tdiv oo 10)), none], [aI (Int.tmod oo 10)], M)
  refine hR _ (hR _ (hR _ (hR _ (?_))))
  show R (27, [some (aR 7 0), some (aI pt), some (aI na), some (aI oo), some (aI mo), some (aI (Int.tdiv na 10)), some (aI (Int.tmod na 10)), some (aI (Int.tdiv oo 10)), some (aI (Int.tmod oo 10))], [aI 2, aI 0, aI pt], M)
  refine hR _ (sp_within (by omega) (by omega) (fun h27 => ?_) (fun h27 => ?_))
  · show R (30, [some (aR 7 0), some (aI pt), some (aI na), some (aI oo), some (aI mo), some (aI (Int.tdiv na 10)), some (aI (Int.tmod na 10)), some (aI (Int.tdiv oo 10)), some (aI (Int.tmod oo 10))], [aI 1], M)
    refine hR _ (am_brf (rg := am_in 1) (P := (1 : Int) = 0) (A := R (53, [some (aR 7 0), some (aI pt), some (aI na), some (aI oo), some (aI mo), some (aI (Int.tdiv na 10)), some (aI (Int.tmod na 10)), some (aI (Int.tdiv oo 10)), some (aI (Int.tmod oo 10))], [], M)) (B := R (33, [some (aR 7 0), some (aI pt), some (aI na), some (aI oo), some (aI mo), some (aI (Int.tdiv na 10)), some (aI (Int.tmod na 10)), some (aI (Int.tdiv oo 10)), some (aI (Int.tmod oo 10))], [], M)) (by omega) (by omega) ?_)
    show R (33, [some (aR 7 0), some (aI pt), some (aI na), some (aI oo), some (aI mo), some (aI (Int.tdiv na 10)), some (aI (Int.tmod na 10)), some (aI (Int.tdiv oo 10)), some (aI (Int.tmod oo 10))], [], M)
    refine hR _ (hR _ (hR _ (?_)))
    show R (37, [some (aR 7 0), some (aI pt), some (aI na), some (aI oo), some (aI mo), some (aI (Int.tdiv na 10)), some (aI (Int.tmod na 10)), some (aI (Int.tdiv oo 10)), some (aI (Int.tmod oo 10))], [aI 3, aI 1, aI (Int.tdiv na 10)], M)
    refine hR _ (sp_within (by omega) (by omega) (fun h37 => ?_) (fun h37 => ?_))
    · show R (40, [some (aR 7 0), some (aI pt), some (aI na), some (aI oo), some (aI mo), some (aI (Int.tdiv na 10)), some (aI (Int.tmod na 10)), some (aI (Int.tdiv oo 10)), some (aI (Int.tmod oo 10))], [aI 1], M)
      refine hR _ (am_brf (rg := am_in 1) (P := (1 : Int) = 0) (A := R (53, [some (aR 7 0), some (aI pt), some (aI na), some (aI oo), some (aI mo), some (aI (Int.tdiv na 10)), some (aI (Int.tmod na 10)), some (aI (Int.tdiv oo 10)), some (aI (Int.tmod oo 10))], [], M)) (B := R (43, [some (aR 7 0), some (aI pt), some (aI na), some (aI oo), some (aI mo), some (aI (Int.tdiv na 10)), some (aI (Int.tmod na 10)), some (aI (Int.tdiv oo 10)), some (aI (Int.tmod oo 10))], [], M)) (by omega) (by omega) ?_)
      show R (43, [some (aR 7 0), some (aI pt), some (aI na), some (aI oo), some (aI mo), some (aI (Int.tdiv na 10)), some (aI (Int.tmod na 10)), some (aI (Int.tdiv oo 10)), some (aI (Int.tmod oo 10))], [], M)
      refine hR _ (hR _ (hR _ (?_)))
      show R (47, [some (aR 7 0), some (aI pt), some (aI na), some (aI oo), some (aI mo), some (aI (Int.tdiv na 10)), some (aI (Int.tmod na 10)), some (aI (Int.tdiv oo 10)), some (aI (Int.tmod oo 10))], [aI 4, aI 0, aI (Int.tmod na 10)], M)
      refine hR _ (sp_within (by omega) (by omega) (fun h47 => ?_) (fun h47 => ?_))
      · show R (50, [some (aR 7 0), some (aI pt), some (aI na), some (aI oo), some (aI mo), some (aI (Int.tdiv na 10)), some (aI (Int.tmod na 10)), some (aI (Int.tdiv oo 10)), some (aI (Int.tmod oo 10))], [aI 1], M)
        refine hR _ (am_brt (rg := am_in 1) (P := (1 : Int) ≠ 0) (A := R (56, [some (aR 7 0), some (aI pt), some (aI na), some (aI oo), some (aI mo), some (aI (Int.tdiv na 10)), some (aI (Int.tmod na 10)), some (aI (Int.tdiv oo 10)), some (aI (Int.tmod oo 10))], [], M)) (B := R (53, [some (aR 7 0), some (aI pt), some (aI na), some (aI oo), some (aI mo), some (aI (Int.tdiv na 10)), some (aI (Int.tmod na 10)), some (aI (Int.tdiv oo 10)), some (aI (Int.tmod oo 10))], [], M)) (by omega) (by omega) ?_)
        show R (56, [some (aR 7 0), some (aI pt), some (aI na), some (aI oo), some (aI mo), some (aI (Int.tdiv na 10)), some (aI (Int.tmod na 10)), some (aI (Int.tdiv oo 10)), some (aI (Int.tmod oo 10))], [], M)
        refine hR _ (hR _ (hR _ (?_)))
        show R (62, [some (aR 7 0), some (aI pt), some (aI na), some (aI oo), some (aI mo), some (aI (Int.tdiv na 10)), some (aI (Int.tmod na 10)), some (aI (Int.tdiv oo 10)), some (aI (Int.tmod oo 10))], [aI 999, aI 0, aI (Int.tdiv oo 10)], M)
        refine hR _ (sp_within (by omega) (by omega) (fun h62 => ?_) (fun h62 => ?_))
        · show R (65, [some (aR 7 0), some (aI pt), some (aI na), some (aI oo), some (aI mo), some (aI (Int.tdiv na 10)), some (aI (Int.tmod na 10)), some (aI (Int.tdiv oo 10)), some (aI (Int.tmod oo 10))], [aI 1], M)
          refine hR _ (am_brf (rg := am_in 1) (P := (1 : Int) = 0) (A := R (89, [some (aR 7 0), some (aI pt), some (aI na), some (aI oo), some (aI mo), some (aI (Int.tdiv na 10)), some (aI (Int.tmod na 10)), some (aI (Int.tdiv oo 10)), some (aI (Int.tmod oo 10))], [], M)) (B := R (68, [some (aR 7 0), some (aI pt), some (aI na), some (aI oo), some (aI mo), some (aI (Int.tdiv na 10)), some (aI (Int.tmod na 10)), some (aI (Int.tdiv oo 10)), some (aI (Int.tmod oo 10))], [], M)) (by omega) (by omega) ?_)
          show R (68, [some (aR 7 0), some (aI pt), some (aI na), some (aI oo), some (aI mo), some (aI (Int.tdiv na 10)), some (aI (Int.tmod na 10)), some (aI (Int.tdiv oo 10)), some (aI (Int.tmod oo 10))], [], M)
          refine hR _ (hR _ (hR _ (?_)))
          show R (72, [some (aR 7 0), some (aI pt), some (aI na), some (aI oo), some (aI mo), some (aI (Int.tdiv na 10)), some (aI (Int.tmod na 10)), some (aI (Int.tdiv oo 10)), some (aI (Int.tmod oo 10))], [aI 1, aI 0, aI (Int.tmod oo 10)], M)
          refine hR _ (sp_within (by omega) (by omega) (fun h72 => ?_) (fun h72 => ?_))
          · show R (75, [some (aR 7 0), some (aI pt), some (aI na), some (aI oo), some (aI mo), some (aI (Int.tdiv na 10)), some (aI (Int.tmod na 10)), some (aI (Int.tdiv oo 10)), some (aI (Int.tmod oo 10))], [aI 1], M)
            refine hR _ (am_brf (rg := am_in 1) (P := (1 : Int) = 0) (A := R (89, [some (aR 7 0), some (aI pt), some (aI na), some (aI oo), some (aI mo), some (aI (Int.tdiv na 10)), some (aI (Int.tmod na 10)), some (aI (Int.tdiv oo 10)), some (aI (Int.tmod oo 10))], [], M)) (B := R (78, [some (aR 7 0), some (aI pt), some (aI na), some (aI oo), some (aI mo), some (aI (Int.tdiv na 10)), some (aI (Int.tmod na 10)), some (aI (Int.tdiv oo 10)), some (aI (Int.tmod oo 10))], [], M)) (by omega) (by omega) ?_)
            show R (78, [some (aR 7 0), some (aI pt), some (aI na), some (aI oo), some (aI mo), some (aI (Int.tdiv na 10)), some (aI (Int.tmod na 10)), some (aI (Int.tdiv oo 10)), some (aI (Int.tmod oo 10))], [], M)
            refine hR _ (hR _ (hR _ (?_)))
            show R (83, [some (aR 7 0), some (aI pt), some (aI na), some (aI oo), some (aI mo), some (aI (Int.tdiv na 10)), some (aI (Int.tmod na 10)), some (aI (Int.tdiv oo 10)), some (aI (Int.tmod oo 10))], [aI 9, aI 0, aI mo], M)
            refine hR _ (sp_within (by omega) (by omega) (fun h83 => ?_) (fun h83 => ?_))
            · show R (86, [some (aR 7 0), some (aI pt), some (aI na), some (aI oo), some (aI mo), some (aI (Int.tdiv na 10)), some (aI (Int.tmod na 10)), some (aI (Int.tdiv oo 10)), some (aI (Int.tmod oo 10))], [aI 1], M)
              refine hR _ (am_brt (rg := am_in 1) (P := (1 : Int) ≠ 0) (A := R (92, [some (aR 7 0), some (aI pt), some (aI na), some (aI oo), some (aI mo), some (aI (Int.tdiv na 10)), some (aI (Int.tmod na 10)), some (aI (Int.tdiv oo 10)), some (aI (Int.tmod oo 10))], [], M)) (B := R (89, [some (aR 7 0), some (aI pt), some (aI na), some (aI oo), some (aI mo), some (aI (Int.tdiv na 10)), some (aI (Int.tmod na 10)), some (aI (Int.tdiv oo 10)), some (aI (Int.tmod oo 10))], [], M)) (by omega) (by omega) ?_)
              show R (92, [some (aR 7 0), some (aI pt), some (aI na), some (aI oo), some (aI mo), some (aI (Int.tdiv na 10)), some (aI (Int.tmod na 10)), some (aI (Int.tdiv oo 10)), some (aI (Int.tmod oo 10))], [], M)
              have hwt := (hJ.wk (k := 0) (by omega)).2.2
              have hgood : jg_asks pt na oo mo := ⟨by omega, by omega, by omega, by omega, by omega, by omega⟩
              replace hK := hK1 hgood
              obtain hp | hp | hp : pt = 0 ∨ pt = 1 ∨ pt = 2 := by omega
              · subst hp
                refine hR _ (?_)
                show R (93, [some (aR 7 0), some (aI 0), some (aI na), some (aI oo), some (aI mo), some (aI (Int.tdiv na 10)), some (aI (Int.tmod na 10)), some (aI (Int.tdiv oo 10)), some (aI (Int.tmod oo 10))], [aR 7 0], M)
                refine hR _ (sp_lawText (by omega) hlt ?_)
                show R (96, [some (aR 7 0), some (aI 0), some (aI na), some (aI oo), some (aI mo), some (aI (Int.tdiv na 10)), some (aI (Int.tmod na 10)), some (aI (Int.tdiv oo 10)), some (aI (Int.tmod oo 10))], [aR 6 ((M 228 0 0).toNat)], M)
                refine hR _ (hR _ (hR _ (hR _ (hR _ (hR _ (hR _ (hR _ (hR _ (?_)))))))))
                show R (114, [some (aR 7 0), some (aI 0), some (aI na), some (aI oo), some (aI mo), some (aI (Int.tdiv na 10)), some (aI (Int.tmod na 10)), some (aI (Int.tdiv oo 10)), some (aI (Int.tmod oo 10))], [aI (M 222 0 0), aI mo, aI (Int.tmod oo 10), aI (Int.tdiv oo 10), aI (Int.tmod na 10), aI (Int.tdiv na 10), aI 0, aR 6 ((M 228 0 0).toNat)], M)
                refine hR _ (am_ct (am_vi (by omega : (M 228 0 0).toNat < 6)) (sp_says_0 (by omega) (by omega) hwt ⟨by omega, by omega, by omega, by omega, by omega, by omega⟩ (fun g118 => ?_)))
                show R (117, [some (aR 7 0), some (aI 0), some (aI na), some (aI oo), some (aI mo), some (aI (Int.tdiv na 10)), some (aI (Int.tmod na 10)), some (aI (Int.tdiv oo 10)), some (aI (Int.tmod oo 10))], [aI (jf_cl 0 (jf_val (jf_nm (Int.tdiv na 10) (Int.tmod na 10) (Int.tdiv oo 10) (Int.tmod oo 10) mo (M 222 0 0)) (jf_tk M (M 228 0 0).toNat 0)))], am_mix [346, 17, 19] g118 M)
                refine hR _ (show K (some (aI (jf_cl 0 (jf_val (jf_nm (Int.tdiv na 10) (Int.tmod na 10) (Int.tdiv oo 10) (Int.tmod oo 10) mo (M 222 0 0)) (jf_tk M (M 228 0 0).toNat 0))))) (am_mix [346, 17, 19] g118 M) from ?_)
                have e9 : am_ag [12, 13, 14, 263, 264, 265, 266, 346, 17, 19, 100, 101, 102] M (am_mix [346, 17, 19] g118 M) := (am_ag.rf).mix rfl
                rw [e9.eq]
                exact hK _
              · subst hp
                refine hR _ (?_)
                show R (93, [some (aR 7 0), some (aI 1), some (aI na), some (aI oo), some (aI mo), some (aI (Int.tdiv na 10)), some (aI (Int.tmod na 10)), some (aI (Int.tdiv oo 10)), some (aI (Int.tmod oo 10))], [aR 7 0], M)
                refine hR _ (sp_lawText (by omega) hlt ?_)
                show R (96, [some (aR 7 0), some (aI 1), some (aI na), some (aI oo), some (aI mo), some (aI (Int.tdiv na 10)), some (aI (Int.tmod na 10)), some (aI (Int.tdiv oo 10)), some (aI (Int.tmod oo 10))], [aR 6 ((M 228 0 0).toNat)], M)
                refine hR _ (hR _ (hR _ (hR _ (hR _ (hR _ (hR _ (hR _ (hR _ (?_)))))))))
                show R (114, [some (aR 7 0), some (aI 1), some (aI na), some (aI oo), some (aI mo), some (aI (Int.tdiv na 10)), some (aI (Int.tmod na 10)), some (aI (Int.tdiv oo 10)), some (aI (Int.tmod oo 10))], [aI (M 222 0 0), aI mo, aI (Int.tmod oo 10), aI (Int.tdiv oo 10), aI (Int.tmod na 10), aI (Int.tdiv na 10), aI 1, aR 6 ((M 228 0 0).toNat)], M)
                refine hR _ (am_ct (am_vi (by omega : (M 228 0 0).toNat < 6)) (sp_says_1 (by omega) (by omega) hwt ⟨by omega, by omega, by omega, by omega, by omega, by omega⟩ (fun g119 => ?_)))
                show R (117, [some (aR 7 0), some (aI 1), some (aI na), some (aI oo), some (aI mo), some (aI (Int.tdiv na 10)), some (aI (Int.tmod na 10)), some (aI (Int.tdiv oo 10)), some (aI (Int.tmod oo 10))], [aI (jf_cl 1 (jf_val (jf_nm (Int.tdiv na 10) (Int.tmod na 10) (Int.tdiv oo 10) (Int.tmod oo 10) mo (M 222 0 0)) (jf_tk M (M 228 0 0).toNat 1)))], am_mix [346, 17, 19] g119 M)
                refine hR _ (show K (some (aI (jf_cl 1 (jf_val (jf_nm (Int.tdiv na 10) (Int.tmod na 10) (Int.tdiv oo 10) (Int.tmod oo 10) mo (M 222 0 0)) (jf_tk M (M 228 0 0).toNat 1))))) (am_mix [346, 17, 19] g119 M) from ?_)
                have e9 : am_ag [12, 13, 14, 263, 264, 265, 266, 346, 17, 19, 100, 101, 102] M (am_mix [346, 17, 19] g119 M) := (am_ag.rf).mix rfl
                rw [e9.eq]
                exact hK _
              · subst hp
                refine hR _ (?_)
                show R (93, [some (aR 7 0), some (aI 2), some (aI na), some (aI oo), some (aI mo), some (aI (Int.tdiv na 10)), some (aI (Int.tmod na 10)), some (aI (Int.tdiv oo 10)), some (aI (Int.tmod oo 10))], [aR 7 0], M)
                refine hR _ (sp_lawText (by omega) hlt ?_)
                show R (96, [some (aR 7 0), some (aI 2), some (aI na), some (aI oo), some (aI mo), some (aI (Int.tdiv na 10)), some (aI (Int.tmod na 10)), some (aI (Int.tdiv oo 10)), some (aI (Int.tmod oo 10))], [aR 6 ((M 228 0 0).toNat)], M)
                refine hR _ (hR _ (hR _ (hR _ (hR _ (hR _ (hR _ (hR _ (hR _ (?_)))))))))
                show R (114, [some (aR 7 0), some (aI 2), some (aI na), some (aI oo), some (aI mo), some (aI (Int.tdiv na 10)), some (aI (Int.tmod na 10)), some (aI (Int.tdiv oo 10)), some (aI (Int.tmod oo 10))], [aI (M 222 0 0), aI mo, aI (Int.tmod oo 10), aI (Int.tdiv oo 10), aI (Int.tmod na 10), aI (Int.tdiv na 10), aI 2, aR 6 ((M 228 0 0).toNat)], M)
                refine hR _ (am_ct (am_vi (by omega : (M 228 0 0).toNat < 6)) (sp_says_2 (by omega) (by omega) hwt ⟨by omega, by omega, by omega, by omega, by omega, by omega⟩ (fun g120 => ?_)))
                show R (117, [some (aR 7 0), some (aI 2), some (aI na), some (aI oo), some (aI mo), some (aI (Int.tdiv na 10)), some (aI (Int.tmod na 10)), some (aI (Int.tdiv oo 10)), some (aI (Int.tmod oo 10))], [aI (jf_cl 2 (jf_val (jf_nm (Int.tdiv na 10) (Int.tmod na 10) (Int.tdiv oo 10) (Int.tmod oo 10) mo (M 222 0 0)) (jf_tk M (M 228 0 0).toNat 2)))], am_mix [346, 17, 19] g120 M)
                refine hR _ (show K (some (aI (jf_cl 2 (jf_val (jf_nm (Int.tdiv na 10) (Int.tmod na 10) (Int.tdiv oo 10) (Int.tmod oo 10) mo (M 222 0 0)) (jf_tk M (M 228 0 0).toNat 2))))) (am_mix [346, 17, 19] g120 M) from ?_)
                have e9 : am_ag [12, 13, 14, 263, 264, 265, 266, 346, 17, 19, 100, 101, 102] M (am_mix [346, 17, 19] g120 M) := (am_ag.rf).mix rfl
                rw [e9.eq]
                exact hK _
            · show R (86, [some (aR 7 0), some (aI pt), some (aI na), some (aI oo), some (aI mo), some (aI (Int.tdiv na 10)), some (aI (Int.tmod na 10)), some (aI (Int.tdiv oo 10)), some (aI (Int.tmod oo 10))], [aI 0], M)
              refine hR _ (am_brf (rg := am_in 0) (P := (0 : Int) ≠ 0) (A := R (92, [some (aR 7 0), some (aI pt), some (aI na), some (aI oo), some (aI mo), some (aI (Int.tdiv na 10)), some (aI (Int.tmod na 10)), some (aI (Int.tdiv oo 10)), some (aI (Int.tmod oo 10))], [], M)) (B := R (89, [some (aR 7 0), some (aI pt), some (aI na), some (aI oo), some (aI mo), some (aI (Int.tdiv na 10)), some (aI (Int.tmod na 10)), some (aI (Int.tdiv oo 10)), some (aI (Int.tmod oo 10))], [], M)) (by omega) (by omega) ?_)
              show R (89, [some (aR 7 0), some (aI pt), some (aI na), some (aI oo), some (aI mo), some (aI (Int.tdiv na 10)), some (aI (Int.tmod na 10)), some (aI (Int.tdiv oo 10)), some (aI (Int.tmod oo 10))], [], M)
              refine hR _ (?_)
              show R (91, [some (aR 7 0), some (aI pt), some (aI na), some (aI oo), some (aI mo), some (aI (Int.tdiv na 10)), some (aI (Int.tmod na 10)), some (aI (Int.tdiv oo 10)), some (aI (Int.tmod oo 10))], [aI (-2)], M)
              refine hR _ (show K (some (aI (-2))) M from ?_)
              exact hK0 (fun hg => by unfold jg_asks at hg; omega)
          · show R (75, [some (aR 7 0), some (aI pt), some (aI na), some (aI oo), some (aI mo), some (aI (Int.tdiv na 10)), some (aI (Int.tmod na 10)), some (aI (Int.tdiv oo 10)), some (aI (Int.tmod oo 10))], [aI 0], M)
            refine hR _ (am_brt (rg := am_in 0) (P := (0 : Int) = 0) (A := R (89, [some (aR 7 0), some (aI pt), some (aI na), some (aI oo), some (aI mo), some (aI (Int.tdiv na 10)), some (aI (Int.tmod na 10)), some (aI (Int.tdiv oo 10)), some (aI (Int.tmod oo 10))], [], M)) (B := R (78, [some (aR 7 0), some (aI pt), some (aI na), some (aI oo), some (aI mo), some (aI (Int.tdiv na 10)), some (aI (Int.tmod na 10)), some (aI (Int.tdiv oo 10)), some (aI (Int.tmod oo 10))], [], M)) (by omega) (by omega) ?_)
            show R (89, [some (aR 7 0), some (aI pt), some (aI na), some (aI oo), some (aI mo), some (aI (Int.tdiv na 10)), some (aI (Int.tmod na 10)), some (aI (Int.tdiv oo 10)), some (aI (Int.tmod oo 10))], [], M)
            refine hR _ (?_)
            show R (91, [some (aR 7 0), some (aI pt), some (aI na), some (aI oo), some (aI mo), some (aI (Int.tdiv na 10)), some (aI (Int.tmod na 10)), some (aI (Int.tdiv oo 10)), some (aI (Int.tmod oo 10))], [aI (-2)], M)
            refine hR _ (show K (some (aI (-2))) M from ?_)
            exact hK0 (fun hg => by unfold jg_asks at hg; omega)
        · show R (65, [some (aR 7 0), some (aI pt), some (aI na), some (aI oo), some (aI mo), some (aI (Int.tdiv na 10)), some (aI (Int.tmod na 10)), some (aI (Int.tdiv oo 10)), some (aI (Int.tmod oo 10))], [aI 0], M)
          refine hR _ (am_brt (rg := am_in 0) (P := (0 : Int) = 0) (A := R (89, [some (aR 7 0), some (aI pt), some (aI na), some (aI oo), some (aI mo), some (aI (Int.tdiv na 10)), some (aI (Int.tmod na 10)), some (aI (Int.tdiv oo 10)), some (aI (Int.tmod oo 10))], [], M)) (B := R (68, [some (aR 7 0), some (aI pt), some (aI na), some (aI oo), some (aI mo), some (aI (Int.tdiv na 10)), some (aI (Int.tmod na 10)), some (aI (Int.tdiv oo 10)), some (aI (Int.tmod oo 10))], [], M)) (by omega) (by omega) ?_)
          show R (89, [some (aR 7 0), some (aI pt), some (aI na), some (aI oo), some (aI mo), some (aI (Int.tdiv na 10)), some (aI (Int.tmod na 10)), some (aI (Int.tdiv oo 10)), some (aI (Int.tmod oo 10))], [], M)
          refine hR _ (?_)
          show R (91, [some (aR 7 0), some (aI pt), some (aI na), some (aI oo), some (aI mo), some (aI (Int.tdiv na 10)), some (aI (Int.tmod na 10)), some (aI (Int.tdiv oo 10)), some (aI (Int.tmod oo 10))], [aI (-2)], M)
          refine hR _ (show K (some (aI (-2))) M from ?_)
          exact hK0 (fun hg => by unfold jg_asks at hg; omega)
      · show R (50, [some (aR 7 0), some (aI pt), some (aI na), some (aI oo), some (aI mo), some (aI (Int.tdiv na 10)), some (aI (Int.tmod na 10)), some (aI (Int.tdiv oo 10)), some (aI (Int.tmod oo 10))], [aI 0], M)
        refine hR _ (am_brf (rg := am_in 0) (P := (0 : Int) ≠ 0) (A := R (56, [some (aR 7 0), some (aI pt), some (aI na), some (aI oo), some (aI mo), some (aI (Int.tdiv na 10)), some (aI (Int.tmod na 10)), some (aI (Int.tdiv oo 10)), some (aI (Int.tmod oo 10))], [], M)) (B := R (53, [some (aR 7 0), some (aI pt), some (aI na), some (aI oo), some (aI mo), some (aI (Int.tdiv na 10)), some (aI (Int.tmod na 10)), some (aI (Int.tdiv oo 10)), some (aI (Int.tmod oo 10))], [], M)) (by omega) (by omega) ?_)
        show R (53, [some (aR 7 0), some (aI pt), some (aI na), some (aI oo), some (aI mo), some (aI (Int.tdiv na 10)), some (aI (Int.tmod na 10)), some (aI (Int.tdiv oo 10)), some (aI (Int.tmod oo 10))], [], M)
        refine hR _ (?_)
        show R (55, [some (aR 7 0), some (aI pt), some (aI na), some (aI oo), some (aI mo), some (aI (Int.tdiv na 10)), some (aI (Int.tmod na 10)), some (aI (Int.tdiv oo 10)), some (aI (Int.tmod oo 10))], [aI (-2)], M)
        refine hR _ (show K (some (aI (-2))) M from ?_)
        exact hK0 (fun hg => by unfold jg_asks at hg; omega)
    · show R (40, [some (aR 7 0), some (aI pt), some (aI na), some (aI oo), some (aI mo), some (aI (Int.tdiv na 10)), some (aI (Int.tmod na 10)), some (aI (Int.tdiv oo 10)), some (aI (Int.tmod oo 10))], [aI 0], M)
      refine hR _ (am_brt (rg := am_in 0) (P := (0 : Int) = 0) (A := R (53, [some (aR 7 0), some (aI pt), some (aI na), some (aI oo), some (aI mo), some (aI (Int.tdiv na 10)), some (aI (Int.tmod na 10)), some (aI (Int.tdiv oo 10)), some (aI (Int.tmod oo 10))], [], M)) (B := R (43, [some (aR 7 0), some (aI pt), some (aI na), some (aI oo), some (aI mo), some (aI (Int.tdiv na 10)), some (aI (Int.tmod na 10)), some (aI (Int.tdiv oo 10)), some (aI (Int.tmod oo 10))], [], M)) (by omega) (by omega) ?_)
      show R (53, [some (aR 7 0), some (aI pt), some (aI na), some (aI oo), some (aI mo), some (aI (Int.tdiv na 10)), some (aI (Int.tmod na 10)), some (aI (Int.tdiv oo 10)), some (aI (Int.tmod oo 10))], [], M)
      refine hR _ (?_)
      show R (55, [some (aR 7 0), some (aI pt), some (aI na), some (aI oo), some (aI mo), some (aI (Int.tdiv na 10)), some (aI (Int.tmod na 10)), some (aI (Int.tdiv oo 10)), some (aI (Int.tmod oo 10))], [aI (-2)], M)
      refine hR _ (show K (some (aI (-2))) M from ?_)
      exact hK0 (fun hg => by unfold jg_asks at hg; omega)
  · show R (30, [some (aR 7 0), some (aI pt), some (aI na), some (aI oo), some (aI mo), some (aI (Int.tdiv na 10)), some (aI (Int.tmod na 10)), some (aI (Int.tdiv oo 10)), some (aI (Int.tmod oo 10))], [aI 0], M)
    refine hR _ (am_brt (rg := am_in 0) (P := (0 : Int) = 0) (A := R (53, [some (aR 7 0), some (aI pt), some (aI na), some (aI oo), some (aI mo), some (aI (Int.tdiv na 10)), some (aI (Int.tmod na 10)), some (aI (Int.tdiv oo 10)), some (aI (Int.tmod oo 10))], [], M)) (B := R (33, [some (aR 7 0), some (aI pt), some (aI na), some (aI oo), some (aI mo), some (aI (Int.tdiv na 10)), some (aI (Int.tmod na 10)), some (aI (Int.tdiv oo 10)), some (aI (Int.tmod oo 10))], [], M)) (by omega) (by omega) ?_)
    show R (53, [some (aR 7 0), some (aI pt), some (aI na), some (aI oo), some (aI mo), some (aI (Int.tdiv na 10)), some (aI (Int.tmod na 10)), some (aI (Int.tdiv oo 10)), some (aI (Int.tmod oo 10))], [], M)
    refine hR _ (?_)
    show R (55, [some (aR 7 0), some (aI pt), some (aI na), some (aI oo), some (aI mo), some (aI (Int.tdiv na 10)), some (aI (Int.tmod na 10)), some (aI (Int.tdiv oo 10)), some (aI (Int.tmod oo 10))], [aI (-2)], M)
    refine hR _ (show K (some (aI (-2))) M from ?_)
    exact hK0 (fun hg => by unfold jg_asks at hg; omega)

theorem sq_hand {d : Nat} (hd : 3 ≤ d) {km ah ch : Int} {M : am_M} {K : am_K} (hn : 0 ≤ M 227 0 0 ∧ M 227 0 0 ≤ 5) (ha_km : am_in km) (ha_ah : am_in ah) (ha_ch : am_in ch) (hK1 : ((0 ≤ km ∧ km ≤ 59) ∧ (0 ≤ ah ∧ ah ≤ 99) ∧ 0 ≤ ch ∧ ch ≤ 500) → M 227 0 0 < 5 → K (some (aI (M 227 0 0))) (am_wr (am_wr (am_wr (am_wr (am_wr M 140 (M 227 0 0).toNat 0 (Int.tdiv km 10)) 141 (M 227 0 0).toNat 0 (Int.tmod km 10)) 142 (M 227 0 0).toNat 0 ah) 143 (M 227 0 0).toNat 0 ch) 227 0 0 (M 227 0 0 + 1))) (hK0 : ¬ (((0 ≤ km ∧ km ≤ 59) ∧ (0 ≤ ah ∧ ah ≤ 99) ∧ 0 ≤ ch ∧ ch ≤ 500) ∧ M 227 0 0 < 5) → K (some (aI (if (0 ≤ km ∧ km ≤ 59) ∧ (0 ≤ ah ∧ ah ≤ 99) ∧ 0 ≤ ch ∧ ch ≤ 500 then -4 else -2))) M) : am_Call wb d 44 [aR 7 0, aI km, aI ah, aI ch] M K := by
  obtain ⟨d, rfl⟩ : ∃ e, d = e + 1 := ⟨d - 1, by omega⟩
  refine ⟨rfl, fun R hR hC => ?_⟩
  replace hR : ∀ c, am_F wb tb_f44 1 (am_Call wb d) K R c → R c := hR
  have hd1 := jf_dm km
  show R (0, [some (aR 7 0), some (aI km), some (aI ah), some (aI ch)], [], M)
  refine hR _ (hR _ (hR _ (?_)))
  show R (4, [some (aR 7 0), some (aI km), some (aI ah), some (aI ch)], [aI 59, aI 0, aI km], M)
  refine hR _ (sp_within (by omega) (by omega) (fun h4 => ?_) (fun h4 => ?_))
  · show R (7, [some (aR 7 0), some (aI km), some (aI ah), some (aI ch)], [aI 1], M)
    refine hR _ (am_brt (rg := am_in 1) (P := (1 : Int) ≠ 0) (A := R (13, [some (aR 7 0), some (aI km), some (aI ah), some (aI ch)], [], M)) (B := R (10, [some (aR 7 0), some (aI km), some (aI ah), some (aI ch)], [], M)) (by omega) (by omega) ?_)
    show R (13, [some (aR 7 0), some (aI km), some (aI ah), some (aI ch)], [], M)
    refine hR _ (hR _ (hR _ (?_)))
    show R (17, [some (aR 7 0), some (aI km), some (aI ah), some (aI ch)], [aI 99, aI 0, aI ah], M)
    refine hR _ (sp_within (by omega) (by omega) (fun h17 => ?_) (fun h17 => ?_))
    · show R (20, [some (aR 7 0), some (aI km), some (aI ah), some (aI ch)], [aI 1], M)
      refine hR _ (am_brf (rg := am_in 1) (P := (1 : Int) = 0) (A := R (34, [some (aR 7 0), some (aI km), some (aI ah), some (aI ch)], [], M)) (B := R (23, [some (aR 7 0), some (aI km), some (aI ah), some (aI ch)], [], M)) (by omega) (by omega) ?_)
      show R (23, [some (aR 7 0), some (aI km), some (aI ah), some (aI ch)], [], M)
      refine hR _ (hR _ (hR _ (?_)))
      show R (28, [some (aR 7 0), some (aI km), some (aI ah), some (aI ch)], [aI 500, aI 0, aI ch], M)
      refine hR _ (sp_within (by omega) (by omega) (fun h28 => ?_) (fun h28 => ?_))
      · show R (31, [some (aR 7 0), some (aI km), some (aI ah), some (aI ch)], [aI 1], M)
        refine hR _ (am_brt (rg := am_in 1) (P := (1 : Int) ≠ 0) (A := R (37, [some (aR 7 0), some (aI km), some (aI ah), some (aI ch)], [], M)) (B := R (34, [some (aR 7 0), some (aI km), some (aI ah), some (aI ch)], [], M)) (by omega) (by omega) ?_)
        show R (37, [some (aR 7 0), some (aI km), some (aI ah), some (aI ch)], [], M)
        refine hR _ (hR _ (hR _ (hR _ (hR _ (hR _ (hR _ (hR _ (hR _ (?_)))))))))
        show R (52, [some (aR 7 0), some (aI km), some (aI ah), some (aI ch)], [aI 4, aI 0, aI (M 227 0 0)], M)
        refine hR _ (sp_within (by omega) (by omega) (fun h52 => ?_) (fun h52 => ?_))
        · show R (55, [some (aR 7 0), some (aI km), some (aI ah), some (aI ch)], [aI 1], M)
          refine hR _ (am_brt (rg := am_in 1) (P := (1 : Int) ≠ 0) (A := R (61, [some (aR 7 0), some (aI km), some (aI ah), some (aI ch)], [], M)) (B := R (58, [some (aR 7 0), some (aI km), some (aI ah), some (aI ch)], [], M)) (by omega) (by omega) ?_)
          show R (61, [some (aR 7 0), some (aI km), some (aI ah), some (aI ch)], [], M)
          refine hR _ (hR _ (hR _ (hR _ (hR _ (?_)))))
          show R (72, [some (aR 7 0), some (aI km), some (aI ah), some (aI ch)], [aI (M 227 0 0), aR 9 0], M)
          refine hR _ ⟨(show 0 ≤ (M 227 0 0 : Int) ∧ (M 227 0 0 : Int) < 5 from (by omega)), ?_⟩
          show R (73, [some (aR 7 0), some (aI km), some (aI ah), some (aI ch)], [aR 1 ((M 227 0 0).toNat)], M)
          refine hR _ (hR _ (?_))
          show R (76, [some (aR 7 0), some (aI km), some (aI ah), some (aI ch)], [aI 10, aI km, aR 1 ((M 227 0 0).toNat)], M)
          refine hR _ ⟨(by omega), ?_⟩
          show R (77, [some (aR 7 0), some (aI km), some (aI ah), some (aI ch)], [aI (Int.tdiv km 10), aR 1 ((M 227 0 0).toNat)], M)
          refine hR _ (hR _ (?_))
          show R (80, [some (aR 7 0), some (aI km), some (aI ah), some (aI ch)], [aI 10, aI km, aI (Int.tdiv km 10), aR 1 ((M 227 0 0).toNat)], M)
          refine hR _ ⟨(by omega), ?_⟩
          show R (81, [some (aR 7 0), some (aI km), some (aI ah), some (aI ch)], [aI (Int.tmod km 10), aI (Int.tdiv km 10), aR 1 ((M 227 0 0).toNat)], M)
          refine hR _ (hR _ (?_))
          show R (83, [some (aR 7 0), some (aI km), some (aI ah), some (aI ch)], [aI ch, aI ah, aI (Int.tmod km 10), aI (Int.tdiv km 10), aR 1 ((M 227 0 0).toNat)], M)
          refine hR _ (am_ct (am_vi (by omega : (M 227 0 0).toNat < 6)) (sp_Hand_become (by omega) (by omega) ?_))
          show R (86, [some (aR 7 0), some (aI km), some (aI ah), some (aI ch)], [], am_wr (am_wr (am_wr (am_wr M 140 ((M 227 0 0).toNat) 0 (Int.tdiv km 10)) 141 ((M 227 0 0).toNat) 0 (Int.tmod km 10)) 142 ((M 227 0 0).toNat) 0 ah) 143 ((M 227 0 0).toNat) 0 ch)
          refine hR _ (hR _ (hR _ (hR _ (hR _ (hR _ (hR _ (hR _ (hR _ (hR _ (hR _ (hR _ (?_))))))))))))
          show R (108, [some (aR 7 0), some (aI km), some (aI ah), some (aI ch)], [aI ((M 227 0 0 + 1) - 1)], am_wr (am_wr (am_wr (am_wr (am_wr M 140 ((M 227 0 0).toNat) 0 (Int.tdiv km 10)) 141 ((M 227 0 0).toNat) 0 (Int.tmod km 10)) 142 ((M 227 0 0).toNat) 0 ah) 143 ((M 227 0 0).toNat) 0 ch) 227 0 0 (M 227 0 0 + 1))
          refine hR _ (show K (some (aI ((M 227 0 0 + 1) - 1))) (am_wr (am_wr (am_wr (am_wr (am_wr M 140 ((M 227 0 0).toNat) 0 (Int.tdiv km 10)) 141 ((M 227 0 0).toNat) 0 (Int.tmod km 10)) 142 ((M 227 0 0).toNat) 0 ah) 143 ((M 227 0 0).toNat) 0 ch) 227 0 0 (M 227 0 0 + 1)) from ?_)
          rw [show (M 227 0 0 + 1) - 1 = M 227 0 0 by omega]
          exact hK1 (by omega) (by omega)
        · show R (55, [some (aR 7 0), some (aI km), some (aI ah), some (aI ch)], [aI 0], M)
          refine hR _ (am_brf (rg := am_in 0) (P := (0 : Int) ≠ 0) (A := R (61, [some (aR 7 0), some (aI km), some (aI ah), some (aI ch)], [], M)) (B := R (58, [some (aR 7 0), some (aI km), some (aI ah), some (aI ch)], [], M)) (by omega) (by omega) ?_)
          show R (58, [some (aR 7 0), some (aI km), some (aI ah), some (aI ch)], [], M)
          refine hR _ (?_)
          show R (60, [some (aR 7 0), some (aI km), some (aI ah), some (aI ch)], [aI (-4)], M)
          refine hR _ (show K (some (aI (-4))) M from ?_)
          refine am_kr (hK0 (by omega)) ?_
          split
          all_goals omega
      · show R (31, [some (aR 7 0), some (aI km), some (aI ah), some (aI ch)], [aI 0], M)
        refine hR _ (am_brf (rg := am_in 0) (P := (0 : Int) ≠ 0) (A := R (37, [some (aR 7 0), some (aI km), some (aI ah), some (aI ch)], [], M)) (B := R (34, [some (aR 7 0), some (aI km), some (aI ah), some (aI ch)], [], M)) (by omega) (by omega) ?_)
        show R (34, [some (aR 7 0), some (aI km), some (aI ah), some (aI ch)], [], M)
        refine hR _ (?_)
        show R (36, [some (aR 7 0), some (aI km), some (aI ah), some (aI ch)], [aI (-2)], M)
        refine hR _ (show K (some (aI (-2))) M from ?_)
        refine am_kr (hK0 (by omega)) ?_
        split
        all_goals omega
    · show R (20, [some (aR 7 0), some (aI km), some (aI ah), some (aI ch)], [aI 0], M)
      refine hR _ (am_brt (rg := am_in 0) (P := (0 : Int) = 0) (A := R (34, [some (aR 7 0), some (aI km), some (aI ah), some (aI ch)], [], M)) (B := R (23, [some (aR 7 0), some (aI km), some (aI ah), some (aI ch)], [], M)) (by omega) (by omega) ?_)
      show R (34, [some (aR 7 0), some (aI km), some (aI ah), some (aI ch)], [], M)
      refine hR _ (?_)
      show R (36, [some (aR 7 0), some (aI km), some (aI ah), some (aI ch)], [aI (-2)], M)
      refine hR _ (show K (some (aI (-2))) M from ?_)
      refine am_kr (hK0 (by omega)) ?_
      split
      all_goals omega
  · show R (7, [some (aR 7 0), some (aI km), some (aI ah), some (aI ch)], [aI 0], M)
    refine hR _ (am_brf (rg := am_in 0) (P := (0 : Int) ≠ 0) (A := R (13, [some (aR 7 0), some (aI km), some (aI ah), some (aI ch)], [], M)) (B := R (10, [some (aR 7 0), some (aI km), some (aI ah), some (aI ch)], [], M)) (by omega) (by omega) ?_)
    show R (10, [some (aR 7 0), some (aI km), some (aI ah), some (aI ch)], [], M)
    refine hR _ (?_)
    show R (12, [some (aR 7 0), some (aI km), some (aI ah), some (aI ch)], [aI (-2)], M)
    refine hR _ (show K (some (aI (-2))) M from ?_)
    refine am_kr (hK0 (by omega)) ?_
    split
    all_goals omega

theorem sq_train {d : Nat} (hd : 3 ≤ d) {h w v : Int} {M : am_M} {K : am_K} (hJ : jf_J M) (ha_h : am_in h) (ha_w : am_in w) (ha_v : am_in v) (hK1 : ∀ k : Nat, h = k → k < M 227 0 0 → w = 0 → 0 ≤ v ∧ v ≤ 99 → K (some (aI (M 142 k 0))) (am_wr M 142 k 0 v)) (hK2 : ∀ k : Nat, h = k → k < M 227 0 0 → w = 1 → 0 ≤ v ∧ v ≤ 500 → K (some (aI (M 143 k 0))) (am_wr M 143 k 0 v)) (hK0 : ¬ ((0 ≤ h ∧ h < M 227 0 0) ∧ ((w = 0 ∧ 0 ≤ v ∧ v ≤ 99) ∨ (w = 1 ∧ 0 ≤ v ∧ v ≤ 500))) → K (some (aI (if 0 ≤ h ∧ h < M 227 0 0 then -7 else -5))) M) : am_Call wb d 46 [aR 7 0, aI h, aI w, aI v] M K := by
  obtain ⟨d, rfl⟩ : ∃ e, d = e + 1 := ⟨d - 1, by omega⟩
  refine ⟨rfl, fun R hR hC => ?_⟩
  replace hR : ∀ c, am_F wb tb_f46 1 (am_Call wb d) K R c → R c := hR
  have hn := hJ.1.1.2.2.2.2.2.2.2.1
  have hl0 := hJ.1.1.2.2.2.2.2.2.2.2
  have htc := hJ.2.2.1.1
  have hlt : 0 ≤ M 228 0 0 ∧ M 228 0 0 < 6 := by omega
  have hmk := hJ.1.1.1
  have hdr := hJ.1.1.2.1
  have hpr := hJ.1.1.2.2.1
  have hfu := hJ.1.1.2.2.2.1
  show R (0, [some (aR 7 0), some (aI h), some (aI w), some (aI v), none, none], [], M)
  refine hR _ (hR _ (?_))
  show R (2, [some (aR 7 0), some (aI h), some (aI w), some (aI v), none, none], [aI h, aR 7 0], M)
  refine hR _ (sp_handAt (by omega) hn (by omega) (fun k hhk hk5 => ?_) (fun hno => ?_))
  · replace hk5 : (k : Int) < M 227 0 0 := hk5
    have hkw := hJ.wk (k := k) (by omega)
    have hok := hJ.px (k := k) (by omega)
    show R (5, [some (aR 7 0), some (aI h), some (aI w), some (aI v), none, none], [aR 1 k], M)
    refine hR _ (hR _ (hR _ (hR _ (hR _ (hR _ (?_))))))
    show R (18, [some (aR 7 0), some (aI h), some (aI w), some (aI v), some (aR 1 k), none], [aI 1, aI 0, aI w], M)
    refine hR _ (sp_within (by omega) (by omega) (fun h18 => ?_) (fun h18 => ?_))
    · show R (21, [some (aR 7 0), some (aI h), some (aI w), some (aI v), some (aR 1 k), none], [aI 1], M)
      refine hR _ (am_brf (rg := am_in 1) (P := (1 : Int) = 0) (A := R (44, [some (aR 7 0), some (aI h), some (aI w), some (aI v), some (aR 1 k), none], [], M)) (B := R (24, [some (aR 7 0), some (aI h), some (aI w), some (aI v), some (aR 1 k), none], [], M)) (by omega) (by omega) ?_)
      show R (24, [some (aR 7 0), some (aI h), some (aI w), some (aI v), some (aR 1 k), none], [], M)
      refine hR _ (hR _ (hR _ (hR _ (am_brc (rg := am_in w) (P := w ≠ 0) (A := R (35, [some (aR 7 0), some (aI h), some (aI w), some (aI v), some (aR 1 k), none], [aI 0, aI v], M)) (B := R (30, [some (aR 7 0), some (aI h), some (aI w), some (aI v), some (aR 1 k), none], [aI 0, aI v], M)) (by omega) (fun c27 => ?_) (fun c27 => ?_)))))
      · refine hR _ (?_)
        show R (38, [some (aR 7 0), some (aI h), some (aI w), some (aI v), some (aR 1 k), none], [aI 500, aI 0, aI v], M)
        refine hR _ (sp_within (by omega) (by omega) (fun h38 => ?_) (fun h38 => ?_))
        · show R (41, [some (aR 7 0), some (aI h), some (aI w), some (aI v), some (aR 1 k), none], [aI 1], M)
          refine hR _ (am_brt (rg := am_in 1) (P := (1 : Int) ≠ 0) (A := R (47, [some (aR 7 0), some (aI h), some (aI w), some (aI v), some (aR 1 k), none], [], M)) (B := R (44, [some (aR 7 0), some (aI h), some (aI w), some (aI v), some (aR 1 k), none], [], M)) (by omega) (by omega) ?_)
          show R (47, [some (aR 7 0), some (aI h), some (aI w), some (aI v), some (aR 1 k), none], [], M)
          refine hR _ (hR _ (am_brc (rg := am_in w) (P := w ≠ 0) (A := R (59, [some (aR 7 0), some (aI h), some (aI w), some (aI v), some (aR 1 k), none], [], M)) (B := R (51, [some (aR 7 0), some (aI h), some (aI w), some (aI v), some (aR 1 k), none], [], M)) (by omega) (fun c48 => ?_) (fun c48 => ?_)))
          · refine hR _ (?_)
            show R (61, [some (aR 7 0), some (aI h), some (aI w), some (aI v), some (aR 1 k), none], [aR 1 k], M)
            refine hR _ (am_ct (am_vi (by omega : k < 6)) ?_)
            show R (64, [some (aR 7 0), some (aI h), some (aI w), some (aI v), some (aR 1 k), none], [aI (M 143 k 0)], M)
            refine hR _ (hR _ (hR _ (am_brc (rg := am_in w) (P := w ≠ 0) (A := R (79, [some (aR 7 0), some (aI h), some (aI w), some (aI v), some (aR 1 k), some (aI (M 143 k 0))], [], M)) (B := R (70, [some (aR 7 0), some (aI h), some (aI w), some (aI v), some (aR 1 k), some (aI (M 143 k 0))], [], M)) (by omega) (fun c67 => ?_) (fun c67 => ?_))))
            · refine hR _ (hR _ (?_))
              show R (82, [some (aR 7 0), some (aI h), some (aI w), some (aI v), some (aR 1 k), some (aI (M 143 k 0))], [aI v, aR 1 k], M)
              refine hR _ (am_ct (am_vi (by omega : k < 6)) ?_)
              show R (85, [some (aR 7 0), some (aI h), some (aI w), some (aI v), some (aR 1 k), some (aI (M 143 k 0))], [], am_wr M 143 k 0 v)
              refine hR _ (?_)
              show R (87, [some (aR 7 0), some (aI h), some (aI w), some (aI v), some (aR 1 k), some (aI (M 143 k 0))], [aI (M 143 k 0)], am_wr M 143 k 0 v)
              refine hR _ (show K (some (aI (M 143 k 0))) (am_wr M 143 k 0 v) from ?_)
              first | exact hK2 k hhk hk5 (by omega) (by omega) | (exfalso; omega)
            · refine hR _ (hR _ (?_))
              show R (73, [some (aR 7 0), some (aI h), some (aI w), some (aI v), some (aR 1 k), some (aI (M 143 k 0))], [aI v, aR 1 k], M)
              refine hR _ (am_ct (am_vi (by omega : k < 6)) ?_)
              show R (76, [some (aR 7 0), some (aI h), some (aI w), some (aI v), some (aR 1 k), some (aI (M 143 k 0))], [], am_wr M 142 k 0 v)
              refine hR _ (hR _ (?_))
              show R (87, [some (aR 7 0), some (aI h), some (aI w), some (aI v), some (aR 1 k), some (aI (M 143 k 0))], [aI (M 143 k 0)], am_wr M 142 k 0 v)
              refine hR _ (show K (some (aI (M 143 k 0))) (am_wr M 142 k 0 v) from ?_)
              first | exact hK1 k hhk hk5 (by omega) (by omega) | (exfalso; omega)
          · refine hR _ (?_)
            show R (53, [some (aR 7 0), some (aI h), some (aI w), some (aI v), some (aR 1 k), none], [aR 1 k], M)
            refine hR _ (am_ct (am_vi (by omega : k < 6)) ?_)
            show R (56, [some (aR 7 0), some (aI h), some (aI w), some (aI v), some (aR 1 k), none], [aI (M 142 k 0)], M)
            refine hR _ (hR _ (hR _ (hR _ (am_brc (rg := am_in w) (P := w ≠ 0) (A := R (79, [some (aR 7 0), some (aI h), some (aI w), some (aI v), some (aR 1 k), some (aI (M 142 k 0))], [], M)) (B := R (70, [some (aR 7 0), some (aI h), some (aI w), some (aI v), some (aR 1 k), some (aI (M 142 k 0))], [], M)) (by omega) (fun c67 => ?_) (fun c67 => ?_)))))
            · refine hR _ (hR _ (?_))
              show R (82, [some (aR 7 0), some (aI h), some (aI w), some (aI v), some (aR 1 k), some (aI (M 142 k 0))], [aI v, aR 1 k], M)
              refine hR _ (am_ct (am_vi (by omega : k < 6)) ?_)
              show R (85, [some (aR 7 0), some (aI h), some (aI w), some (aI v), some (aR 1 k), some (aI (M 142 k 0))], [], am_wr M 143 k 0 v)
              refine hR _ (?_)
              show R (87, [some (aR 7 0), some (aI h), some (aI w), some (aI v), some (aR 1 k), some (aI (M 142 k 0))], [aI (M 142 k 0)], am_wr M 143 k 0 v)
              refine hR _ (show K (some (aI (M 142 k 0))) (am_wr M 143 k 0 v) from ?_)
              first | exact hK2 k hhk hk5 (by omega) (by omega) | (exfalso; omega)
            · refine hR _ (hR _ (?_))
              show R (73, [some (aR 7 0), some (aI h), some (aI w), some (aI v), some (aR 1 k), some (aI (M 142 k 0))], [aI v, aR 1 k], M)
              refine hR _ (am_ct (am_vi (by omega : k < 6)) ?_)
              show R (76, [some (aR 7 0), some (aI h), some (aI w), some (aI v), some (aR 1 k), some (aI (M 142 k 0))], [], am_wr M 142 k 0 v)
              refine hR _ (hR _ (?_))
              show R (87, [some (aR 7 0), some (aI h), some (aI w), some (aI v), some (aR 1 k), some (aI (M 142 k 0))], [aI (M 142 k 0)], am_wr M 142 k 0 v)
              refine hR _ (show K (some (aI (M 142 k 0))) (am_wr M 142 k 0 v) from ?_)
              first | exact hK1 k hhk hk5 (by omega) (by omega) | (exfalso; omega)
        · show R (41, [some (aR 7 0), some (aI h), some (aI w), some (aI v), some (aR 1 k), none], [aI 0], M)
          refine hR _ (am_brf (rg := am_in 0) (P := (0 : Int) ≠ 0) (A := R (47, [some (aR 7 0), some (aI h), some (aI w), some (aI v), some (aR 1 k), none], [], M)) (B := R (44, [some (aR 7 0), some (aI h), some (aI w), some (aI v), some (aR 1 k), none], [], M)) (by omega) (by omega) ?_)
          show R (44, [some (aR 7 0), some (aI h), some (aI w), some (aI v), some (aR 1 k), none], [], M)
          refine hR _ (?_)
          show R (46, [some (aR 7 0), some (aI h), some (aI w), some (aI v), some (aR 1 k), none], [aI (-7)], M)
          refine hR _ (show K (some (aI (-7))) M from ?_)
          refine am_kr (hK0 (by omega)) ?_
          split
          all_goals omega
      · refine hR _ (hR _ (?_))
        show R (38, [some (aR 7 0), some (aI h), some (aI w), some (aI v), some (aR 1 k), none], [aI 99, aI 0, aI v], M)
        refine hR _ (sp_within (by omega) (by omega) (fun h38 => ?_) (fun h38 => ?_))
        · show R (41, [some (aR 7 0), some (aI h), some (aI w), some (aI v), some (aR 1 k), none], [aI 1], M)
          refine hR _ (am_brt (rg := am_in 1) (P := (1 : Int) ≠ 0) (A := R (47, [some (aR 7 0), some (aI h), some (aI w), some (aI v), some (aR 1 k), none], [], M)) (B := R (44, [some (aR 7 0), some (aI h), some (aI w), some (aI v), some (aR 1 k), none], [], M)) (by omega) (by omega) ?_)
          show R (47, [some (aR 7 0), some (aI h), some (aI w), some (aI v), some (aR 1 k), none], [], M)
          refine hR _ (hR _ (am_brc (rg := am_in w) (P := w ≠ 0) (A := R (59, [some (aR 7 0), some (aI h), some (aI w), some (aI v), some (aR 1 k), none], [], M)) (B := R (51, [some (aR 7 0), some (aI h), some (aI w), some (aI v), some (aR 1 k), none], [], M)) (by omega) (fun c48 => ?_) (fun c48 => ?_)))
          · refine hR _ (?_)
            show R (61, [some (aR 7 0), some (aI h), some (aI w), some (aI v), some (aR 1 k), none], [aR 1 k], M)
            refine hR _ (am_ct (am_vi (by omega : k < 6)) ?_)
            show R (64, [some (aR 7 0), some (aI h), some (aI w), some (aI v), some (aR 1 k), none], [aI (M 143 k 0)], M)
            refine hR _ (hR _ (hR _ (am_brc (rg := am_in w) (P := w ≠ 0) (A := R (79, [some (aR 7 0), some (aI h), some (aI w), some (aI v), some (aR 1 k), some (aI (M 143 k 0))], [], M)) (B := R (70, [some (aR 7 0), some (aI h), some (aI w), some (aI v), some (aR 1 k), some (aI (M 143 k 0))], [], M)) (by omega) (fun c67 => ?_) (fun c67 => ?_))))
            · refine hR _ (hR _ (?_))
              show R (82, [some (aR 7 0), some (aI h), some (aI w), some (aI v), some (aR 1 k), some (aI (M 143 k 0))], [aI v, aR 1 k], M)
              refine hR _ (am_ct (am_vi (by omega : k < 6)) ?_)
              show R (85, [some (aR 7 0), some (aI h), some (aI w), some (aI v), some (aR 1 k), some (aI (M 143 k 0))], [], am_wr M 143 k 0 v)
              refine hR _ (?_)
              show R (87, [some (aR 7 0), some (aI h), some (aI w), some (aI v), some (aR 1 k), some (aI (M 143 k 0))], [aI (M 143 k 0)], am_wr M 143 k 0 v)
              refine hR _ (show K (some (aI (M 143 k 0))) (am_wr M 143 k 0 v) from ?_)
              first | exact hK2 k hhk hk5 (by omega) (by omega) | (exfalso; omega)
            · refine hR _ (hR _ (?_))
              show R (73, [some (aR 7 0), some (aI h), some (aI w), some (aI v), some (aR 1 k), some (aI (M 143 k 0))], [aI v, aR 1 k], M)
              refine hR _ (am_ct (am_vi (by omega : k < 6)) ?_)
              show R (76, [some (aR 7 0), some (aI h), some (aI w), some (aI v), some (aR 1 k), some (aI (M 143 k 0))], [], am_wr M 142 k 0 v)
              refine hR _ (hR _ (?_))
              show R (87, [some (aR 7 0), some (aI h), some (aI w), some (aI v), some (aR 1 k), some (aI (M 143 k 0))], [aI (M 143 k 0)], am_wr M 142 k 0 v)
              refine hR _ (show K (some (aI (M 143 k 0))) (am_wr M 142 k 0 v) from ?_)
              first | exact hK1 k hhk hk5 (by omega) (by omega) | (exfalso; omega)
          · refine hR _ (?_)
            show R (53, [some (aR 7 0), some (aI h), some (aI w), some (aI v), some (aR 1 k), none], [aR 1 k], M)
            refine hR _ (am_ct (am_vi (by omega : k < 6)) ?_)
            show R (56, [some (aR 7 0), some (aI h), some (aI w), some (aI v), some (aR 1 k), none], [aI (M 142 k 0)], M)
            refine hR _ (hR _ (hR _ (hR _ (am_brc (rg := am_in w) (P := w ≠ 0) (A := R (79, [some (aR 7 0), some (aI h), some (aI w), some (aI v), some (aR 1 k), some (aI (M 142 k 0))], [], M)) (B := R (70, [some (aR 7 0), some (aI h), some (aI w), some (aI v), some (aR 1 k), some (aI (M 142 k 0))], [], M)) (by omega) (fun c67 => ?_) (fun c67 => ?_)))))
            · refine hR _ (hR _ (?_))
              show R (82, [some (aR 7 0), some (aI h), some (aI w), some (aI v), some (aR 1 k), some (aI (M 142 k 0))], [aI v, aR 1 k], M)
              refine hR _ (am_ct (am_vi (by omega : k < 6)) ?_)
              show R (85, [some (aR 7 0), some (aI h), some (aI w), some (aI v), some (aR 1 k), some (aI (M 142 k 0))], [], am_wr M 143 k 0 v)
              refine hR _ (?_)
              show R (87, [some (aR 7 0), some (aI h), some (aI w), some (aI v), some (aR 1 k), some (aI (M 142 k 0))], [aI (M 142 k 0)], am_wr M 143 k 0 v)
              refine hR _ (show K (some (aI (M 142 k 0))) (am_wr M 143 k 0 v) from ?_)
              first | exact hK2 k hhk hk5 (by omega) (by omega) | (exfalso; omega)
            · refine hR _ (hR _ (?_))
              show R (73, [some (aR 7 0), some (aI h), some (aI w), some (aI v), some (aR 1 k), some (aI (M 142 k 0))], [aI v, aR 1 k], M)
              refine hR _ (am_ct (am_vi (by omega : k < 6)) ?_)
              show R (76, [some (aR 7 0), some (aI h), some (aI w), some (aI v), some (aR 1 k), some (aI (M 142 k 0))], [], am_wr M 142 k 0 v)
              refine hR _ (hR _ (?_))
              show R (87, [some (aR 7 0), some (aI h), some (aI w), some (aI v), some (aR 1 k), some (aI (M 142 k 0))], [aI (M 142 k 0)], am_wr M 142 k 0 v)
              refine hR _ (show K (some (aI (M 142 k 0))) (am_wr M 142 k 0 v) from ?_)
              first | exact hK1 k hhk hk5 (by omega) (by omega) | (exfalso; omega)
        · show R (41, [some (aR 7 0), some (aI h), some (aI w), some (aI v), some (aR 1 k), none], [aI 0], M)
          refine hR _ (am_brf (rg := am_in 0) (P := (0 : Int) ≠ 0) (A := R (47, [some (aR 7 0), some (aI h), some (aI w), some (aI v), some (aR 1 k), none], [], M)) (B := R (44, [some (aR 7 0), some (aI h), some (aI w), some (aI v), some (aR 1 k), none], [], M)) (by omega) (by omega) ?_)
          show R (44, [some (aR 7 0), some (aI h), some (aI w), some (aI v), some (aR 1 k), none], [], M)
          refine hR _ (?_)
          show R (46, [some (aR 7 0), some (aI h), some (aI w), some (aI v), some (aR 1 k), none], [aI (-7)], M)
          refine hR _ (show K (some (aI (-7))) M from ?_)
          refine am_kr (hK0 (by omega)) ?_
          split
          all_goals omega
    · show R (21, [some (aR 7 0), some (aI h), some (aI w), some (aI v), some (aR 1 k), none], [aI 0], M)
      refine hR _ (am_brt (rg := am_in 0) (P := (0 : Int) = 0) (A := R (44, [some (aR 7 0), some (aI h), some (aI w), some (aI v), some (aR 1 k), none], [], M)) (B := R (24, [some (aR 7 0), some (aI h), some (aI w), some (aI v), some (aR 1 k), none], [], M)) (by omega) (by omega) ?_)
      show R (44, [some (aR 7 0), some (aI h), some (aI w), some (aI v), some (aR 1 k), none], [], M)
      refine hR _ (?_)
      show R (46, [some (aR 7 0), some (aI h), some (aI w), some (aI v), some (aR 1 k), none], [aI (-7)], M)
      refine hR _ (show K (some (aI (-7))) M from ?_)
      refine am_kr (hK0 (by omega)) ?_
      split
      all_goals omega
  · replace hno : ¬ (0 ≤ h ∧ h < M 227 0 0) := hno
    show R (5, [some (aR 7 0), some (aI h), some (aI w), some (aI v), none, none], [aN], M)
    refine hR _ (hR _ (hR _ (hR _ (?_))))
    show R (14, [some (aR 7 0), some (aI h), some (aI w), some (aI v), some (aN), none], [aI (-5)], M)
    refine hR _ (show K (some (aI (-5))) M from ?_)
    refine am_kr (hK0 (by omega)) ?_
    split
    all_goals omega

theorem sq_told {d : Nat} (hd : 3 ≤ d) {h w : Int} {M : am_M} {K : am_K} (hJ : jf_J M) (ha_h : am_in h) (ha_w : am_in w) (hK : K (some (aI (jx_told M h w))) M) : am_Call wb d 48 [aR 7 0, aI h, aI w] M K := by
  obtain ⟨d, rfl⟩ : ∃ e, d = e + 1 := ⟨d - 1, by omega⟩
  refine ⟨rfl, fun R hR hC => ?_⟩
  replace hR : ∀ c, am_F wb tb_f48 1 (am_Call wb d) K R c → R c := hR
  have hn := hJ.1.1.2.2.2.2.2.2.2.1
  have hl0 := hJ.1.1.2.2.2.2.2.2.2.2
  have htc := hJ.2.2.1.1
  have hlt : 0 ≤ M 228 0 0 ∧ M 228 0 0 < 6 := by omega
  have hmk := hJ.1.1.1
  have hdr := hJ.1.1.2.1
  have hpr := hJ.1.1.2.2.1
  have hfu := hJ.1.1.2.2.2.1
  show R (0, [some (aR 7 0), some (aI h), some (aI w), none], [], M)
  refine hR _ (hR _ (?_))
  show R (2, [some (aR 7 0), some (aI h), some (aI w), none], [aI h, aR 7 0], M)
  refine hR _ (sp_handAt (by omega) hn (by omega) (fun k hhk hk5 => ?_) (fun hno => ?_))
  · replace hk5 : (k : Int) < M 227 0 0 := hk5
    have hkw := hJ.wk (k := k) (by omega)
    have hok := hJ.px (k := k) (by omega)
    have hJh := hJ.2.1 k (by omega)
    have hJh1 := hJh.1
    have hJh2 := hJh.2.1
    have hJh3 := hJh.2.2.1
    have hJh4 := hJh.2.2.2.1
    show R (5, [some (aR 7 0), some (aI h), some (aI w), none], [aR 1 k], M)
    refine hR _ (hR _ (hR _ (hR _ (?_))))
    show R (14, [some (aR 7 0), some (aI h), some (aI w), some (aR 1 k)], [aI w], M)
    refine hR _ ⟨(by omega), ⟨fun c14 => ?_, fun c14 => ?_, fun c14 => ?_, fun c14 => ?_, trivial⟩, fun c14 => ?_⟩
    · show R (44, [some (aR 7 0), some (aI h), some (aI w), some (aR 1 k)], [], M)
      refine hR _ (?_)
      show R (45, [some (aR 7 0), some (aI h), some (aI w), some (aR 1 k)], [aR 1 k], M)
      refine hR _ (am_ct (am_vi (by omega : k < 6)) ?_)
      show R (48, [some (aR 7 0), some (aI h), some (aI w), some (aR 1 k)], [aI (M 140 k 0)], M)
      refine hR _ (show K (some (aI (M 140 k 0))) M from ?_)
      have hres : jx_told M h w = M 140 k 0 := by
        subst hhk
        unfold jx_told
        try simp only [Int.toNat_natCast]
        repeat' split
        all_goals first | omega | rfl
      rw [hres] at hK
      exact hK
    · show R (49, [some (aR 7 0), some (aI h), some (aI w), some (aR 1 k)], [], M)
      refine hR _ (?_)
      show R (50, [some (aR 7 0), some (aI h), some (aI w), some (aR 1 k)], [aR 1 k], M)
      refine hR _ (am_ct (am_vi (by omega : k < 6)) ?_)
      show R (53, [some (aR 7 0), some (aI h), some (aI w), some (aR 1 k)], [aI (M 141 k 0)], M)
      refine hR _ (show K (some (aI (M 141 k 0))) M from ?_)
      have hres : jx_told M h w = M 141 k 0 := by
        subst hhk
        unfold jx_told
        try simp only [Int.toNat_natCast]
        repeat' split
        all_goals first | omega | rfl
      rw [hres] at hK
      exact hK
    · show R (54, [some (aR 7 0), some (aI h), some (aI w), some (aR 1 k)], [], M)
      refine hR _ (?_)
      show R (55, [some (aR 7 0), some (aI h), some (aI w), some (aR 1 k)], [aR 1 k], M)
      refine hR _ (am_ct (am_vi (by omega : k < 6)) ?_)
      show R (58, [some (aR 7 0), some (aI h), some (aI w), some (aR 1 k)], [aI (M 142 k 0)], M)
      refine hR _ (show K (some (aI (M 142 k 0))) M from ?_)
      have hres : jx_told M h w = M 142 k 0 := by
        subst hhk
        unfold jx_told
        try simp only [Int.toNat_natCast]
        repeat' split
        all_goals first | omega | rfl
      rw [hres] at hK
      exact hK
    · show R (59, [some (aR 7 0), some (aI h), some (aI w), some (aR 1 k)], [], M)
      refine hR _ (?_)
      show R (60, [some (aR 7 0), some (aI h), some (aI w), some (aR 1 k)], [aR 1 k], M)
      refine hR _ (am_ct (am_vi (by omega : k < 6)) ?_)
      show R (63, [some (aR 7 0), some (aI h), some (aI w), some (aR 1 k)], [aI (M 143 k 0)], M)
      refine hR _ (show K (some (aI (M 143 k 0))) M from ?_)
      have hres : jx_told M h w = M 143 k 0 := by
        subst hhk
        unfold jx_told
        try simp only [Int.toNat_natCast]
        repeat' split
        all_goals first | omega | rfl
      rw [hres] at hK
      exact hK
    · show R (64, [some (aR 7 0), some (aI h), some (aI w), some (aR 1 k)], [], M)
      refine hR _ (?_)
      show R (66, [some (aR 7 0), some (aI h), some (aI w), some (aR 1 k)], [aI (-7)], M)
      refine hR _ (show K (some (aI (-7))) M from ?_)
      have hres : jx_told M h w = (-7) := by
        subst hhk
        unfold jx_told
        try simp only [Int.toNat_natCast]
        repeat' split
        all_goals first | omega | rfl
      rw [hres] at hK
      exact hK
  · replace hno : ¬ (0 ≤ h ∧ h < M 227 0 0) := hno
    show R (5, [some (aR 7 0), some (aI h), some (aI w), none], [aN], M)
    refine hR _ (hR _ (hR _ (hR _ (?_))))
    show R (12, [some (aR 7 0), some (aI h), some (aI w), some (aN)], [aI (-5)], M)
    refine hR _ (show K (some (aI (-5))) M from ?_)
    have hres : jx_told M h w = (-5) := by
      unfold jx_told
      try simp only [Int.toNat_natCast]
      repeat' split
      all_goals first | omega | rfl
    rw [hres] at hK
    exact hK

theorem sq_book {d : Nat} (hd : 3 ≤ d) {w : Int} {M : am_M} {K : am_K} (hJ : jf_J M) (ha_w : am_in w) (hK : K (some (aI (jx_book M w))) M) : am_Call wb d 110 [aR 7 0, aI w] M K := by
  obtain ⟨d, rfl⟩ : ∃ e, d = e + 1 := ⟨d - 1, by omega⟩
  refine ⟨rfl, fun R hR hC => ?_⟩
  replace hR : ∀ c, am_F wb tb_f110 1 (am_Call wb d) K R c → R c := hR
  have hn := hJ.1.1.2.2.2.2.2.2.2.1
  have hl0 := hJ.1.1.2.2.2.2.2.2.2.2
  have htc := hJ.2.2.1.1
  have hlt : 0 ≤ M 228 0 0 ∧ M 228 0 0 < 6 := by omega
  have hmk := hJ.1.1.1
  have hdr := hJ.1.1.2.1
  have hpr := hJ.1.1.2.2.1
  have hfu := hJ.1.1.2.2.2.1
  show R (0, [some (aR 7 0), some (aI w)], [], M)
  refine hR _ (?_)
  show R (1, [some (aR 7 0), some (aI w)], [aI w], M)
  refine hR _ ⟨(by omega), ⟨fun c1 => ?_, fun c1 => ?_, fun c1 => ?_, trivial⟩, fun c1 => ?_⟩
  · show R (28, [some (aR 7 0), some (aI w)], [], M)
    refine hR _ (hR _ (hR _ (?_)))
    show R (35, [some (aR 7 0), some (aI w)], [aI (M 224 0 0)], M)
    refine hR _ (show K (some (aI (M 224 0 0))) M from ?_)
    have hres : jx_book M w = M 224 0 0 := by
      unfold jx_book
      try simp only [Int.toNat_natCast]
      repeat' split
      all_goals first | omega | rfl
    rw [hres] at hK
    exact hK
  · show R (36, [some (aR 7 0), some (aI w)], [], M)
    refine hR _ (hR _ (hR _ (?_)))
    show R (43, [some (aR 7 0), some (aI w)], [aI (M 225 0 0)], M)
    refine hR _ (show K (some (aI (M 225 0 0))) M from ?_)
    have hres : jx_book M w = M 225 0 0 := by
      unfold jx_book
      try simp only [Int.toNat_natCast]
      repeat' split
      all_goals first | omega | rfl
    rw [hres] at hK
    exact hK
  · show R (44, [some (aR 7 0), some (aI w)], [], M)
    refine hR _ (hR _ (hR _ (?_)))
    show R (51, [some (aR 7 0), some (aI w)], [aI (M 226 0 0)], M)
    refine hR _ (show K (some (aI (M 226 0 0))) M from ?_)
    have hres : jx_book M w = M 226 0 0 := by
      unfold jx_book
      try simp only [Int.toNat_natCast]
      repeat' split
      all_goals first | omega | rfl
    rw [hres] at hK
    exact hK
  · show R (52, [some (aR 7 0), some (aI w)], [], M)
    refine hR _ (?_)
    show R (54, [some (aR 7 0), some (aI w)], [aI (-2)], M)
    refine hR _ (show K (some (aI (-2))) M from ?_)
    have hres : jx_book M w = (-2) := by
      unfold jx_book
      try simp only [Int.toNat_natCast]
      repeat' split
      all_goals first | omega | rfl
    rw [hres] at hK
    exact hK

theorem sq_taken {d : Nat} (hd : 3 ≤ d) {i w : Int} {M : am_M} {K : am_K} (hJ : jf_J M) (ha_i : am_in i) (ha_w : am_in w) (hK : K (some (aL (jx_taken M i w))) M) : am_Call wb d 121 [aR 7 0, aI i, aI w] M K := by
  obtain ⟨d, rfl⟩ : ∃ e, d = e + 1 := ⟨d - 1, by omega⟩
  refine ⟨rfl, fun R hR hC => ?_⟩
  replace hR : ∀ c, am_F wb tb_f121 5 (am_Call wb d) K R c → R c := hR
  have hn := hJ.1.1.2.2.2.2.2.2.2.1
  have hl0 := hJ.1.1.2.2.2.2.2.2.2.2
  have htc := hJ.2.2.1.1
  have hlt : 0 ≤ M 228 0 0 ∧ M 228 0 0 < 6 := by omega
  have hmk := hJ.1.1.1
  have hdr := hJ.1.1.2.1
  have hpr := hJ.1.1.2.2.1
  have hfu := hJ.1.1.2.2.2.1
  show R (0, [some (aR 7 0), some (aI i), some (aI w), none], [], M)
  refine hR _ (hR _ (hR _ (?_)))
  show R (4, [some (aR 7 0), some (aI i), some (aI w), none], [aI 6, aI 0, aI w], M)
  refine hR _ (sp_within (by omega) (by omega) (fun h4 => ?_) (fun h4 => ?_))
  · show R (7, [some (aR 7 0), some (aI i), some (aI w), none], [aI 1], M)
    refine hR _ (am_brt (rg := am_in 1) (P := (1 : Int) ≠ 0) (A := R (14, [some (aR 7 0), some (aI i), some (aI w), none], [], M)) (B := R (10, [some (aR 7 0), some (aI i), some (aI w), none], [], M)) (by omega) (by omega) ?_)
    show R (14, [some (aR 7 0), some (aI i), some (aI w), none], [], M)
    refine hR _ (hR _ (hR _ (?_)))
    show R (18, [some (aR 7 0), some (aI i), some (aI w), none], [aI 6, aI 0, aI i], M)
    refine hR _ (sp_within (by omega) (by omega) (fun h18 => ?_) (fun h18 => ?_))
    · show R (21, [some (aR 7 0), some (aI i), some (aI w), none], [aI 1], M)
      refine hR _ (am_brt (rg := am_in 1) (P := (1 : Int) ≠ 0) (A := R (28, [some (aR 7 0), some (aI i), some (aI w), none], [], M)) (B := R (24, [some (aR 7 0), some (aI i), some (aI w), none], [], M)) (by omega) (by omega) ?_)
      show R (28, [some (aR 7 0), some (aI i), some (aI w), none], [], M)
      refine hR _ (hR _ (hR _ (am_brc (rg := am_in i ∧ am_in 5) (P := i < 5) (A := R (68, [some (aR 7 0), some (aI i), some (aI w), none], [], M)) (B := R (33, [some (aR 7 0), some (aI i), some (aI w), none], [], M)) (by omega) (fun c30 => ?_) (fun c30 => ?_))))
      · refine hR _ (hR _ (?_))
        show R (70, [some (aR 7 0), some (aI i), some (aI w), none], [aI i, aR 7 0], M)
        refine hR _ (sp_handAt (by omega) hn (by omega) (fun k hhk hk5 => ?_) (fun hno => ?_))
        · replace hk5 : (k : Int) < M 227 0 0 := hk5
          have hkw := hJ.wk (k := k) (by omega)
          have hok := hJ.px (k := k) (by omega)
          have hJh := hJ.2.1 k (by omega)
          have hJh1 := hJh.1
          have hJh2 := hJh.2.1
          have hJh3 := hJh.2.2.1
          have hJh4 := hJh.2.2.2.1
          show R (73, [some (aR 7 0), some (aI i), some (aI w), none], [aR 1 k], M)
          refine hR _ (hR _ (hR _ (hR _ (hR _ (hR _ (am_brc (rg := am_in w ∧ am_in 6) (P := w = 6) (A := R (101, [some (aR 7 0), some (aI i), some (aI w), some (aR 1 k)], [], M)) (B := R (88, [some (aR 7 0), some (aI i), some (aI w), some (aR 1 k)], [], M)) (by omega) (fun c85 => ?_) (fun c85 => ?_)))))))
          · refine hR _ (?_)
            show R (104, [some (aR 7 0), some (aI i), some (aI w), some (aR 1 k)], [aL (-13)], M)
            refine hR _ (show K (some (aL (-13))) M from ?_)
            have hres : jx_taken M i w = (-13) := by
              subst hhk
              unfold jx_taken
              try simp only [Int.toNat_natCast]
              repeat' split
              all_goals first | omega | rfl
            rw [hres] at hK
            exact hK
          · refine hR _ (hR _ (?_))
            show R (90, [some (aR 7 0), some (aI i), some (aI w), some (aR 1 k)], [aI w, aR 1 k], M)
            refine hR _ (am_ct (am_vi (by omega : k < 6)) (sp_isOf (by omega) (by omega) (hJ.2.1 k (by omega)).1 (by omega) (fun h90 => ?_) (fun h90 => ?_)))
            · replace h90 : (w = M 140 k 0 ∨ w = 0 ∨ (w = 1 ∧ M 140 k 0 = 3) ∨ (w = 2 ∧ M 140 k 0 = 4)) := h90
              show R (93, [some (aR 7 0), some (aI i), some (aI w), some (aR 1 k)], [aI 1], M)
              refine hR _ (am_brf (rg := am_in 1) (P := (1 : Int) = 0) (A := R (101, [some (aR 7 0), some (aI i), some (aI w), some (aR 1 k)], [], M)) (B := R (96, [some (aR 7 0), some (aI i), some (aI w), some (aR 1 k)], [], M)) (by omega) (by omega) ?_)
              show R (96, [some (aR 7 0), some (aI i), some (aI w), some (aR 1 k)], [], M)
              refine hR _ (?_)
              show R (97, [some (aR 7 0), some (aI i), some (aI w), some (aR 1 k)], [aI i], M)
              refine hR _ ⟨(by omega), ?_⟩
              show R (98, [some (aR 7 0), some (aI i), some (aI w), some (aR 1 k)], [aL i], M)
              refine hR _ (?_)
              show R (104, [some (aR 7 0), some (aI i), some (aI w), some (aR 1 k)], [aL i], M)
              refine hR _ (show K (some (aL i)) M from ?_)
              have hres : jx_taken M i w = i := by
                subst hhk
                unfold jx_taken
                try simp only [Int.toNat_natCast]
                repeat' split
                all_goals first | omega | rfl
              rw [hres] at hK
              exact hK
            · replace h90 : ¬ (w = M 140 k 0 ∨ w = 0 ∨ (w = 1 ∧ M 140 k 0 = 3) ∨ (w = 2 ∧ M 140 k 0 = 4)) := h90
              show R (93, [some (aR 7 0), some (aI i), some (aI w), some (aR 1 k)], [aI 0], M)
              refine hR _ (am_brt (rg := am_in 0) (P := (0 : Int) = 0) (A := R (101, [some (aR 7 0), some (aI i), some (aI w), some (aR 1 k)], [], M)) (B := R (96, [some (aR 7 0), some (aI i), some (aI w), some (aR 1 k)], [], M)) (by omega) (by omega) ?_)
              show R (101, [some (aR 7 0), some (aI i), some (aI w), some (aR 1 k)], [], M)
              refine hR _ (?_)
              show R (104, [some (aR 7 0), some (aI i), some (aI w), some (aR 1 k)], [aL (-13)], M)
              refine hR _ (show K (some (aL (-13))) M from ?_)
              have hres : jx_taken M i w = (-13) := by
                subst hhk
                unfold jx_taken
                try simp only [Int.toNat_natCast]
                repeat' split
                all_goals first | omega | rfl
              rw [hres] at hK
              exact hK
        · replace hno : ¬ (0 ≤ i ∧ i < M 227 0 0) := hno
          show R (73, [some (aR 7 0), some (aI i), some (aI w), none], [aN], M)
          refine hR _ (hR _ (hR _ (hR _ (?_))))
          show R (81, [some (aR 7 0), some (aI i), some (aI w), some (aN)], [aL (-11)], M)
          refine hR _ (show K (some (aL (-11))) M from ?_)
          have hres : jx_taken M i w = (-11) := by
            unfold jx_taken
            try simp only [Int.toNat_natCast]
            repeat' split
            all_goals first | omega | rfl
          rw [hres] at hK
          exact hK
      · refine hR _ (hR _ (hR _ (am_brc (rg := am_in w ∧ am_in 6) (P := w = 6) (A := R (43, [some (aR 7 0), some (aI i), some (aI w), none], [], M)) (B := R (39, [some (aR 7 0), some (aI i), some (aI w), none], [], M)) (by omega) (fun c36 => ?_) (fun c36 => ?_))))
        · refine hR _ (hR _ (hR _ (am_brc (rg := am_in i ∧ am_in 5) (P := i ≠ 5) (A := R (59, [some (aR 7 0), some (aI i), some (aI w), none], [], M)) (B := R (48, [some (aR 7 0), some (aI i), some (aI w), none], [], M)) (by omega) (fun c45 => ?_) (fun c45 => ?_))))
          · refine hR _ (hR _ (hR _ (?_)))
            show R (66, [some (aR 7 0), some (aI i), some (aI w), none], [aI (M 222 0 0)], M)
            refine hR _ ⟨(by omega), ?_⟩
            show R (67, [some (aR 7 0), some (aI i), some (aI w), none], [aL (M 222 0 0)], M)
            refine hR _ (show K (some (aL (M 222 0 0))) M from ?_)
            have hres : jx_taken M i w = M 222 0 0 := by
              unfold jx_taken
              try simp only [Int.toNat_natCast]
              repeat' split
              all_goals first | omega | rfl
            rw [hres] at hK
            exact hK
          · refine hR _ (hR _ (hR _ (?_)))
            show R (55, [some (aR 7 0), some (aI i), some (aI w), none], [aI (M 220 0 0)], M)
            refine hR _ ⟨(by omega), ?_⟩
            show R (56, [some (aR 7 0), some (aI i), some (aI w), none], [aL (M 220 0 0)], M)
            refine hR _ (?_)
            show R (67, [some (aR 7 0), some (aI i), some (aI w), none], [aL (M 220 0 0)], M)
            refine hR _ (show K (some (aL (M 220 0 0))) M from ?_)
            have hres : jx_taken M i w = M 220 0 0 := by
              unfold jx_taken
              try simp only [Int.toNat_natCast]
              repeat' split
              all_goals first | omega | rfl
            rw [hres] at hK
            exact hK
        · refine hR _ (?_)
          show R (42, [some (aR 7 0), some (aI i), some (aI w), none], [aL (-13)], M)
          refine hR _ (show K (some (aL (-13))) M from ?_)
          have hres : jx_taken M i w = (-13) := by
            unfold jx_taken
            try simp only [Int.toNat_natCast]
            repeat' split
            all_goals first | omega | rfl
          rw [hres] at hK
          exact hK
    · show R (21, [some (aR 7 0), some (aI i), some (aI w), none], [aI 0], M)
      refine hR _ (am_brf (rg := am_in 0) (P := (0 : Int) ≠ 0) (A := R (28, [some (aR 7 0), some (aI i), some (aI w), none], [], M)) (B := R (24, [some (aR 7 0), some (aI i), some (aI w), none], [], M)) (by omega) (by omega) ?_)
      show R (24, [some (aR 7 0), some (aI i), some (aI w), none], [], M)
      refine hR _ (?_)
      show R (27, [some (aR 7 0), some (aI i), some (aI w), none], [aL (-12)], M)
      refine hR _ (show K (some (aL (-12))) M from ?_)
      have hres : jx_taken M i w = (-12) := by
        unfold jx_taken
        try simp only [Int.toNat_natCast]
        repeat' split
        all_goals first | omega | rfl
      rw [hres] at hK
      exact hK
  · show R (7, [some (aR 7 0), some (aI i), some (aI w), none], [aI 0], M)
    refine hR _ (am_brf (rg := am_in 0) (P := (0 : Int) ≠ 0) (A := R (14, [some (aR 7 0), some (aI i), some (aI w), none], [], M)) (B := R (10, [some (aR 7 0), some (aI i), some (aI w), none], [], M)) (by omega) (by omega) ?_)
    show R (10, [some (aR 7 0), some (aI i), some (aI w), none], [], M)
    refine hR _ (?_)
    show R (13, [some (aR 7 0), some (aI i), some (aI w), none], [aL (-2)], M)
    refine hR _ (show K (some (aL (-2))) M from ?_)
    have hres : jx_taken M i w = (-2) := by
      unfold jx_taken
      try simp only [Int.toNat_natCast]
      repeat' split
      all_goals first | omega | rfl
    rw [hres] at hK
    exact hK
