/-! wb -/
/-! THE REFERENCE: whose, rule, laws -/
theorem am_or_0 (x : Int) : i3 (am_or x 0) = i3 x := by
  show Int32.ofInt ((Int32.ofInt x ||| Int32.ofInt 0).toInt) = Int32.ofInt x
  rw [Int32.ofInt_toInt]
  exact Int32.or_zero
abbrev mo_S431 : List Nat := [431, 37, 38, 39, 40, 41, 454, 455]
theorem mo_back {S : List Nat} {v c : Nat} {M m : am_M} (h : am_ag (v :: S) M m) (hb : mo_but v c m M) : am_ag S M (am_wr m v 0 c (M v 0 c)) := by
  intro w hw
  by_cases e : w = v
  · subst e
    funext i j
    by_cases hij : i = 0 ∧ j = c
    · rw [hij.1, hij.2, am_wr_eq]
    · rw [am_wr_ne (by
        by_cases h1 : i = 0
        · exact Or.inr (Or.inr (fun h2 => hij ⟨h1, h2⟩))
        · exact Or.inr (Or.inl h1))]
      exact hb i j hij
  · funext i j
    rw [am_wr_ne (Or.inl e), h w (am_el_cons hw e)]

theorem mo_bs_b (F : Nat → Int) {N : Nat} {B : Int} (hB : 0 ≤ B) (hF : ∀ q, q < N → 0 ≤ F q ∧ F q ≤ B) : ∀ n, n ≤ N → (-1 ≤ (jf_best (fun i => (i : Int)) (fun i => (F i, 1)) n).1 ∧ (jf_best (fun i => (i : Int)) (fun i => (F i, 1)) n).1 ≤ N) ∧ -1 ≤ (jf_best (fun i => (i : Int)) (fun i => (F i, 1)) n).2.1 ∧ (jf_best (fun i => (i : Int)) (fun i => (F i, 1)) n).2.1 ≤ B
  | 0, _ => by
    show (-1 ≤ (-1 : Int) ∧ (-1 : Int) ≤ N) ∧ -1 ≤ (0 : Int) ∧ (0 : Int) ≤ B
    omega
  | n + 1, hn => by
    have ih := mo_bs_b F hB hF n (by omega)
    have h0 := hF n (by omega)
    rw [mo_bs_1]
    split
    · show (-1 ≤ (n : Int) ∧ (n : Int) ≤ N) ∧ -1 ≤ F n ∧ F n ≤ B
      omega
    · exact ih

set_option maxHeartbeats 1000000 in
theorem sm_whose {d : Nat} (hd : 10 ≤ d) {sa w : Int} {M : am_M} {K : am_K} (hJ : jf_J M) (hW : jf_C M) (ha_s : am_in sa) (ha_w : am_in w) (hK : ∀ g, K (some (aL (jx_whose M sa w))) (am_mix mo_SM g M)) : am_Call true d 188 [aR 8 0, aI sa, aI w] M K := by
  obtain ⟨d, rfl⟩ : ∃ e, d = e + 1 := ⟨d - 1, by omega⟩
  refine ⟨rfl, fun R hR hC => ?_⟩
  replace hR : ∀ c, am_F true tb_f188 5 (am_Call true d) K R c → R c := hR
  have hn := hJ.1.1.2.2.2.2.2.2.2.1
  have hl0 := hJ.1.1.2.2.2.2.2.2.2.2
  have htc := hJ.2.2.1.1
  have hlt : 0 ≤ M 228 0 0 ∧ M 228 0 0 < 6 := by omega
  have hmk := hJ.1.1.1
  have hdr := hJ.1.1.2.1
  have hpr := hJ.1.1.2.2.1
  have hfu := hJ.1.1.2.2.2.1
  have hn' : 0 ≤ M 421 0 0 ∧ M 421 0 0 ≤ 5 := by rw [hW.1.2.1.1]; exact hn
  have h421 : M 421 0 0 = M 227 0 0 := hW.1.2.1.1
  have hso : ∀ q : Nat, q < 4 → -1 ≤ M 180 q 0 ∧ M 180 q 0 ≤ 2 := fun q hq => (hJ.2.2.2.1 q hq).1
  have hso2 := hso sa.toNat
  show R (0, [some (aR 8 0), some (aI sa), some (aI w), none, none, none, none, none, none], [], M)
  have split3 : (∃ s : Nat, sa = (s : Int) ∧ s < 4 ∧ M 180 s 0 ≠ -1) ∨ ¬ ((0 ≤ sa ∧ sa < 4) ∧ M 180 sa.toNat 0 ≠ -1) := by
    by_cases hh : (0 ≤ sa ∧ sa < 4) ∧ M 180 sa.toNat 0 ≠ -1
    · exact Or.inl ⟨sa.toNat, by omega, by omega, hh.2⟩
    · exact Or.inr hh
  rcases split3 with ⟨s, rfl, hs4, hms⟩ | hbad
  · have hsh := jf_C.sh hJ hW hs4
    have hso3 := hso s hs4
    show R (0, [some (aR 8 0), some (aI ((s : Nat) : Int)), some (aI w), none, none, none, none, none, none], [], M)
    refine hR _ (?_)
    show R (1, [some (aR 8 0), some (aI ((s : Nat) : Int)), some (aI w), none, none, none, none, none, none], [aI ((s : Nat) : Int)], M)
    refine hR _ (sm_isSheet0 (by omega) (by omega) (fun h1 => ?_) (fun h1 => ?_))
    · show R (4, [some (aR 8 0), some (aI ((s : Nat) : Int)), some (aI w), none, none, none, none, none, none], [aI 1], M)
      refine hR _ (am_brf (rg := am_in 1) (P := (1 : Int) = 0) (A := R (26, [some (aR 8 0), some (aI ((s : Nat) : Int)), some (aI w), none, none, none, none, none, none], [], M)) (B := R (7, [some (aR 8 0), some (aI ((s : Nat) : Int)), some (aI w), none, none, none, none, none, none], [], M)) (by omega) (by omega) ?_)
      show R (7, [some (aR 8 0), some (aI ((s : Nat) : Int)), some (aI w), none, none, none, none, none, none], [], M)
      refine hR _ (hR _ (hR _ (?_)))
      show R (12, [some (aR 8 0), some (aI ((s : Nat) : Int)), some (aI w), none, none, none, none, none, none], [aI ((s : Nat) : Int), aR 31 0], M)
      refine hR _ ⟨(show 0 ≤ (((s : Nat) : Int) : Int) ∧ (((s : Nat) : Int) : Int) < 4 from (by omega)), ?_⟩
      show R (13, [some (aR 8 0), some (aI ((s : Nat) : Int)), some (aI w), none, none, none, none, none, none], [aI (M 31 0 s)], M)
      rw [(show M 31 0 s = M 180 s 0 from (hW.2.2.2.1 s (by omega)).1)]
      show R (13, [some (aR 8 0), some (aI ((s : Nat) : Int)), some (aI w), none, none, none, none, none, none], [aI (M 180 s 0)], M)
      refine hR _ (hR _ (am_brf (rg := am_in (M 180 s 0) ∧ am_in (-1)) (P := (M 180 s 0) = (-1)) (A := R (26, [some (aR 8 0), some (aI ((s : Nat) : Int)), some (aI w), none, none, none, none, none, none], [], M)) (B := R (17, [some (aR 8 0), some (aI ((s : Nat) : Int)), some (aI w), none, none, none, none, none, none], [], M)) (by omega) (by omega) ?_))
      show R (17, [some (aR 8 0), some (aI ((s : Nat) : Int)), some (aI w), none, none, none, none, none, none], [], M)
      refine hR _ (hR _ (hR _ (?_)))
      show R (20, [some (aR 8 0), some (aI ((s : Nat) : Int)), some (aI w), none, none, none, none, none, none], [aI 1, aI 0, aI w], M)
      refine hR _ (sp_in (by omega) (by omega) (fun h20 => ?_) (fun h20 => ?_))
      · show R (23, [some (aR 8 0), some (aI ((s : Nat) : Int)), some (aI w), none, none, none, none, none, none], [aI 1], M)
        refine hR _ (am_brt (rg := am_in 1) (P := (1 : Int) ≠ 0) (A := R (30, [some (aR 8 0), some (aI ((s : Nat) : Int)), some (aI w), none, none, none, none, none, none], [], M)) (B := R (26, [some (aR 8 0), some (aI ((s : Nat) : Int)), some (aI w), none, none, none, none, none, none], [], M)) (by omega) (by omega) ?_)
        show R (30, [some (aR 8 0), some (aI ((s : Nat) : Int)), some (aI w), none, none, none, none, none, none], [], M)
        refine hR _ (hR _ (hR _ (hR _ (hR _ (hR _ (?_))))))
        show R (40, [some (aR 8 0), some (aI ((s : Nat) : Int)), some (aI w), some (aI (-1)), some (aL (-1)), none, some (aI 0), none, none], [], M)
        have key : ∀ (f i : Nat) (x b mo : Int) (o7 o8 : Option am_V) (g : am_M), x = (i : Int) → (i : Int) + f = M 227 0 0 → b = ((jf_bh M s) i).1 → mo = (if i = 0 then -1 else ((jf_bh M s) i).2.1) → R (40, [some (aR 8 0), some (aI ((s : Nat) : Int)), some (aI w), some (aI b), some (aL mo), none, some (aI x), o7, o8], [], am_mix mo_SM g M) := by
          intro f
          induction f with
          | zero =>
            intro i x b mo o7 o8 g hx hin hb hmo
            subst hx
            have hbb : (-1 ≤ ((jf_bh M s) i).1 ∧ ((jf_bh M s) i).1 ≤ ((5 : Nat) : Int)) ∧ -1 ≤ ((jf_bh M s) i).2.1 ∧ ((jf_bh M s) i).2.1 ≤ 1000000000 := mo_bs_b (fun i => jf_pb (jf_px M i) (M 21 s) (M 181 s 0).toNat) (by decide) (fun q hq => jf_pb_b (hJ.px hq) _ _) i (by omega)
            have hbpi : -1 ≤ b ∧ b ≤ ((5 : Nat) : Int) := by rw [hb]; omega
            have hmoi : -1 ≤ mo ∧ mo ≤ 1000000000 := by rw [hmo]; split <;> omega
            refine hR _ (hR _ (hR _ (?_)))
            show R (46, [some (aR 8 0), some (aI ((s : Nat) : Int)), some (aI w), some (aI b), some (aL mo), none, some (aI ((i : Nat) : Int)), o7, o8], [aI (M 421 0 0), aI ((i : Nat) : Int)], am_mix mo_SM g M)
            rw [(show M 421 0 0 = M 227 0 0 from hW.1.2.1.1)]
            show R (46, [some (aR 8 0), some (aI ((s : Nat) : Int)), some (aI w), some (aI b), some (aL mo), none, some (aI ((i : Nat) : Int)), o7, o8], [aI (M 227 0 0), aI ((i : Nat) : Int)], am_mix mo_SM g M)
            refine hR _ (am_brt (rg := am_in ((i : Nat) : Int) ∧ am_in (M 227 0 0)) (P := (M 227 0 0) ≤ ((i : Nat) : Int)) (A := R (96, [some (aR 8 0), some (aI ((s : Nat) : Int)), some (aI w), some (aI b), some (aL mo), none, some (aI ((i : Nat) : Int)), o7, o8], [], am_mix mo_SM g M)) (B := R (49, [some (aR 8 0), some (aI ((s : Nat) : Int)), some (aI w), some (aI b), some (aL mo), none, some (aI ((i : Nat) : Int)), o7, o8], [], am_mix mo_SM g M)) (by omega) (by omega) ?_)
            show R (96, [some (aR 8 0), some (aI ((s : Nat) : Int)), some (aI w), some (aI b), some (aL mo), none, some (aI ((i : Nat) : Int)), o7, o8], [], am_mix mo_SM g M)
            refine hR _ (hR _ (am_brc (rg := am_in w) (P := w ≠ 0) (A := R (105, [some (aR 8 0), some (aI ((s : Nat) : Int)), some (aI w), some (aI b), some (aL mo), none, some (aI ((i : Nat) : Int)), o7, o8], [], am_mix mo_SM g M)) (B := R (100, [some (aR 8 0), some (aI ((s : Nat) : Int)), some (aI w), some (aI b), some (aL mo), none, some (aI ((i : Nat) : Int)), o7, o8], [], am_mix mo_SM g M)) (by omega) (fun c97 => ?_) (fun c97 => ?_)))
            · refine hR _ (?_)
              show R (107, [some (aR 8 0), some (aI ((s : Nat) : Int)), some (aI w), some (aI b), some (aL mo), none, some (aI ((i : Nat) : Int)), o7, o8], [aL mo], am_mix mo_SM g M)
              refine hR _ (show K (some (aL mo)) (am_mix mo_SM g M) from ?_)
              have hi : i = (M 227 0 0).toNat := by omega
              have h1 := mo_bs (fun i => jf_pb (jf_px M i) (M 21 s) (M 181 s 0).toNat) i
              have hres : jx_whose M ((s : Nat) : Int) w = mo := by
                unfold jx_whose
                simp only [Int.toNat_natCast]
                rw [if_pos (by omega), if_neg hms, ← hi]
                by_cases h0 : i = 0
                · rw [if_pos h0] at hmo
                  rw [if_pos (by rw [h0]; rfl)]
                  first | exact hmo.symm | (rw [hb, h0]; rfl)
                · rw [if_neg (show ¬ (jf_bh M s i).1 = -1 from by have : 0 ≤ (jf_bh M s i).1 := h1.2 (by omega); omega)]
                  rw [if_neg h0] at hmo
                  first | (rw [if_neg (by omega)]; exact hb.symm) | (rw [if_pos (by omega)]; exact hmo.symm)
              rw [hres] at hK
              exact hK _
            · refine hR _ (?_)
              show R (101, [some (aR 8 0), some (aI ((s : Nat) : Int)), some (aI w), some (aI b), some (aL mo), none, some (aI ((i : Nat) : Int)), o7, o8], [aI b], am_mix mo_SM g M)
              refine hR _ ⟨(by omega), ?_⟩
              show R (102, [some (aR 8 0), some (aI ((s : Nat) : Int)), some (aI w), some (aI b), some (aL mo), none, some (aI ((i : Nat) : Int)), o7, o8], [aL b], am_mix mo_SM g M)
              refine hR _ (?_)
              show R (107, [some (aR 8 0), some (aI ((s : Nat) : Int)), some (aI w), some (aI b), some (aL mo), none, some (aI ((i : Nat) : Int)), o7, o8], [aL b], am_mix mo_SM g M)
              refine hR _ (show K (some (aL b)) (am_mix mo_SM g M) from ?_)
              have hi : i = (M 227 0 0).toNat := by omega
              have h1 := mo_bs (fun i => jf_pb (jf_px M i) (M 21 s) (M 181 s 0).toNat) i
              have hres : jx_whose M ((s : Nat) : Int) w = b := by
                unfold jx_whose
                simp only [Int.toNat_natCast]
                rw [if_pos (by omega), if_neg hms, ← hi]
                by_cases h0 : i = 0
                · rw [if_pos h0] at hmo
                  rw [if_pos (by rw [h0]; rfl)]
                  first | exact hmo.symm | (rw [hb, h0]; rfl)
                · rw [if_neg (show ¬ (jf_bh M s i).1 = -1 from by have : 0 ≤ (jf_bh M s i).1 := h1.2 (by omega); omega)]
                  rw [if_neg h0] at hmo
                  first | (rw [if_neg (by omega)]; exact hb.symm) | (rw [if_pos (by omega)]; exact hmo.symm)
              rw [hres] at hK
              exact hK _
          | succ f ih =>
            intro i x b mo o7 o8 g hx hin hb hmo
            subst hx
            have hbb : (-1 ≤ ((jf_bh M s) i).1 ∧ ((jf_bh M s) i).1 ≤ ((5 : Nat) : Int)) ∧ -1 ≤ ((jf_bh M s) i).2.1 ∧ ((jf_bh M s) i).2.1 ≤ 1000000000 := mo_bs_b (fun i => jf_pb (jf_px M i) (M 21 s) (M 181 s 0).toNat) (by decide) (fun q hq => jf_pb_b (hJ.px hq) _ _) i (by omega)
            have hbpi : -1 ≤ b ∧ b ≤ ((5 : Nat) : Int) := by rw [hb]; omega
            have hmoi : -1 ≤ mo ∧ mo ≤ 1000000000 := by rw [hmo]; split <;> omega
            have hk : i < 5 := by omega
            obtain ⟨r, hrr⟩ : ∃ r, r = (M 228 0 0).toNat := ⟨_, rfl⟩
            have hr : M 431 0 0 = (r : Int) := by rw [hW.1.2.1.2.2.1]; omega
            have hr6 : r < 6 := by omega
            have hwt : mo_wt M r := (hW.2.1.2.2 r (by omega)).1
            obtain ⟨p, hpp⟩ : ∃ p, p = jf_px M i := ⟨_, rfl⟩
            have hp : mo_p M i r p := by rw [hpp, hrr]; exact jf_C.p hJ hW hk (by omega)
            have hok : jf_ok p := by rw [hpp]; exact hJ.px hk
            have hpm : p.mk = M 22 0 0 := by rw [hpp]; exact hW.1.1.1.symm
            have hps : p.st = 0 := by rw [hpp]
            have hpb := jf_P_b hok
            have hA := jf_A_b hok
            have hst1 : (jf_bh M s) (i + 1) = if i = 0 ∨ ((jf_bh M s) i).2.1 < jf_pb (jf_px M i) (M 21 s) (M 181 s 0).toNat then (((i : Nat) : Int), jf_pb (jf_px M i) (M 21 s) (M 181 s 0).toNat, 1) else (jf_bh M s) i := mo_bs_1 (fun i => jf_pb (jf_px M i) (M 21 s) (M 181 s 0).toNat) i
            refine hR _ (hR _ (hR _ (?_)))
            show R (46, [some (aR 8 0), some (aI ((s : Nat) : Int)), some (aI w), some (aI b), some (aL mo), none, some (aI ((i : Nat) : Int)), o7, o8], [aI (M 421 0 0), aI ((i : Nat) : Int)], am_mix mo_SM g M)
            rw [(show M 421 0 0 = M 227 0 0 from hW.1.2.1.1)]
            show R (46, [some (aR 8 0), some (aI ((s : Nat) : Int)), some (aI w), some (aI b), some (aL mo), none, some (aI ((i : Nat) : Int)), o7, o8], [aI (M 227 0 0), aI ((i : Nat) : Int)], am_mix mo_SM g M)
            refine hR _ (am_brf (rg := am_in ((i : Nat) : Int) ∧ am_in (M 227 0 0)) (P := (M 227 0 0) ≤ ((i : Nat) : Int)) (A := R (96, [some (aR 8 0), some (aI ((s : Nat) : Int)), some (aI w), some (aI b), some (aL mo), none, some (aI ((i : Nat) : Int)), o7, o8], [], am_mix mo_SM g M)) (B := R (49, [some (aR 8 0), some (aI ((s : Nat) : Int)), some (aI w), some (aI b), some (aL mo), none, some (aI ((i : Nat) : Int)), o7, o8], [], am_mix mo_SM g M)) (by omega) (by omega) ?_)
            show R (49, [some (aR 8 0), some (aI ((s : Nat) : Int)), some (aI w), some (aI b), some (aL mo), none, some (aI ((i : Nat) : Int)), o7, o8], [], am_mix mo_SM g M)
            refine hR _ (hR _ (hR _ (?_)))
            show R (53, [some (aR 8 0), some (aI ((s : Nat) : Int)), some (aI w), some (aI b), some (aL mo), none, some (aI ((i : Nat) : Int)), o7, o8], [aI ((i : Nat) : Int), aI ((s : Nat) : Int), aR 8 0], am_mix mo_SM g M)
            refine hR _ (sm_partsOf (p := p) (r := r) (s := s) (c := M 21 s) (n := (M 181 s 0).toNat) (by omega) hsh hk hr hr6 hwt hp hok hpm hps (fun g180 => ?_))
            have hpbb := jf_pb_b hok (M 21 s) (M 181 s 0).toNat
            dsimp only
            rw [am_mix_sub (S := mo_SM) (S2 := mo_SM) rfl]
            show R (56, [some (aR 8 0), some (aI ((s : Nat) : Int)), some (aI w), some (aI b), some (aL mo), none, some (aI ((i : Nat) : Int)), o7, o8], [aL (jf_pb p (M 21 s) (M 181 s 0).toNat)], am_mix mo_SM g180 M)
            refine hR _ (hR _ (hR _ (?_)))
            show R (62, [some (aR 8 0), some (aI ((s : Nat) : Int)), some (aI w), some (aI b), some (aL mo), none, some (aI ((i : Nat) : Int)), some (aL (jf_pb p (M 21 s) (M 181 s 0).toNat)), none], [aL mo, aL (jf_pb p (M 21 s) (M 181 s 0).toNat)], am_mix mo_SM g180 M)
            refine am_lc (x := (jf_pb p (M 21 s) (M 181 s 0).toNat)) (y := mo) (P := (jf_pb p (M 21 s) (M 181 s 0).toNat) ≤ mo) (A := R (71, [some (aR 8 0), some (aI ((s : Nat) : Int)), some (aI w), some (aI b), some (aL mo), none, some (aI ((i : Nat) : Int)), some (aL (jf_pb p (M 21 s) (M 181 s 0).toNat)), none], [], am_mix mo_SM g180 M)) (B := R (66, [some (aR 8 0), some (aI ((s : Nat) : Int)), some (aI w), some (aI b), some (aL mo), none, some (aI ((i : Nat) : Int)), some (aL (jf_pb p (M 21 s) (M 181 s 0).toNat)), none], [], am_mix mo_SM g180 M)) (by omega) (fun hA hB => hR _ ⟨(by omega), (fun hz => hR _ (am_brt (P := (-1 : Int) ≤ 0) (A := R (71, [some (aR 8 0), some (aI ((s : Nat) : Int)), some (aI w), some (aI b), some (aL mo), none, some (aI ((i : Nat) : Int)), some (aL (jf_pb p (M 21 s) (M 181 s 0).toNat)), none], [], am_mix mo_SM g180 M)) (B := R (66, [some (aR 8 0), some (aI ((s : Nat) : Int)), some (aI w), some (aI b), some (aL mo), none, some (aI ((i : Nat) : Int)), some (aL (jf_pb p (M 21 s) (M 181 s 0).toNat)), none], [], am_mix mo_SM g180 M)) (by omega) (by omega) (hA (by omega)))), (fun hz => hR _ (am_brt (P := (0 : Int) ≤ 0) (A := R (71, [some (aR 8 0), some (aI ((s : Nat) : Int)), some (aI w), some (aI b), some (aL mo), none, some (aI ((i : Nat) : Int)), some (aL (jf_pb p (M 21 s) (M 181 s 0).toNat)), none], [], am_mix mo_SM g180 M)) (B := R (66, [some (aR 8 0), some (aI ((s : Nat) : Int)), some (aI w), some (aI b), some (aL mo), none, some (aI ((i : Nat) : Int)), some (aL (jf_pb p (M 21 s) (M 181 s 0).toNat)), none], [], am_mix mo_SM g180 M)) (by omega) (by omega) (hA (by omega)))), (fun hz => hR _ (am_brf (P := (1 : Int) ≤ 0) (A := R (71, [some (aR 8 0), some (aI ((s : Nat) : Int)), some (aI w), some (aI b), some (aL mo), none, some (aI ((i : Nat) : Int)), some (aL (jf_pb p (M 21 s) (M 181 s 0).toNat)), none], [], am_mix mo_SM g180 M)) (B := R (66, [some (aR 8 0), some (aI ((s : Nat) : Int)), some (aI w), some (aI b), some (aL mo), none, some (aI ((i : Nat) : Int)), some (aL (jf_pb p (M 21 s) (M 181 s 0).toNat)), none], [], am_mix mo_SM g180 M)) (by omega) (by omega) (hB (by omega))))⟩) (fun c62 => ?_) (fun c62 => ?_)
            · refine hR _ (hR _ (hR _ (hR _ (?_))))
              show R (77, [some (aR 8 0), some (aI ((s : Nat) : Int)), some (aI w), some (aI b), some (aL mo), none, some (aI ((i : Nat) : Int)), some (aL (jf_pb p (M 21 s) (M 181 s 0).toNat)), none], [aL mo, aL (jf_pb p (M 21 s) (M 181 s 0).toNat)], am_mix mo_SM g180 M)
              refine am_lc (x := (jf_pb p (M 21 s) (M 181 s 0).toNat)) (y := mo) (P := (jf_pb p (M 21 s) (M 181 s 0).toNat) ≤ mo) (A := R (86, [some (aR 8 0), some (aI ((s : Nat) : Int)), some (aI w), some (aI b), some (aL mo), none, some (aI ((i : Nat) : Int)), some (aL (jf_pb p (M 21 s) (M 181 s 0).toNat)), none], [], am_mix mo_SM g180 M)) (B := R (81, [some (aR 8 0), some (aI ((s : Nat) : Int)), some (aI w), some (aI b), some (aL mo), none, some (aI ((i : Nat) : Int)), some (aL (jf_pb p (M 21 s) (M 181 s 0).toNat)), none], [], am_mix mo_SM g180 M)) (by omega) (fun hA hB => hR _ ⟨(by omega), (fun hz => hR _ (am_brt (P := (-1 : Int) ≤ 0) (A := R (86, [some (aR 8 0), some (aI ((s : Nat) : Int)), some (aI w), some (aI b), some (aL mo), none, some (aI ((i : Nat) : Int)), some (aL (jf_pb p (M 21 s) (M 181 s 0).toNat)), none], [], am_mix mo_SM g180 M)) (B := R (81, [some (aR 8 0), some (aI ((s : Nat) : Int)), some (aI w), some (aI b), some (aL mo), none, some (aI ((i : Nat) : Int)), some (aL (jf_pb p (M 21 s) (M 181 s 0).toNat)), none], [], am_mix mo_SM g180 M)) (by omega) (by omega) (hA (by omega)))), (fun hz => hR _ (am_brt (P := (0 : Int) ≤ 0) (A := R (86, [some (aR 8 0), some (aI ((s : Nat) : Int)), some (aI w), some (aI b), some (aL mo), none, some (aI ((i : Nat) : Int)), some (aL (jf_pb p (M 21 s) (M 181 s 0).toNat)), none], [], am_mix mo_SM g180 M)) (B := R (81, [some (aR 8 0), some (aI ((s : Nat) : Int)), some (aI w), some (aI b), some (aL mo), none, some (aI ((i : Nat) : Int)), some (aL (jf_pb p (M 21 s) (M 181 s 0).toNat)), none], [], am_mix mo_SM g180 M)) (by omega) (by omega) (hA (by omega)))), (fun hz => hR _ (am_brf (P := (1 : Int) ≤ 0) (A := R (86, [some (aR 8 0), some (aI ((s : Nat) : Int)), some (aI w), some (aI b), some (aL mo), none, some (aI ((i : Nat) : Int)), some (aL (jf_pb p (M 21 s) (M 181 s 0).toNat)), none], [], am_mix mo_SM g180 M)) (B := R (81, [some (aR 8 0), some (aI ((s : Nat) : Int)), some (aI w), some (aI b), some (aL mo), none, some (aI ((i : Nat) : Int)), some (aL (jf_pb p (M 21 s) (M 181 s 0).toNat)), none], [], am_mix mo_SM g180 M)) (by omega) (by omega) (hB (by omega))))⟩) (fun c77 => ?_) (fun c77 => ?_)
              · refine hR _ (hR _ (hR _ (hR _ (?_))))
                show R (40, [some (aR 8 0), some (aI ((s : Nat) : Int)), some (aI w), some (aI b), some (aL mo), none, some (aI (((i : Nat) : Int) + 1)), some (aL (jf_pb p (M 21 s) (M 181 s 0).toNat)), none], [], am_mix mo_SM g180 M)
                have e9 : am_ag mo_SM M (am_mix mo_SM g180 M) := (am_ag.rf).mix rfl
                rw [e9.eq]
                rw [← hpp] at hst1
                have hcond : ¬ (i = 0 ∨ ((jf_bh M s) i).2.1 < jf_pb p (M 21 s) (M 181 s 0).toNat) := by
                  by_cases h0 : i = 0
                  · rw [if_pos h0] at hmo
                    omega
                  · rw [if_neg h0] at hmo
                    omega
                have e1 : (jf_bh M s) (i + 1) = (jf_bh M s) i := hst1.trans (if_neg hcond)
                refine ih (i + 1) _ _ _ _ _ _ (by omega) (by omega) ?_ ?_
                · rw [e1]
                  exact hb
                · rw [if_neg (by omega), e1]
                  rw [if_neg (by omega)] at hmo
                  exact hmo
              · refine hR _ (hR _ (hR _ (hR _ (hR _ (?_)))))
                show R (40, [some (aR 8 0), some (aI ((s : Nat) : Int)), some (aI w), some (aI b), some (aL (jf_pb p (M 21 s) (M 181 s 0).toNat)), none, some (aI (((i : Nat) : Int) + 1)), some (aL (jf_pb p (M 21 s) (M 181 s 0).toNat)), none], [], am_mix mo_SM g180 M)
                exfalso
                omega
            · refine hR _ (hR _ (hR _ (hR _ (hR _ (?_)))))
              show R (77, [some (aR 8 0), some (aI ((s : Nat) : Int)), some (aI w), some (aI ((i : Nat) : Int)), some (aL mo), none, some (aI ((i : Nat) : Int)), some (aL (jf_pb p (M 21 s) (M 181 s 0).toNat)), none], [aL mo, aL (jf_pb p (M 21 s) (M 181 s 0).toNat)], am_mix mo_SM g180 M)
              refine am_lc (x := (jf_pb p (M 21 s) (M 181 s 0).toNat)) (y := mo) (P := (jf_pb p (M 21 s) (M 181 s 0).toNat) ≤ mo) (A := R (86, [some (aR 8 0), some (aI ((s : Nat) : Int)), some (aI w), some (aI ((i : Nat) : Int)), some (aL mo), none, some (aI ((i : Nat) : Int)), some (aL (jf_pb p (M 21 s) (M 181 s 0).toNat)), none], [], am_mix mo_SM g180 M)) (B := R (81, [some (aR 8 0), some (aI ((s : Nat) : Int)), some (aI w), some (aI ((i : Nat) : Int)), some (aL mo), none, some (aI ((i : Nat) : Int)), some (aL (jf_pb p (M 21 s) (M 181 s 0).toNat)), none], [], am_mix mo_SM g180 M)) (by omega) (fun hA hB => hR _ ⟨(by omega), (fun hz => hR _ (am_brt (P := (-1 : Int) ≤ 0) (A := R (86, [some (aR 8 0), some (aI ((s : Nat) : Int)), some (aI w), some (aI ((i : Nat) : Int)), some (aL mo), none, some (aI ((i : Nat) : Int)), some (aL (jf_pb p (M 21 s) (M 181 s 0).toNat)), none], [], am_mix mo_SM g180 M)) (B := R (81, [some (aR 8 0), some (aI ((s : Nat) : Int)), some (aI w), some (aI ((i : Nat) : Int)), some (aL mo), none, some (aI ((i : Nat) : Int)), some (aL (jf_pb p (M 21 s) (M 181 s 0).toNat)), none], [], am_mix mo_SM g180 M)) (by omega) (by omega) (hA (by omega)))), (fun hz => hR _ (am_brt (P := (0 : Int) ≤ 0) (A := R (86, [some (aR 8 0), some (aI ((s : Nat) : Int)), some (aI w), some (aI ((i : Nat) : Int)), some (aL mo), none, some (aI ((i : Nat) : Int)), some (aL (jf_pb p (M 21 s) (M 181 s 0).toNat)), none], [], am_mix mo_SM g180 M)) (B := R (81, [some (aR 8 0), some (aI ((s : Nat) : Int)), some (aI w), some (aI ((i : Nat) : Int)), some (aL mo), none, some (aI ((i : Nat) : Int)), some (aL (jf_pb p (M 21 s) (M 181 s 0).toNat)), none], [], am_mix mo_SM g180 M)) (by omega) (by omega) (hA (by omega)))), (fun hz => hR _ (am_brf (P := (1 : Int) ≤ 0) (A := R (86, [some (aR 8 0), some (aI ((s : Nat) : Int)), some (aI w), some (aI ((i : Nat) : Int)), some (aL mo), none, some (aI ((i : Nat) : Int)), some (aL (jf_pb p (M 21 s) (M 181 s 0).toNat)), none], [], am_mix mo_SM g180 M)) (B := R (81, [some (aR 8 0), some (aI ((s : Nat) : Int)), some (aI w), some (aI ((i : Nat) : Int)), some (aL mo), none, some (aI ((i : Nat) : Int)), some (aL (jf_pb p (M 21 s) (M 181 s 0).toNat)), none], [], am_mix mo_SM g180 M)) (by omega) (by omega) (hB (by omega))))⟩) (fun c77 => ?_) (fun c77 => ?_)
              · refine hR _ (hR _ (hR _ (hR _ (?_))))
                show R (40, [some (aR 8 0), some (aI ((s : Nat) : Int)), some (aI w), some (aI ((i : Nat) : Int)), some (aL mo), none, some (aI (((i : Nat) : Int) + 1)), some (aL (jf_pb p (M 21 s) (M 181 s 0).toNat)), none], [], am_mix mo_SM g180 M)
                exfalso
                omega
              · refine hR _ (hR _ (hR _ (hR _ (hR _ (?_)))))
                show R (40, [some (aR 8 0), some (aI ((s : Nat) : Int)), some (aI w), some (aI ((i : Nat) : Int)), some (aL (jf_pb p (M 21 s) (M 181 s 0).toNat)), none, some (aI (((i : Nat) : Int) + 1)), some (aL (jf_pb p (M 21 s) (M 181 s 0).toNat)), none], [], am_mix mo_SM g180 M)
                have e9 : am_ag mo_SM M (am_mix mo_SM g180 M) := (am_ag.rf).mix rfl
                rw [e9.eq]
                rw [← hpp] at hst1
                have hcond : i = 0 ∨ ((jf_bh M s) i).2.1 < jf_pb p (M 21 s) (M 181 s 0).toNat := by
                  by_cases h0 : i = 0
                  · exact Or.inl h0
                  · rw [if_neg h0] at hmo
                    exact Or.inr (by omega)
                have e1 : (jf_bh M s) (i + 1) = (((i : Nat) : Int), jf_pb p (M 21 s) (M 181 s 0).toNat, 1) := hst1.trans (if_pos hcond)
                refine ih (i + 1) _ _ _ _ _ _ (by omega) (by omega) ?_ ?_
                · rw [e1]
                · rw [if_neg (by omega), e1]
        have e9 : am_ag mo_SM M M := am_ag.rf
        rw [e9.eq]
        exact key (M 227 0 0).toNat 0 _ _ _ _ _ _ rfl (show ((0 : Nat) : Int) + (((M 227 0 0).toNat : Nat) : Int) = M 227 0 0 by omega) rfl rfl
      · show R (23, [some (aR 8 0), some (aI ((s : Nat) : Int)), some (aI w), none, none, none, none, none, none], [aI 0], M)
        refine hR _ (am_brf (rg := am_in 0) (P := (0 : Int) ≠ 0) (A := R (30, [some (aR 8 0), some (aI ((s : Nat) : Int)), some (aI w), none, none, none, none, none, none], [], M)) (B := R (26, [some (aR 8 0), some (aI ((s : Nat) : Int)), some (aI w), none, none, none, none, none, none], [], M)) (by omega) (by omega) ?_)
        show R (26, [some (aR 8 0), some (aI ((s : Nat) : Int)), some (aI w), none, none, none, none, none, none], [], M)
        refine hR _ (?_)
        show R (29, [some (aR 8 0), some (aI ((s : Nat) : Int)), some (aI w), none, none, none, none, none, none], [aL (-4611686018427387904)], M)
        refine hR _ (show K (some (aL (-4611686018427387904))) M from ?_)
        have hres : jx_whose M ((s : Nat) : Int) w = (-4611686018427387904) := by
          unfold jx_whose
          repeat' split
          all_goals first | rfl | omega | (exfalso; omega) | (exfalso; exact hms (by assumption)) | (exfalso; apply hbad; exact ⟨by omega, by assumption⟩)
        rw [hres] at hK
        have e9 : am_ag mo_SM M M := am_ag.rf
        rw [e9.eq]
        exact hK _
    · show R (4, [some (aR 8 0), some (aI ((s : Nat) : Int)), some (aI w), none, none, none, none, none, none], [aI 0], M)
      refine hR _ (am_brt (rg := am_in 0) (P := (0 : Int) = 0) (A := R (26, [some (aR 8 0), some (aI ((s : Nat) : Int)), some (aI w), none, none, none, none, none, none], [], M)) (B := R (7, [some (aR 8 0), some (aI ((s : Nat) : Int)), some (aI w), none, none, none, none, none, none], [], M)) (by omega) (by omega) ?_)
      show R (26, [some (aR 8 0), some (aI ((s : Nat) : Int)), some (aI w), none, none, none, none, none, none], [], M)
      refine hR _ (?_)
      show R (29, [some (aR 8 0), some (aI ((s : Nat) : Int)), some (aI w), none, none, none, none, none, none], [aL (-4611686018427387904)], M)
      refine hR _ (show K (some (aL (-4611686018427387904))) M from ?_)
      have hres : jx_whose M ((s : Nat) : Int) w = (-4611686018427387904) := by
        unfold jx_whose
        repeat' split
        all_goals first | rfl | omega | (exfalso; omega) | (exfalso; exact hms (by assumption)) | (exfalso; apply hbad; exact ⟨by omega, by assumption⟩)
      rw [hres] at hK
      have e9 : am_ag mo_SM M M := am_ag.rf
      rw [e9.eq]
      exact hK _
  · show R (0, [some (aR 8 0), some (aI sa), some (aI w), none, none, none, none, none, none], [], M)
    refine hR _ (?_)
    show R (1, [some (aR 8 0), some (aI sa), some (aI w), none, none, none, none, none, none], [aI sa], M)
    refine hR _ (sm_isSheet0 (by omega) (by omega) (fun h1 => ?_) (fun h1 => ?_))
    · show R (4, [some (aR 8 0), some (aI sa), some (aI w), none, none, none, none, none, none], [aI 1], M)
      refine hR _ (am_brf (rg := am_in 1) (P := (1 : Int) = 0) (A := R (26, [some (aR 8 0), some (aI sa), some (aI w), none, none, none, none, none, none], [], M)) (B := R (7, [some (aR 8 0), some (aI sa), some (aI w), none, none, none, none, none, none], [], M)) (by omega) (by omega) ?_)
      show R (7, [some (aR 8 0), some (aI sa), some (aI w), none, none, none, none, none, none], [], M)
      refine hR _ (hR _ (hR _ (?_)))
      show R (12, [some (aR 8 0), some (aI sa), some (aI w), none, none, none, none, none, none], [aI sa, aR 31 0], M)
      refine hR _ ⟨(show 0 ≤ (sa : Int) ∧ (sa : Int) < 4 from (by omega)), ?_⟩
      show R (13, [some (aR 8 0), some (aI sa), some (aI w), none, none, none, none, none, none], [aI (M 31 0 ((sa).toNat))], M)
      rw [(show M 31 0 ((sa).toNat) = M 180 sa.toNat 0 from (hW.2.2.2.1 sa.toNat (by omega)).1)]
      show R (13, [some (aR 8 0), some (aI sa), some (aI w), none, none, none, none, none, none], [aI (M 180 sa.toNat 0)], M)
      refine hR _ (hR _ (am_brt (rg := am_in (M 180 sa.toNat 0) ∧ am_in (-1)) (P := (M 180 sa.toNat 0) = (-1)) (A := R (26, [some (aR 8 0), some (aI sa), some (aI w), none, none, none, none, none, none], [], M)) (B := R (17, [some (aR 8 0), some (aI sa), some (aI w), none, none, none, none, none, none], [], M)) (by omega) (by omega) ?_))
      show R (26, [some (aR 8 0), some (aI sa), some (aI w), none, none, none, none, none, none], [], M)
      refine hR _ (?_)
      show R (29, [some (aR 8 0), some (aI sa), some (aI w), none, none, none, none, none, none], [aL (-4611686018427387904)], M)
      refine hR _ (show K (some (aL (-4611686018427387904))) M from ?_)
      have hres : jx_whose M sa w = (-4611686018427387904) := by
        unfold jx_whose
        repeat' split
        all_goals first | rfl | omega | (exfalso; omega) | (exfalso; exact hms (by assumption)) | (exfalso; apply hbad; exact ⟨by omega, by assumption⟩)
      rw [hres] at hK
      have e9 : am_ag mo_SM M M := am_ag.rf
      rw [e9.eq]
      exact hK _
    · show R (4, [some (aR 8 0), some (aI sa), some (aI w), none, none, none, none, none, none], [aI 0], M)
      refine hR _ (am_brt (rg := am_in 0) (P := (0 : Int) = 0) (A := R (26, [some (aR 8 0), some (aI sa), some (aI w), none, none, none, none, none, none], [], M)) (B := R (7, [some (aR 8 0), some (aI sa), some (aI w), none, none, none, none, none, none], [], M)) (by omega) (by omega) ?_)
      show R (26, [some (aR 8 0), some (aI sa), some (aI w), none, none, none, none, none, none], [], M)
      refine hR _ (?_)
      show R (29, [some (aR 8 0), some (aI sa), some (aI w), none, none, none, none, none, none], [aL (-4611686018427387904)], M)
      refine hR _ (show K (some (aL (-4611686018427387904))) M from ?_)
      have hres : jx_whose M sa w = (-4611686018427387904) := by
        unfold jx_whose
        repeat' split
        all_goals first | rfl | omega | (exfalso; omega) | (exfalso; exact hms (by assumption)) | (exfalso; apply hbad; exact ⟨by omega, by assumption⟩)
      rw [hres] at hK
      have e9 : am_ag mo_SM M M := am_ag.rf
      rw [e9.eq]
      exact hK _
