/-! wb -/
variable {wb : Bool}
/-! A STOP as a function -/
/-- pressing: sum, tenths, notch -/
def jf_prs (rn : Int → Int) (kind ahead change full mark : Int) : Nat → Int × Int × Int → Int × Int × Int
  | 0, s => s
  | f + 1, s => if ahead < mark - s.1 ∧ s.1 < full ∧ s.2.1 < 2000 then jf_prs rn kind ahead change full mark f (min full (s.1 + rn (jf_notch kind change (mark - s.1))), s.2.1 + 1, jf_notch kind change (mark - s.1)) else s
theorem jf_prs_stop {rn : Int → Int} {kind ahead change full mark : Int} (f : Nat) {s : Int × Int × Int} (h : ¬ (ahead < mark - s.1 ∧ s.1 < full ∧ s.2.1 < 2000)) : jf_prs rn kind ahead change full mark f s = s := by
  cases f with
  | zero => rfl
  | succ f => rw [jf_prs, if_neg h]
def jf_sn (kind change x : Int) : Int := if (kind = 2 ∨ kind = 4) ∧ change < x then change else 0
theorem jf_notch_same {kind change x y : Int} (h : y ≤ x) (h2 : jf_sn kind change x < y) : jf_notch kind change y = jf_notch kind change x := by
  unfold jf_sn at h2
  unfold jf_notch
  by_cases hk : kind = 2 ∨ kind = 4
  · rw [if_pos hk, if_pos hk]
    by_cases hc : change < x
    · rw [if_pos ⟨hk, hc⟩] at h2
      rw [if_pos hc, if_pos h2]
    · rw [if_neg hc, if_neg (by omega)]
  · rw [if_neg hk, if_neg hk]
theorem jf_prs_jump {rn : Int → Int} {kind ahead change full mark s q nt times n r : Int} (h1 : ahead < mark - s) (h2 : s < full) (h3 : q < 2000) (hq : 0 ≤ q) (hn : n = jf_notch kind change (mark - s)) (hr : r = rn n) (hr1 : 1 ≤ r) (ht1 : 1 ≤ times)
    (hA : (times - 1) * r < mark - s - max ahead (jf_sn kind change (mark - s))) (hB : (times - 1) * r < full - s) (hC : times ≤ 2000 - q) :
    jf_prs rn kind ahead change full mark (2000 - q).toNat (s, q, nt) = jf_prs rn kind ahead change full mark (2000 - (q + times)).toNat (min full (s + times * r), q + times, n) := by
  have key : ∀ m : Nat, 1 ≤ m → (m : Int) ≤ times → jf_prs rn kind ahead change full mark (2000 - q).toNat (s, q, nt) = jf_prs rn kind ahead change full mark (2000 - (q + m)).toNat (min full (s + m * r), q + m, n) := by
    intro m
    induction m with
    | zero => intro h; omega
    | succ m ih =>
      intro _ hm
      by_cases hm0 : m = 0
      · subst hm0
        have e : (2000 - q).toNat = (2000 - (q + ((0 + 1 : Nat) : Int))).toNat + 1 := by omega
        rw [e, jf_prs, if_pos ⟨h1, h2, h3⟩]
        dsimp only
        rw [← hn, ← hr]
        simp
      · rw [ih (by omega) (by omega)]
        have hle : (m : Int) * r ≤ (times - 1) * r := Int.mul_le_mul_of_nonneg_right (by omega) (by omega)
        have hmin : min full (s + (m : Int) * r) = s + m * r := by omega
        have h0 : 0 ≤ (m : Int) * r := Int.mul_nonneg (by omega) (by omega)
        have e : (2000 - (q + (m : Int))).toNat = (2000 - (q + ((m + 1 : Nat) : Int))).toNat + 1 := by omega
        rw [e, hmin, jf_prs, if_pos ⟨by dsimp only; omega, by dsimp only; omega, by dsimp only; omega⟩]
        dsimp only
        have hs : jf_notch kind change (mark - (s + (m : Int) * r)) = n := by
          rw [hn]
          exact jf_notch_same (by omega) (by omega)
        rw [hs, ← hr]
        have e2 : ((m + 1 : Nat) : Int) * r = m * r + r := by rw [show ((m + 1 : Nat) : Int) = (m : Int) + 1 by omega, Int.add_mul, Int.one_mul]
        rw [e2, show q + (m : Int) + 1 = q + ((m + 1 : Nat) : Int) by omega, show s + (m : Int) * r + r = s + ((m : Int) * r + r) by omega]
  have h := key times.toNat (by omega) (by omega)
  rw [show ((times.toNat : Nat) : Int) = times by omega] at h
  exact h
/-- touching: sum, tenths -/
def jf_tch (kind more full mark : Int) : Nat → Int × Int → Int × Int
  | 0, s => s
  | f + 1, s => if s.1 < mark ∧ s.1 < full ∧ 0 < jf_touch kind more (mark - s.1) then jf_tch kind more full mark f (min full (s.1 + jf_touch kind more (mark - s.1)), s.2 + 5) else s
theorem jf_tch_stop {kind more full mark : Int} (f : Nat) {s : Int × Int} (h : ¬ (s.1 < mark ∧ s.1 < full ∧ 0 < jf_touch kind more (mark - s.1))) : jf_tch kind more full mark f s = s := by
  cases f with
  | zero => rfl
  | succ f => rw [jf_tch, if_neg h]
/-- a STOP: where it lets go, each end, how often, all -/
def jf_pp (rn : Int → Int) (kind ahead change full mark start : Int) : Int × Int × Int := jf_prs rn kind ahead change full mark 2000 (min full start, 0, jf_notch kind change (mark - min full start))
def jf_en (rn : Int → Int) (kind more ahead change drips full mark start a : Int) : Int × Int :=
  jf_tch kind more full mark 30 (min full (min full ((jf_pp rn kind ahead change full mark start).1 + a * rn (jf_pp rn kind ahead change full mark start).2.2) + drips), (jf_pp rn kind ahead change full mark start).2.1 + a)
def jf_s5 (f : Int → Int) : Int := f 0 + f 1 + f 2 + f 3 + f 4
def jf_o0 (rn : Int → Int) (lt : Int → Int → Int) (kind more ahead change full mark start a : Int) : Int := jf_often kind more a (lt (jf_pp rn kind ahead change full mark start).2.2 a)
def jf_of (rn : Int → Int) (lt : Int → Int → Int) (kind more ahead change full mark start a : Int) : Int := if jf_s5 (jf_o0 rn lt kind more ahead change full mark start) = 0 ∧ a = 0 then 1 else jf_o0 rn lt kind more ahead change full mark start a
def jf_all (rn : Int → Int) (lt : Int → Int → Int) (kind more ahead change full mark start : Int) : Int := if jf_s5 (jf_o0 rn lt kind more ahead change full mark start) = 0 then 1 else jf_s5 (jf_o0 rn lt kind more ahead change full mark start)
-- bounds
theorem jf_notch_b (kind change x : Int) : 1 ≤ jf_notch kind change x ∧ jf_notch kind change x ≤ 3 := by
  unfold jf_notch
  repeat' split
  all_goals omega
theorem jf_touch_b {kind more x : Int} (hm : 0 ≤ more ∧ more ≤ 9) : 0 ≤ jf_touch kind more x ∧ jf_touch kind more x ≤ 6 := by
  unfold jf_touch
  have := jf_td more 3 hm.1
  repeat' split
  all_goals omega
theorem jf_often_b {kind more a v : Int} (hm : 0 ≤ more ∧ more ≤ 9) (ha : 0 ≤ a ∧ a ≤ 4) (hv : 0 ≤ v ∧ v ≤ 9) : 0 ≤ jf_often kind more a v ∧ jf_often kind more a v ≤ 13 := by
  unfold jf_often
  have q1 : 0 ≤ a * more := Int.mul_nonneg (by omega) (by omega)
  have q2 : a * more ≤ 4 * 9 := Int.mul_le_mul (by omega) (by omega) (by omega) (by omega)
  have q3 := jf_td (a * more) 3 q1
  have q4 := jf_td more 4 hm.1
  repeat' split
  all_goals omega
theorem jf_prs_b {rn : Int → Int} {kind ahead change full mark : Int} (hr : ∀ n, 1 ≤ rn n ∧ rn n ≤ 50) : ∀ (f : Nat) (s : Int × Int × Int), 0 ≤ s.1 → s.1 ≤ full → 0 ≤ s.2.1 → s.2.1 ≤ 2000 → 1 ≤ s.2.2 → s.2.2 ≤ 3 → 0 ≤ (jf_prs rn kind ahead change full mark f s).1 ∧ (jf_prs rn kind ahead change full mark f s).1 ≤ full ∧ 0 ≤ (jf_prs rn kind ahead change full mark f s).2.1 ∧ (jf_prs rn kind ahead change full mark f s).2.1 ≤ 2000 ∧ 1 ≤ (jf_prs rn kind ahead change full mark f s).2.2 ∧ (jf_prs rn kind ahead change full mark f s).2.2 ≤ 3
  | 0, s, h1, h2, h3, h4, h5, h6 => ⟨h1, h2, h3, h4, h5, h6⟩
  | f + 1, s, h1, h2, h3, h4, h5, h6 => by
    rw [jf_prs]
    split
    · have hn := jf_notch_b kind change (mark - s.1)
      have hrr := hr (jf_notch kind change (mark - s.1))
      exact jf_prs_b hr f _ (by dsimp only; omega) (by dsimp only; omega) (by dsimp only; omega) (by dsimp only; omega) hn.1 hn.2
    · exact ⟨h1, h2, h3, h4, h5, h6⟩
theorem jf_pp_b {rn : Int → Int} {kind ahead change full mark start : Int} (hr : ∀ n, 1 ≤ rn n ∧ rn n ≤ 50) (hf : 1 ≤ full) (hs : 0 ≤ start) : 0 ≤ (jf_pp rn kind ahead change full mark start).1 ∧ (jf_pp rn kind ahead change full mark start).1 ≤ full ∧ 0 ≤ (jf_pp rn kind ahead change full mark start).2.1 ∧ (jf_pp rn kind ahead change full mark start).2.1 ≤ 2000 ∧ 1 ≤ (jf_pp rn kind ahead change full mark start).2.2 ∧ (jf_pp rn kind ahead change full mark start).2.2 ≤ 3 := by
  have hn := jf_notch_b kind change (mark - min full start)
  exact jf_prs_b hr 2000 _ (by dsimp only; omega) (by dsimp only; omega) (by dsimp only; omega) (by dsimp only; omega) hn.1 hn.2
theorem jf_tch_b {kind more full mark : Int} (hm : 0 ≤ more ∧ more ≤ 9) : ∀ (f : Nat) (s : Int × Int), 0 ≤ s.1 → s.1 ≤ full → 0 ≤ (jf_tch kind more full mark f s).1 ∧ (jf_tch kind more full mark f s).1 ≤ full ∧ s.2 ≤ (jf_tch kind more full mark f s).2 ∧ (jf_tch kind more full mark f s).2 ≤ s.2 + 5 * f
  | 0, s, h1, h2 => ⟨h1, h2, Int.le_refl _, by simp [jf_tch]⟩
  | f + 1, s, h1, h2 => by
    rw [jf_tch]
    split
    · have ht := jf_touch_b (kind := kind) (x := mark - s.1) hm
      have := jf_tch_b (kind := kind) (full := full) (mark := mark) hm f (min full (s.1 + jf_touch kind more (mark - s.1)), s.2 + 5) (by dsimp only; omega) (by dsimp only; omega)
      dsimp only at this
      omega
    · exact ⟨h1, h2, Int.le_refl _, by omega⟩
