/-! wb -/
/-! THE PAIRS: what thinks of another HAND -/
theorem pr_tr_px {g M : am_M} (ht : jf_tr g M) {k : Nat} (hk : k < 5) : jf_px (am_mix [12, 13, 14, 263, 264, 265, 266, 346, 17, 19, 100, 101, 102, 140, 141, 142, 143] g M) k = jf_px M k := by
  have h := ht k hk
  exact (by rw [h.1, h.2.1, h.2.2.1, h.2.2.2] : (g 140 k 0, g 141 k 0, g 142 k 0, g 143 k 0, (jf_px M k).2.2.2.2) = (M 140 k 0, M 141 k 0, M 142 k 0, M 143 k 0, (jf_px M k).2.2.2.2))
theorem pr_tr_pa {g M : am_M} (ht : jf_tr g M) {k : Nat} (hk : k < 5) {v : Int} : jf_pa (am_mix [12, 13, 14, 263, 264, 265, 266, 346, 17, 19, 100, 101, 102, 140, 141, 142, 143] g M) k v = jf_pa M k v := by
  have h := ht k hk
  exact (by rw [h.1, h.2.1, h.2.2.2] : (g 140 k 0, g 141 k 0, v, g 143 k 0, (jf_pa M k v).2.2.2.2) = (M 140 k 0, M 141 k 0, v, M 143 k 0, (jf_pa M k v).2.2.2.2))
theorem pr_tr_pc {g M : am_M} (ht : jf_tr g M) {k : Nat} (hk : k < 5) {v : Int} : jf_pc (am_mix [12, 13, 14, 263, 264, 265, 266, 346, 17, 19, 100, 101, 102, 140, 141, 142, 143] g M) k v = jf_pc M k v := by
  have h := ht k hk
  exact (by rw [h.1, h.2.1, h.2.2.1] : (g 140 k 0, g 141 k 0, g 142 k 0, v, (jf_pc M k v).2.2.2.2) = (M 140 k 0, M 141 k 0, M 142 k 0, v, (jf_pc M k v).2.2.2.2))
theorem pr_tr_pk {g M : am_M} (ht : jf_tr g M) {k : Nat} (hk : k < 5) {v : Int} : jf_pk (am_mix [12, 13, 14, 263, 264, 265, 266, 346, 17, 19, 100, 101, 102, 140, 141, 142, 143] g M) k v = jf_pk M k v := by
  have h := ht k hk
  exact (by rw [h.2.1, h.2.2.1, h.2.2.2] : (v, g 141 k 0, g 142 k 0, g 143 k 0, (jf_pk M k v).2.2.2.2) = (v, M 141 k 0, M 142 k 0, M 143 k 0, (jf_pk M k v).2.2.2.2))
theorem pr_tr_pm {g M : am_M} (ht : jf_tr g M) {k : Nat} (hk : k < 5) {v : Int} : jf_pm (am_mix [12, 13, 14, 263, 264, 265, 266, 346, 17, 19, 100, 101, 102, 140, 141, 142, 143] g M) k v = jf_pm M k v := by
  have h := ht k hk
  exact (by rw [h.1, h.2.2.1, h.2.2.2] : (g 140 k 0, v, g 142 k 0, g 143 k 0, (jf_pm M k v).2.2.2.2) = (M 140 k 0, v, M 142 k 0, M 143 k 0, (jf_pm M k v).2.2.2.2))
theorem pr_tr_ba {g M : am_M} (ht : jf_tr g M) {k : Nat} (hk : k < 5) {goal : Int} : jf_ba (am_mix [12, 13, 14, 263, 264, 265, 266, 346, 17, 19, 100, 101, 102, 140, 141, 142, 143] g M) k goal = jf_ba M k goal :=
  congrArg (fun f : Int → jf_par => jf_best (fun i => (i : Int)) (fun i => (jf_wo (f (i : Int)) (if goal ≠ 0 then 2 else 0), jf_A (f (i : Int))))) (funext fun v => pr_tr_pa ht hk (v := v))
theorem pr_tr_bc {g M : am_M} (ht : jf_tr g M) {k : Nat} (hk : k < 5) {goal : Int} : ∀ n, jf_bc (am_mix [12, 13, 14, 263, 264, 265, 266, 346, 17, 19, 100, 101, 102, 140, 141, 142, 143] g M) k goal n = jf_bc M k goal n
  | 0 => rfl
  | n + 1 => by
    have ih := pr_tr_bc ht hk (goal := goal) n
    have e220 : (am_mix [12, 13, 14, 263, 264, 265, 266, 346, 17, 19, 100, 101, 102, 140, 141, 142, 143] g M) 220 0 0 = M 220 0 0 := rfl
    rw [jf_bc_s, jf_bc_s M, ih, pr_tr_px ht hk, pr_tr_pc ht hk, e220]
theorem pr_tr_pf {g M : am_M} (ht : jf_tr g M) {k : Nat} (hk : k < 5) {so v : Int} : jf_pf (am_mix [12, 13, 14, 263, 264, 265, 266, 346, 17, 19, 100, 101, 102, 140, 141, 142, 143] g M) k so v = jf_pf M k so v := by
  unfold jf_pf
  rw [pr_tr_pk ht hk, pr_tr_pm ht hk, pr_tr_pa ht hk]
theorem pr_tr_bf {g M : am_M} (ht : jf_tr g M) {s k : Nat} (hk : k < 5) {so : Int} : jf_bf (am_mix [12, 13, 14, 263, 264, 265, 266, 346, 17, 19, 100, 101, 102, 140, 141, 142, 143] g M) s k so = jf_bf M s k so :=
  congrArg (fun f : Int → jf_par => jf_best (fun i => (i : Int)) (fun i => (jf_pb (f (i : Int)) (M 21 s) (M 181 s 0).toNat, 1))) (funext fun v => pr_tr_pf ht hk (v := v))
theorem pr_tr_ahead {g M : am_M} (ht : jf_tr g M) (hn : M 227 0 0 ≤ 5) {h goal : Int} : jx_ahead (am_mix [12, 13, 14, 263, 264, 265, 266, 346, 17, 19, 100, 101, 102, 140, 141, 142, 143] g M) h goal = jx_ahead M h goal := by
  show (if 0 ≤ h ∧ h < M 227 0 0 then (if 0 ≤ goal ∧ goal ≤ 1 then (jf_ba (am_mix [12, 13, 14, 263, 264, 265, 266, 346, 17, 19, 100, 101, 102, 140, 141, 142, 143] g M) h.toNat goal 100).1 else -7) else -5) = _
  unfold jx_ahead
  by_cases c : 0 ≤ h ∧ h < M 227 0 0
  · rw [if_pos c, if_pos c, pr_tr_ba ht (by omega)]
  · rw [if_neg c, if_neg c]
theorem pr_tr_change {g M : am_M} (ht : jf_tr g M) (hn : M 227 0 0 ≤ 5) {h goal : Int} : jx_change (am_mix [12, 13, 14, 263, 264, 265, 266, 346, 17, 19, 100, 101, 102, 140, 141, 142, 143] g M) h goal = jx_change M h goal := by
  show (if 0 ≤ h ∧ h < M 227 0 0 then (if 0 ≤ goal ∧ goal ≤ 1 then (jf_bc (am_mix [12, 13, 14, 263, 264, 265, 266, 346, 17, 19, 100, 101, 102, 140, 141, 142, 143] g M) h.toNat goal 51).1 else -7) else -5) = _
  unfold jx_change
  by_cases c : 0 ≤ h ∧ h < M 227 0 0
  · rw [if_pos c, if_pos c, pr_tr_bc ht (by omega)]
  · rw [if_neg c, if_neg c]
theorem pr_tr_fits {g M : am_M} (ht : jf_tr g M) (hn : M 227 0 0 ≤ 5) {sa h sw : Int} : jx_fits (am_mix [12, 13, 14, 263, 264, 265, 266, 346, 17, 19, 100, 101, 102, 140, 141, 142, 143] g M) sa h sw = jx_fits M sa h sw := by
  show (if (0 ≤ sa ∧ sa < 4) ∧ 0 ≤ h ∧ h < M 227 0 0 then (if M 180 sa.toNat 0 = -1 then -4611686018427387904 else if (0 ≤ Int.tdiv sw 10 ∧ Int.tdiv sw 10 ≤ 2) ∧ 0 ≤ Int.tmod sw 10 ∧ Int.tmod sw 10 ≤ 1 then (if Int.tmod sw 10 ≠ 0 then (jf_bf (am_mix [12, 13, 14, 263, 264, 265, 266, 346, 17, 19, 100, 101, 102, 140, 141, 142, 143] g M) sa.toNat h.toNat (Int.tdiv sw 10) (jf_bfn (Int.tdiv sw 10))).2.1 else (jf_bf (am_mix [12, 13, 14, 263, 264, 265, 266, 346, 17, 19, 100, 101, 102, 140, 141, 142, 143] g M) sa.toNat h.toNat (Int.tdiv sw 10) (jf_bfn (Int.tdiv sw 10))).1) else -4611686018427387904) else -4611686018427387904) = _
  unfold jx_fits
  by_cases c : (0 ≤ sa ∧ sa < 4) ∧ 0 ≤ h ∧ h < M 227 0 0
  · rw [if_pos c, if_pos c, pr_tr_bf ht (by omega)]
  · rw [if_neg c, if_neg c]
theorem pr_tr_J {g M : am_M} (ht : jf_tr g M) (hJ : jf_J M) : jf_J (am_mix [12, 13, 14, 263, 264, 265, 266, 346, 17, 19, 100, 101, 102, 140, 141, 142, 143] g M) := by
  refine ⟨hJ.1, fun k hk => ?_, hJ.2.2⟩
  have h := ht k hk
  have b := hJ.2.1 k hk
  show (0 ≤ g 140 k 0 ∧ g 140 k 0 ≤ 5) ∧ (0 ≤ g 141 k 0 ∧ g 141 k 0 ≤ 9) ∧ (0 ≤ g 142 k 0 ∧ g 142 k 0 ≤ 99) ∧ (0 ≤ g 143 k 0 ∧ g 143 k 0 ≤ 500) ∧ (0 ≤ M 144 k 0 ∧ M 144 k 0 ≤ 99) ∧ 0 ≤ M 145 k 0 ∧ M 145 k 0 ≤ 500
  rw [h.1, h.2.1, h.2.2.1, h.2.2.2]
  exact b
theorem pr_tr_C {g M : am_M} (ht : jf_tr g M) (hW : jf_C M) : jf_C (am_mix [12, 13, 14, 263, 264, 265, 266, 346, 17, 19, 100, 101, 102, 140, 141, 142, 143] g M) := by
  refine ⟨⟨hW.1.1, hW.1.2.1, fun k hk => ?_⟩, hW.2⟩
  have h := ht k hk
  have b := hW.1.2.2 k hk
  show M 23 0 k = g 140 k 0 ∧ M 24 0 k = g 141 k 0 ∧ M 25 0 (2 * k) = g 142 k 0 ∧ M 25 0 (2 * k + 1) = g 143 k 0
  rw [h.1, h.2.1, h.2.2.1, h.2.2.2]
  exact b
theorem pr_ahead {d : Nat} (hd : 14 ≤ d) {h goal : Int} {M : am_M} {K : am_K} (hJ : jf_J M) (hW : jf_C M) (ha0 : am_in h) (ha1 : am_in goal) (hp : pr_K d M 167 [aR 8 0, aI h, aI goal] K) : am_Call true d 75 [aR 7 0, aI h, aI goal] M K := sq_ahead (by omega) hJ ha0 ha1 (fun g1 ht => hp _ (am_mix [12, 13, 14, 263, 264, 265, 266, 346, 17, 19, 100, 101, 102, 140, 141, 142, 143] g1 M) ⟨rfl, rfl⟩ (fun K2 h2 => sm_ahead (M := (am_mix [12, 13, 14, 263, 264, 265, 266, 346, 17, 19, 100, 101, 102, 140, 141, 142, 143] g1 M)) (by omega) (pr_tr_J ht hJ) (pr_tr_C ht hW) ha0 ha1 (fun g2 => am_kr (h2 (am_mix mo_SM g2 (am_mix [12, 13, 14, 263, 264, 265, 266, 346, 17, 19, 100, 101, 102, 140, 141, 142, 143] g1 M)) ⟨pr_tr_J ht hJ, pr_tr_C ht hW, rfl, rfl⟩) (pr_tr_ahead ht hJ.1.1.2.2.2.2.2.2.2.1.2).symm)))
theorem pr_change {d : Nat} (hd : 14 ≤ d) {h goal : Int} {M : am_M} {K : am_K} (hJ : jf_J M) (hW : jf_C M) (ha0 : am_in h) (ha1 : am_in goal) (hp : pr_K d M 169 [aR 8 0, aI h, aI goal] K) : am_Call true d 80 [aR 7 0, aI h, aI goal] M K := sq_change (by omega) hJ ha0 ha1 (fun g1 ht => hp _ (am_mix [12, 13, 14, 263, 264, 265, 266, 346, 17, 19, 100, 101, 102, 140, 141, 142, 143] g1 M) ⟨rfl, rfl⟩ (fun K2 h2 => sm_change (M := (am_mix [12, 13, 14, 263, 264, 265, 266, 346, 17, 19, 100, 101, 102, 140, 141, 142, 143] g1 M)) (by omega) (pr_tr_J ht hJ) (pr_tr_C ht hW) ha0 ha1 (fun g2 => am_kr (h2 (am_mix mo_SM g2 (am_mix [12, 13, 14, 263, 264, 265, 266, 346, 17, 19, 100, 101, 102, 140, 141, 142, 143] g1 M)) ⟨pr_tr_J ht hJ, pr_tr_C ht hW, rfl, rfl⟩) (pr_tr_change ht hJ.1.1.2.2.2.2.2.2.2.1.2).symm)))
theorem pr_fits {d : Nat} (hd : 14 ≤ d) {sa h sw : Int} {M : am_M} {K : am_K} (hJ : jf_J M) (hW : jf_C M) (ha0 : am_in sa) (ha1 : am_in h) (ha2 : am_in sw) (hp : pr_KL d M 187 [aR 8 0, aI sa, aI h, aI sw] K) : am_Call true d 98 [aR 7 0, aI sa, aI h, aI sw] M K := sq_fits (by omega) hJ ha0 ha1 ha2 (fun g1 ht => hp _ (am_mix [12, 13, 14, 263, 264, 265, 266, 346, 17, 19, 100, 101, 102, 140, 141, 142, 143] g1 M) ⟨rfl, rfl⟩ (fun K2 h2 => sm_fits (M := (am_mix [12, 13, 14, 263, 264, 265, 266, 346, 17, 19, 100, 101, 102, 140, 141, 142, 143] g1 M)) (by omega) (pr_tr_J ht hJ) (pr_tr_C ht hW) ha0 ha1 ha2 (fun g2 => am_krL (h2 (am_mix mo_SM g2 (am_mix [12, 13, 14, 263, 264, 265, 266, 346, 17, 19, 100, 101, 102, 140, 141, 142, 143] g1 M)) ⟨pr_tr_J ht hJ, pr_tr_C ht hW, rfl, rfl⟩) (pr_tr_fits ht hJ.1.1.2.2.2.2.2.2.2.1.2).symm)))
