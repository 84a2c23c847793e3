/-! wb -/
/-! THE PAIRS: the same question, put to one and to the other -/
def pr_ok (M m : am_M) : Prop := jf_J m ∧ jf_C m ∧ m 49 = M 49 ∧ m 50 = M 50
/-- what is answered first is answered again by the call behind it -/
def pr_K (d : Nat) (M : am_M) (id : Nat) (as : List am_V) (K : am_K) : Prop := ∀ x M1, M1 49 = M 49 ∧ M1 50 = M 50 → (∀ K2 : am_K, (∀ M2, pr_ok M M2 → K2 (some (aI x)) M2) → am_Call true d id as M1 K2) → K (some (aI x)) M1
def pr_KL (d : Nat) (M : am_M) (id : Nat) (as : List am_V) (K : am_K) : Prop := ∀ x M1, M1 49 = M 49 ∧ M1 50 = M 50 → (∀ K2 : am_K, (∀ M2, pr_ok M M2 → K2 (some (aL x)) M2) → am_Call true d id as M1 K2) → K (some (aL x)) M1

theorem pr_stops {d : Nat} (hd : 14 ≤ d) {h a w : Int} {M : am_M} {K : am_K} (hJ : jf_J M) (hW : jf_C M) (ha0 : am_in h) (ha1 : am_in a) (ha2 : am_in w) (hp : pr_K d M 149 [aR 8 0, aI h, aI a, aI w] K) : am_Call true d 49 [aR 7 0, aI h, aI a, aI w] M K := sq_stops (by omega) hJ ha0 ha1 ha2 (fun g1 => hp _ (am_mix [12, 13, 14, 263, 264, 265, 266, 346, 17, 19, 100, 101, 102] g1 M) ⟨rfl, rfl⟩ (fun K2 h2 => sm_stops (M := am_mix [12, 13, 14, 263, 264, 265, 266, 346, 17, 19, 100, 101, 102] g1 M) (by omega) hJ hW ha0 ha1 ha2 (fun g2 => h2 _ ⟨hJ, hW, rfl, rfl⟩)))
theorem pr_chance {d : Nat} (hd : 14 ≤ d) {h s q : Int} {M : am_M} {K : am_K} (hJ : jf_J M) (hW : jf_C M) (ha0 : am_in h) (ha1 : am_in s) (ha2 : am_in q) (hp : pr_KL d M 158 [aR 8 0, aI h, aI s, aI q] K) : am_Call true d 64 [aR 7 0, aI h, aI s, aI q] M K := sq_chance (by omega) hJ ha0 ha1 ha2 (fun g1 => hp _ (am_mix [12, 13, 14, 263, 264, 265, 266, 346, 17, 19, 100, 101, 102] g1 M) ⟨rfl, rfl⟩ (fun K2 h2 => sm_chance (M := am_mix [12, 13, 14, 263, 264, 265, 266, 346, 17, 19, 100, 101, 102] g1 M) (by omega) hJ hW ha0 ha1 ha2 (fun g2 => h2 _ ⟨hJ, hW, rfl, rfl⟩)))
theorem pr_mean {d : Nat} (hd : 14 ≤ d) {h q : Int} {M : am_M} {K : am_K} (hJ : jf_J M) (hW : jf_C M) (ha0 : am_in h) (ha1 : am_in q) (hp : pr_KL d M 160 [aR 8 0, aI h, aI q] K) : am_Call true d 69 [aR 7 0, aI h, aI q] M K := sq_mean (by omega) hJ ha0 ha1 (fun g1 => hp _ (am_mix [12, 13, 14, 263, 264, 265, 266, 346, 17, 19, 100, 101, 102] g1 M) ⟨rfl, rfl⟩ (fun K2 h2 => sm_mean (M := am_mix [12, 13, 14, 263, 264, 265, 266, 346, 17, 19, 100, 101, 102] g1 M) (by omega) hJ hW ha0 ha1 (fun g2 => h2 _ ⟨hJ, hW, rfl, rfl⟩)))
theorem pr_time {d : Nat} (hd : 14 ≤ d) {h q : Int} {M : am_M} {K : am_K} (hJ : jf_J M) (hW : jf_C M) (ha0 : am_in h) (ha1 : am_in q) (hp : pr_KL d M 163 [aR 8 0, aI h, aI q] K) : am_Call true d 72 [aR 7 0, aI h, aI q] M K := sq_time (by omega) hJ ha0 ha1 (fun g1 => hp _ (am_mix [12, 13, 14, 263, 264, 265, 266, 346, 17, 19, 100, 101, 102] g1 M) ⟨rfl, rfl⟩ (fun K2 h2 => sm_time (M := am_mix [12, 13, 14, 263, 264, 265, 266, 346, 17, 19, 100, 101, 102] g1 M) (by omega) hJ hW ha0 ha1 (fun g2 => h2 _ ⟨hJ, hW, rfl, rfl⟩)))
theorem pr_at {d : Nat} (hd : 14 ≤ d) {h e q : Int} {M : am_M} {K : am_K} (hJ : jf_J M) (hW : jf_C M) (ha0 : am_in h) (ha1 : am_in e) (ha2 : am_in q) (hp : pr_KL d M 165 [aR 8 0, aI h, aI e, aI q] K) : am_Call true d 74 [aR 7 0, aI h, aI e, aI q] M K := sq_at (by omega) hJ ha0 ha1 ha2 (fun g1 => hp _ (am_mix [12, 13, 14, 263, 264, 265, 266, 346, 17, 19, 100, 101, 102] g1 M) ⟨rfl, rfl⟩ (fun K2 h2 => sm_at (M := am_mix [12, 13, 14, 263, 264, 265, 266, 346, 17, 19, 100, 101, 102] g1 M) (by omega) hJ hW ha0 ha1 ha2 (fun g2 => h2 _ ⟨hJ, hW, rfl, rfl⟩)))
theorem pr_full {d : Nat} (hd : 14 ≤ d) {h s q : Int} {M : am_M} {K : am_K} (hJ : jf_J M) (hW : jf_C M) (ha0 : am_in h) (ha1 : am_in s) (ha2 : am_in q) (hp : pr_KL d M 177 [aR 8 0, aI h, aI s, aI q] K) : am_Call true d 85 [aR 7 0, aI h, aI s, aI q] M K := sq_full (by omega) hJ ha0 ha1 ha2 (fun g1 => hp _ (am_mix [12, 13, 14, 263, 264, 265, 266, 346, 17, 19, 100, 101, 102] g1 M) ⟨rfl, rfl⟩ (fun K2 h2 => sm_full (M := am_mix [12, 13, 14, 263, 264, 265, 266, 346, 17, 19, 100, 101, 102] g1 M) (by omega) hJ hW ha0 ha1 ha2 (fun g2 => h2 _ ⟨hJ, hW, rfl, rfl⟩)))
theorem pr_spread {d : Nat} (hd : 14 ≤ d) {h : Int} {M : am_M} {K : am_K} (hJ : jf_J M) (hW : jf_C M) (ha0 : am_in h) (hp : pr_K d M 178 [aR 8 0, aI h] K) : am_Call true d 86 [aR 7 0, aI h] M K := sq_spread (by omega) hJ ha0 (fun g1 => hp _ (am_mix [12, 13, 14, 263, 264, 265, 266, 346, 17, 19, 100, 101, 102] g1 M) ⟨rfl, rfl⟩ (fun K2 h2 => sm_spread (M := am_mix [12, 13, 14, 263, 264, 265, 266, 346, 17, 19, 100, 101, 102] g1 M) (by omega) hJ hW ha0 (fun g2 => h2 _ ⟨hJ, hW, rfl, rfl⟩)))
theorem pr_alike {d : Nat} (hd : 14 ≤ d) {h n q : Int} {M : am_M} {K : am_K} (hJ : jf_J M) (hW : jf_C M) (ha0 : am_in h) (ha1 : am_in n) (ha2 : am_in q) (hp : pr_KL d M 179 [aR 8 0, aI h, aI n, aI q] K) : am_Call true d 88 [aR 7 0, aI h, aI n, aI q] M K := sq_alike (by omega) hJ ha0 ha1 ha2 (fun g1 => hp _ (am_mix [12, 13, 14, 263, 264, 265, 266, 346, 17, 19, 100, 101, 102] g1 M) ⟨rfl, rfl⟩ (fun K2 h2 => sm_alike (M := am_mix [12, 13, 14, 263, 264, 265, 266, 346, 17, 19, 100, 101, 102] g1 M) (by omega) hJ hW ha0 ha1 ha2 (fun g2 => h2 _ ⟨hJ, hW, rfl, rfl⟩)))
theorem pr_drawn {d : Nat} (hd : 14 ≤ d) {sd h w : Int} {M : am_M} {K : am_K} (hJ : jf_J M) (hW : jf_C M) (ha0 : am_in sd) (ha1 : am_in h) (ha2 : am_in w) (hp : pr_K d M 192 [aR 8 0, aI sd, aI h, aI w] K) : am_Call true d 106 [aR 7 0, aI sd, aI h, aI w] M K := sq_drawn (by omega) hJ ha0 ha1 ha2 (fun g1 => hp _ (am_mix [12, 13, 14, 263, 264, 265, 266, 346, 17, 19, 100, 101, 102] g1 M) ⟨rfl, rfl⟩ (fun K2 h2 => sm_drawn (M := am_mix [12, 13, 14, 263, 264, 265, 266, 346, 17, 19, 100, 101, 102] g1 M) (by omega) hJ hW ha0 ha1 ha2 (fun g2 => h2 _ ⟨hJ, hW, rfl, rfl⟩)))
theorem pr_on {d : Nat} (hd : 14 ≤ d) {h e q : Int} {M : am_M} {K : am_K} (hJ : jf_J M) (hW : jf_C M) (ha0 : am_in h) (ha1 : am_in e) (ha2 : am_in q) (hp : pr_KL d M 174 [aR 8 0, aI h, aI e, aI q] K) : am_Call true d 83 [aR 7 0, aI h, aI e, aI q] M K := sq_on (by omega) hJ ha0 ha1 ha2 (fun g1 => hp _ (am_mix [12, 13, 14, 263, 264, 265, 266, 346, 17, 19, 100, 101, 102] g1 M) ⟨rfl, rfl⟩ (fun K2 h2 => sm_on (M := am_mix [12, 13, 14, 263, 264, 265, 266, 346, 17, 19, 100, 101, 102] g1 M) (by omega) hJ hW ha0 ha1 ha2 (fun g2 => h2 _ ⟨hJ, hW, rfl, rfl⟩)))
theorem pr_next {d : Nat} (hd : 14 ≤ d) {h : Int} {M : am_M} {K : am_K} (hJ : jf_J M) (hW : jf_C M) (ha0 : am_in h) (hp : pr_K d M 172 [aR 8 0, aI h] K) : am_Call true d 82 [aR 7 0, aI h] M K := sq_next (by omega) hJ ha0 (fun g1 => hp _ (am_mix [12, 13, 14, 263, 264, 265, 266, 346, 17, 19, 100, 101, 102] g1 M) ⟨rfl, rfl⟩ (fun K2 h2 => sm_next (M := am_mix [12, 13, 14, 263, 264, 265, 266, 346, 17, 19, 100, 101, 102] g1 M) (by omega) hJ hW ha0 (fun g2 => h2 _ ⟨hJ, hW, rfl, rfl⟩)))
theorem pr_who {d : Nat} (hd : 14 ≤ d) {goal : Int} {M : am_M} {K : am_K} (hJ : jf_J M) (hW : jf_C M) (ha0 : am_in goal) (hp : pr_K d M 171 [aR 8 0, aI goal] K) : am_Call true d 81 [aR 7 0, aI goal] M K := sq_who (by omega) hJ ha0 (fun g1 => hp _ (am_mix [12, 13, 14, 263, 264, 265, 266, 346, 17, 19, 100, 101, 102] g1 M) ⟨rfl, rfl⟩ (fun K2 h2 => sm_who (M := am_mix [12, 13, 14, 263, 264, 265, 266, 346, 17, 19, 100, 101, 102] g1 M) (by omega) hJ hW ha0 (fun g2 => h2 _ ⟨hJ, hW, rfl, rfl⟩)))
theorem pr_odds {d : Nat} (hd : 14 ≤ d) {sd n h q : Int} {M : am_M} {K : am_K} (hJ : jf_J M) (hW : jf_C M) (ha0 : am_in sd) (ha1 : am_in n) (ha2 : am_in h) (ha3 : am_in q) (hp : pr_KL d M 194 [aR 8 0, aI sd, aI n, aI h, aI q] K) : am_Call true d 108 [aR 7 0, aI sd, aI n, aI h, aI q] M K := sq_odds (by omega) hJ ha0 ha1 ha2 ha3 (fun g1 => hp _ (am_mix [12, 13, 14, 263, 264, 265, 266, 346, 17, 19, 100, 101, 102] g1 M) ⟨rfl, rfl⟩ (fun K2 h2 => sm_odds (M := am_mix [12, 13, 14, 263, 264, 265, 266, 346, 17, 19, 100, 101, 102] g1 M) (by omega) hJ hW ha0 ha1 ha2 ha3 (fun g2 => h2 _ ⟨hJ, hW, rfl, rfl⟩)))
theorem pr_judge {d : Nat} (hd : 14 ≤ d) {sa h : Int} {M : am_M} {K : am_K} (hJ : jf_J M) (hW : jf_C M) (ha0 : am_in sa) (ha1 : am_in h) (hp : pr_K d M 181 [aR 8 0, aI sa, aI h] K) : am_Call true d 91 [aR 7 0, aI sa, aI h] M K := sq_judge (by omega) hJ ha0 ha1 (fun g1 => hp _ (am_mix [12, 13, 14, 263, 264, 265, 266, 346, 17, 19, 100, 101, 102] g1 M) ⟨rfl, rfl⟩ (fun K2 h2 => sm_judge (M := am_mix [12, 13, 14, 263, 264, 265, 266, 346, 17, 19, 100, 101, 102] g1 M) (by omega) hJ hW ha0 ha1 (fun g2 => h2 _ ⟨hJ, hW, rfl, rfl⟩)))
theorem pr_parts {d : Nat} (hd : 14 ≤ d) {sa h : Int} {M : am_M} {K : am_K} (hJ : jf_J M) (hW : jf_C M) (ha0 : am_in sa) (ha1 : am_in h) (hp : pr_KL d M 185 [aR 8 0, aI sa, aI h] K) : am_Call true d 96 [aR 7 0, aI sa, aI h] M K := sq_parts (by omega) hJ ha0 ha1 (fun g1 => hp _ (am_mix [12, 13, 14, 263, 264, 265, 266, 346, 17, 19, 100, 101, 102] g1 M) ⟨rfl, rfl⟩ (fun K2 h2 => sm_parts (M := am_mix [12, 13, 14, 263, 264, 265, 266, 346, 17, 19, 100, 101, 102] g1 M) (by omega) hJ hW ha0 ha1 (fun g2 => h2 _ ⟨hJ, hW, rfl, rfl⟩)))
theorem pr_whose {d : Nat} (hd : 14 ≤ d) {sa w : Int} {M : am_M} {K : am_K} (hJ : jf_J M) (hW : jf_C M) (ha0 : am_in sa) (ha1 : am_in w) (hp : pr_KL d M 188 [aR 8 0, aI sa, aI w] K) : am_Call true d 99 [aR 7 0, aI sa, aI w] M K := sq_whose (by omega) hJ ha0 ha1 (fun g1 => hp _ (am_mix [12, 13, 14, 263, 264, 265, 266, 346, 17, 19, 100, 101, 102] g1 M) ⟨rfl, rfl⟩ (fun K2 h2 => sm_whose (M := am_mix [12, 13, 14, 263, 264, 265, 266, 346, 17, 19, 100, 101, 102] g1 M) (by omega) hJ hW ha0 ha1 (fun g2 => h2 _ ⟨hJ, hW, rfl, rfl⟩)))
theorem pr_rule {d : Nat} (hd : 14 ≤ d) {sa h w : Int} {M : am_M} {K : am_K} (hJ : jf_J M) (hW : jf_C M) (ha0 : am_in sa) (ha1 : am_in h) (ha2 : am_in w) (hp : pr_KL d M 189 [aR 8 0, aI sa, aI h, aI w] K) : am_Call true d 100 [aR 7 0, aI sa, aI h, aI w] M K := sq_rule (by omega) hJ ha0 ha1 ha2 (fun g1 => hp _ (am_mix [12, 13, 14, 263, 264, 265, 266, 346, 17, 19, 100, 101, 102] g1 M) ⟨rfl, rfl⟩ (fun K2 h2 => sm_rule (M := am_mix [12, 13, 14, 263, 264, 265, 266, 346, 17, 19, 100, 101, 102] g1 M) (by omega) hJ hW ha0 ha1 ha2 (fun g2 => h2 _ ⟨hJ, hW, rfl, rfl⟩)))
theorem pr_count {d : Nat} (hd : 14 ≤ d) {w : Int} {M : am_M} {K : am_K} (hJ : jf_J M) (hW : jf_C M) (ha0 : am_in w) (hp : pr_K d M 135 [aR 8 0, aI w] K) : am_Call true d 31 [aR 7 0, aI w] M K := sq_count (by omega) hJ ha0 (hp _ (M) ⟨rfl, rfl⟩ (fun K2 h2 => sm_count (M := M) (by omega) hJ hW ha0 (h2 _ ⟨hJ, hW, rfl, rfl⟩)))
theorem pr_told {d : Nat} (hd : 14 ≤ d) {h w : Int} {M : am_M} {K : am_K} (hJ : jf_J M) (hW : jf_C M) (ha0 : am_in h) (ha1 : am_in w) (hp : pr_K d M 148 [aR 8 0, aI h, aI w] K) : am_Call true d 48 [aR 7 0, aI h, aI w] M K := sq_told (by omega) hJ ha0 ha1 (hp _ (M) ⟨rfl, rfl⟩ (fun K2 h2 => sm_told (M := M) (by omega) hJ hW ha0 ha1 (fun g2 => h2 _ ⟨hJ, hW, rfl, rfl⟩)))
theorem pr_book {d : Nat} (hd : 14 ≤ d) {w : Int} {M : am_M} {K : am_K} (hJ : jf_J M) (hW : jf_C M) (ha0 : am_in w) (hp : pr_K d M 196 [aR 8 0, aI w] K) : am_Call true d 110 [aR 7 0, aI w] M K := sq_book (by omega) hJ ha0 (hp _ (M) ⟨rfl, rfl⟩ (fun K2 h2 => sm_book (M := M) (by omega) hJ hW ha0 (h2 _ ⟨hJ, hW, rfl, rfl⟩)))
theorem pr_taken {d : Nat} (hd : 14 ≤ d) {i w : Int} {M : am_M} {K : am_K} (hJ : jf_J M) (hW : jf_C M) (ha0 : am_in i) (ha1 : am_in w) (hp : pr_KL d M 203 [aR 8 0, aI i, aI w] K) : am_Call true d 121 [aR 7 0, aI i, aI w] M K := sq_taken (by omega) hJ ha0 ha1 (hp _ (M) ⟨rfl, rfl⟩ (fun K2 h2 => sm_taken (M := M) (by omega) hJ hW ha0 ha1 (h2 _ ⟨hJ, hW, rfl, rfl⟩)))
theorem jf_lw_mix {g M : am_M} {s k : Nat} : ∀ n, jf_lw (am_mix [12, 13, 14, 263, 264, 265, 266, 346, 17, 19, 100, 101, 102] g M) s k n = jf_lw M s k n
  | 0 => rfl
  | n + 1 => by
    have ih := jf_lw_mix (g := g) (M := M) (s := s) (k := k) n
    show (if jf_fu (jf_xp M k n (M 220 0 0) 0) (M 21 s) (M 181 s 0).toNat 0 = -1 then am_or (jf_lw (am_mix [12, 13, 14, 263, 264, 265, 266, 346, 17, 19, 100, 101, 102] g M) s k n) (1 * 2 ^ ((n : Nat) : Int).toNat) else jf_lw (am_mix [12, 13, 14, 263, 264, 265, 266, 346, 17, 19, 100, 101, 102] g M) s k n) = _
    rw [ih]
    rfl
theorem jx_laws_mix {g M : am_M} {sa h : Int} : jx_laws (am_mix [12, 13, 14, 263, 264, 265, 266, 346, 17, 19, 100, 101, 102] g M) sa h = jx_laws M sa h := by
  show (if 0 ≤ sa ∧ sa < 4 then (if M 180 sa.toNat 0 = -1 then -11 else if 0 ≤ h ∧ h < M 227 0 0 then jf_lw (am_mix [12, 13, 14, 263, 264, 265, 266, 346, 17, 19, 100, 101, 102] g M) sa.toNat h.toNat (M 386 0 0).toNat else -5) else -2) = _
  rw [jf_lw_mix]
  rfl
theorem pr_laws {d : Nat} (hd : 14 ≤ d) {sa h : Int} {M : am_M} {K : am_K} (hJ : jf_J M) (hW : jf_C M) (ha0 : am_in sa) (ha1 : am_in h) (hp : pr_K d M 190 [aR 8 0, aI sa, aI h] K) : am_Call true d 101 [aR 7 0, aI sa, aI h] M K := sq_laws (by omega) hJ ha0 ha1 (fun g1 => hp _ (am_mix [12, 13, 14, 263, 264, 265, 266, 346, 17, 19, 100, 101, 102] g1 M) ⟨rfl, rfl⟩ (fun K2 h2 => sm_laws (M := am_mix [12, 13, 14, 263, 264, 265, 266, 346, 17, 19, 100, 101, 102] g1 M) (by omega) hJ hW ha0 ha1 (fun g2 => am_kr (h2 (am_mix mo_SM g2 (am_mix [12, 13, 14, 263, 264, 265, 266, 346, 17, 19, 100, 101, 102] g1 M)) ⟨hJ, hW, rfl, rfl⟩) jx_laws_mix.symm)))
theorem pr_both {d : Nat} (hd : 14 ≤ d) {e b : Int} {M : am_M} {K : am_K} (hJ : jf_J M) (hW : jf_C M) (ha0 : am_in e) (ha1 : am_in b) (hp : pr_K d M 176 [aR 8 0, aI e, aI b] K) : am_Call true d 84 [aR 7 0, aI e, aI b] M K := sq_both (by omega) hJ ha0 ha1 (fun g1 => hp _ (am_mix [12, 13, 14, 263, 264, 265, 266, 346, 17, 19, 100, 101, 102] g1 M) ⟨rfl, rfl⟩ (fun K2 h2 => sm_both (M := am_mix [12, 13, 14, 263, 264, 265, 266, 346, 17, 19, 100, 101, 102] g1 M) (by omega) hJ hW ha0 ha1 (fun g2 => h2 _ ⟨hJ, hW, rfl, rfl⟩)))
theorem pr_force {d : Nat} (hd : 14 ≤ d) {t : Int} {M : am_M} {K : am_K} (hJ : jf_J M) (hW : jf_C M) (ha : am_in t) (hp : pr_K d M 139 [aR 8 0, aI t] K) : am_Call true d 35 [aR 7 0, aI t] M K := by
  have hx : 0 ≤ M 430 0 0 ∧ M 430 0 0 ≤ 6 := by
    have e := hW.1.2.1.2.1
    have := hJ.2.2.1.1
    omega
  have e1 := hW.1.2.1.2.1
  have e2 := hW.1.2.1.2.2.1
  refine sq_force (by omega) hJ ha (fun h1 => hp _ (am_wr M 228 0 0 t) ⟨rfl, rfl⟩ (fun K2 h2 => ?_)) (fun h0 => hp _ M ⟨rfl, rfl⟩ (fun K2 h2 => ?_))
  · refine sm_force (M := am_wr M 228 0 0 t) (by omega) hx ha (fun _ => ?_) (fun h3 => absurd (show 0 ≤ t ∧ t < M 430 0 0 by omega) h3)
    show K2 (some (aI (M 431 0 0))) _
    rw [e2]
    refine h2 _ ⟨?_, ?_, rfl, rfl⟩
    · obtain ⟨⟨⟨a1, a2, a3, a4, a5, a6, a7, a8, -⟩, j2⟩, j3⟩ := hJ
      exact ⟨⟨⟨a1, a2, a3, a4, a5, a6, a7, a8, h1.1, h1.2⟩, j2⟩, j3⟩
    · obtain ⟨⟨c1, ⟨n1, n2, -, n4⟩, c3⟩, c4⟩ := hW
      exact ⟨⟨c1, ⟨n1, n2, rfl, n4⟩, c3⟩, c4⟩
  · exact sm_force (by omega) hx ha (fun h3 => absurd (show 0 ≤ t ∧ t < M 386 0 0 by omega) h0) (fun _ => h2 _ ⟨hJ, hW, rfl, rfl⟩)
theorem pr_set {d : Nat} (hd : 14 ≤ d) {w v : Int} {M : am_M} {K : am_K} (hJ : jf_J M) (hW : jf_C M) (ha : am_in w) (hb : am_in v) (hp : pr_K d M 136 [aR 8 0, aI w, aI v] K) : am_Call true d 32 [aR 7 0, aI w, aI v] M K := by
  have hJ2 := hJ
  have hW2 := hW
  obtain ⟨⟨⟨a1, a2, a3, a4, a5⟩, j2⟩, j3⟩ := hJ2
  obtain ⟨⟨⟨p1, p2, p3, p4⟩, c2⟩, c3⟩ := hW2
  refine sq_set (by omega) hJ ha hb (fun h1 h3 => hp _ (am_wr M 220 0 0 v) ⟨rfl, rfl⟩ (fun K2 h2 => ?_)) (fun h1 h3 => hp _ (am_wr M 221 0 0 v) ⟨rfl, rfl⟩ (fun K2 h2 => ?_)) (fun h1 h3 => hp _ (am_wr M 222 0 0 v) ⟨rfl, rfl⟩ (fun K2 h2 => ?_)) (fun h1 h3 => hp _ (am_wr M 223 0 0 v) ⟨rfl, rfl⟩ (fun K2 h2 => ?_)) (fun h0 => hp _ M ⟨rfl, rfl⟩ (fun K2 h2 => ?_))
  · subst h1
    refine sm_set (M := am_wr M 220 0 0 v) (by omega) ha hb (fun _ => ?_) (fun h4 => absurd (by omega) h4)
    show K2 (some (aI (M 22 0 0))) _
    rw [p1]
    exact h2 _ ⟨⟨⟨⟨h3, a2, a3, a4, a5⟩, j2⟩, j3⟩, ⟨⟨⟨rfl, p2, p3, p4⟩, c2⟩, c3⟩, rfl, rfl⟩
  · subst h1
    refine sm_set (M := am_wr M 221 0 0 v) (by omega) ha hb (fun _ => ?_) (fun h4 => absurd (by omega) h4)
    show K2 (some (aI (M 22 0 1))) _
    rw [p2]
    exact h2 _ ⟨⟨⟨⟨a1, h3, a3, a4, a5⟩, j2⟩, j3⟩, ⟨⟨⟨p1, rfl, p3, p4⟩, c2⟩, c3⟩, rfl, rfl⟩
  · subst h1
    refine sm_set (M := am_wr M 222 0 0 v) (by omega) ha hb (fun _ => ?_) (fun h4 => absurd (by omega) h4)
    show K2 (some (aI (M 22 0 2))) _
    rw [p3]
    exact h2 _ ⟨⟨⟨⟨a1, a2, h3, a4, a5⟩, j2⟩, j3⟩, ⟨⟨⟨p1, p2, rfl, p4⟩, c2⟩, c3⟩, rfl, rfl⟩
  · subst h1
    refine sm_set (M := am_wr M 223 0 0 v) (by omega) ha hb (fun _ => ?_) (fun h4 => absurd (by omega) h4)
    show K2 (some (aI (M 22 0 3))) _
    rw [p4]
    exact h2 _ ⟨⟨⟨⟨a1, a2, a3, h3, a5⟩, j2⟩, j3⟩, ⟨⟨⟨p1, p2, p3, rfl⟩, c2⟩, c3⟩, rfl, rfl⟩
  · exact sm_set (by omega) ha hb (fun h4 => absurd h4 h0) (fun _ => h2 _ ⟨hJ, hW, rfl, rfl⟩)
