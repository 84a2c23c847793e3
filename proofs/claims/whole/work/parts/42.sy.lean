/-! wb -/
variable {wb : Bool}
/-! READING A TEXT: the signs held, and what of them comes out; the one way of reading told by the other -/
def sy_rk (s : Int) : Int := if s = 0 then 0 else if s = 11 then 1 else if s = 12 then 2 else if s = 13 then 3 else if s ≤ 15 then 4 else if s ≤ 17 then 5 else if s = 18 then 6 else 7
def sy_un (k : Int) : List Int → List Int
  | [] => []
  | s :: r => if k ≤ sy_rk s then sy_un k r else s :: r
def sy_tk (k : Int) : List Int → List Int
  | [] => []
  | s :: r => if k ≤ sy_rk s then s :: sy_tk k r else []
def sy_op : List Int → Nat
  | [] => 0
  | s :: r => (if s = 0 ∨ s = 13 ∨ s = 19 then 1 else 0) + sy_op r
theorem sy_un_app {k : Int} {H : List Int} : ∀ {P : List Int}, (∀ p ∈ P, k ≤ sy_rk p) → sy_un k (P ++ H) = sy_un k H ∧ sy_tk k (P ++ H) = P ++ sy_tk k H
  | [], _ => ⟨rfl, rfl⟩
  | p :: P, h => by
    have ih := sy_un_app (H := H) (P := P) (fun q hq => h q (List.mem_cons_of_mem _ hq))
    have hp := h p List.mem_cons_self
    refine ⟨?_, ?_⟩
    · show (if k ≤ sy_rk p then sy_un k (P ++ H) else _) = _
      rw [if_pos hp, ih.1]
    · show (if k ≤ sy_rk p then p :: sy_tk k (P ++ H) else []) = p :: (P ++ sy_tk k H)
      rw [if_pos hp, ih.2]
theorem sy_un_c {k s : Int} {r : List Int} (h : sy_rk s < k) : sy_un k (s :: r) = s :: r ∧ sy_tk k (s :: r) = [] := by
  unfold sy_un sy_tk
  rw [if_neg (by omega), if_neg (by omega)]
  exact ⟨rfl, rfl⟩
theorem sy_un_len (k : Int) : ∀ H, (sy_un k H).length ≤ H.length
  | [] => Nat.le_refl _
  | s :: r => by
    unfold sy_un
    split
    · have := sy_un_len k r
      rw [List.length_cons]
      omega
    · exact Nat.le_refl _
/-- nothing of H comes out at k -/
def sy_no (k : Int) (H : List Int) : Prop := ∀ s r, H = s :: r → sy_rk s < k
theorem sy_no.un {k : Int} {H : List Int} (h : sy_no k H) : sy_un k H = H ∧ sy_tk k H = [] := by
  match H, h with
  | [], _ => exact ⟨rfl, rfl⟩
  | s :: r, h => exact sy_un_c (h s r rfl)
theorem sy_no.le {k k2 : Int} {H : List Int} (h : sy_no k H) (hk : k ≤ k2) : sy_no k2 H := fun s r e => by have := h s r e; omega
theorem sy_no.cons {k s : Int} {r : List Int} (h : sy_rk s < k) : sy_no k (s :: r) := fun s' r' e => by cases e; exact h
theorem sy_un_un {k : Int} {P H : List Int} (h : ∃ s r, sy_un k P = s :: r ∧ sy_rk s = 4) : ∃ s r, sy_un k (P ++ H) = s :: r ∧ sy_rk s = 4 := by
  induction P with
  | nil =>
    obtain ⟨s, r, h1, -⟩ := h
    cases h1
  | cons p P ih =>
    obtain ⟨s, r, h1, h2⟩ := h
    rw [List.cons_append]
    unfold sy_un at h1 ⊢
    by_cases hp : k ≤ sy_rk p
    · rw [if_pos hp] at h1 ⊢
      exact ih ⟨s, r, h1, h2⟩
    · rw [if_neg hp] at h1 ⊢
      cases h1
      exact ⟨_, _, rfl, h2⟩
def sy_isop (x : Int) : Prop := x = 8 ∨ x = 7 ∨ x = 60 ∨ x = 61 ∨ x = 43 ∨ x = 45 ∨ x = 42
def sy_kk (s : Int) : Int := if sy_rk s = 4 then 5 else sy_rk s
/-- the steps of the reference's reading, as what is to be shown: wanting (GW), not wanting (GN), a fault (Fl), an end (Dn) -/
def sy_ok (T V : Nat → Int) (GW : Nat → Bool → List Int → List Int → Prop) (GN : Nat → List Int → List Int → Prop) (Fl : Nat → Prop) (Dn : Nat → List Int → Prop) : Prop :=
  ((∀ n mn H out, T n = 2 → GN (n + 1) (sy_un 7 H) (out ++ [100000 + V n] ++ sy_tk 7 H) → GW n mn H out)
  ∧ (∀ n mn H out, 10 ≤ T n ∧ T n ≤ 15 → GN (n + 1) (sy_un 7 H) (out ++ [T n - 10] ++ sy_tk 7 H) → GW n mn H out))
  ∧ ((∀ n H out, T n = 6 → sy_op H < 5 → GW (n + 1) true (13 :: H) out → GW n true H out)
  ∧ (∀ n mn H out, T n = 45 → sy_op H < 5 → GW (n + 1) false (19 :: H) out → GW n mn H out)
  ∧ (∀ n mn H out, T n = 40 → sy_op H < 5 → GW (n + 1) true (0 :: H) out → GW n mn H out)
  ∧ (∀ n mn H out, ((T n = 6 ∨ T n = 45 ∨ T n = 40) ∧ sy_op H = 5) ∨ (T n = 6 ∧ mn = false) ∨ ¬ (T n = 2 ∨ T n = 6 ∨ T n = 45 ∨ T n = 40 ∨ (10 ≤ T n ∧ T n ≤ 15)) → Fl n → GW n mn H out))
  ∧ ((∀ n H H3 out, T n = 41 → sy_un 1 H = 0 :: H3 → GN (n + 1) (sy_un 7 H3) (out ++ sy_tk 1 H ++ sy_tk 7 H3) → GN n H out)
  ∧ (∀ n H out, T n = 41 → sy_un 1 H = [] → Fl n → GN n H out)
  ∧ (∀ n H out, sy_isop (T n) → ¬ (sy_rk (jf_cv (T n) 0) = 4 ∧ ∃ s r, sy_un 5 H = s :: r ∧ sy_rk s = 4) → GW (n + 1) (decide (jf_cv (T n) 0 ≤ 12)) (jf_cv (T n) 0 :: sy_un (sy_kk (jf_cv (T n) 0)) H) (out ++ sy_tk (sy_kk (jf_cv (T n) 0)) H) → GN n H out)
  ∧ (∀ n H out, sy_isop (T n) → sy_rk (jf_cv (T n) 0) = 4 → (∃ s r, sy_un 5 H = s :: r ∧ sy_rk s = 4) → Fl n → GN n H out)
  ∧ (∀ n H out, T n = 59 → sy_un 1 H = [] → Dn n (out ++ sy_tk 1 H) → GN n H out)
  ∧ (∀ n H out, T n = 59 → sy_un 1 H ≠ [] → Fl n → GN n H out)
  ∧ ∀ n H out, ¬ (sy_isop (T n) ∨ T n = 41 ∨ T n = 59) → Fl n → GN n H out)
section
variable {T V : Nat → Int} {P : Nat → Nat} {GW : Nat → Bool → List Int → List Int → Prop} {GN : Nat → List Int → List Int → Prop} {Fl : Nat → Prop} {Dn : Nat → List Int → Prop}
/-- what reading f tells of the held signs -/
def sy_c1 (GW : Nat → Bool → List Int → List Int → Prop) (GN : Nat → List Int → List Int → Prop) (Fl : Nat → Prop) (T : Nat → Int) (f : Nat → rd_R) (r : Nat) : Prop := ∀ n mn H out, sy_op H + r = 5 → (mn = true → T n ≠ 6) → (∀ m, f n = (m, none) → Fl m) → (∀ m w, f n = (m, some w) → GN m (sy_un 7 H) (out ++ w ++ sy_tk 7 H)) → GW n mn H out
def sy_cl (GW : Nat → Bool → List Int → List Int → Prop) (GN : Nat → List Int → List Int → Prop) (Fl : Nat → Prop) (f : Nat → rd_R) (Lq Lo : Int) (mc : Nat → Bool → Prop) (st : Nat → List Int → Prop) (r : Nat) : Prop := ∀ n mn H out, sy_op H + r = 5 → mc n mn → sy_no Lq H → (∀ m, f n = (m, none) → Fl m) → (∀ m w, f n = (m, some w) → ∀ P out', (∀ p ∈ P, Lo ≤ sy_rk p) → st m P → out' ++ P = out ++ w → GN m (P ++ H) out') → GW n mn H out
def sy_m1 (T : Nat → Int) (n : Nat) (mn : Bool) : Prop := mn = true → T n ≠ 6
def sy_m2 (_ : Nat) (mn : Bool) : Prop := mn = true
def sy_s0 (_ : Nat) (_ : List Int) : Prop := True
def sy_s1 (T : Nat → Int) (m : Nat) (_ : List Int) : Prop := T m ≠ 42
def sy_s2 (T : Nat → Int) (m : Nat) (_ : List Int) : Prop := T m ≠ 42 ∧ T m ≠ 43 ∧ T m ≠ 45
def sy_s3 (T : Nat → Int) (m : Nat) (Q : List Int) : Prop := (T m ≠ 42 ∧ T m ≠ 43 ∧ T m ≠ 45) ∧ (T m = 60 ∨ T m = 61 → ∃ s r, sy_un 5 Q = s :: r ∧ sy_rk s = 4)
def sy_s5 (T : Nat → Int) (m : Nat) (Q : List Int) : Prop := sy_s3 T m Q ∧ T m ≠ 7
def sy_s6 (T : Nat → Int) (m : Nat) (Q : List Int) : Prop := sy_s5 T m Q ∧ T m ≠ 8
theorem sy_c1.cl {f : Nat → rd_R} {r : Nat} (h : sy_c1 GW GN Fl T f r) : sy_cl GW GN Fl f 7 7 (sy_m1 T) sy_s0 r := by
  intro n mn H out ho hm hq hf hs
  refine h n mn H out ho hm hf (fun m w e => ?_)
  have h2 := hs m w e [] (out ++ w) (fun p hp => absurd hp (by simp)) trivial (by simp)
  rw [hq.un.1, hq.un.2, List.append_nil]
  exact h2
/-- a sign between two: it is right where a loop's level is -/
def sy_lv (op : Int → Bool) (L : Int) (mc : Nat → Bool → Prop) : Prop := ∀ x, op x = true → sy_isop x ∧ sy_rk (jf_cv x 0) = L ∧ L ≠ 4 ∧ (∀ n, mc n (decide (jf_cv x 0 ≤ 12))) ∧ sy_op [jf_cv x 0] = 0
theorem sy_loop (hO : sy_ok T V GW GN Fl Dn) (hP : ∀ n, T n ≠ 0 → P n + 1 ≤ P (n + 1)) (hz : ∀ n, 160 ≤ P n → T n = 0) {op : Int → Bool} {sub : Nat → rd_R} {L Ls Lo : Int} {mc : Nat → Bool → Prop} {st1 st2 : Nat → List Int → Prop} {r : Nat} (hlv : sy_lv op L mc) (hL : L < Ls ∧ L ≤ Lo) (hmo : rd_mo P sub) (hC : sy_cl GW GN Fl sub Ls Lo mc st1 r) (hst : ∀ m P1 Q, st1 m P1 → op (T m) = false → st2 m (P1 ++ Q)) {H out : List Int} (hop : sy_op H + r = 5) (hno : sy_no L H) : ∀ f n w P1 Q out', 160 ≤ f + P n → (∀ p ∈ P1 ++ Q, L ≤ sy_rk p) → st1 n P1 → out' ++ (P1 ++ Q) = out ++ w → (∀ m, rd_loop T op sub f n w = (m, none) → Fl m) → (∀ m w', rd_loop T op sub f n w = (m, some w') → ∀ P out', (∀ p ∈ P, L ≤ sy_rk p) → st2 m P → out' ++ P = out ++ w' → GN m (P ++ H) out') → GN n ((P1 ++ Q) ++ H) out' := by
  intro f
  induction f with
  | zero =>
    intro n w P1 Q out' hf hr hs1 he hfl hok
    have ht := hz n (by omega)
    have ho : op (T n) = false := by
      cases hh : op (T n) with
      | false => rfl
      | true =>
        have := (hlv _ hh).1
        unfold sy_isop at this
        omega
    exact hok n w rfl _ _ hr (hst n P1 Q hs1 ho) he
  | succ f ih =>
    intro n w P1 Q out' hf hr hs1 he hfl hok
    unfold rd_loop at hfl hok
    cases ho : op (T n) with
    | false =>
      rw [ho] at hfl hok
      exact hok n w rfl _ _ hr (hst n P1 Q hs1 ho) he
    | true =>
      rw [ho] at hfl hok
      obtain ⟨h1, h2, h3, h4, h5⟩ := hlv _ ho
      have hk : sy_kk (jf_cv (T n) 0) = L := by
        unfold sy_kk
        rw [h2, if_neg h3]
      have hu := sy_un_app (k := L) (H := H) hr
      rw [hno.un.1, hno.un.2, List.append_nil] at hu
      refine hO.2.2.2.2.1 n _ out' h1 (fun hh => h3 (h2.symm.trans hh.1)) ?_
      rw [hk, hu.1, hu.2]
      have hop2 : sy_op (jf_cv (T n) 0 :: H) + r = 5 := by
        unfold sy_op at h5 ⊢
        omega
      have hp := hP n (by unfold sy_isop at h1; omega)
      refine hC (n + 1) _ _ _ hop2 (h4 _) (sy_no.cons (by omega)) (fun m e => ?_) (fun m w2 e P2 out2 hr2 hs2 he2 => ?_)
      · refine hfl m ?_
        show rd_then (sub (n + 1)) _ = _
        rw [e]
        rfl
      · have hmm := hmo _ _ _ e
        have hr3 : ∀ p ∈ P2 ++ [jf_cv (T n) 0], L ≤ sy_rk p := by
          intro p hp
          rcases List.mem_append.mp hp with hp | hp
          · have := hr2 p hp
            omega
          · rw [List.mem_singleton.mp hp, h2]
            exact Int.le_refl _
        have he3 : out2 ++ (P2 ++ [jf_cv (T n) 0]) = out ++ (w ++ (w2 ++ [jf_cv (T n) 0])) := by
          rw [← List.append_assoc, he2, he]
          simp only [List.append_assoc]
        have h9 := ih m (w ++ (w2 ++ [jf_cv (T n) 0])) P2 [jf_cv (T n) 0] out2 (by omega) hr3 hs2 he3 (fun m' e' => hfl m' (by
          show rd_then (sub (n + 1)) _ = _
          rw [e]
          exact e')) (fun m' w' e' => hok m' w' (by
          show rd_then (sub (n + 1)) _ = _
          rw [e]
          exact e'))
        rw [List.append_assoc] at h9
        exact h9
theorem sy_then (hO : sy_ok T V GW GN Fl Dn) (hP : ∀ n, T n ≠ 0 → P n + 1 ≤ P (n + 1)) (hz : ∀ n, 160 ≤ P n → T n = 0) {op : Int → Bool} {sub : Nat → rd_R} {L Ls Lo : Int} {mc : Nat → Bool → Prop} {st1 st2 : Nat → List Int → Prop} {r : Nat} (hlv : sy_lv op L mc) (hL : L < Ls ∧ L ≤ Lo) (hmo : rd_mo P sub) (hC : sy_cl GW GN Fl sub Ls Lo mc st1 r) (hst : ∀ m P1 Q, st1 m P1 → op (T m) = false → st2 m (P1 ++ Q)) : sy_cl GW GN Fl (fun n => rd_then (sub n) (fun m w => rd_loop T op sub 160 m w)) L L mc st2 r := by
  intro n mn H out ho hm hno hf hs
  refine hC n mn H out ho hm (hno.le (by omega)) (fun m e => hf m (by show rd_then (sub n) _ = _; rw [e]; rfl)) (fun m w e P1 out' hr hs1 he => ?_)
  have h := sy_loop hO hP hz hlv hL hmo hC hst (out := out) ho hno 160 m w P1 [] out' (by omega) (by
    intro p hp
    rw [List.append_nil] at hp
    have := hr p hp
    omega) hs1 (by rw [List.append_nil]; exact he) (fun m' e' => hf m' (by show rd_then (sub n) _ = _; rw [e]; exact e')) (fun m' w' e' => hs m' w' (by show rd_then (sub n) _ = _; rw [e]; exact e'))
  rw [List.append_nil] at h
  exact h
def sy_nx (GW : Nat → Bool → List Int → List Int → Prop) (GN : Nat → List Int → List Int → Prop) (Fl : Nat → Prop) (T : Nat → Int) (nx : rd_N) (r : Nat) : Prop := (nx = none ∧ r = 0) ∨ ∃ x r', nx = some x ∧ r = r' + 1 ∧ sy_c1 GW GN Fl T (x 0) r' ∧ sy_cl GW GN Fl (x 1) 4 3 sy_m2 (sy_s3 T) r' ∧ sy_cl GW GN Fl (x 2) 1 1 sy_m2 (sy_s6 T) r'
theorem sy_jv : jf_cv 8 0 = 11 ∧ jf_cv 7 0 = 12 ∧ jf_cv 60 0 = 14 ∧ jf_cv 61 0 = 15 ∧ jf_cv 43 0 = 16 ∧ jf_cv 45 0 = 17 ∧ jf_cv 42 0 = 18 := ⟨rfl, rfl, rfl, rfl, rfl, rfl, rfl⟩
/-- behind an E nothing but its own end can stand -/
theorem sy_stop (hO : sy_ok T V GW GN Fl Dn) {m : Nat} {Q H out : List Int} (hs : sy_s6 T m Q) (h41 : T m = 41 → sy_un 1 (Q ++ H) = []) (h59 : T m = 59 → sy_un 1 (Q ++ H) ≠ []) (hF : Fl m) : GN m (Q ++ H) out := by
  obtain ⟨⟨⟨h1, h2⟩, h3⟩, h4⟩ := hs
  by_cases c1 : T m = 41
  · exact hO.2.2.2.1 _ _ _ c1 (h41 c1) hF
  · by_cases c2 : T m = 59
    · exact hO.2.2.2.2.2.2.2.1 _ _ _ c2 (h59 c2) hF
    · by_cases c3 : T m = 60 ∨ T m = 61
      · refine hO.2.2.2.2.2.1 _ _ _ (by unfold sy_isop; omega) ?_ (sy_un_un (h2 c3)) hF
        rcases c3 with c3 | c3 <;> rw [c3] <;> rfl
      · have hns : ¬ (sy_isop (T m) ∨ T m = 41 ∨ T m = 59) := by
          clear h2
          unfold sy_isop
          omega
        exact hO.2.2.2.2.2.2.2.2 _ _ _ hns hF
theorem sy_one (hO : sy_ok T V GW GN Fl Dn) {nx : rd_N} {r : Nat} (hn : sy_nx GW GN Fl T nx r) : sy_c1 GW GN Fl T (rd_one T V nx) r := by
  intro n mn H out ho hm hf hs
  unfold rd_one at hf hs
  by_cases h1 : T n = 40 ∨ T n = 45
  · rw [if_pos h1] at hf hs
    rcases hn with ⟨hx, hr⟩ | ⟨x, r', hx, hr, c0, c1, c2⟩
    · rw [hx] at hf hs
      exact hO.2.1.2.2.2 _ _ _ _ (Or.inl ⟨by omega, by omega⟩) (hf n rfl)
    · rw [hx] at hf hs
      dsimp only at hf hs
      unfold rd_opn at hf hs
      by_cases h2 : T n = 45
      · rw [if_pos h2] at hf hs
        refine hO.2.1.2.1 _ _ _ _ h2 (by omega) (c0 (n + 1) false (19 :: H) out (by unfold sy_op; rw [if_pos (by omega)]; omega) (fun h => by cases h) (fun m e => hf m (by rw [e]; rfl)) (fun m w e => ?_))
        have h3 := hs m (w ++ [19]) (by rw [e]; rfl)
        have h4 := sy_un_app (k := 7) (H := H) (P := [19]) (by intro p hp; rw [List.mem_singleton.mp hp]; decide)
        rw [List.singleton_append] at h4
        rw [h4.1, h4.2]
        rw [show out ++ w ++ ([19] ++ sy_tk 7 H) = out ++ (w ++ [19]) ++ sy_tk 7 H by simp only [List.append_assoc]]
        exact h3
      · rw [if_neg h2] at hf hs
        refine hO.2.1.2.2.1 _ _ _ _ (by omega) (by omega) (c2 (n + 1) true (0 :: H) out (by unfold sy_op; rw [if_pos (by omega)]; omega) rfl (sy_no.cons (by decide)) (fun m e => hf m (by rw [e]; rfl)) (fun m w e Q out' hr hs1 he => ?_))
        have h4 := sy_un_app (k := 1) (H := 0 :: H) hr
        rw [(sy_un_c (k := 1) (s := 0) (r := H) (by decide)).1, (sy_un_c (k := 1) (s := 0) (r := H) (by decide)).2, List.append_nil] at h4
        by_cases h3 : T m = 41
        · refine hO.2.2.1 _ _ H _ h3 h4.1 ?_
          rw [h4.2, he]
          exact hs (m + 1) w (by rw [e]; exact if_pos h3)
        · exact sy_stop hO hs1 (fun h => absurd h h3) (fun _ h => by rw [h4.1] at h; cases h) (hf m (by rw [e]; exact if_neg h3))
  · rw [if_neg h1] at hf hs
    by_cases h2 : T n = 2
    · rw [if_pos h2] at hf hs
      exact hO.1.1 _ _ _ _ h2 (hs _ _ rfl)
    · rw [if_neg h2] at hf hs
      by_cases h3 : 10 ≤ T n ∧ T n ≤ 15
      · rw [if_pos h3] at hf hs
        exact hO.1.2 _ _ _ _ h3 (hs _ _ rfl)
      · rw [if_neg h3] at hf hs
        refine hO.2.1.2.2.2 _ _ _ _ ?_ (hf n rfl)
        by_cases h6 : T n = 6
        · refine Or.inr (Or.inl ⟨h6, ?_⟩)
          cases mn with
          | false => rfl
          | true => exact absurd h6 (hm rfl)
        · exact Or.inr (Or.inr (by omega))
theorem sy_lv1 : sy_lv rd_op1 6 (sy_m1 T) := fun x h => by
  have e := of_decide_eq_true h
  subst e
  exact ⟨by unfold sy_isop; omega, rfl, by decide, fun n h => absurd h (by decide), rfl⟩
theorem sy_lv2 : sy_lv rd_op2 5 (sy_m1 T) := fun x h => by
  rcases of_decide_eq_true h with rfl | rfl
  · exact ⟨by unfold sy_isop; omega, rfl, by decide, fun n h => absurd h (by decide), rfl⟩
  · exact ⟨by unfold sy_isop; omega, rfl, by decide, fun n h => absurd h (by decide), rfl⟩
theorem sy_lv5 : sy_lv rd_op5 2 sy_m2 := fun x h => by
  have e := of_decide_eq_true h
  subst e
  exact ⟨by unfold sy_isop; omega, rfl, by decide, fun n => rfl, rfl⟩
theorem sy_lv6 : sy_lv rd_op6 1 sy_m2 := fun x h => by
  have e := of_decide_eq_true h
  subst e
  exact ⟨by unfold sy_isop; omega, rfl, by decide, fun n => rfl, rfl⟩
theorem sy_term (hO : sy_ok T V GW GN Fl Dn) (hP : ∀ n, T n ≠ 0 → P n + 1 ≤ P (n + 1)) (hz : ∀ n, 160 ≤ P n → T n = 0) {nx : rd_N} {r : Nat} (hn : sy_nx GW GN Fl T nx r) (hm : rd_nmo P nx) : sy_cl GW GN Fl (rd_term T V nx) 6 6 (sy_m1 T) (sy_s1 T) r := sy_then hO hP hz sy_lv1 (by decide) (rd_one_mo hP hm) (sy_one hO hn).cl (fun m _ _ _ h => by
  have := of_decide_eq_false h
  unfold sy_s1
  omega)
theorem sy_sum (hO : sy_ok T V GW GN Fl Dn) (hP : ∀ n, T n ≠ 0 → P n + 1 ≤ P (n + 1)) (hz : ∀ n, 160 ≤ P n → T n = 0) {nx : rd_N} {r : Nat} (hn : sy_nx GW GN Fl T nx r) (hm : rd_nmo P nx) : sy_cl GW GN Fl (rd_sum T V nx) 5 5 (sy_m1 T) (sy_s2 T) r := sy_then hO hP hz sy_lv2 (by decide) (rd_term_mo hP hm) (sy_term hO hP hz hn hm) (fun m _ _ h1 h => by
  have := of_decide_eq_false h
  unfold sy_s1 at h1
  unfold sy_s2
  omega)
theorem sy_not (hO : sy_ok T V GW GN Fl Dn) (hP : ∀ n, T n ≠ 0 → P n + 1 ≤ P (n + 1)) (hz : ∀ n, 160 ≤ P n → T n = 0) {nx : rd_N} {r : Nat} (hn : sy_nx GW GN Fl T nx r) (hm : rd_nmo P nx) : sy_cl GW GN Fl (rd_not T V nx) 4 3 sy_m2 (sy_s3 T) r := by
  have hsum := sy_sum hO hP hz hn hm
  intro n mn H out ho hmn hno hf hs
  unfold sy_m2 at hmn
  subst hmn
  unfold rd_not at hf hs
  by_cases h1 : T n = 6
  · rw [if_pos h1] at hf hs
    rcases hn with ⟨hx, hr⟩ | ⟨x, r', hx, hr, c0, c1, c2⟩
    · rw [hx] at hf hs
      exact hO.2.1.2.2.2 _ _ _ _ (Or.inl ⟨by omega, by omega⟩) (hf n rfl)
    · rw [hx] at hf hs
      dsimp only at hf hs
      refine hO.2.1.1 _ _ _ h1 (by omega) (c1 (n + 1) true (13 :: H) out (by unfold sy_op; rw [if_pos (by omega)]; omega) rfl (sy_no.cons (by decide)) (fun m e => hf m (by rw [e]; rfl)) (fun m w e Q out' hr hs1 he => ?_))
      have h3 := hs m (w ++ [13]) (by rw [e]; rfl) (Q ++ [13]) out' (by
        intro p hp
        rcases List.mem_append.mp hp with hp | hp
        · exact hr p hp
        · rw [List.mem_singleton.mp hp]
          decide) ⟨hs1.1, fun h => sy_un_un (hs1.2 h)⟩ (by rw [← List.append_assoc, he, List.append_assoc])
      rw [List.append_assoc] at h3
      exact h3
  · rw [if_neg h1] at hf hs
    refine hsum n true H out ho (fun _ => h1) (hno.le (by decide)) (fun m e => hf m (by rw [e]; rfl)) (fun m w e Q out' hr hs1 he => ?_)
    rw [e] at hf hs
    by_cases h2 : T m = 60 ∨ T m = 61
    · have hf' : ∀ m', rd_then (rd_sum T V nx (m + 1)) (fun m2 w2 => (m2, some (w ++ (w2 ++ [jf_cv (T m) 0])))) = (m', none) → Fl m' := fun m' e' => hf m' ((if_pos h2).trans e')
      have hs' := fun m' w' e' => hs m' w' ((if_pos h2).trans e')
      have hrk : sy_rk (jf_cv (T m) 0) = 4 ∧ sy_kk (jf_cv (T m) 0) = 5 ∧ decide (jf_cv (T m) 0 ≤ 12) = false ∧ ∀ l, sy_op (jf_cv (T m) 0 :: l) = sy_op l := by
        rcases h2 with h2 | h2 <;> rw [h2]
        · exact ⟨rfl, rfl, rfl, fun l => Nat.zero_add _⟩
        · exact ⟨rfl, rfl, rfl, fun l => Nat.zero_add _⟩
      have hu := sy_un_app (k := 5) (H := H) hr
      have hno5 : sy_no 5 H := hno.le (by decide)
      rw [hno5.un.1, hno5.un.2, List.append_nil] at hu
      refine hO.2.2.2.2.1 m _ out' (by unfold sy_isop; omega) (fun hh => ?_) ?_
      · obtain ⟨-, s, r1, h3, h4⟩ := hh
        rw [hu.1] at h3
        have := hno s r1 h3
        omega
      · rw [hrk.2.1, hrk.2.2.1, hu.1, hu.2]
        refine hsum (m + 1) false _ _ (by rw [hrk.2.2.2]; exact ho) (fun h => by cases h) (sy_no.cons (by omega)) (fun m2 e2 => hf' m2 (by rw [e2]; rfl)) (fun m2 w2 e2 Q2 out2 hr2 hs2 he2 => ?_)
        have hu2 := sy_un_app (k := 5) (H := [jf_cv (T m) 0]) hr2
        have h3 := hs' m2 _ (by rw [e2]; rfl) (Q2 ++ [jf_cv (T m) 0]) out2 (by
          intro p hp
          rcases List.mem_append.mp hp with hp | hp
          · have := hr2 p hp
            omega
          · rw [List.mem_singleton.mp hp]
            omega) ⟨hs2, fun _ => ⟨_, _, hu2.1.trans (sy_un_c (by omega)).1, hrk.1⟩⟩ (by rw [← List.append_assoc, he2, he]; simp only [List.append_assoc])
        rw [List.append_assoc] at h3
        exact h3
    · refine hs m w (if_neg h2) Q out' (fun p hp => ?_) ⟨hs1, fun h => absurd h h2⟩ he
      have := hr p hp
      omega
theorem sy_and (hO : sy_ok T V GW GN Fl Dn) (hP : ∀ n, T n ≠ 0 → P n + 1 ≤ P (n + 1)) (hz : ∀ n, 160 ≤ P n → T n = 0) {nx : rd_N} {r : Nat} (hn : sy_nx GW GN Fl T nx r) (hm : rd_nmo P nx) : sy_cl GW GN Fl (rd_and T V nx) 2 2 sy_m2 (sy_s5 T) r := sy_then hO hP hz sy_lv5 (by decide) (rd_not_mo hP hm) (fun n mn H out a b c d e => sy_not hO hP hz hn hm n mn H out a b c d e) (fun m _ _ h1 h => ⟨⟨h1.1, fun q => sy_un_un (h1.2 q)⟩, of_decide_eq_false h⟩)
theorem sy_or (hO : sy_ok T V GW GN Fl Dn) (hP : ∀ n, T n ≠ 0 → P n + 1 ≤ P (n + 1)) (hz : ∀ n, 160 ≤ P n → T n = 0) {nx : rd_N} {r : Nat} (hn : sy_nx GW GN Fl T nx r) (hm : rd_nmo P nx) : sy_cl GW GN Fl (rd_or T V nx) 1 1 sy_m2 (sy_s6 T) r := sy_then hO hP hz sy_lv6 (by decide) (rd_and_mo hP hm) (sy_and hO hP hz hn hm) (fun m _ _ h1 h => ⟨⟨⟨h1.1.1, fun q => sy_un_un (h1.1.2 q)⟩, h1.2⟩, of_decide_eq_false h⟩)
theorem sy_all (hO : sy_ok T V GW GN Fl Dn) (hP : ∀ n, T n ≠ 0 → P n + 1 ≤ P (n + 1)) (hz : ∀ n, 160 ≤ P n → T n = 0) : ∀ r, sy_nx GW GN Fl T (rd_nx T V r) r
  | 0 => Or.inl ⟨rfl, rfl⟩
  | r + 1 => by
    have ih := sy_all hO hP hz r
    have hm := rd_nx_mo (V := V) hP r
    exact Or.inr ⟨_, r, rfl, rfl, sy_one hO ih, sy_not hO hP hz ih hm, sy_or hO hP hz ih hm⟩
/-- an E from its first token to its ; -/
theorem sy_E (hO : sy_ok T V GW GN Fl Dn) (hP : ∀ n, T n ≠ 0 → P n + 1 ≤ P (n + 1)) (hz : ∀ n, 160 ≤ P n → T n = 0) {n : Nat} {out : List Int} (hf : ∀ m, rd_or T V (rd_nx T V 5) n = (m, none) → Fl m) (hs : ∀ m w, rd_or T V (rd_nx T V 5) n = (m, some w) → (T m = 59 → Dn m (out ++ w)) ∧ (T m ≠ 59 → Fl m)) : GW n true [] out := by
  refine sy_or hO hP hz (sy_all hO hP hz 5) (rd_nx_mo hP 5) n true [] out rfl rfl (fun s r e => by cases e) hf (fun m w e Q out' hr hst he => ?_)
  have hu := sy_un_app (k := 1) (H := []) hr
  have hu1 : sy_un 1 (Q ++ []) = [] := hu.1
  have hu2 : sy_tk 1 (Q ++ []) = Q := hu.2.trans (List.append_nil _)
  by_cases h : T m = 59
  · refine hO.2.2.2.2.2.2.1 _ _ _ h hu1 ?_
    rw [hu2, he]
    exact (hs m w e).1 h
  · exact sy_stop hO hst (fun _ => hu1) (fun h2 => absurd h2 h) ((hs m w e).2 h)
end
