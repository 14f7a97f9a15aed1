/-! 76.rank: lists, laid by putting one in behind the other -/
def rkO (P : Nat → Bool) (lt : Nat → Nat → Bool) : Nat → Nat → Nat
  | 0 => fun _ => 0
  | m + 1 => if P m = true then insO (lt m) m (rkO P lt m) (fb_ct P m) else rkO P lt m
theorem rkO_n {P : Nat → Bool} {lt : Nat → Nat → Bool} {m : Nat} (h : ¬ P m = true) : rkO P lt (m + 1) = rkO P lt m := by rw [rkO, if_neg h]
theorem rkO_y {P : Nat → Bool} {lt : Nat → Nat → Bool} {m : Nat} (h : P m = true) : rkO P lt (m + 1) = insO (lt m) m (rkO P lt m) (fb_ct P m) := by rw [rkO, if_pos h]
theorem rkK_n {P : Nat → Bool} {m : Nat} (h : ¬ P m = true) : fb_ct P (m + 1) = fb_ct P m := by rw [fb_ct_succ, if_neg h, n_a0]
theorem rkK_y {P : Nat → Bool} {m : Nat} (h : P m = true) : fb_ct P (m + 1) = fb_ct P m + 1 := by rw [fb_ct_succ, if_pos h]
theorem rkO_lt (P : Nat → Bool) (lt : Nat → Nat → Bool) : ∀ m i, i < fb_ct P m → rkO P lt m i < m ∧ P (rkO P lt m i) = true
  | 0, i, h => absurd h (Nat.not_lt_zero i)
  | m + 1, i, h => by
    by_cases hP : P m = true
    · rw [rkK_y hP] at h
      rw [rkO_y hP]
      unfold insO
      have hp := posI_le (lt m) (rkO P lt m) (fb_ct P m)
      generalize posI (lt m) (rkO P lt m) (fb_ct P m) = p at hp
      by_cases h1 : i < p
      · rw [if_pos h1]
        have := rkO_lt P lt m i (by omega)
        exact ⟨by omega, this.2⟩
      · rw [if_neg h1]
        by_cases h2 : i = p
        · rw [if_pos h2]
          exact ⟨by omega, hP⟩
        · rw [if_neg h2]
          have := rkO_lt P lt m (i - 1) (by omega)
          exact ⟨by omega, this.2⟩
    · rw [rkK_n hP] at h
      rw [rkO_n hP]
      have := rkO_lt P lt m i h
      exact ⟨by omega, this.2⟩
theorem rkO_cong {P P' : Nat → Bool} {lt lt' : Nat → Nat → Bool} : ∀ m, (∀ r, r < m → P r = P' r) → (∀ r x, r < m → x < r → P r = true → P x = true → lt r x = lt' r x) → fb_ct P m = fb_ct P' m ∧ rkO P lt m = rkO P' lt' m
  | 0, _, _ => ⟨rfl, rfl⟩
  | m + 1, h1, h2 => by
    have ih := rkO_cong m (fun r hr => h1 r (by omega)) (fun r x hr hx => h2 r x (by omega) hx)
    have hm := h1 m (by omega)
    by_cases hP : P m = true
    · have hP' : P' m = true := by rw [← hm]; exact hP
      refine ⟨by rw [rkK_y hP, rkK_y hP', ih.1], ?_⟩
      rw [rkO_y hP, rkO_y hP', ← ih.2, ← ih.1]
      have hp : posI (lt m) (rkO P lt m) (fb_ct P m) = posI (lt' m) (rkO P lt m) (fb_ct P m) := posI_cong _ (fun i hi => by
        have := rkO_lt P lt m i hi
        exact h2 m _ (by omega) this.1 hP this.2)
      unfold insO
      rw [hp]
    · have hP' : ¬ P' m = true := by rw [← hm]; exact hP
      exact ⟨by rw [rkK_n hP, rkK_n hP', ih.1], by rw [rkO_n hP, rkO_n hP', ih.2]⟩
/-- less, then fewer -/
def lx (s1 s2 p1 p2 : Int32) : Bool := if s1 = s2 then decide (¬ p2 ≤ p1) else decide (¬ s2 ≤ s1)
theorem lx_e {s1 s2 p1 p2 : Int32} (h : s1 = s2) : lx s1 s2 p1 p2 = decide (¬ p2 ≤ p1) := if_pos h
theorem lx_n {s1 s2 p1 p2 : Int32} (h : ¬ s1 = s2) : lx s1 s2 p1 p2 = decide (¬ s2 ≤ s1) := if_neg h
/-- the class puts one in -/
theorem q_insert {d : z_D} {q k r : Nat} {p : Nat → Nat} {lt : Nat → Bool} (hk : k < 16) (hr : r < 16) (h4 : d q 4 = nI k) (ho : ∀ i, i < k → d (q + 1) i = nI (p i)) (hb : ∀ i, i < k → p i < 16) (hl : ∀ i, i < k → lt (p i) = lx (d (q + 2) r) (d (q + 2) (p i)) (d (q + 3) r) (d (q + 3) (p i))) : ok (f_X5_insert d q (nI r)) (fun d' => (∀ a, ¬ a = q → ¬ a = q + 1 → d' a = d a) ∧ (∀ j, ¬ j = 4 → d' q j = d q j) ∧ d' q 4 = nI (k + 1) ∧ ∀ i, i < k + 1 → d' (q + 1) i = nI (insO lt r p k i)) := by
  unfold f_X5_insert
  rw [x_nam, h4]
  have hpos := posI_le lt p k
  have hloop := ins_loop (fun f x e => f_X5_insert_L5 q (nI r) (fun v7 d6 => z_ast d6 (q + 1) 16 v7 (nI r) (fun d8 => z_put d8 q 4 ((d8 q 4) + 1) (fun d9 => (some d9)))) f x e) (fun v7 d6 => z_ast d6 (q + 1) 16 v7 (nI r) (fun d8 => z_put d8 q 4 ((d8 q 4) + 1) (fun d9 => (some d9)))) d (q + 1) k lt p (fun f e => ?_) (fun f j e hj he => ?_) k z_N (Nat.le_refl k) (ltz (by omega))
  · rw [z_shf_0] at hloop
    have hl2 : f_X5_insert_L5 q (nI r) (fun v7 d6 => z_ast d6 (q + 1) 16 v7 (nI r) (fun d8 => z_put d8 q 4 ((d8 q 4) + 1) (fun d9 => (some d9)))) z_N (nI k) d = _ := hloop
    rw [hl2, x_ast _ (by omega) (by omega), x_put, ok_s]
    have eq4 : z_up (z_shf d (q + 1) (posI lt p k) k p) (q + 1) (posI lt p k) (nI r) q 4 = nI k := by
      rw [x_un (by omega)]
      unfold z_shf
      rw [if_neg (by omega), h4]
    refine ⟨fun a a1 a2 => ?_, fun j hj => ?_, ?_, fun i hi => ?_⟩
    · rw [u_a a1, u_a a2]
      funext i
      unfold z_shf
      rw [if_neg (fun h => a2 h.1)]
    · rw [u_k hj, u_a (by omega)]
      unfold z_shf
      rw [if_neg (by omega)]
    · rw [u_s, eq4, nI_1]
    · rw [u_a (by omega)]
      exact ins_row ho i hi
  · show f_X5_insert_L5_b q (nI r) _ _ (nI 0) e = _
    unfold f_X5_insert_L5_b
    rw [if_pos (show nI 0 ≤ 0 by decide)]
  · show f_X5_insert_L5_b q (nI r) _ _ (nI (j + 1)) e = _
    unfold f_X5_insert_L5_b
    have e1 : e (q + 1) j = nI (p j) := by rw [he _ _ (by omega)]; exact ho j hj
    have e2 : ∀ x, e (q + 2) x = d (q + 2) x := fun x => he _ _ (by omega)
    have e3 : ∀ x, e (q + 3) x = d (q + 3) x := fun x => he _ _ (by omega)
    have hlj := hl j hj
    have hless : f_X5_isLess e q (nI r) (nI (p j)) = some (b01 (lt (p j) = true)) := by
      unfold f_X5_isLess
      rw [x_ald _ hr (by omega), x_ald _ (hb j hj) (by omega), e2, e2]
      by_cases h1 : d (q + 2) r = d (q + 2) (p j)
      · rw [if_pos h1, x_ald _ hr (by omega), x_ald _ (hb j hj) (by omega), e3, e3]
        rw [lx_e h1] at hlj
        by_cases h2 : d (q + 3) (p j) ≤ d (q + 3) r
        · rw [if_pos h2, b01_f (by rw [hlj]; simp [h2])]
        · rw [if_neg h2, b01_t (by rw [hlj]; simp [h2])]
      · rw [if_neg h1, x_ald _ hr (by omega), x_ald _ (hb j hj) (by omega), e2, e2]
        rw [lx_n h1] at hlj
        by_cases h2 : d (q + 2) (p j) ≤ d (q + 2) r
        · rw [if_pos h2, b01_f (by rw [hlj]; simp [h2])]
        · rw [if_neg h2, b01_t (by rw [hlj]; simp [h2])]
    rw [if_neg (nI_nle (by omega) (by omega)), nI_pred, x_ald _ (by omega) (by omega), e1, hless, x_ob, x_ifb0]
    by_cases h9 : lt (p j) = true
    · rw [if_pos h9, if_pos h9, x_ald _ (by omega) (by omega), e1, x_ast _ (by omega) (by omega), pk_m1]
    · rw [if_neg h9, if_neg h9]
/-- the model lays a list: who is on it, who is before whom -/
theorem q_ranks52 {d : z_D} {o k r : Nat} {x1 : Int32} {p : Nat → Nat} {lt : Nat → Bool} {K : Int32 → z_D → Option z_D} (hk : k < 16) (hr : r < 16) (ho : ∀ i, i < k → d (o + 6) i = nI (p i)) (hb : ∀ i, i < k → p i < 16) (hl : ∀ i (e : z_D), i < k → (∀ a, ¬ a = o + 6 → e a = d a) → f_X9_isBefore e o x1 (nI r) (nI (p i)) = some (b01 (lt (p i) = true))) : f_X9_ranks_L52 o x1 (nI r) K z_N (nI k) d = K (nI (posI lt p k)) (z_shf d (o + 6) (posI lt p k) k p) := by
  have hloop := ins_loop (fun f x e => f_X9_ranks_L52 o x1 (nI r) K f x e) K d (o + 6) k lt p (fun f e => ?_) (fun f j e hj he => ?_) k z_N (Nat.le_refl k) (ltz (by omega))
  · rw [z_shf_0] at hloop
    exact hloop
  · show f_X9_ranks_L52_b o x1 (nI r) K _ (nI 0) e = _
    unfold f_X9_ranks_L52_b
    rw [if_pos (show nI 0 ≤ 0 by decide)]
  · show f_X9_ranks_L52_b o x1 (nI r) K _ (nI (j + 1)) e = _
    unfold f_X9_ranks_L52_b
    have e1 : e (o + 6) j = nI (p j) := by rw [he _ _ (by omega)]; exact ho j hj
    have hlj := hl j e hj (fun a ha => by funext i; exact he _ _ (by omega))
    rw [if_neg (nI_nle (by omega) (by omega)), nI_pred, x_ald _ (by omega) (by omega), e1, hlj, x_ob, x_ifb0]
    by_cases h9 : lt (p j) = true
    · rw [if_pos h9, if_pos h9, x_ald _ (by omega) (by omega), e1, x_ast _ (by omega) (by omega), pk_m1]
    · rw [if_neg h9, if_neg h9]
theorem q_ranks25 {d : z_D} {o n : Nat} {x1 : Int32} {P : Nat → Bool} {lt : Nat → Nat → Bool} (hn : n ≤ 16) (h1 : d (o + 1) 1 = nI n) (h8 : d o 8 = 0) (hP : ∀ r (e : z_D), r < n → (∀ a, ¬ a = o → ¬ a = o + 6 → e a = d a) → f_X9_isOn e o x1 (nI r) = some (b01 (P r = true))) (hl : ∀ r x (e : z_D), r < n → x < r → P r = true → P x = true → (∀ a, ¬ a = o → ¬ a = o + 6 → e a = d a) → f_X9_isBefore e o x1 (nI r) (nI x) = some (b01 (lt r x = true))) :
    ok (f_X9_ranks_L25 o x1 (fun d14 => some d14) z_N 0 d) (fun d' => (∀ a, ¬ a = o → ¬ a = o + 6 → d' a = d a) ∧ (∀ k, ¬ k = 8 → d' o k = d o k) ∧ d' o 8 = nI (fb_ct P n) ∧ ∀ i, i < fb_ct P n → d' (o + 6) i = nI (rkO P lt n i)) := by
  refine zl2 (f_X9_ranks_L25_b o x1 _) (fun _ => rfl) (fun m x2 e => ∃ i, m + i = n ∧ x2 = nI i ∧ (∀ a, ¬ a = o → ¬ a = o + 6 → e a = d a) ∧ (∀ k, ¬ k = 8 → e o k = d o k) ∧ e o 8 = nI (fb_ct P i) ∧ ∀ j, j < fb_ct P i → e (o + 6) j = nI (rkO P lt i j)) ?_ n z_N _ _ ⟨0, by omega, rfl, fun _ _ _ => rfl, fun _ _ => rfl, by rw [h8]; exact nI_0.symm, fun j hj => absurd hj (Nat.not_lt_zero j)⟩ (ltz (by omega))
  rintro R m x2 e ⟨i, hm, rfl, g1, g2, g3, g4⟩ ih
  unfold f_X9_ranks_L25_b
  have e1 : e (o + 1) 1 = nI n := by rw [g1 _ (by omega) (by omega), h1]
  by_cases hi : i = n
  · subst hi
    simp (disch := omega) only [↓x_let, ↓x_nam, ↓x_put, ↓x_bX, ↓x_ob, ↓x_ald, ↓x_aldL, ↓x_ast, ↓x_astL, ↓x_at0, ↓x_at_0, ↓x_mk0, ↓x_at, ↓x_atL, ↓x_at_, ↓x_at_L, ↓x_mk, ↓x_mkL, ↓x_aald, ↓x_w, ↓x_wi, ↓ok_s, ↓x_ifle_t, ↓x_ifle_f, ↓x_iflt_t, ↓x_iflt_f, ↓x_ifeq_t, ↓x_ifeq_f, ↓x_ifleL_t, ↓x_ifleL_f, ↓x_ifltL_t, ↓x_ifltL_f, ↓x_ifeqL_t, ↓x_ifeqL_f, ↓x_ifLle_t, ↓x_ifLle_f, ↓x_ifLlt_t, ↓x_ifLlt_f, ↓x_ifnm1, ↓x_ifb0, ↓x_ifb1, ↓x_if00, ↓x_if10, x_addL, x_Ladd, x_mulL, x_Lmul, nI_add, pk_mul, nI_pred, if_true, if_false, x_m1, n_a0, x_ue, x_un, e1]; try simp (disch := omega) only [↓x_let, ↓x_nam, ↓x_put, ↓x_bX, ↓x_ob, ↓x_ald, ↓x_aldL, ↓x_ast, ↓x_astL, ↓x_at0, ↓x_at_0, ↓x_mk0, ↓x_at, ↓x_atL, ↓x_at_, ↓x_at_L, ↓x_mk, ↓x_mkL, ↓x_aald, ↓x_w, ↓x_wi, ↓ok_s, ↓x_ifle_t, ↓x_ifle_f, ↓x_iflt_t, ↓x_iflt_f, ↓x_ifeq_t, ↓x_ifeq_f, ↓x_ifleL_t, ↓x_ifleL_f, ↓x_ifltL_t, ↓x_ifltL_f, ↓x_ifeqL_t, ↓x_ifeqL_f, ↓x_ifLle_t, ↓x_ifLle_f, ↓x_ifLlt_t, ↓x_ifLlt_f, ↓x_ifnm1, ↓x_ifb0, ↓x_ifb1, ↓x_if00, ↓x_if10, x_addL, x_Ladd, x_mulL, x_Lmul, nI_add, pk_mul, nI_pred, if_true, if_false, x_m1, n_a0, x_ue, x_un, e1]; try simp (disch := omega) only [↓x_let, ↓x_nam, ↓x_put, ↓x_bX, ↓x_ob, ↓x_ald, ↓x_aldL, ↓x_ast, ↓x_astL, ↓x_at0, ↓x_at_0, ↓x_mk0, ↓x_at, ↓x_atL, ↓x_at_, ↓x_at_L, ↓x_mk, ↓x_mkL, ↓x_aald, ↓x_w, ↓x_wi, ↓ok_s, ↓x_ifle_t, ↓x_ifle_f, ↓x_iflt_t, ↓x_iflt_f, ↓x_ifeq_t, ↓x_ifeq_f, ↓x_ifleL_t, ↓x_ifleL_f, ↓x_ifltL_t, ↓x_ifltL_f, ↓x_ifeqL_t, ↓x_ifeqL_f, ↓x_ifLle_t, ↓x_ifLle_f, ↓x_ifLlt_t, ↓x_ifLlt_f, ↓x_ifnm1, ↓x_ifb0, ↓x_ifb1, ↓x_if00, ↓x_if10, x_addL, x_Ladd, x_mulL, x_Lmul, nI_add, pk_mul, nI_pred, if_true, if_false, x_m1, n_a0, x_ue, x_un, e1]; try simp (disch := omega) only [↓x_let, ↓x_nam, ↓x_put, ↓x_bX, ↓x_ob, ↓x_ald, ↓x_aldL, ↓x_ast, ↓x_astL, ↓x_at0, ↓x_at_0, ↓x_mk0, ↓x_at, ↓x_atL, ↓x_at_, ↓x_at_L, ↓x_mk, ↓x_mkL, ↓x_aald, ↓x_w, ↓x_wi, ↓ok_s, ↓x_ifle_t, ↓x_ifle_f, ↓x_iflt_t, ↓x_iflt_f, ↓x_ifeq_t, ↓x_ifeq_f, ↓x_ifleL_t, ↓x_ifleL_f, ↓x_ifltL_t, ↓x_ifltL_f, ↓x_ifeqL_t, ↓x_ifeqL_f, ↓x_ifLle_t, ↓x_ifLle_f, ↓x_ifLlt_t, ↓x_ifLlt_f, ↓x_ifnm1, ↓x_ifb0, ↓x_ifb1, ↓x_if00, ↓x_if10, x_addL, x_Ladd, x_mulL, x_Lmul, nI_add, pk_mul, nI_pred, if_true, if_false, x_m1, n_a0, x_ue, x_un, e1]
    exact ⟨g1, g2, g3, g4⟩
  have hin : i < n := by omega
  have hon := hP i e hin g1
  have hct := fb_ct_le P i
  by_cases hPi : P i = true
  · rw [b01_t hPi] at hon
    rw [x_aldL 1 (show 1 < 2656 by omega) (by omega)]
    show ok (if e (o + 1) 1 ≤ nI i then _ else _) _
    rw [e1, if_neg (nI_ge (by omega) (by omega)), hon, x_ob, x_if10, x_nam, g3, q_ranks52 (lt := lt i) (p := rkO P lt i) (by omega) (by omega) g4 (fun j hj => by have := rkO_lt P lt i j hj; omega) (fun j e2 hj he2 => by
      have := rkO_lt P lt i j hj
      exact hl i _ e2 hin this.1 hPi this.2 (fun a a1 a2 => by rw [he2 a a2, g1 a a1 a2]))]
    have hpos := posI_le (lt i) (rkO P lt i) (fb_ct P i)
    rw [x_ast _ (by omega) (by omega), x_put, x_addL]
    have eq8 : z_up (z_shf e (o + 6) (posI (lt i) (rkO P lt i) (fb_ct P i)) (fb_ct P i) (rkO P lt i)) (o + 6) (posI (lt i) (rkO P lt i) (fb_ct P i)) (nI i) o 8 = nI (fb_ct P i) := by
      rw [x_un (by omega)]
      unfold z_shf
      rw [if_neg (by omega), g3]
    refine ih (m - 1) _ _ (by omega) ⟨i + 1, by omega, rfl, fun a a1 a2 => ?_, fun k hk => ?_, ?_, fun j hj => ?_⟩
    · rw [u_a a1, u_a a2, ← g1 a a1 a2]
      funext k
      unfold z_shf
      rw [if_neg (fun h => a2 h.1)]
    · rw [u_k hk, u_a (by omega), ← g2 k hk]
      unfold z_shf
      rw [if_neg (by omega)]
    · rw [u_s, eq8, nI_1, rkK_y hPi]
    · rw [rkK_y hPi] at hj
      rw [u_a (by omega), rkO_y hPi]
      exact ins_row g4 j hj
  · rw [b01_f hPi] at hon
    rw [x_aldL 1 (show 1 < 2656 by omega) (by omega)]
    show ok (if e (o + 1) 1 ≤ nI i then _ else _) _
    rw [e1, if_neg (nI_ge (by omega) (by omega)), hon, x_ob, x_if00, x_addL]
    exact ih (m - 1) _ _ (by omega) ⟨i + 1, by omega, rfl, g1, g2, by rw [rkK_n hPi]; exact g3, by rw [rkK_n hPi, rkO_n hPi]; exact g4⟩
