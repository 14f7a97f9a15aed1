/-! 6h.lem: what closing needs: folds over the order, congruences, bounds, who goes out -/
def fdO {α : Type} (f : α → Nat → α) (z : α) (o : Nat → Nat) : Nat → α
  | 0 => z
  | k + 1 => f (fdO f z o k) (o k)
def fdR {α : Type} (f : α → Nat → α) (z : α) (fin : Nat → Int32) : Nat → α
  | 0 => z
  | k + 1 => if fin k = 0 then fdR f z fin k else f (fdR f z fin k) k
theorem fdO_cong {α : Type} {f : α → Nat → α} {z : α} {o o' : Nat → Nat} : ∀ k, (∀ i, i < k → o i = o' i) → fdO f z o k = fdO f z o' k
  | 0, _ => rfl
  | k + 1, h => by rw [fdO, fdO, fdO_cong k (fun i hi => h i (by omega)), h k (by omega)]
theorem fdO_inv {α : Type} {f : α → Nat → α} {z : α} {o : Nat → Nat} {I : α → Prop} (h0 : I z) (hs : ∀ a x, I a → I (f a x)) : ∀ k, I (fdO f z o k)
  | 0 => h0
  | k + 1 => hs _ _ (fdO_inv h0 hs k)
theorem fdO_ins {α : Type} {f : α → Nat → α} {z : α} {o : Nat → Nat} {lt : Nat → Bool} {r k : Nat} {I : α → Prop} (h0 : I z) (hs : ∀ a x, I a → I (f a x)) (hc : ∀ a x y, I a → f (f a x) y = f (f a y) x) : fdO f z (insO lt r o k) (k + 1) = f (fdO f z o k) r := by
  have hp := posI_le lt o k
  have key : ∀ e, posI lt o k + e ≤ k → fdO f z (insO lt r o k) (posI lt o k + e + 1) = f (fdO f z o (posI lt o k + e)) r := by
    intro e
    induction e with
    | zero =>
      intro _
      rw [Nat.add_zero, fdO, fdO_cong (o' := o) (posI lt o k) (fun i hi => by unfold insO; rw [if_pos hi])]
      congr 1
      unfold insO
      rw [if_neg (by omega), if_pos rfl]
    | succ e ih =>
      intro he
      rw [show posI lt o k + (e + 1) + 1 = (posI lt o k + e + 1) + 1 by omega, fdO, ih (by omega), show posI lt o k + (e + 1) = posI lt o k + e + 1 by omega, fdO]
      have : insO lt r o k (posI lt o k + e + 1) = o (posI lt o k + e) := by
        unfold insO
        rw [if_neg (by omega), if_neg (by omega)]
        congr 1
      rw [this]
      exact hc _ _ _ (fdO_inv h0 hs _)
  have := key (k - posI lt o k) (by omega)
  rw [show posI lt o k + (k - posI lt o k) = k by omega] at this
  exact this
theorem fdO_ord {α : Type} {f : α → Nat → α} {z : α} {fin : Nat → Int32} {I : α → Prop} (h0 : I z) (hs : ∀ a x, I a → I (f a x)) (hc : ∀ a x y, I a → f (f a x) y = f (f a y) x) : ∀ m, fdO f z (ordO fin m) (ordK fin m) = fdR f z fin m
  | 0 => rfl
  | m + 1 => by
    by_cases h : fin m = 0
    · rw [fdR, if_pos h, ordK_z h, ordO, if_pos h]
      exact fdO_ord h0 hs hc m
    · rw [fdR, if_neg h, ordK_s h, ordO, if_neg h, fdO_ins h0 hs hc, fdO_ord h0 hs hc m]
theorem ordO_onto (fin : Nat → Int32) : ∀ m r, r < m → ¬ fin r = 0 → ∃ j, j < ordK fin m ∧ ordO fin m j = r
  | 0, r, h, _ => absurd h (Nat.not_lt_zero r)
  | m + 1, r, h, hf => by
    by_cases h0 : fin m = 0
    · have hrm : r < m := by
        rcases Nat.lt_or_ge r m with h9 | h9
        · exact h9
        · exact absurd (by rw [show r = m by omega]; exact h0) hf
      obtain ⟨j, j1, j2⟩ := ordO_onto fin m r hrm hf
      exact ⟨j, by rw [ordK_z h0]; exact j1, by rw [ordO, if_pos h0]; exact j2⟩
    · rw [ordK_s h0, ordO, if_neg h0]
      have hp := posI_le (fun x => decide (¬ fin x ≤ fin m)) (ordO fin m) (ordK fin m)
      unfold insO
      generalize posI (fun x => decide (¬ fin x ≤ fin m)) (ordO fin m) (ordK fin m) = P at hp
      by_cases hrm : r = m
      · exact ⟨P, by omega, by rw [if_neg (by omega), if_pos rfl, hrm]⟩
      · obtain ⟨j, j1, j2⟩ := ordO_onto fin m r (by omega) hf
        by_cases hj : j < P
        · exact ⟨j, by omega, by rw [if_pos hj, j2]⟩
        · exact ⟨j + 1, by omega, by rw [if_neg (by omega), if_neg (by omega), Nat.add_sub_cancel, j2]⟩
theorem ordO_nz (fin : Nat → Int32) : ∀ m i, i < ordK fin m → ¬ fin (ordO fin m i) = 0
  | 0, i, h => absurd h (Nat.not_lt_zero i)
  | m + 1, i, h => by
    by_cases h0 : fin m = 0
    · rw [ordO, if_pos h0]
      exact ordO_nz fin m i (by rw [ordK_z h0] at h; exact h)
    · rw [ordK_s h0] at h
      rw [ordO, if_neg h0]
      unfold insO
      have hp := posI_le (fun x => decide (¬ fin x ≤ fin m)) (ordO fin m) (ordK fin m)
      generalize posI (fun x => decide (¬ fin x ≤ fin m)) (ordO fin m) (ordK fin m) = P at hp
      by_cases h1 : i < P
      · rw [if_pos h1]; exact ordO_nz fin m i (by omega)
      · rw [if_neg h1]
        by_cases h2 : i = P
        · rw [if_pos h2]; exact h0
        · rw [if_neg h2]; exact ordO_nz fin m (i - 1) (by omega)
theorem fb_fd (h : Nat → Bool) (o : Nat → Nat) : ∀ k, fb_ct (fun i => h (o i)) k = fdO (fun a x => a + if h x = true then 1 else 0) 0 o k
  | 0 => rfl
  | k + 1 => by rw [fb_ct_succ, fdO, fb_fd h o k]
theorem fd_ct (h : Nat → Bool) (fin : Nat → Int32) : ∀ m, (∀ r, r < m → fin r = 0 → h r = false) → fdR (fun a x => a + if h x = true then 1 else 0) 0 fin m = fb_ct h m
  | 0, _ => rfl
  | m + 1, hz => by
    rw [fdR, fb_ct_succ, fd_ct h fin m (fun r hr => hz r (by omega))]
    by_cases h0 : fin m = 0
    · rw [if_pos h0, hz m (by omega) h0]
      rfl
    · rw [if_neg h0]
/-- as many of the order as of the riders -/
theorem ord_ct {h : Nat → Bool} {fin : Nat → Int32} {m : Nat} (hz : ∀ r, r < m → fin r = 0 → h r = false) : fb_ct (fun i => h (ordO fin m i)) (ordK fin m) = fb_ct h m := by
  rw [fb_fd, fdO_ord (I := fun _ => True) trivial (fun _ _ _ => trivial) (fun a x y _ => by omega), fd_ct h fin m hz]
theorem hdI_cong {b b' : Nat → Bool} : ∀ j, (∀ i, i ≤ j → b i = b' i) → hdI b j = hdI b' j
  | 0, _ => rfl
  | j + 1, h => by rw [hdI, hdI, h (j + 1) (by omega), hdI_cong j (fun i hi => h i (by omega))]
theorem chC_cong {g g' : Nat → Option Nat} {raw raw' : Nat → Int32} {S : Nat → Prop} (hg : ∀ r, S r → g r = g' r) (hq : ∀ r q, S r → g r = some q → S q ∧ raw q = raw' q) : ∀ k r l, S r → chC g raw k r l = chC g' raw' k r l
  | 0, _, _, _ => rfl
  | k + 1, r, l, hr => by
    cases e : g r with
    | none => rw [chC_n e, chC_n ((hg r hr).symm.trans e)]
    | some q =>
      have := hq r q hr e
      rw [chC_s e, chC_s ((hg r hr).symm.trans e), this.2]
      exact chC_cong hg hq k q _ this.1
theorem mnI_nat {a b : Nat} (ha : a < 2 ^ 31) (hb : b < 2 ^ 31) : mnI (nI a) (nI b) = nI (if b < a then b else a) := by
  unfold mnI
  by_cases h : b < a
  · rw [if_pos ((nI_ltI hb ha).mpr h), if_pos h]
  · rw [if_neg (fun h9 => h ((nI_ltI hb ha).mp h9)), if_neg h]
theorem chC_bd {g : Nat → Option Nat} {raw : Nat → Int32} {S : Nat → Prop} (hq : ∀ r q, S r → g r = some q → S q ∧ ∃ a, a ≤ 99999 ∧ raw q = nI a) : ∀ k r l, S r → l ≤ 99999 → ∃ t, t ≤ l ∧ chC g raw k r (nI l) = nI t
  | 0, _, l, _, _ => ⟨l, Nat.le_refl l, rfl⟩
  | k + 1, r, l, hr, hl => by
    cases e : g r with
    | none => exact ⟨l, Nat.le_refl l, chC_n e _ _⟩
    | some q =>
      obtain ⟨hS, a, a1, a2⟩ := hq r q hr e
      rw [chC_s e, a2, mnI_nat (by omega) (by omega)]
      obtain ⟨t, t1, t2⟩ := chC_bd hq k q (if a < l then a else l) hS (by split <;> omega)
      exact ⟨t, by split at t1 <;> omega, t2⟩
theorem bsF_bd {T : Nat → Int32} {p : Nat → Nat} {F : Nat} (h : ∀ j, j < F → ∃ t, t ≤ 99999 ∧ T (p j) = nI t) : ∀ k, 0 < k → k ≤ F → ∃ b, b ≤ 99999 ∧ bsF T p k = nI b
  | 0, h0, _ => absurd h0 (Nat.lt_irrefl 0)
  | k + 1, _, hk => by
    obtain ⟨t, t1, t2⟩ := h k (by omega)
    rw [bsF, t2]
    by_cases h0 : k = 0
    · subst h0
      refine ⟨t, t1, ?_⟩
      show mnI (nI 1000000) (nI t) = nI t
      rw [mnI_nat (by omega) (by omega), if_pos (by omega)]
    · obtain ⟨b, b1, b2⟩ := bsF_bd h k (by omega) (by omega)
      rw [b2, mnI_nat (by omega) (by omega)]
      exact ⟨_, by split <;> omega, rfl⟩
theorem bsF_cong {T T' : Nat → Int32} {p : Nat → Nat} : ∀ k, (∀ j, j < k → T (p j) = T' (p j)) → bsF T p k = bsF T' p k
  | 0, _ => rfl
  | k + 1, h => by rw [bsF, bsF, bsF_cong k (fun j hj => h j (by omega)), h k (by omega)]
theorem mIn_cong {lt : Nat → Bool} {f g : Nat → Int32} {h : Nat} {cr : Nat → Nat} {P : z_D} : ∀ k, (∀ i, i < k → f (cr i) = g (cr i)) → mIn lt f h cr P k = mIn lt g h cr P k
  | 0, _ => rfl
  | k + 1, hc => by rw [mIn, mIn, mIn_cong k (fun i hi => hc i (by omega)), hc k (by omega)]
theorem mOu_cong {lt : Nat → Bool} {f g : Nat → Int32} {hw q : Nat → Nat} {cr : Nat → Nat → Nat} {P : z_D} : ∀ M, (∀ m k, m < M → k < q m → f (cr m k) = g (cr m k)) → mOu lt f hw q cr P M = mOu lt g hw q cr P M
  | 0, _ => rfl
  | M + 1, hc => by rw [mOu, mOu, mOu_cong M (fun m k hm hk => hc m k (by omega) hk), mIn_cong (q M) (fun i hi => hc M i (by omega) hi)]
/-- bonus is small -/
def BB (P : z_D) (B : Nat) : Prop := ∀ r, ∃ v, v ≤ B ∧ P 9 r = nI v
theorem BB.mono {P : z_D} {A B : Nat} (h : BB P A) (hAB : A ≤ B) : BB P B := fun r => by
  obtain ⟨v, v1, v2⟩ := h r
  exact ⟨v, by omega, v2⟩
theorem BB.up {P : z_D} {A r k : Nat} (h : BB P A) : BB (z_up P 9 r (P 9 r + nI k)) (A + k) := fun q => by
  obtain ⟨v, v1, v2⟩ := h q
  by_cases e : q = r
  · subst e
    exact ⟨v + k, by omega, by rw [x_ue rfl rfl, v2, nI_add]⟩
  · exact ⟨v, by omega, by rw [x_un (by omega), v2]⟩
theorem BB.up2 {P : z_D} {A r w : Nat} {v : Int32} (h : BB P A) (hw : ¬ w = 9) : BB (z_up P w r v) A := fun q => by
  rw [x_un (by omega)]
  exact h q
theorem bnO_nat (k : Nat) : ∃ v, v ≤ 10 ∧ bnO k = nI v := by
  unfold bnO
  split
  · exact ⟨10, by omega, rfl⟩
  · split
    · exact ⟨6, by omega, rfl⟩
    · exact ⟨4, by omega, rfl⟩
theorem pOF_bd {kd : Nat} {lt : Nat → Bool} {p : Nat → Nat} : ∀ k, BB (pOF kd lt p (fun _ _ => 0) k) (10 * k)
  | 0 => fun r => ⟨0, by omega, nI_0.symm⟩
  | k + 1 => by
    have h := pOF_bd (kd := kd) (lt := lt) (p := p) k
    have h1 : BB (pO1 kd k (p k) (pOF kd lt p (fun _ _ => 0) k)) (10 * (k + 1)) := by
      unfold pO1
      split
      · obtain ⟨v, v1, v2⟩ := bnO_nat k
        rw [v2]
        exact h.up.mono (by omega)
      · exact h.mono (by omega)
    show BB (pO2 _ _ _ _ _) _
    unfold pO2
    split
    · exact h1.up2 (by omega)
    · exact h1
theorem pM_bd {lt : Nat → Bool} {h i r A : Nat} {P : z_D} (hP : BB P A) : BB (pM lt h i r P) (A + 3) := by
  unfold pM
  split
  · have h1 : BB (pM1 i r P) (A + 3) := by
      unfold pM1
      split
      · exact hP.up.mono (by omega)
      · exact hP.mono (by omega)
    unfold pM2
    split
    · exact h1.up2 (by omega)
    · exact h1
  · unfold pM3
    split
    · exact (hP.up2 (by omega)).mono (by omega)
    · exact hP.mono (by omega)
theorem mIn_bd {lt : Nat → Bool} {f : Nat → Int32} {h A : Nat} {cr : Nat → Nat} {P : z_D} (hP : BB P A) : ∀ k, BB (mIn lt f h cr P k).2 (A + 3 * k)
  | 0 => hP
  | k + 1 => by
    have := mIn_bd (lt := lt) (f := f) (h := h) (cr := cr) hP k
    by_cases h0 : f (cr k) = 0
    · rw [mIn_z h0]; exact this.mono (by omega)
    · rw [mIn_s h0]; exact (pM_bd this).mono (by omega)
theorem mOu_bd {lt : Nat → Bool} {f : Nat → Int32} {hw q : Nat → Nat} {cr : Nat → Nat → Nat} {P : z_D} {A : Nat} (hP : BB P A) : ∀ M, (∀ m, m < M → q m ≤ 16) → BB (mOu lt f hw q cr P M) (A + 48 * M)
  | 0, _ => hP
  | M + 1, hq => (mIn_bd (mOu_bd hP M (fun m hm => hq m (by omega))) (q M)).mono (by have := hq M (by omega); omega)
/-- nothing for one without a finish -/
def ZZ (P : z_D) (r : Nat) : Prop := P 9 r = 0 ∧ P 10 r = 0 ∧ P 11 r = 0
theorem q_sendOut {d : z_D} {b c n : Nat} {ou : Nat → Bool} (hn : n ≤ 16) (h1 : d b 1 = nI n) (hbc : b + 4 ≤ c) (hou : ∀ r, r < n → ou r = decide (¬ d (b + 3) r = 0 ∧ (d (c + 10) r = 0 ∨ ¬ d (c + 20) r = 0 ∧ d c 19 = 0))) : ok (f_X3_sendOut d b c) (fun v => v.1 = nI (fb_ct ou n) ∧ (∀ a, ¬ a = b + 3 → v.2 a = d a) ∧ ∀ r, v.2 (b + 3) r = if r < n ∧ ou r = true then 0 else d (b + 3) r) := by
  unfold f_X3_sendOut
  refine zl3 (f_X3_sendOut_L4_b b c _) (fun _ => rfl) (fun m x2 x3 e => ∃ i, m + i = n ∧ x3 = nI i ∧ x2 = nI (fb_ct ou i) ∧ (∀ a, ¬ a = b + 3 → e a = d a) ∧ ∀ r, e (b + 3) r = if r < i ∧ ou r = true then 0 else d (b + 3) r) ?_ n z_N _ _ _ ⟨0, by omega, rfl, rfl, fun _ _ => rfl, fun r => by rw [if_neg (by omega)]⟩ (ltz (by omega))
  rintro R m x2 x3 e ⟨i, hm, rfl, rfl, g1, g2⟩ ih
  unfold f_X3_sendOut_L4_b
  have e1 : e b 1 = nI n := by rw [g1 _ (by omega), h1]
  by_cases hi : i = n
  · subst hi
    simp (disch := omega) only [↓x_let, ↓x_nam, ↓x_put, ↓x_bX, ↓x_ob, ↓x_ald, ↓x_aldL, ↓x_ast, ↓x_astL, ↓x_at0, ↓x_at_0, ↓x_mk0, ↓x_at, ↓x_atL, ↓x_at_, ↓x_at_L, ↓x_mk, ↓x_mkL, ↓x_aald, ↓x_w, ↓x_wi, ↓ok_s, ↓x_ifle_t, ↓x_ifle_f, ↓x_iflt_t, ↓x_iflt_f, ↓x_ifeq_t, ↓x_ifeq_f, ↓x_ifleL_t, ↓x_ifleL_f, ↓x_ifltL_t, ↓x_ifltL_f, ↓x_ifeqL_t, ↓x_ifeqL_f, ↓x_ifLle_t, ↓x_ifLle_f, ↓x_ifLlt_t, ↓x_ifLlt_f, ↓x_ifnm1, ↓x_ifb0, ↓x_ifb1, ↓x_if00, ↓x_if10, x_addL, x_Ladd, x_mulL, x_Lmul, nI_add, pk_mul, nI_pred, if_true, if_false, x_m1, n_a0, x_ue, x_un, e1]; try simp (disch := omega) only [↓x_let, ↓x_nam, ↓x_put, ↓x_bX, ↓x_ob, ↓x_ald, ↓x_aldL, ↓x_ast, ↓x_astL, ↓x_at0, ↓x_at_0, ↓x_mk0, ↓x_at, ↓x_atL, ↓x_at_, ↓x_at_L, ↓x_mk, ↓x_mkL, ↓x_aald, ↓x_w, ↓x_wi, ↓ok_s, ↓x_ifle_t, ↓x_ifle_f, ↓x_iflt_t, ↓x_iflt_f, ↓x_ifeq_t, ↓x_ifeq_f, ↓x_ifleL_t, ↓x_ifleL_f, ↓x_ifltL_t, ↓x_ifltL_f, ↓x_ifeqL_t, ↓x_ifeqL_f, ↓x_ifLle_t, ↓x_ifLle_f, ↓x_ifLlt_t, ↓x_ifLlt_f, ↓x_ifnm1, ↓x_ifb0, ↓x_ifb1, ↓x_if00, ↓x_if10, x_addL, x_Ladd, x_mulL, x_Lmul, nI_add, pk_mul, nI_pred, if_true, if_false, x_m1, n_a0, x_ue, x_un, e1]; try simp (disch := omega) only [↓x_let, ↓x_nam, ↓x_put, ↓x_bX, ↓x_ob, ↓x_ald, ↓x_aldL, ↓x_ast, ↓x_astL, ↓x_at0, ↓x_at_0, ↓x_mk0, ↓x_at, ↓x_atL, ↓x_at_, ↓x_at_L, ↓x_mk, ↓x_mkL, ↓x_aald, ↓x_w, ↓x_wi, ↓ok_s, ↓x_ifle_t, ↓x_ifle_f, ↓x_iflt_t, ↓x_iflt_f, ↓x_ifeq_t, ↓x_ifeq_f, ↓x_ifleL_t, ↓x_ifleL_f, ↓x_ifltL_t, ↓x_ifltL_f, ↓x_ifeqL_t, ↓x_ifeqL_f, ↓x_ifLle_t, ↓x_ifLle_f, ↓x_ifLlt_t, ↓x_ifLlt_f, ↓x_ifnm1, ↓x_ifb0, ↓x_ifb1, ↓x_if00, ↓x_if10, x_addL, x_Ladd, x_mulL, x_Lmul, nI_add, pk_mul, nI_pred, if_true, if_false, x_m1, n_a0, x_ue, x_un, e1]; try simp (disch := omega) only [↓x_let, ↓x_nam, ↓x_put, ↓x_bX, ↓x_ob, ↓x_ald, ↓x_aldL, ↓x_ast, ↓x_astL, ↓x_at0, ↓x_at_0, ↓x_mk0, ↓x_at, ↓x_atL, ↓x_at_, ↓x_at_L, ↓x_mk, ↓x_mkL, ↓x_aald, ↓x_w, ↓x_wi, ↓ok_s, ↓x_ifle_t, ↓x_ifle_f, ↓x_iflt_t, ↓x_iflt_f, ↓x_ifeq_t, ↓x_ifeq_f, ↓x_ifleL_t, ↓x_ifleL_f, ↓x_ifltL_t, ↓x_ifltL_f, ↓x_ifeqL_t, ↓x_ifeqL_f, ↓x_ifLle_t, ↓x_ifLle_f, ↓x_ifLlt_t, ↓x_ifLlt_f, ↓x_ifnm1, ↓x_ifb0, ↓x_ifb1, ↓x_if00, ↓x_if10, x_addL, x_Ladd, x_mulL, x_Lmul, nI_add, pk_mul, nI_pred, if_true, if_false, x_m1, n_a0, x_ue, x_un, e1]
    exact ⟨trivial, g1, g2⟩
  have hin : i < n := by omega
  have e3 : e (b + 3) i = d (b + 3) i := by rw [g2, if_neg (by omega)]
  have e10 : e (c + 10) = d (c + 10) := g1 _ (by omega)
  have e20 : e (c + 20) = d (c + 20) := g1 _ (by omega)
  have e19 : e c = d c := g1 _ (by omega)
  have ho := hou i hin
  have a01 : (0 : Int32) &&& 1 = 0 := by decide
  have no : ou i = false → ok (R (nI (fb_ct ou i)) (nI (i + 1)) e) (fun v => v.1 = nI (fb_ct ou n) ∧ (∀ a, ¬ a = b + 3 → v.2 a = d a) ∧ ∀ r, v.2 (b + 3) r = if r < n ∧ ou r = true then 0 else d (b + 3) r) := fun hf => by
    refine ih (m - 1) _ _ _ (by omega) ⟨i + 1, by omega, rfl, ?_, g1, fun r => ?_⟩
    · rw [fb_ct_succ, hf]; rfl
    · rw [g2]
      by_cases hr : r = i
      · subst hr
        rw [if_neg (by omega), if_neg (fun h => by rw [hf] at h; exact absurd h.2 (by decide))]
      · by_cases h9 : r < i ∧ ou r = true
        · rw [if_pos h9, if_pos ⟨by omega, h9.2⟩]
        · rw [if_neg h9, if_neg (fun h => h9 ⟨by omega, h.2⟩)]
  have yes : ou i = true → ok (R (nI (fb_ct ou i + 1)) (nI (i + 1)) (z_up e (b + 3) i 0)) (fun v => v.1 = nI (fb_ct ou n) ∧ (∀ a, ¬ a = b + 3 → v.2 a = d a) ∧ ∀ r, v.2 (b + 3) r = if r < n ∧ ou r = true then 0 else d (b + 3) r) := fun hf => by
    refine ih (m - 1) _ _ _ (by omega) ⟨i + 1, by omega, rfl, ?_, fun a ha => by rw [u_a ha, g1 a ha], fun r => ?_⟩
    · rw [fb_ct_succ, hf]; rfl
    · by_cases hr : r = i
      · subst hr
        rw [x_ue rfl rfl, if_pos ⟨by omega, hf⟩]
      · rw [x_un (by omega), g2]
        by_cases h9 : r < i ∧ ou r = true
        · rw [if_pos h9, if_pos ⟨by omega, h9.2⟩]
        · rw [if_neg h9, if_neg (fun h => h9 ⟨by omega, h.2⟩)]
  have hso : f_X4_sendsOut e c (nI i) = some (b01 (d (c + 10) i = 0 ∨ ¬ d (c + 20) i = 0 ∧ d c 19 = 0)) := by
    unfold f_X4_sendsOut
    rw [x_ald _ (by omega) (by omega), e10]
    by_cases q1 : d (c + 10) i = 0
    · rw [if_pos q1, b01_t (Or.inl q1)]
    · rw [if_neg q1, x_ald _ (by omega) (by omega), e20]
      by_cases q2 : d (c + 20) i = 0
      · rw [if_pos q2, b01_f (fun h => h.elim q1 (fun h => h.1 q2))]
      · rw [if_neg q2, e19]
        by_cases q3 : d c 19 = 0
        · rw [if_pos q3, b01_t (Or.inr ⟨q2, q3⟩)]
        · rw [if_neg q3, b01_f (fun h => h.elim q1 (fun h => q3 h.2))]
  by_cases q0 : d (b + 3) i = 0
  · simp (disch := omega) only [↓x_let, ↓x_nam, ↓x_put, ↓x_bX, ↓x_ob, ↓x_ald, ↓x_aldL, ↓x_ast, ↓x_astL, ↓x_at0, ↓x_at_0, ↓x_mk0, ↓x_at, ↓x_atL, ↓x_at_, ↓x_at_L, ↓x_mk, ↓x_mkL, ↓x_aald, ↓x_w, ↓x_wi, ↓ok_s, ↓x_ifle_t, ↓x_ifle_f, ↓x_iflt_t, ↓x_iflt_f, ↓x_ifeq_t, ↓x_ifeq_f, ↓x_ifleL_t, ↓x_ifleL_f, ↓x_ifltL_t, ↓x_ifltL_f, ↓x_ifeqL_t, ↓x_ifeqL_f, ↓x_ifLle_t, ↓x_ifLle_f, ↓x_ifLlt_t, ↓x_ifLlt_f, ↓x_ifnm1, ↓x_ifb0, ↓x_ifb1, ↓x_if00, ↓x_if10, x_addL, x_Ladd, x_mulL, x_Lmul, nI_add, pk_mul, nI_pred, if_true, if_false, x_m1, n_a0, x_ue, x_un, e1, e3, ↓if_pos q0]; try simp (disch := omega) only [↓x_let, ↓x_nam, ↓x_put, ↓x_bX, ↓x_ob, ↓x_ald, ↓x_aldL, ↓x_ast, ↓x_astL, ↓x_at0, ↓x_at_0, ↓x_mk0, ↓x_at, ↓x_atL, ↓x_at_, ↓x_at_L, ↓x_mk, ↓x_mkL, ↓x_aald, ↓x_w, ↓x_wi, ↓ok_s, ↓x_ifle_t, ↓x_ifle_f, ↓x_iflt_t, ↓x_iflt_f, ↓x_ifeq_t, ↓x_ifeq_f, ↓x_ifleL_t, ↓x_ifleL_f, ↓x_ifltL_t, ↓x_ifltL_f, ↓x_ifeqL_t, ↓x_ifeqL_f, ↓x_ifLle_t, ↓x_ifLle_f, ↓x_ifLlt_t, ↓x_ifLlt_f, ↓x_ifnm1, ↓x_ifb0, ↓x_ifb1, ↓x_if00, ↓x_if10, x_addL, x_Ladd, x_mulL, x_Lmul, nI_add, pk_mul, nI_pred, if_true, if_false, x_m1, n_a0, x_ue, x_un, e1, e3, ↓if_pos q0]; try simp (disch := omega) only [↓x_let, ↓x_nam, ↓x_put, ↓x_bX, ↓x_ob, ↓x_ald, ↓x_aldL, ↓x_ast, ↓x_astL, ↓x_at0, ↓x_at_0, ↓x_mk0, ↓x_at, ↓x_atL, ↓x_at_, ↓x_at_L, ↓x_mk, ↓x_mkL, ↓x_aald, ↓x_w, ↓x_wi, ↓ok_s, ↓x_ifle_t, ↓x_ifle_f, ↓x_iflt_t, ↓x_iflt_f, ↓x_ifeq_t, ↓x_ifeq_f, ↓x_ifleL_t, ↓x_ifleL_f, ↓x_ifltL_t, ↓x_ifltL_f, ↓x_ifeqL_t, ↓x_ifeqL_f, ↓x_ifLle_t, ↓x_ifLle_f, ↓x_ifLlt_t, ↓x_ifLlt_f, ↓x_ifnm1, ↓x_ifb0, ↓x_ifb1, ↓x_if00, ↓x_if10, x_addL, x_Ladd, x_mulL, x_Lmul, nI_add, pk_mul, nI_pred, if_true, if_false, x_m1, n_a0, x_ue, x_un, e1, e3, ↓if_pos q0]; try simp (disch := omega) only [↓x_let, ↓x_nam, ↓x_put, ↓x_bX, ↓x_ob, ↓x_ald, ↓x_aldL, ↓x_ast, ↓x_astL, ↓x_at0, ↓x_at_0, ↓x_mk0, ↓x_at, ↓x_atL, ↓x_at_, ↓x_at_L, ↓x_mk, ↓x_mkL, ↓x_aald, ↓x_w, ↓x_wi, ↓ok_s, ↓x_ifle_t, ↓x_ifle_f, ↓x_iflt_t, ↓x_iflt_f, ↓x_ifeq_t, ↓x_ifeq_f, ↓x_ifleL_t, ↓x_ifleL_f, ↓x_ifltL_t, ↓x_ifltL_f, ↓x_ifeqL_t, ↓x_ifeqL_f, ↓x_ifLle_t, ↓x_ifLle_f, ↓x_ifLlt_t, ↓x_ifLlt_f, ↓x_ifnm1, ↓x_ifb0, ↓x_ifb1, ↓x_if00, ↓x_if10, x_addL, x_Ladd, x_mulL, x_Lmul, nI_add, pk_mul, nI_pred, if_true, if_false, x_m1, n_a0, x_ue, x_un, e1, e3, ↓if_pos q0]
    exact no (by rw [ho]; exact decide_eq_false (fun h => h.1 q0))
  · by_cases q1 : d (c + 10) i = 0 ∨ ¬ d (c + 20) i = 0 ∧ d c 19 = 0
    · rw [b01_t q1] at hso
      simp (disch := omega) only [↓x_let, ↓x_nam, ↓x_put, ↓x_bX, ↓x_ob, ↓x_ald, ↓x_aldL, ↓x_ast, ↓x_astL, ↓x_at0, ↓x_at_0, ↓x_mk0, ↓x_at, ↓x_atL, ↓x_at_, ↓x_at_L, ↓x_mk, ↓x_mkL, ↓x_aald, ↓x_w, ↓x_wi, ↓ok_s, ↓x_ifle_t, ↓x_ifle_f, ↓x_iflt_t, ↓x_iflt_f, ↓x_ifeq_t, ↓x_ifeq_f, ↓x_ifleL_t, ↓x_ifleL_f, ↓x_ifltL_t, ↓x_ifltL_f, ↓x_ifeqL_t, ↓x_ifeqL_f, ↓x_ifLle_t, ↓x_ifLle_f, ↓x_ifLlt_t, ↓x_ifLlt_f, ↓x_ifnm1, ↓x_ifb0, ↓x_ifb1, ↓x_if00, ↓x_if10, x_addL, x_Ladd, x_mulL, x_Lmul, nI_add, pk_mul, nI_pred, if_true, if_false, x_m1, n_a0, x_ue, x_un, e1, e3, ↓if_neg q0, hso, a01]; try simp (disch := omega) only [↓x_let, ↓x_nam, ↓x_put, ↓x_bX, ↓x_ob, ↓x_ald, ↓x_aldL, ↓x_ast, ↓x_astL, ↓x_at0, ↓x_at_0, ↓x_mk0, ↓x_at, ↓x_atL, ↓x_at_, ↓x_at_L, ↓x_mk, ↓x_mkL, ↓x_aald, ↓x_w, ↓x_wi, ↓ok_s, ↓x_ifle_t, ↓x_ifle_f, ↓x_iflt_t, ↓x_iflt_f, ↓x_ifeq_t, ↓x_ifeq_f, ↓x_ifleL_t, ↓x_ifleL_f, ↓x_ifltL_t, ↓x_ifltL_f, ↓x_ifeqL_t, ↓x_ifeqL_f, ↓x_ifLle_t, ↓x_ifLle_f, ↓x_ifLlt_t, ↓x_ifLlt_f, ↓x_ifnm1, ↓x_ifb0, ↓x_ifb1, ↓x_if00, ↓x_if10, x_addL, x_Ladd, x_mulL, x_Lmul, nI_add, pk_mul, nI_pred, if_true, if_false, x_m1, n_a0, x_ue, x_un, e1, e3, ↓if_neg q0, hso, a01]; try simp (disch := omega) only [↓x_let, ↓x_nam, ↓x_put, ↓x_bX, ↓x_ob, ↓x_ald, ↓x_aldL, ↓x_ast, ↓x_astL, ↓x_at0, ↓x_at_0, ↓x_mk0, ↓x_at, ↓x_atL, ↓x_at_, ↓x_at_L, ↓x_mk, ↓x_mkL, ↓x_aald, ↓x_w, ↓x_wi, ↓ok_s, ↓x_ifle_t, ↓x_ifle_f, ↓x_iflt_t, ↓x_iflt_f, ↓x_ifeq_t, ↓x_ifeq_f, ↓x_ifleL_t, ↓x_ifleL_f, ↓x_ifltL_t, ↓x_ifltL_f, ↓x_ifeqL_t, ↓x_ifeqL_f, ↓x_ifLle_t, ↓x_ifLle_f, ↓x_ifLlt_t, ↓x_ifLlt_f, ↓x_ifnm1, ↓x_ifb0, ↓x_ifb1, ↓x_if00, ↓x_if10, x_addL, x_Ladd, x_mulL, x_Lmul, nI_add, pk_mul, nI_pred, if_true, if_false, x_m1, n_a0, x_ue, x_un, e1, e3, ↓if_neg q0, hso, a01]; try simp (disch := omega) only [↓x_let, ↓x_nam, ↓x_put, ↓x_bX, ↓x_ob, ↓x_ald, ↓x_aldL, ↓x_ast, ↓x_astL, ↓x_at0, ↓x_at_0, ↓x_mk0, ↓x_at, ↓x_atL, ↓x_at_, ↓x_at_L, ↓x_mk, ↓x_mkL, ↓x_aald, ↓x_w, ↓x_wi, ↓ok_s, ↓x_ifle_t, ↓x_ifle_f, ↓x_iflt_t, ↓x_iflt_f, ↓x_ifeq_t, ↓x_ifeq_f, ↓x_ifleL_t, ↓x_ifleL_f, ↓x_ifltL_t, ↓x_ifltL_f, ↓x_ifeqL_t, ↓x_ifeqL_f, ↓x_ifLle_t, ↓x_ifLle_f, ↓x_ifLlt_t, ↓x_ifLlt_f, ↓x_ifnm1, ↓x_ifb0, ↓x_ifb1, ↓x_if00, ↓x_if10, x_addL, x_Ladd, x_mulL, x_Lmul, nI_add, pk_mul, nI_pred, if_true, if_false, x_m1, n_a0, x_ue, x_un, e1, e3, ↓if_neg q0, hso, a01]
      exact yes (by rw [ho]; exact decide_eq_true ⟨q0, q1⟩)
    · rw [b01_f q1] at hso
      simp (disch := omega) only [↓x_let, ↓x_nam, ↓x_put, ↓x_bX, ↓x_ob, ↓x_ald, ↓x_aldL, ↓x_ast, ↓x_astL, ↓x_at0, ↓x_at_0, ↓x_mk0, ↓x_at, ↓x_atL, ↓x_at_, ↓x_at_L, ↓x_mk, ↓x_mkL, ↓x_aald, ↓x_w, ↓x_wi, ↓ok_s, ↓x_ifle_t, ↓x_ifle_f, ↓x_iflt_t, ↓x_iflt_f, ↓x_ifeq_t, ↓x_ifeq_f, ↓x_ifleL_t, ↓x_ifleL_f, ↓x_ifltL_t, ↓x_ifltL_f, ↓x_ifeqL_t, ↓x_ifeqL_f, ↓x_ifLle_t, ↓x_ifLle_f, ↓x_ifLlt_t, ↓x_ifLlt_f, ↓x_ifnm1, ↓x_ifb0, ↓x_ifb1, ↓x_if00, ↓x_if10, x_addL, x_Ladd, x_mulL, x_Lmul, nI_add, pk_mul, nI_pred, if_true, if_false, x_m1, n_a0, x_ue, x_un, e1, e3, ↓if_neg q0, hso]; try simp (disch := omega) only [↓x_let, ↓x_nam, ↓x_put, ↓x_bX, ↓x_ob, ↓x_ald, ↓x_aldL, ↓x_ast, ↓x_astL, ↓x_at0, ↓x_at_0, ↓x_mk0, ↓x_at, ↓x_atL, ↓x_at_, ↓x_at_L, ↓x_mk, ↓x_mkL, ↓x_aald, ↓x_w, ↓x_wi, ↓ok_s, ↓x_ifle_t, ↓x_ifle_f, ↓x_iflt_t, ↓x_iflt_f, ↓x_ifeq_t, ↓x_ifeq_f, ↓x_ifleL_t, ↓x_ifleL_f, ↓x_ifltL_t, ↓x_ifltL_f, ↓x_ifeqL_t, ↓x_ifeqL_f, ↓x_ifLle_t, ↓x_ifLle_f, ↓x_ifLlt_t, ↓x_ifLlt_f, ↓x_ifnm1, ↓x_ifb0, ↓x_ifb1, ↓x_if00, ↓x_if10, x_addL, x_Ladd, x_mulL, x_Lmul, nI_add, pk_mul, nI_pred, if_true, if_false, x_m1, n_a0, x_ue, x_un, e1, e3, ↓if_neg q0, hso]; try simp (disch := omega) only [↓x_let, ↓x_nam, ↓x_put, ↓x_bX, ↓x_ob, ↓x_ald, ↓x_aldL, ↓x_ast, ↓x_astL, ↓x_at0, ↓x_at_0, ↓x_mk0, ↓x_at, ↓x_atL, ↓x_at_, ↓x_at_L, ↓x_mk, ↓x_mkL, ↓x_aald, ↓x_w, ↓x_wi, ↓ok_s, ↓x_ifle_t, ↓x_ifle_f, ↓x_iflt_t, ↓x_iflt_f, ↓x_ifeq_t, ↓x_ifeq_f, ↓x_ifleL_t, ↓x_ifleL_f, ↓x_ifltL_t, ↓x_ifltL_f, ↓x_ifeqL_t, ↓x_ifeqL_f, ↓x_ifLle_t, ↓x_ifLle_f, ↓x_ifLlt_t, ↓x_ifLlt_f, ↓x_ifnm1, ↓x_ifb0, ↓x_ifb1, ↓x_if00, ↓x_if10, x_addL, x_Ladd, x_mulL, x_Lmul, nI_add, pk_mul, nI_pred, if_true, if_false, x_m1, n_a0, x_ue, x_un, e1, e3, ↓if_neg q0, hso]; try simp (disch := omega) only [↓x_let, ↓x_nam, ↓x_put, ↓x_bX, ↓x_ob, ↓x_ald, ↓x_aldL, ↓x_ast, ↓x_astL, ↓x_at0, ↓x_at_0, ↓x_mk0, ↓x_at, ↓x_atL, ↓x_at_, ↓x_at_L, ↓x_mk, ↓x_mkL, ↓x_aald, ↓x_w, ↓x_wi, ↓ok_s, ↓x_ifle_t, ↓x_ifle_f, ↓x_iflt_t, ↓x_iflt_f, ↓x_ifeq_t, ↓x_ifeq_f, ↓x_ifleL_t, ↓x_ifleL_f, ↓x_ifltL_t, ↓x_ifltL_f, ↓x_ifeqL_t, ↓x_ifeqL_f, ↓x_ifLle_t, ↓x_ifLle_f, ↓x_ifLlt_t, ↓x_ifLlt_f, ↓x_ifnm1, ↓x_ifb0, ↓x_ifb1, ↓x_if00, ↓x_if10, x_addL, x_Ladd, x_mulL, x_Lmul, nI_add, pk_mul, nI_pred, if_true, if_false, x_m1, n_a0, x_ue, x_un, e1, e3, ↓if_neg q0, hso]
      exact no (by rw [ho]; exact decide_eq_false (fun h => q1 h.2))
