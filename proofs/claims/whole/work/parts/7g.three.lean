/-! 7g.three: the three least times of a team in a stage -/
theorem t3mn {a b : Nat} (ha : a < 2 ^ 31) (hb : b < 2 ^ 31) : (if nI a < nI b then nI a else nI b) = nI (min a b) := by
  by_cases h : a < b
  · rw [x_iflt_t a b h ha hb, Nat.min_eq_left (by omega)]
  · rw [x_iflt_f a b h ha hb, Nat.min_eq_right (by omega)]
theorem t3mx {a b : Nat} (ha : a < 2 ^ 31) (hb : b < 2 ^ 31) : (if nI a < nI b then nI b else nI a) = nI (max a b) := by
  by_cases h : a < b
  · rw [x_iflt_t a b h ha hb, Nat.max_eq_right (by omega)]
  · rw [x_iflt_f a b h ha hb, Nat.max_eq_left (by omega)]
def t3 (P : Nat → Bool) (g : Nat → Nat) (z : Nat × Nat × Nat × Nat) (r : Nat) : Nat × Nat × Nat × Nat := if P r = true then (z.1 + 1, min (g r) z.2.1, min (max z.2.1 (g r)) z.2.2.1, min (max z.2.2.1 (g r)) z.2.2.2) else z
theorem t3_y {P : Nat → Bool} {g : Nat → Nat} {z : Nat × Nat × Nat × Nat} {r : Nat} (h : P r = true) : t3 P g z r = (z.1 + 1, min (g r) z.2.1, min (max z.2.1 (g r)) z.2.2.1, min (max z.2.2.1 (g r)) z.2.2.2) := if_pos h
theorem t3_n {P : Nat → Bool} {g : Nat → Nat} {z : Nat × Nat × Nat × Nat} {r : Nat} (h : ¬ P r = true) : t3 P g z r = z := if_neg h
def t3I (z : Nat × Nat × Nat × Nat) : Prop := z.2.1 ≤ z.2.2.1 ∧ z.2.2.1 ≤ z.2.2.2 ∧ z.2.2.2 ≤ 1000000
def t3z : Nat × Nat × Nat × Nat := (0, 1000000, 1000000, 1000000)
theorem t3_0 : t3I t3z := ⟨Nat.le_refl _, Nat.le_refl _, Nat.le_refl _⟩
theorem t3_s {P : Nat → Bool} {g : Nat → Nat} (z : Nat × Nat × Nat × Nat) (r : Nat) (h : t3I z) : t3I (t3 P g z r) := by
  obtain ⟨c, x, y, w⟩ := z
  obtain ⟨h1, h2, h3⟩ : x ≤ y ∧ y ≤ w ∧ w ≤ 1000000 := h
  by_cases hp : P r = true
  · rw [t3_y hp]
    show min (g r) x ≤ min (max x (g r)) y ∧ min (max x (g r)) y ≤ min (max y (g r)) w ∧ min (max y (g r)) w ≤ 1000000
    omega
  · rw [t3_n hp]
    exact ⟨h1, h2, h3⟩
theorem t3_c {P : Nat → Bool} {g : Nat → Nat} (z : Nat × Nat × Nat × Nat) (r q : Nat) (h : t3I z) : t3 P g (t3 P g z r) q = t3 P g (t3 P g z q) r := by
  by_cases hr : P r = true
  rotate_left
  · rw [t3_n hr, t3_n hr]
  by_cases hq : P q = true
  rotate_left
  · rw [t3_n hq, t3_n hq]
  obtain ⟨c, x, y, w⟩ := z
  obtain ⟨h1, h2, h3⟩ : x ≤ y ∧ y ≤ w ∧ w ≤ 1000000 := h
  rw [t3_y hr, t3_y hq, t3_y hq, t3_y hr]
  generalize g r = u
  generalize g q = v
  simp only [Prod.mk.injEq, true_and]
  omega
theorem t3_f {P : Nat → Bool} {g : Nat → Nat} (o : Nat → Nat) : ∀ k, t3I (fdO (t3 P g) t3z o k) ∧ (fdO (t3 P g) t3z o k).1 ≤ k
  | 0 => ⟨t3_0, Nat.le_refl 0⟩
  | k + 1 => by
    obtain ⟨h1, h2⟩ := t3_f (P := P) (g := g) o k
    refine ⟨t3_s _ _ h1, ?_⟩
    show (t3 P g (fdO (t3 P g) t3z o k) (o k)).1 ≤ k + 1
    by_cases hp : P (o k) = true
    · rw [t3_y hp]
      show (fdO (t3 P g) t3z o k).1 + 1 ≤ k + 1
      omega
    · rw [t3_n hp]
      omega
def t3v (z : Nat × Nat × Nat × Nat) (L : Int32) : Int32 := if 3 ≤ z.1 then nI (z.2.1 + z.2.2.1 + z.2.2.2) else 3 * L
def tmQ (ρ : Nat → Int32) (k r : Nat) : Bool := decide (ρ (8 + 3 * r) = nI k)
theorem k_teamTime {d : z_D} {c b1 n k B : Nat} {ρ : Nat → Int32} {g : Nat → Nat} (sg : SG d c ρ B n) (cc : CL d c ρ B) (hn : n ≤ 16) (hg : ∀ r, r < 16 → g r ≤ 99999 ∧ ρ (B + 133 + 12 * r) = nI (g r)) (ht : ∀ r, r < n → d b1 r = ρ (8 + 3 * r)) : f_X4_teamTime d c b1 (nI k) = some (t3v (fdR (t3 (tmQ ρ k) g) t3z (rfin ρ B) 16) (ρ (B + 9))) := by
  rw [← fdO_ord (I := t3I) t3_0 t3_s t3_c, ← ok_e]
  have h7 := sg.2.2.2.2.2
  have ho := cc.2.1
  have q17 := cc.2.2.1.2.2.2.1
  have hK := ordK_le (rfin ρ B) 16
  unfold f_X4_teamTime
  generalize hF : fdO (t3 (tmQ ρ k) g) t3z (ordO (rfin ρ B) 16) = F
  refine zl5 (f_X4_teamTime_L17_b d c b1 (nI k) _) (fun _ => rfl) (fun m x3 x4 x5 x6 x7 => ∃ i, m + i = ordK (rfin ρ B) 16 ∧ x7 = nI i ∧ x3 = nI (F i).1 ∧ x4 = nI (F i).2.1 ∧ x5 = nI (F i).2.2.1 ∧ x6 = nI (F i).2.2.2) ?_ (ordK (rfin ρ B) 16) z_N _ _ _ _ _ ⟨0, by omega, rfl, by rw [← hF]; rfl, by rw [← hF]; rfl, by rw [← hF]; rfl, by rw [← hF]; rfl⟩ (ltz (by omega))
  rintro R m x3 x4 x5 x6 x7 ⟨i, hm, rfl, rfl, rfl, rfl, rfl⟩ ih
  unfold f_X4_teamTime_L17_b
  have hI := t3_f (P := tmQ ρ k) (g := g) (ordO (rfin ρ B) 16) i
  rw [hF] at hI
  obtain ⟨⟨h1, h2, h3⟩, h4⟩ := hI
  by_cases hi : i = ordK (rfin ρ B) 16
  · rw [h7, ← hi]
    unfold t3v
    by_cases hc : 3 ≤ (F i).1
    · rw [if_pos hc]
      simp (disch := omega) only [↓x_let, ↓x_nam, ↓x_put, ↓x_bX, ↓x_ob, ↓x_ald, ↓x_aldL, ↓x_ast, ↓x_astL, ↓x_at0, ↓x_at_0, ↓x_mk0, ↓x_at, ↓x_atL, ↓x_at_, ↓x_at_L, ↓x_mk, ↓x_mkL, ↓x_aald, ↓x_w, ↓x_wi, ↓ok_s, ↓x_ifle_t, ↓x_ifle_f, ↓x_iflt_t, ↓x_iflt_f, ↓x_ifeq_t, ↓x_ifeq_f, ↓x_ifleL_t, ↓x_ifleL_f, ↓x_ifltL_t, ↓x_ifltL_f, ↓x_ifeqL_t, ↓x_ifeqL_f, ↓x_ifLle_t, ↓x_ifLle_f, ↓x_ifLlt_t, ↓x_ifLlt_f, ↓x_ifnm1, ↓x_ifb0, ↓x_ifb1, ↓x_if00, ↓x_if10, x_addL, x_Ladd, x_mulL, x_Lmul, nI_add, pk_mul, nI_pred, if_true, if_false, x_m1, n_a0, x_ue, x_un]; try simp (disch := omega) only [↓x_let, ↓x_nam, ↓x_put, ↓x_bX, ↓x_ob, ↓x_ald, ↓x_aldL, ↓x_ast, ↓x_astL, ↓x_at0, ↓x_at_0, ↓x_mk0, ↓x_at, ↓x_atL, ↓x_at_, ↓x_at_L, ↓x_mk, ↓x_mkL, ↓x_aald, ↓x_w, ↓x_wi, ↓ok_s, ↓x_ifle_t, ↓x_ifle_f, ↓x_iflt_t, ↓x_iflt_f, ↓x_ifeq_t, ↓x_ifeq_f, ↓x_ifleL_t, ↓x_ifleL_f, ↓x_ifltL_t, ↓x_ifltL_f, ↓x_ifeqL_t, ↓x_ifeqL_f, ↓x_ifLle_t, ↓x_ifLle_f, ↓x_ifLlt_t, ↓x_ifLlt_f, ↓x_ifnm1, ↓x_ifb0, ↓x_ifb1, ↓x_if00, ↓x_if10, x_addL, x_Ladd, x_mulL, x_Lmul, nI_add, pk_mul, nI_pred, if_true, if_false, x_m1, n_a0, x_ue, x_un]; try simp (disch := omega) only [↓x_let, ↓x_nam, ↓x_put, ↓x_bX, ↓x_ob, ↓x_ald, ↓x_aldL, ↓x_ast, ↓x_astL, ↓x_at0, ↓x_at_0, ↓x_mk0, ↓x_at, ↓x_atL, ↓x_at_, ↓x_at_L, ↓x_mk, ↓x_mkL, ↓x_aald, ↓x_w, ↓x_wi, ↓ok_s, ↓x_ifle_t, ↓x_ifle_f, ↓x_iflt_t, ↓x_iflt_f, ↓x_ifeq_t, ↓x_ifeq_f, ↓x_ifleL_t, ↓x_ifleL_f, ↓x_ifltL_t, ↓x_ifltL_f, ↓x_ifeqL_t, ↓x_ifeqL_f, ↓x_ifLle_t, ↓x_ifLle_f, ↓x_ifLlt_t, ↓x_ifLlt_f, ↓x_ifnm1, ↓x_ifb0, ↓x_ifb1, ↓x_if00, ↓x_if10, x_addL, x_Ladd, x_mulL, x_Lmul, nI_add, pk_mul, nI_pred, if_true, if_false, x_m1, n_a0, x_ue, x_un]; try simp (disch := omega) only [↓x_let, ↓x_nam, ↓x_put, ↓x_bX, ↓x_ob, ↓x_ald, ↓x_aldL, ↓x_ast, ↓x_astL, ↓x_at0, ↓x_at_0, ↓x_mk0, ↓x_at, ↓x_atL, ↓x_at_, ↓x_at_L, ↓x_mk, ↓x_mkL, ↓x_aald, ↓x_w, ↓x_wi, ↓ok_s, ↓x_ifle_t, ↓x_ifle_f, ↓x_iflt_t, ↓x_iflt_f, ↓x_ifeq_t, ↓x_ifeq_f, ↓x_ifleL_t, ↓x_ifleL_f, ↓x_ifltL_t, ↓x_ifltL_f, ↓x_ifeqL_t, ↓x_ifeqL_f, ↓x_ifLle_t, ↓x_ifLle_f, ↓x_ifLlt_t, ↓x_ifLlt_f, ↓x_ifnm1, ↓x_ifb0, ↓x_ifb1, ↓x_if00, ↓x_if10, x_addL, x_Ladd, x_mulL, x_Lmul, nI_add, pk_mul, nI_pred, if_true, if_false, x_m1, n_a0, x_ue, x_un]
    · rw [if_neg hc]
      simp (disch := omega) only [↓x_let, ↓x_nam, ↓x_put, ↓x_bX, ↓x_ob, ↓x_ald, ↓x_aldL, ↓x_ast, ↓x_astL, ↓x_at0, ↓x_at_0, ↓x_mk0, ↓x_at, ↓x_atL, ↓x_at_, ↓x_at_L, ↓x_mk, ↓x_mkL, ↓x_aald, ↓x_w, ↓x_wi, ↓ok_s, ↓x_ifle_t, ↓x_ifle_f, ↓x_iflt_t, ↓x_iflt_f, ↓x_ifeq_t, ↓x_ifeq_f, ↓x_ifleL_t, ↓x_ifleL_f, ↓x_ifltL_t, ↓x_ifltL_f, ↓x_ifeqL_t, ↓x_ifeqL_f, ↓x_ifLle_t, ↓x_ifLle_f, ↓x_ifLlt_t, ↓x_ifLlt_f, ↓x_ifnm1, ↓x_ifb0, ↓x_ifb1, ↓x_if00, ↓x_if10, x_addL, x_Ladd, x_mulL, x_Lmul, nI_add, pk_mul, nI_pred, if_true, if_false, x_m1, n_a0, x_ue, x_un, q17]; try simp (disch := omega) only [↓x_let, ↓x_nam, ↓x_put, ↓x_bX, ↓x_ob, ↓x_ald, ↓x_aldL, ↓x_ast, ↓x_astL, ↓x_at0, ↓x_at_0, ↓x_mk0, ↓x_at, ↓x_atL, ↓x_at_, ↓x_at_L, ↓x_mk, ↓x_mkL, ↓x_aald, ↓x_w, ↓x_wi, ↓ok_s, ↓x_ifle_t, ↓x_ifle_f, ↓x_iflt_t, ↓x_iflt_f, ↓x_ifeq_t, ↓x_ifeq_f, ↓x_ifleL_t, ↓x_ifleL_f, ↓x_ifltL_t, ↓x_ifltL_f, ↓x_ifeqL_t, ↓x_ifeqL_f, ↓x_ifLle_t, ↓x_ifLle_f, ↓x_ifLlt_t, ↓x_ifLlt_f, ↓x_ifnm1, ↓x_ifb0, ↓x_ifb1, ↓x_if00, ↓x_if10, x_addL, x_Ladd, x_mulL, x_Lmul, nI_add, pk_mul, nI_pred, if_true, if_false, x_m1, n_a0, x_ue, x_un, q17]; try simp (disch := omega) only [↓x_let, ↓x_nam, ↓x_put, ↓x_bX, ↓x_ob, ↓x_ald, ↓x_aldL, ↓x_ast, ↓x_astL, ↓x_at0, ↓x_at_0, ↓x_mk0, ↓x_at, ↓x_atL, ↓x_at_, ↓x_at_L, ↓x_mk, ↓x_mkL, ↓x_aald, ↓x_w, ↓x_wi, ↓ok_s, ↓x_ifle_t, ↓x_ifle_f, ↓x_iflt_t, ↓x_iflt_f, ↓x_ifeq_t, ↓x_ifeq_f, ↓x_ifleL_t, ↓x_ifleL_f, ↓x_ifltL_t, ↓x_ifltL_f, ↓x_ifeqL_t, ↓x_ifeqL_f, ↓x_ifLle_t, ↓x_ifLle_f, ↓x_ifLlt_t, ↓x_ifLlt_f, ↓x_ifnm1, ↓x_ifb0, ↓x_ifb1, ↓x_if00, ↓x_if10, x_addL, x_Ladd, x_mulL, x_Lmul, nI_add, pk_mul, nI_pred, if_true, if_false, x_m1, n_a0, x_ue, x_un, q17]; try simp (disch := omega) only [↓x_let, ↓x_nam, ↓x_put, ↓x_bX, ↓x_ob, ↓x_ald, ↓x_aldL, ↓x_ast, ↓x_astL, ↓x_at0, ↓x_at_0, ↓x_mk0, ↓x_at, ↓x_atL, ↓x_at_, ↓x_at_L, ↓x_mk, ↓x_mkL, ↓x_aald, ↓x_w, ↓x_wi, ↓ok_s, ↓x_ifle_t, ↓x_ifle_f, ↓x_iflt_t, ↓x_iflt_f, ↓x_ifeq_t, ↓x_ifeq_f, ↓x_ifleL_t, ↓x_ifleL_f, ↓x_ifltL_t, ↓x_ifltL_f, ↓x_ifeqL_t, ↓x_ifeqL_f, ↓x_ifLle_t, ↓x_ifLle_f, ↓x_ifLlt_t, ↓x_ifLlt_f, ↓x_ifnm1, ↓x_ifb0, ↓x_ifb1, ↓x_if00, ↓x_if10, x_addL, x_Ladd, x_mulL, x_Lmul, nI_add, pk_mul, nI_pred, if_true, if_false, x_m1, n_a0, x_ue, x_un, q17]
  have hoi := ho i (by omega)
  have hl := ordO_lt (rfin ρ B) 16 i (by omega)
  have hnz := ordO_nz (rfin ρ B) 16 i (by omega)
  have hFs : F (i + 1) = t3 (tmQ ρ k) g (F i) (ordO (rfin ρ B) 16 i) := by rw [← hF]; rfl
  generalize ordO (rfin ρ B) 16 i = r at *
  have hrn : r < n := by
    obtain ⟨f, f1, f2, f3⟩ := (sg.2.2.2.2.1 r hl).1
    rcases Nat.lt_or_ge r n with h9 | h9
    · exact h9
    · exact absurd (by unfold rfin; rw [f2, f3 h9]; rfl) hnz
  have et := ht r hrn
  obtain ⟨-, -, -, -, -, -, k7, -⟩ := cc.2.2.2.2.2 r hl
  have u4 := (k7 hnz).2.2.2
  obtain ⟨g1, g2⟩ := hg r hl
  rw [g2] at u4
  by_cases hb : ρ (8 + 3 * r) = nI k
  · simp (disch := omega) only [↓x_let, ↓x_nam, ↓x_put, ↓x_bX, ↓x_ob, ↓x_ald, ↓x_aldL, ↓x_ast, ↓x_astL, ↓x_at0, ↓x_at_0, ↓x_mk0, ↓x_at, ↓x_atL, ↓x_at_, ↓x_at_L, ↓x_mk, ↓x_mkL, ↓x_aald, ↓x_w, ↓x_wi, ↓ok_s, ↓x_ifle_t, ↓x_ifle_f, ↓x_iflt_t, ↓x_iflt_f, ↓x_ifeq_t, ↓x_ifeq_f, ↓x_ifleL_t, ↓x_ifleL_f, ↓x_ifltL_t, ↓x_ifltL_f, ↓x_ifeqL_t, ↓x_ifeqL_f, ↓x_ifLle_t, ↓x_ifLle_f, ↓x_ifLlt_t, ↓x_ifLlt_f, ↓x_ifnm1, ↓x_ifb0, ↓x_ifb1, ↓x_if00, ↓x_if10, x_addL, x_Ladd, x_mulL, x_Lmul, nI_add, pk_mul, nI_pred, if_true, if_false, x_m1, n_a0, x_ue, x_un, h7, hoi, et, ↓if_pos hb, u4]; try simp (disch := omega) only [↓x_let, ↓x_nam, ↓x_put, ↓x_bX, ↓x_ob, ↓x_ald, ↓x_aldL, ↓x_ast, ↓x_astL, ↓x_at0, ↓x_at_0, ↓x_mk0, ↓x_at, ↓x_atL, ↓x_at_, ↓x_at_L, ↓x_mk, ↓x_mkL, ↓x_aald, ↓x_w, ↓x_wi, ↓ok_s, ↓x_ifle_t, ↓x_ifle_f, ↓x_iflt_t, ↓x_iflt_f, ↓x_ifeq_t, ↓x_ifeq_f, ↓x_ifleL_t, ↓x_ifleL_f, ↓x_ifltL_t, ↓x_ifltL_f, ↓x_ifeqL_t, ↓x_ifeqL_f, ↓x_ifLle_t, ↓x_ifLle_f, ↓x_ifLlt_t, ↓x_ifLlt_f, ↓x_ifnm1, ↓x_ifb0, ↓x_ifb1, ↓x_if00, ↓x_if10, x_addL, x_Ladd, x_mulL, x_Lmul, nI_add, pk_mul, nI_pred, if_true, if_false, x_m1, n_a0, x_ue, x_un, h7, hoi, et, ↓if_pos hb, u4]; try simp (disch := omega) only [↓x_let, ↓x_nam, ↓x_put, ↓x_bX, ↓x_ob, ↓x_ald, ↓x_aldL, ↓x_ast, ↓x_astL, ↓x_at0, ↓x_at_0, ↓x_mk0, ↓x_at, ↓x_atL, ↓x_at_, ↓x_at_L, ↓x_mk, ↓x_mkL, ↓x_aald, ↓x_w, ↓x_wi, ↓ok_s, ↓x_ifle_t, ↓x_ifle_f, ↓x_iflt_t, ↓x_iflt_f, ↓x_ifeq_t, ↓x_ifeq_f, ↓x_ifleL_t, ↓x_ifleL_f, ↓x_ifltL_t, ↓x_ifltL_f, ↓x_ifeqL_t, ↓x_ifeqL_f, ↓x_ifLle_t, ↓x_ifLle_f, ↓x_ifLlt_t, ↓x_ifLlt_f, ↓x_ifnm1, ↓x_ifb0, ↓x_ifb1, ↓x_if00, ↓x_if10, x_addL, x_Ladd, x_mulL, x_Lmul, nI_add, pk_mul, nI_pred, if_true, if_false, x_m1, n_a0, x_ue, x_un, h7, hoi, et, ↓if_pos hb, u4]; try simp (disch := omega) only [↓x_let, ↓x_nam, ↓x_put, ↓x_bX, ↓x_ob, ↓x_ald, ↓x_aldL, ↓x_ast, ↓x_astL, ↓x_at0, ↓x_at_0, ↓x_mk0, ↓x_at, ↓x_atL, ↓x_at_, ↓x_at_L, ↓x_mk, ↓x_mkL, ↓x_aald, ↓x_w, ↓x_wi, ↓ok_s, ↓x_ifle_t, ↓x_ifle_f, ↓x_iflt_t, ↓x_iflt_f, ↓x_ifeq_t, ↓x_ifeq_f, ↓x_ifleL_t, ↓x_ifleL_f, ↓x_ifltL_t, ↓x_ifltL_f, ↓x_ifeqL_t, ↓x_ifeqL_f, ↓x_ifLle_t, ↓x_ifLle_f, ↓x_ifLlt_t, ↓x_ifLlt_f, ↓x_ifnm1, ↓x_ifb0, ↓x_ifb1, ↓x_if00, ↓x_if10, x_addL, x_Ladd, x_mulL, x_Lmul, nI_add, pk_mul, nI_pred, if_true, if_false, x_m1, n_a0, x_ue, x_un, h7, hoi, et, ↓if_pos hb, u4]
    rw [t3mx (a := (F i).2.2.1) (b := g r) (by omega) (by omega), t3mn (a := max (F i).2.2.1 (g r)) (b := (F i).2.2.2) (by omega) (by omega), t3mx (a := (F i).2.1) (b := g r) (by omega) (by omega), t3mn (a := max (F i).2.1 (g r)) (b := (F i).2.2.1) (by omega) (by omega), t3mn (a := g r) (b := (F i).2.1) (by omega) (by omega)]
    refine ih (m - 1) _ _ _ _ _ (by omega) ⟨i + 1, by omega, rfl, ?_⟩
    rw [hFs, t3_y (show tmQ ρ k r = true from decide_eq_true hb)]
    exact ⟨rfl, rfl, rfl, rfl⟩
  · simp (disch := omega) only [↓x_let, ↓x_nam, ↓x_put, ↓x_bX, ↓x_ob, ↓x_ald, ↓x_aldL, ↓x_ast, ↓x_astL, ↓x_at0, ↓x_at_0, ↓x_mk0, ↓x_at, ↓x_atL, ↓x_at_, ↓x_at_L, ↓x_mk, ↓x_mkL, ↓x_aald, ↓x_w, ↓x_wi, ↓ok_s, ↓x_ifle_t, ↓x_ifle_f, ↓x_iflt_t, ↓x_iflt_f, ↓x_ifeq_t, ↓x_ifeq_f, ↓x_ifleL_t, ↓x_ifleL_f, ↓x_ifltL_t, ↓x_ifltL_f, ↓x_ifeqL_t, ↓x_ifeqL_f, ↓x_ifLle_t, ↓x_ifLle_f, ↓x_ifLlt_t, ↓x_ifLlt_f, ↓x_ifnm1, ↓x_ifb0, ↓x_ifb1, ↓x_if00, ↓x_if10, x_addL, x_Ladd, x_mulL, x_Lmul, nI_add, pk_mul, nI_pred, if_true, if_false, x_m1, n_a0, x_ue, x_un, h7, hoi, et, ↓if_neg hb]; try simp (disch := omega) only [↓x_let, ↓x_nam, ↓x_put, ↓x_bX, ↓x_ob, ↓x_ald, ↓x_aldL, ↓x_ast, ↓x_astL, ↓x_at0, ↓x_at_0, ↓x_mk0, ↓x_at, ↓x_atL, ↓x_at_, ↓x_at_L, ↓x_mk, ↓x_mkL, ↓x_aald, ↓x_w, ↓x_wi, ↓ok_s, ↓x_ifle_t, ↓x_ifle_f, ↓x_iflt_t, ↓x_iflt_f, ↓x_ifeq_t, ↓x_ifeq_f, ↓x_ifleL_t, ↓x_ifleL_f, ↓x_ifltL_t, ↓x_ifltL_f, ↓x_ifeqL_t, ↓x_ifeqL_f, ↓x_ifLle_t, ↓x_ifLle_f, ↓x_ifLlt_t, ↓x_ifLlt_f, ↓x_ifnm1, ↓x_ifb0, ↓x_ifb1, ↓x_if00, ↓x_if10, x_addL, x_Ladd, x_mulL, x_Lmul, nI_add, pk_mul, nI_pred, if_true, if_false, x_m1, n_a0, x_ue, x_un, h7, hoi, et, ↓if_neg hb]; try simp (disch := omega) only [↓x_let, ↓x_nam, ↓x_put, ↓x_bX, ↓x_ob, ↓x_ald, ↓x_aldL, ↓x_ast, ↓x_astL, ↓x_at0, ↓x_at_0, ↓x_mk0, ↓x_at, ↓x_atL, ↓x_at_, ↓x_at_L, ↓x_mk, ↓x_mkL, ↓x_aald, ↓x_w, ↓x_wi, ↓ok_s, ↓x_ifle_t, ↓x_ifle_f, ↓x_iflt_t, ↓x_iflt_f, ↓x_ifeq_t, ↓x_ifeq_f, ↓x_ifleL_t, ↓x_ifleL_f, ↓x_ifltL_t, ↓x_ifltL_f, ↓x_ifeqL_t, ↓x_ifeqL_f, ↓x_ifLle_t, ↓x_ifLle_f, ↓x_ifLlt_t, ↓x_ifLlt_f, ↓x_ifnm1, ↓x_ifb0, ↓x_ifb1, ↓x_if00, ↓x_if10, x_addL, x_Ladd, x_mulL, x_Lmul, nI_add, pk_mul, nI_pred, if_true, if_false, x_m1, n_a0, x_ue, x_un, h7, hoi, et, ↓if_neg hb]; try simp (disch := omega) only [↓x_let, ↓x_nam, ↓x_put, ↓x_bX, ↓x_ob, ↓x_ald, ↓x_aldL, ↓x_ast, ↓x_astL, ↓x_at0, ↓x_at_0, ↓x_mk0, ↓x_at, ↓x_atL, ↓x_at_, ↓x_at_L, ↓x_mk, ↓x_mkL, ↓x_aald, ↓x_w, ↓x_wi, ↓ok_s, ↓x_ifle_t, ↓x_ifle_f, ↓x_iflt_t, ↓x_iflt_f, ↓x_ifeq_t, ↓x_ifeq_f, ↓x_ifleL_t, ↓x_ifleL_f, ↓x_ifltL_t, ↓x_ifltL_f, ↓x_ifeqL_t, ↓x_ifeqL_f, ↓x_ifLle_t, ↓x_ifLle_f, ↓x_ifLlt_t, ↓x_ifLlt_f, ↓x_ifnm1, ↓x_ifb0, ↓x_ifb1, ↓x_if00, ↓x_if10, x_addL, x_Ladd, x_mulL, x_Lmul, nI_add, pk_mul, nI_pred, if_true, if_false, x_m1, n_a0, x_ue, x_un, h7, hoi, et, ↓if_neg hb]
    refine ih (m - 1) _ _ _ _ _ (by omega) ⟨i + 1, by omega, rfl, ?_⟩
    rw [hFs, t3_n (show ¬ tmQ ρ k r = true from fun h9 => hb (of_decide_eq_true h9))]
    exact ⟨rfl, rfl, rfl, rfl⟩
