/-! 60.raw: bunches and raw times, by the model -/
theorem m1_0 : (-1 : Int32) = nI 0 - 1 := by decide +kernel
theorem hdI_y {b : Nat → Bool} {i : Nat} (h : b i = true) : hdI b i = i := by
  cases i with
  | zero => rfl
  | succ i => unfold hdI; rw [if_pos h]
theorem hdI_n {b : Nat → Bool} {i : Nat} (h : ¬ b (i + 1) = true) : hdI b (i + 1) = hdI b i := by
  rw [hdI, if_neg h]
theorem q_laysRaw {d : z_D} {o s n : Nat} {p : Nat → Nat} {B : Nat → Bool} (hs : s < 8) (hn : n ≤ 16) (h6 : d o 6 = nI n) (ho : ∀ j, j < n → d (o + 5) j = nI (p j)) (hb : ∀ j, j < n → p j < 16) (hi : ∀ i j, i < n → j < n → p i = p j → i = j)
    (hB : bgn (d (o + 1) (56 + 325 * s)) (mfin d o s) p (d (o + 1) (56 + 325 * s + 3)) = B) :
    ok (f_X9_laysRaw d o (nI s)) (fun d' => (∀ a, a ≠ o + 1 → d' a = d a) ∧ (∀ k, k ≠ 56 + 325 * s + 6 → (∀ j, j < n → k ≠ 183 + 325 * s + 12 * p j + 5 ∧ k ≠ 183 + 325 * s + 12 * p j + 7 ∧ k ≠ 183 + 325 * s + 12 * p j + 8) → d' (o + 1) k = d (o + 1) k) ∧ d' (o + 1) (56 + 325 * s + 6) = nI (fb_ct B n) ∧
      ∀ j, j < n → d' (o + 1) (183 + 325 * s + 12 * p j + 5) = mfin d o s (p (hdI B j)) / 10 ∧ d' (o + 1) (183 + 325 * s + 12 * p j + 7) = nI (fb_ct B (j + 1)) - 1 ∧ d' (o + 1) (183 + 325 * s + 12 * p j + 8) = nI (j + 1)) := by
  generalize hQ : (fun d' : z_D => _) = Q
  unfold f_X9_laysRaw
  refine zl4 (f_X9_laysRaw_L7_b o (nI s) _) (fun _ => rfl) (fun m x2 x3 x4 e => ∃ i, m + i = n ∧ x4 = nI i ∧ x2 = nI (fb_ct B i) - 1 ∧ (∀ k, i = k + 1 → x3 = mfin d o s (p (hdI B k)) / 10) ∧ (∀ a, a ≠ o + 1 → e a = d a) ∧ (∀ k, (∀ j, j < n → k ≠ 183 + 325 * s + 12 * p j + 5 ∧ k ≠ 183 + 325 * s + 12 * p j + 7 ∧ k ≠ 183 + 325 * s + 12 * p j + 8) → e (o + 1) k = d (o + 1) k) ∧ ∀ j, j < i → e (o + 1) (183 + 325 * s + 12 * p j + 5) = mfin d o s (p (hdI B j)) / 10 ∧ e (o + 1) (183 + 325 * s + 12 * p j + 7) = nI (fb_ct B (j + 1)) - 1 ∧ e (o + 1) (183 + 325 * s + 12 * p j + 8) = nI (j + 1)) ?_ n z_N _ _ _ _ ⟨0, by omega, rfl, m1_0, fun k hk => by omega, fun _ _ => rfl, fun _ _ => rfl, fun j hj => by omega⟩ (ltz (by omega))
  rintro R m x2 x3 x4 e ⟨i, hm, rfl, rfl, h3, h1, h2, h4⟩ ih
  have e6 : e o 6 = nI n := by rw [h1 o (by omega), h6]
  have e5 : ∀ j, j < n → e (o + 5) j = nI (p j) := fun j hj => by rw [h1 _ (by omega), ho j hj]
  have ef : ∀ r, r < 16 → e (o + 1) (183 + 325 * s + 12 * r) = mfin d o s r := fun r hr => h2 _ (fun q hq => by omega)
  have ek : e (o + 1) (56 + 325 * s) = d (o + 1) (56 + 325 * s) := h2 _ (fun q hq => by omega)
  have eg : e (o + 1) (56 + 325 * s + 3) = d (o + 1) (56 + 325 * s + 3) := h2 _ (fun q hq => by omega)
  unfold f_X9_laysRaw_L7_b
  by_cases hc : i = n
  · subst hc
    rw [e6, if_pos (Int32.le_refl _)]
    simp (disch := omega) only [↓x_let, ↓x_nam, ↓x_put, ↓x_bX, ↓x_ob, ↓x_ald, ↓x_aldL, ↓x_ast, ↓x_astL, ↓x_at0, ↓x_at_0, ↓x_mk0, ↓x_at, ↓x_atL, ↓x_at_, ↓x_at_L, ↓x_mk, ↓x_mkL, ↓x_aald, ↓x_w, ↓x_wi, ↓ok_s, ↓x_ifle_t, ↓x_ifle_f, ↓x_iflt_t, ↓x_iflt_f, ↓x_ifeq_t, ↓x_ifeq_f, ↓x_ifleL_t, ↓x_ifleL_f, ↓x_ifltL_t, ↓x_ifltL_f, ↓x_ifeqL_t, ↓x_ifeqL_f, ↓x_ifLle_t, ↓x_ifLle_f, ↓x_ifLlt_t, ↓x_ifLlt_f, ↓x_ifnm1, ↓x_ifb0, ↓x_ifb1, ↓x_if00, ↓x_if10, x_addL, x_Ladd, x_mulL, x_Lmul, nI_add, pk_mul, nI_pred, if_true, if_false, x_m1, n_a0, x_ue, x_un]
    rw [← hQ]
    refine ⟨fun a ha => by rw [u_a ha, h1 a ha], fun k hk hr => by rw [u_k hk, h2 k hr], ?_, fun j hj => ?_⟩
    · rw [u_s, Int32.sub_add_cancel]
    · have := hb j hj
      rw [u_k (by omega), u_k (by omega), u_k (by omega)]
      exact h4 j hj
  · have hin : i < n := by omega
    have bi := hb i hin
    have tail : ∀ (b v : Int32), b = nI (fb_ct B (i + 1)) - 1 → v = mfin d o s (p (hdI B i)) / 10 → ok (R b v (nI (i + 1)) (z_up (z_up (z_up e (o + 1) (183 + 325 * s + 12 * p i + 5) v) (o + 1) (183 + 325 * s + 12 * p i + 7) b) (o + 1) (183 + 325 * s + 12 * p i + 8) (nI (i + 1)))) Q := by
      intro b v hb1 hv
      refine ih (m - 1) _ _ _ _ (by omega) ⟨i + 1, by omega, rfl, hb1, fun k hk => ?_, fun a ha => ?_, fun k hk => ?_, fun j hj => ?_⟩
      · obtain rfl : k = i := by omega
        exact hv
      · rw [u_a ha, u_a ha, u_a ha, h1 a ha]
      · have := hk i hin
        rw [u_k this.2.2, u_k this.2.1, u_k this.1, h2 k hk]
      · by_cases h9 : j = i
        · subst h9
          simp (disch := omega) only [x_ue, x_un, hv, hb1, and_self]
        · have hne : p j ≠ p i := fun h => h9 (hi j i (by omega) (by omega) h)
          simp (disch := omega) only [x_ue, x_un]
          exact h4 j (by omega)
    have hBi : B i = bgn (d (o + 1) (56 + 325 * s)) (mfin d o s) p (d (o + 1) (56 + 325 * s + 3)) i := by rw [hB]
    have yes : B i = true → (nI (fb_ct B i) - 1 + 1 = nI (fb_ct B (i + 1)) - 1) ∧ mfin d o s (p i) / 10 = mfin d o s (p (hdI B i)) / 10 := by
      intro h
      refine ⟨?_, ?_⟩
      · rw [fb_ct_succ, if_pos h, ← nI_1, Int32.sub_add_cancel, Int32.add_sub_cancel]
      · rw [hdI_y h]
    have no : ¬ B i = true → (nI (fb_ct B i) - 1 + 0 = nI (fb_ct B (i + 1)) - 1) ∧ x3 = mfin d o s (p (hdI B i)) / 10 := by
      intro h
      cases i with
      | zero => exact absurd (by rw [hBi]; unfold bgn; simp) h
      | succ i =>
        refine ⟨?_, ?_⟩
        · rw [fb_ct_succ B (i + 1), if_neg h, Int32.add_zero]
          rfl
        · rw [h3 i rfl]
          rw [hdI_n h]
    by_cases hz : i = 0
    · have h := yes (by rw [hBi]; unfold bgn; simp [hz])
      simp (disch := omega) only [↓x_let, ↓x_nam, ↓x_put, ↓x_bX, ↓x_ob, ↓x_ald, ↓x_aldL, ↓x_ast, ↓x_astL, ↓x_at0, ↓x_at_0, ↓x_mk0, ↓x_at, ↓x_atL, ↓x_at_, ↓x_at_L, ↓x_mk, ↓x_mkL, ↓x_aald, ↓x_w, ↓x_wi, ↓ok_s, ↓x_ifle_t, ↓x_ifle_f, ↓x_iflt_t, ↓x_iflt_f, ↓x_ifeq_t, ↓x_ifeq_f, ↓x_ifleL_t, ↓x_ifleL_f, ↓x_ifltL_t, ↓x_ifltL_f, ↓x_ifeqL_t, ↓x_ifeqL_f, ↓x_ifLle_t, ↓x_ifLle_f, ↓x_ifLlt_t, ↓x_ifLlt_f, ↓x_ifnm1, ↓x_ifb0, ↓x_ifb1, ↓x_if00, ↓x_if10, x_addL, x_Ladd, x_mulL, x_Lmul, nI_add, pk_mul, nI_pred, if_true, if_false, x_m1, n_a0, x_ue, x_un, e6, e5, ef]; try simp (disch := omega) only [↓x_let, ↓x_nam, ↓x_put, ↓x_bX, ↓x_ob, ↓x_ald, ↓x_aldL, ↓x_ast, ↓x_astL, ↓x_at0, ↓x_at_0, ↓x_mk0, ↓x_at, ↓x_atL, ↓x_at_, ↓x_at_L, ↓x_mk, ↓x_mkL, ↓x_aald, ↓x_w, ↓x_wi, ↓ok_s, ↓x_ifle_t, ↓x_ifle_f, ↓x_iflt_t, ↓x_iflt_f, ↓x_ifeq_t, ↓x_ifeq_f, ↓x_ifleL_t, ↓x_ifleL_f, ↓x_ifltL_t, ↓x_ifltL_f, ↓x_ifeqL_t, ↓x_ifeqL_f, ↓x_ifLle_t, ↓x_ifLle_f, ↓x_ifLlt_t, ↓x_ifLlt_f, ↓x_ifnm1, ↓x_ifb0, ↓x_ifb1, ↓x_if00, ↓x_if10, x_addL, x_Ladd, x_mulL, x_Lmul, nI_add, pk_mul, nI_pred, if_true, if_false, x_m1, n_a0, x_ue, x_un, e6, e5, ef]; try simp (disch := omega) only [↓x_let, ↓x_nam, ↓x_put, ↓x_bX, ↓x_ob, ↓x_ald, ↓x_aldL, ↓x_ast, ↓x_astL, ↓x_at0, ↓x_at_0, ↓x_mk0, ↓x_at, ↓x_atL, ↓x_at_, ↓x_at_L, ↓x_mk, ↓x_mkL, ↓x_aald, ↓x_w, ↓x_wi, ↓ok_s, ↓x_ifle_t, ↓x_ifle_f, ↓x_iflt_t, ↓x_iflt_f, ↓x_ifeq_t, ↓x_ifeq_f, ↓x_ifleL_t, ↓x_ifleL_f, ↓x_ifltL_t, ↓x_ifltL_f, ↓x_ifeqL_t, ↓x_ifeqL_f, ↓x_ifLle_t, ↓x_ifLle_f, ↓x_ifLlt_t, ↓x_ifLlt_f, ↓x_ifnm1, ↓x_ifb0, ↓x_ifb1, ↓x_if00, ↓x_if10, x_addL, x_Ladd, x_mulL, x_Lmul, nI_add, pk_mul, nI_pred, if_true, if_false, x_m1, n_a0, x_ue, x_un, e6, e5, ef]
      exact tail _ _ h.1 h.2
    · obtain ⟨i, rfl⟩ : ∃ k, i = k + 1 := ⟨i - 1, by omega⟩
      have hsp := q_X9_space (d := e) (o := o) (i := i) (p := p) hs (e5 _ hin) (e5 i (by omega)) (by omega) bi (hb i (by omega))
      have m1 : mfin e o s (p (i + 1)) = mfin d o s (p (i + 1)) := ef _ bi
      have m2 : mfin e o s (p i) = mfin d o s (p i) := ef _ (hb i (by omega))
      rw [m1, m2] at hsp
      unfold bgn at hBi
      by_cases hk3 : d (o + 1) (56 + 325 * s) = 3
      · have h := yes (by rw [hBi]; simp [hk3])
        simp (disch := omega) only [↓x_let, ↓x_nam, ↓x_put, ↓x_bX, ↓x_ob, ↓x_ald, ↓x_aldL, ↓x_ast, ↓x_astL, ↓x_at0, ↓x_at_0, ↓x_mk0, ↓x_at, ↓x_atL, ↓x_at_, ↓x_at_L, ↓x_mk, ↓x_mkL, ↓x_aald, ↓x_w, ↓x_wi, ↓ok_s, ↓x_ifle_t, ↓x_ifle_f, ↓x_iflt_t, ↓x_iflt_f, ↓x_ifeq_t, ↓x_ifeq_f, ↓x_ifleL_t, ↓x_ifleL_f, ↓x_ifltL_t, ↓x_ifltL_f, ↓x_ifeqL_t, ↓x_ifeqL_f, ↓x_ifLle_t, ↓x_ifLle_f, ↓x_ifLlt_t, ↓x_ifLlt_f, ↓x_ifnm1, ↓x_ifb0, ↓x_ifb1, ↓x_if00, ↓x_if10, x_addL, x_Ladd, x_mulL, x_Lmul, nI_add, pk_mul, nI_pred, if_true, if_false, x_m1, n_a0, x_ue, x_un, e6, e5, ef, ek, ↓if_pos hk3]; try simp (disch := omega) only [↓x_let, ↓x_nam, ↓x_put, ↓x_bX, ↓x_ob, ↓x_ald, ↓x_aldL, ↓x_ast, ↓x_astL, ↓x_at0, ↓x_at_0, ↓x_mk0, ↓x_at, ↓x_atL, ↓x_at_, ↓x_at_L, ↓x_mk, ↓x_mkL, ↓x_aald, ↓x_w, ↓x_wi, ↓ok_s, ↓x_ifle_t, ↓x_ifle_f, ↓x_iflt_t, ↓x_iflt_f, ↓x_ifeq_t, ↓x_ifeq_f, ↓x_ifleL_t, ↓x_ifleL_f, ↓x_ifltL_t, ↓x_ifltL_f, ↓x_ifeqL_t, ↓x_ifeqL_f, ↓x_ifLle_t, ↓x_ifLle_f, ↓x_ifLlt_t, ↓x_ifLlt_f, ↓x_ifnm1, ↓x_ifb0, ↓x_ifb1, ↓x_if00, ↓x_if10, x_addL, x_Ladd, x_mulL, x_Lmul, nI_add, pk_mul, nI_pred, if_true, if_false, x_m1, n_a0, x_ue, x_un, e6, e5, ef, ek, ↓if_pos hk3]; try simp (disch := omega) only [↓x_let, ↓x_nam, ↓x_put, ↓x_bX, ↓x_ob, ↓x_ald, ↓x_aldL, ↓x_ast, ↓x_astL, ↓x_at0, ↓x_at_0, ↓x_mk0, ↓x_at, ↓x_atL, ↓x_at_, ↓x_at_L, ↓x_mk, ↓x_mkL, ↓x_aald, ↓x_w, ↓x_wi, ↓ok_s, ↓x_ifle_t, ↓x_ifle_f, ↓x_iflt_t, ↓x_iflt_f, ↓x_ifeq_t, ↓x_ifeq_f, ↓x_ifleL_t, ↓x_ifleL_f, ↓x_ifltL_t, ↓x_ifltL_f, ↓x_ifeqL_t, ↓x_ifeqL_f, ↓x_ifLle_t, ↓x_ifLle_f, ↓x_ifLlt_t, ↓x_ifLlt_f, ↓x_ifnm1, ↓x_ifb0, ↓x_ifb1, ↓x_if00, ↓x_if10, x_addL, x_Ladd, x_mulL, x_Lmul, nI_add, pk_mul, nI_pred, if_true, if_false, x_m1, n_a0, x_ue, x_un, e6, e5, ef, ek, ↓if_pos hk3]
        exact tail _ _ h.1 h.2
      · by_cases hlt : mfin d o s (p (i + 1)) - mfin d o s (p i) < d (o + 1) (56 + 325 * s + 3)
        · have h := no (by rw [hBi]; simp [hk3, hlt])
          simp (disch := omega) only [↓x_let, ↓x_nam, ↓x_put, ↓x_bX, ↓x_ob, ↓x_ald, ↓x_aldL, ↓x_ast, ↓x_astL, ↓x_at0, ↓x_at_0, ↓x_mk0, ↓x_at, ↓x_atL, ↓x_at_, ↓x_at_L, ↓x_mk, ↓x_mkL, ↓x_aald, ↓x_w, ↓x_wi, ↓ok_s, ↓x_ifle_t, ↓x_ifle_f, ↓x_iflt_t, ↓x_iflt_f, ↓x_ifeq_t, ↓x_ifeq_f, ↓x_ifleL_t, ↓x_ifleL_f, ↓x_ifltL_t, ↓x_ifltL_f, ↓x_ifeqL_t, ↓x_ifeqL_f, ↓x_ifLle_t, ↓x_ifLle_f, ↓x_ifLlt_t, ↓x_ifLlt_f, ↓x_ifnm1, ↓x_ifb0, ↓x_ifb1, ↓x_if00, ↓x_if10, x_addL, x_Ladd, x_mulL, x_Lmul, nI_add, pk_mul, nI_pred, if_true, if_false, x_m1, n_a0, x_ue, x_un, e6, e5, ef, ek, eg, hsp, ↓if_neg hk3, ↓if_pos hlt]; try simp (disch := omega) only [↓x_let, ↓x_nam, ↓x_put, ↓x_bX, ↓x_ob, ↓x_ald, ↓x_aldL, ↓x_ast, ↓x_astL, ↓x_at0, ↓x_at_0, ↓x_mk0, ↓x_at, ↓x_atL, ↓x_at_, ↓x_at_L, ↓x_mk, ↓x_mkL, ↓x_aald, ↓x_w, ↓x_wi, ↓ok_s, ↓x_ifle_t, ↓x_ifle_f, ↓x_iflt_t, ↓x_iflt_f, ↓x_ifeq_t, ↓x_ifeq_f, ↓x_ifleL_t, ↓x_ifleL_f, ↓x_ifltL_t, ↓x_ifltL_f, ↓x_ifeqL_t, ↓x_ifeqL_f, ↓x_ifLle_t, ↓x_ifLle_f, ↓x_ifLlt_t, ↓x_ifLlt_f, ↓x_ifnm1, ↓x_ifb0, ↓x_ifb1, ↓x_if00, ↓x_if10, x_addL, x_Ladd, x_mulL, x_Lmul, nI_add, pk_mul, nI_pred, if_true, if_false, x_m1, n_a0, x_ue, x_un, e6, e5, ef, ek, eg, hsp, ↓if_neg hk3, ↓if_pos hlt]; try simp (disch := omega) only [↓x_let, ↓x_nam, ↓x_put, ↓x_bX, ↓x_ob, ↓x_ald, ↓x_aldL, ↓x_ast, ↓x_astL, ↓x_at0, ↓x_at_0, ↓x_mk0, ↓x_at, ↓x_atL, ↓x_at_, ↓x_at_L, ↓x_mk, ↓x_mkL, ↓x_aald, ↓x_w, ↓x_wi, ↓ok_s, ↓x_ifle_t, ↓x_ifle_f, ↓x_iflt_t, ↓x_iflt_f, ↓x_ifeq_t, ↓x_ifeq_f, ↓x_ifleL_t, ↓x_ifleL_f, ↓x_ifltL_t, ↓x_ifltL_f, ↓x_ifeqL_t, ↓x_ifeqL_f, ↓x_ifLle_t, ↓x_ifLle_f, ↓x_ifLlt_t, ↓x_ifLlt_f, ↓x_ifnm1, ↓x_ifb0, ↓x_ifb1, ↓x_if00, ↓x_if10, x_addL, x_Ladd, x_mulL, x_Lmul, nI_add, pk_mul, nI_pred, if_true, if_false, x_m1, n_a0, x_ue, x_un, e6, e5, ef, ek, eg, hsp, ↓if_neg hk3, ↓if_pos hlt]
          exact tail _ _ h.1 h.2
        · have h := yes (by rw [hBi]; simp [hlt])
          simp (disch := omega) only [↓x_let, ↓x_nam, ↓x_put, ↓x_bX, ↓x_ob, ↓x_ald, ↓x_aldL, ↓x_ast, ↓x_astL, ↓x_at0, ↓x_at_0, ↓x_mk0, ↓x_at, ↓x_atL, ↓x_at_, ↓x_at_L, ↓x_mk, ↓x_mkL, ↓x_aald, ↓x_w, ↓x_wi, ↓ok_s, ↓x_ifle_t, ↓x_ifle_f, ↓x_iflt_t, ↓x_iflt_f, ↓x_ifeq_t, ↓x_ifeq_f, ↓x_ifleL_t, ↓x_ifleL_f, ↓x_ifltL_t, ↓x_ifltL_f, ↓x_ifeqL_t, ↓x_ifeqL_f, ↓x_ifLle_t, ↓x_ifLle_f, ↓x_ifLlt_t, ↓x_ifLlt_f, ↓x_ifnm1, ↓x_ifb0, ↓x_ifb1, ↓x_if00, ↓x_if10, x_addL, x_Ladd, x_mulL, x_Lmul, nI_add, pk_mul, nI_pred, if_true, if_false, x_m1, n_a0, x_ue, x_un, e6, e5, ef, ek, eg, hsp, ↓if_neg hk3, ↓if_neg hlt]; try simp (disch := omega) only [↓x_let, ↓x_nam, ↓x_put, ↓x_bX, ↓x_ob, ↓x_ald, ↓x_aldL, ↓x_ast, ↓x_astL, ↓x_at0, ↓x_at_0, ↓x_mk0, ↓x_at, ↓x_atL, ↓x_at_, ↓x_at_L, ↓x_mk, ↓x_mkL, ↓x_aald, ↓x_w, ↓x_wi, ↓ok_s, ↓x_ifle_t, ↓x_ifle_f, ↓x_iflt_t, ↓x_iflt_f, ↓x_ifeq_t, ↓x_ifeq_f, ↓x_ifleL_t, ↓x_ifleL_f, ↓x_ifltL_t, ↓x_ifltL_f, ↓x_ifeqL_t, ↓x_ifeqL_f, ↓x_ifLle_t, ↓x_ifLle_f, ↓x_ifLlt_t, ↓x_ifLlt_f, ↓x_ifnm1, ↓x_ifb0, ↓x_ifb1, ↓x_if00, ↓x_if10, x_addL, x_Ladd, x_mulL, x_Lmul, nI_add, pk_mul, nI_pred, if_true, if_false, x_m1, n_a0, x_ue, x_un, e6, e5, ef, ek, eg, hsp, ↓if_neg hk3, ↓if_neg hlt]; try simp (disch := omega) only [↓x_let, ↓x_nam, ↓x_put, ↓x_bX, ↓x_ob, ↓x_ald, ↓x_aldL, ↓x_ast, ↓x_astL, ↓x_at0, ↓x_at_0, ↓x_mk0, ↓x_at, ↓x_atL, ↓x_at_, ↓x_at_L, ↓x_mk, ↓x_mkL, ↓x_aald, ↓x_w, ↓x_wi, ↓ok_s, ↓x_ifle_t, ↓x_ifle_f, ↓x_iflt_t, ↓x_iflt_f, ↓x_ifeq_t, ↓x_ifeq_f, ↓x_ifleL_t, ↓x_ifleL_f, ↓x_ifltL_t, ↓x_ifltL_f, ↓x_ifeqL_t, ↓x_ifeqL_f, ↓x_ifLle_t, ↓x_ifLle_f, ↓x_ifLlt_t, ↓x_ifLlt_f, ↓x_ifnm1, ↓x_ifb0, ↓x_ifb1, ↓x_if00, ↓x_if10, x_addL, x_Ladd, x_mulL, x_Lmul, nI_add, pk_mul, nI_pred, if_true, if_false, x_m1, n_a0, x_ue, x_un, e6, e5, ef, ek, eg, hsp, ↓if_neg hk3, ↓if_neg hlt]
          exact tail _ _ h.1 h.2
