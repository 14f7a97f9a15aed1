/-! 72.gap: together, escaped -/
def esF (sp : Nat → Int32) : Nat → Int32 × Int32
  | 0 => (-1, -1)
  | k + 1 => if sp (k + 1) ≤ (esF sp k).1 then esF sp k else (sp (k + 1), nI (k + 1))
theorem k_escaped {d : z_D} {c F : Nat} {sp : Nat → Int32} (hF0 : 0 < F) (hF : F ≤ 16) (h7 : d c 7 = nI F) (hs : ∀ i, 0 < i → i < F → f_X4_space d c (nI i) = some (sp i)) : f_X4_aheadOfWidest d c = some (esF sp (F - 1)).2 := by
  rw [← ok_e]
  unfold f_X4_aheadOfWidest
  refine zl3 (f_X4_aheadOfWidest_L6_b d c _) (fun _ => rfl) (fun m x1 x2 x3 => ∃ i, m + i + 1 = F ∧ x3 = nI (i + 1) ∧ x1 = (esF sp i).1 ∧ x2 = (esF sp i).2) ?_ (F - 1) z_N _ _ _ ⟨0, by omega, rfl, rfl, rfl⟩ (ltz (by omega))
  rintro R m x1 x2 x3 ⟨i, hm, rfl, rfl, rfl⟩ ih
  unfold f_X4_aheadOfWidest_L6_b
  by_cases hi : i + 1 = F
  · have e : F - 1 = i := by omega
    rw [e]
    simp (disch := omega) only [↓x_let, ↓x_nam, ↓x_put, ↓x_bX, ↓x_ob, ↓x_ald, ↓x_aldL, ↓x_ast, ↓x_astL, ↓x_at0, ↓x_at_0, ↓x_mk0, ↓x_at, ↓x_atL, ↓x_at_, ↓x_at_L, ↓x_mk, ↓x_mkL, ↓x_aald, ↓x_w, ↓x_wi, ↓ok_s, ↓x_ifle_t, ↓x_ifle_f, ↓x_iflt_t, ↓x_iflt_f, ↓x_ifeq_t, ↓x_ifeq_f, ↓x_ifleL_t, ↓x_ifleL_f, ↓x_ifltL_t, ↓x_ifltL_f, ↓x_ifeqL_t, ↓x_ifeqL_f, ↓x_ifLle_t, ↓x_ifLle_f, ↓x_ifLlt_t, ↓x_ifLlt_f, ↓x_ifnm1, ↓x_ifb0, ↓x_ifb1, ↓x_if00, ↓x_if10, x_addL, x_Ladd, x_mulL, x_Lmul, nI_add, pk_mul, nI_pred, if_true, if_false, x_m1, n_a0, x_ue, x_un, h7]; try simp (disch := omega) only [↓x_let, ↓x_nam, ↓x_put, ↓x_bX, ↓x_ob, ↓x_ald, ↓x_aldL, ↓x_ast, ↓x_astL, ↓x_at0, ↓x_at_0, ↓x_mk0, ↓x_at, ↓x_atL, ↓x_at_, ↓x_at_L, ↓x_mk, ↓x_mkL, ↓x_aald, ↓x_w, ↓x_wi, ↓ok_s, ↓x_ifle_t, ↓x_ifle_f, ↓x_iflt_t, ↓x_iflt_f, ↓x_ifeq_t, ↓x_ifeq_f, ↓x_ifleL_t, ↓x_ifleL_f, ↓x_ifltL_t, ↓x_ifltL_f, ↓x_ifeqL_t, ↓x_ifeqL_f, ↓x_ifLle_t, ↓x_ifLle_f, ↓x_ifLlt_t, ↓x_ifLlt_f, ↓x_ifnm1, ↓x_ifb0, ↓x_ifb1, ↓x_if00, ↓x_if10, x_addL, x_Ladd, x_mulL, x_Lmul, nI_add, pk_mul, nI_pred, if_true, if_false, x_m1, n_a0, x_ue, x_un, h7]; try simp (disch := omega) only [↓x_let, ↓x_nam, ↓x_put, ↓x_bX, ↓x_ob, ↓x_ald, ↓x_aldL, ↓x_ast, ↓x_astL, ↓x_at0, ↓x_at_0, ↓x_mk0, ↓x_at, ↓x_atL, ↓x_at_, ↓x_at_L, ↓x_mk, ↓x_mkL, ↓x_aald, ↓x_w, ↓x_wi, ↓ok_s, ↓x_ifle_t, ↓x_ifle_f, ↓x_iflt_t, ↓x_iflt_f, ↓x_ifeq_t, ↓x_ifeq_f, ↓x_ifleL_t, ↓x_ifleL_f, ↓x_ifltL_t, ↓x_ifltL_f, ↓x_ifeqL_t, ↓x_ifeqL_f, ↓x_ifLle_t, ↓x_ifLle_f, ↓x_ifLlt_t, ↓x_ifLlt_f, ↓x_ifnm1, ↓x_ifb0, ↓x_ifb1, ↓x_if00, ↓x_if10, x_addL, x_Ladd, x_mulL, x_Lmul, nI_add, pk_mul, nI_pred, if_true, if_false, x_m1, n_a0, x_ue, x_un, h7]; try simp (disch := omega) only [↓x_let, ↓x_nam, ↓x_put, ↓x_bX, ↓x_ob, ↓x_ald, ↓x_aldL, ↓x_ast, ↓x_astL, ↓x_at0, ↓x_at_0, ↓x_mk0, ↓x_at, ↓x_atL, ↓x_at_, ↓x_at_L, ↓x_mk, ↓x_mkL, ↓x_aald, ↓x_w, ↓x_wi, ↓ok_s, ↓x_ifle_t, ↓x_ifle_f, ↓x_iflt_t, ↓x_iflt_f, ↓x_ifeq_t, ↓x_ifeq_f, ↓x_ifleL_t, ↓x_ifleL_f, ↓x_ifltL_t, ↓x_ifltL_f, ↓x_ifeqL_t, ↓x_ifeqL_f, ↓x_ifLle_t, ↓x_ifLle_f, ↓x_ifLlt_t, ↓x_ifLlt_f, ↓x_ifnm1, ↓x_ifb0, ↓x_ifb1, ↓x_if00, ↓x_if10, x_addL, x_Ladd, x_mulL, x_Lmul, nI_add, pk_mul, nI_pred, if_true, if_false, x_m1, n_a0, x_ue, x_un, h7]
  have hsi := hs (i + 1) (by omega) (by omega)
  by_cases hle : sp (i + 1) ≤ (esF sp i).1
  · simp (disch := omega) only [↓x_let, ↓x_nam, ↓x_put, ↓x_bX, ↓x_ob, ↓x_ald, ↓x_aldL, ↓x_ast, ↓x_astL, ↓x_at0, ↓x_at_0, ↓x_mk0, ↓x_at, ↓x_atL, ↓x_at_, ↓x_at_L, ↓x_mk, ↓x_mkL, ↓x_aald, ↓x_w, ↓x_wi, ↓ok_s, ↓x_ifle_t, ↓x_ifle_f, ↓x_iflt_t, ↓x_iflt_f, ↓x_ifeq_t, ↓x_ifeq_f, ↓x_ifleL_t, ↓x_ifleL_f, ↓x_ifltL_t, ↓x_ifltL_f, ↓x_ifeqL_t, ↓x_ifeqL_f, ↓x_ifLle_t, ↓x_ifLle_f, ↓x_ifLlt_t, ↓x_ifLlt_f, ↓x_ifnm1, ↓x_ifb0, ↓x_ifb1, ↓x_if00, ↓x_if10, x_addL, x_Ladd, x_mulL, x_Lmul, nI_add, pk_mul, nI_pred, if_true, if_false, x_m1, n_a0, x_ue, x_un, h7, hsi, ↓if_pos hle]; try simp (disch := omega) only [↓x_let, ↓x_nam, ↓x_put, ↓x_bX, ↓x_ob, ↓x_ald, ↓x_aldL, ↓x_ast, ↓x_astL, ↓x_at0, ↓x_at_0, ↓x_mk0, ↓x_at, ↓x_atL, ↓x_at_, ↓x_at_L, ↓x_mk, ↓x_mkL, ↓x_aald, ↓x_w, ↓x_wi, ↓ok_s, ↓x_ifle_t, ↓x_ifle_f, ↓x_iflt_t, ↓x_iflt_f, ↓x_ifeq_t, ↓x_ifeq_f, ↓x_ifleL_t, ↓x_ifleL_f, ↓x_ifltL_t, ↓x_ifltL_f, ↓x_ifeqL_t, ↓x_ifeqL_f, ↓x_ifLle_t, ↓x_ifLle_f, ↓x_ifLlt_t, ↓x_ifLlt_f, ↓x_ifnm1, ↓x_ifb0, ↓x_ifb1, ↓x_if00, ↓x_if10, x_addL, x_Ladd, x_mulL, x_Lmul, nI_add, pk_mul, nI_pred, if_true, if_false, x_m1, n_a0, x_ue, x_un, h7, hsi, ↓if_pos hle]; try simp (disch := omega) only [↓x_let, ↓x_nam, ↓x_put, ↓x_bX, ↓x_ob, ↓x_ald, ↓x_aldL, ↓x_ast, ↓x_astL, ↓x_at0, ↓x_at_0, ↓x_mk0, ↓x_at, ↓x_atL, ↓x_at_, ↓x_at_L, ↓x_mk, ↓x_mkL, ↓x_aald, ↓x_w, ↓x_wi, ↓ok_s, ↓x_ifle_t, ↓x_ifle_f, ↓x_iflt_t, ↓x_iflt_f, ↓x_ifeq_t, ↓x_ifeq_f, ↓x_ifleL_t, ↓x_ifleL_f, ↓x_ifltL_t, ↓x_ifltL_f, ↓x_ifeqL_t, ↓x_ifeqL_f, ↓x_ifLle_t, ↓x_ifLle_f, ↓x_ifLlt_t, ↓x_ifLlt_f, ↓x_ifnm1, ↓x_ifb0, ↓x_ifb1, ↓x_if00, ↓x_if10, x_addL, x_Ladd, x_mulL, x_Lmul, nI_add, pk_mul, nI_pred, if_true, if_false, x_m1, n_a0, x_ue, x_un, h7, hsi, ↓if_pos hle]; try simp (disch := omega) only [↓x_let, ↓x_nam, ↓x_put, ↓x_bX, ↓x_ob, ↓x_ald, ↓x_aldL, ↓x_ast, ↓x_astL, ↓x_at0, ↓x_at_0, ↓x_mk0, ↓x_at, ↓x_atL, ↓x_at_, ↓x_at_L, ↓x_mk, ↓x_mkL, ↓x_aald, ↓x_w, ↓x_wi, ↓ok_s, ↓x_ifle_t, ↓x_ifle_f, ↓x_iflt_t, ↓x_iflt_f, ↓x_ifeq_t, ↓x_ifeq_f, ↓x_ifleL_t, ↓x_ifleL_f, ↓x_ifltL_t, ↓x_ifltL_f, ↓x_ifeqL_t, ↓x_ifeqL_f, ↓x_ifLle_t, ↓x_ifLle_f, ↓x_ifLlt_t, ↓x_ifLlt_f, ↓x_ifnm1, ↓x_ifb0, ↓x_ifb1, ↓x_if00, ↓x_if10, x_addL, x_Ladd, x_mulL, x_Lmul, nI_add, pk_mul, nI_pred, if_true, if_false, x_m1, n_a0, x_ue, x_un, h7, hsi, ↓if_pos hle]
    exact ih (m - 1) _ _ _ (by omega) ⟨i + 1, by omega, rfl, by rw [esF, if_pos hle], by rw [esF, if_pos hle]⟩
  · simp (disch := omega) only [↓x_let, ↓x_nam, ↓x_put, ↓x_bX, ↓x_ob, ↓x_ald, ↓x_aldL, ↓x_ast, ↓x_astL, ↓x_at0, ↓x_at_0, ↓x_mk0, ↓x_at, ↓x_atL, ↓x_at_, ↓x_at_L, ↓x_mk, ↓x_mkL, ↓x_aald, ↓x_w, ↓x_wi, ↓ok_s, ↓x_ifle_t, ↓x_ifle_f, ↓x_iflt_t, ↓x_iflt_f, ↓x_ifeq_t, ↓x_ifeq_f, ↓x_ifleL_t, ↓x_ifleL_f, ↓x_ifltL_t, ↓x_ifltL_f, ↓x_ifeqL_t, ↓x_ifeqL_f, ↓x_ifLle_t, ↓x_ifLle_f, ↓x_ifLlt_t, ↓x_ifLlt_f, ↓x_ifnm1, ↓x_ifb0, ↓x_ifb1, ↓x_if00, ↓x_if10, x_addL, x_Ladd, x_mulL, x_Lmul, nI_add, pk_mul, nI_pred, if_true, if_false, x_m1, n_a0, x_ue, x_un, h7, hsi, ↓if_neg hle]; try simp (disch := omega) only [↓x_let, ↓x_nam, ↓x_put, ↓x_bX, ↓x_ob, ↓x_ald, ↓x_aldL, ↓x_ast, ↓x_astL, ↓x_at0, ↓x_at_0, ↓x_mk0, ↓x_at, ↓x_atL, ↓x_at_, ↓x_at_L, ↓x_mk, ↓x_mkL, ↓x_aald, ↓x_w, ↓x_wi, ↓ok_s, ↓x_ifle_t, ↓x_ifle_f, ↓x_iflt_t, ↓x_iflt_f, ↓x_ifeq_t, ↓x_ifeq_f, ↓x_ifleL_t, ↓x_ifleL_f, ↓x_ifltL_t, ↓x_ifltL_f, ↓x_ifeqL_t, ↓x_ifeqL_f, ↓x_ifLle_t, ↓x_ifLle_f, ↓x_ifLlt_t, ↓x_ifLlt_f, ↓x_ifnm1, ↓x_ifb0, ↓x_ifb1, ↓x_if00, ↓x_if10, x_addL, x_Ladd, x_mulL, x_Lmul, nI_add, pk_mul, nI_pred, if_true, if_false, x_m1, n_a0, x_ue, x_un, h7, hsi, ↓if_neg hle]; try simp (disch := omega) only [↓x_let, ↓x_nam, ↓x_put, ↓x_bX, ↓x_ob, ↓x_ald, ↓x_aldL, ↓x_ast, ↓x_astL, ↓x_at0, ↓x_at_0, ↓x_mk0, ↓x_at, ↓x_atL, ↓x_at_, ↓x_at_L, ↓x_mk, ↓x_mkL, ↓x_aald, ↓x_w, ↓x_wi, ↓ok_s, ↓x_ifle_t, ↓x_ifle_f, ↓x_iflt_t, ↓x_iflt_f, ↓x_ifeq_t, ↓x_ifeq_f, ↓x_ifleL_t, ↓x_ifleL_f, ↓x_ifltL_t, ↓x_ifltL_f, ↓x_ifeqL_t, ↓x_ifeqL_f, ↓x_ifLle_t, ↓x_ifLle_f, ↓x_ifLlt_t, ↓x_ifLlt_f, ↓x_ifnm1, ↓x_ifb0, ↓x_ifb1, ↓x_if00, ↓x_if10, x_addL, x_Ladd, x_mulL, x_Lmul, nI_add, pk_mul, nI_pred, if_true, if_false, x_m1, n_a0, x_ue, x_un, h7, hsi, ↓if_neg hle]; try simp (disch := omega) only [↓x_let, ↓x_nam, ↓x_put, ↓x_bX, ↓x_ob, ↓x_ald, ↓x_aldL, ↓x_ast, ↓x_astL, ↓x_at0, ↓x_at_0, ↓x_mk0, ↓x_at, ↓x_atL, ↓x_at_, ↓x_at_L, ↓x_mk, ↓x_mkL, ↓x_aald, ↓x_w, ↓x_wi, ↓ok_s, ↓x_ifle_t, ↓x_ifle_f, ↓x_iflt_t, ↓x_iflt_f, ↓x_ifeq_t, ↓x_ifeq_f, ↓x_ifleL_t, ↓x_ifleL_f, ↓x_ifltL_t, ↓x_ifltL_f, ↓x_ifeqL_t, ↓x_ifeqL_f, ↓x_ifLle_t, ↓x_ifLle_f, ↓x_ifLlt_t, ↓x_ifLlt_f, ↓x_ifnm1, ↓x_ifb0, ↓x_ifb1, ↓x_if00, ↓x_if10, x_addL, x_Ladd, x_mulL, x_Lmul, nI_add, pk_mul, nI_pred, if_true, if_false, x_m1, n_a0, x_ue, x_un, h7, hsi, ↓if_neg hle]
    exact ih (m - 1) _ _ _ (by omega) ⟨i + 1, by omega, rfl, by rw [esF, if_neg hle], by rw [esF, if_neg hle]⟩
theorem m_escaped {d : z_D} {o s F : Nat} {sp : Nat → Int32} {K : Int32 → Option (Int32 × z_D)} {Q : Int32 × z_D → Prop} (hF0 : 0 < F) (hF : F ≤ 16) (h6 : d o 6 = nI F) (hs : ∀ i, 0 < i → i < F → f_X9_space d o (nI s) (nI i) = some (sp i)) (hK : ok (K (esF sp (F - 1)).2) Q) : ok (f_X9_escaped_L27 d o (nI s) K z_N (-1) (-1) 1) Q := by
  refine zl3 (f_X9_escaped_L27_b d o (nI s) K) (fun _ => rfl) (fun m x2 x3 x4 => ∃ i, m + i + 1 = F ∧ x4 = nI (i + 1) ∧ x3 = (esF sp i).1 ∧ x2 = (esF sp i).2) ?_ (F - 1) z_N _ _ _ ⟨0, by omega, rfl, rfl, rfl⟩ (ltz (by omega))
  rintro R m x2 x3 x4 ⟨i, hm, rfl, rfl, rfl⟩ ih
  unfold f_X9_escaped_L27_b
  by_cases hi : i + 1 = F
  · have e : F - 1 = i := by omega
    rw [e] at hK
    simp (disch := omega) only [↓x_let, ↓x_nam, ↓x_put, ↓x_bX, ↓x_ob, ↓x_ald, ↓x_aldL, ↓x_ast, ↓x_astL, ↓x_at0, ↓x_at_0, ↓x_mk0, ↓x_at, ↓x_atL, ↓x_at_, ↓x_at_L, ↓x_mk, ↓x_mkL, ↓x_aald, ↓x_w, ↓x_wi, ↓ok_s, ↓x_ifle_t, ↓x_ifle_f, ↓x_iflt_t, ↓x_iflt_f, ↓x_ifeq_t, ↓x_ifeq_f, ↓x_ifleL_t, ↓x_ifleL_f, ↓x_ifltL_t, ↓x_ifltL_f, ↓x_ifeqL_t, ↓x_ifeqL_f, ↓x_ifLle_t, ↓x_ifLle_f, ↓x_ifLlt_t, ↓x_ifLlt_f, ↓x_ifnm1, ↓x_ifb0, ↓x_ifb1, ↓x_if00, ↓x_if10, x_addL, x_Ladd, x_mulL, x_Lmul, nI_add, pk_mul, nI_pred, if_true, if_false, x_m1, n_a0, x_ue, x_un, h6]; try simp (disch := omega) only [↓x_let, ↓x_nam, ↓x_put, ↓x_bX, ↓x_ob, ↓x_ald, ↓x_aldL, ↓x_ast, ↓x_astL, ↓x_at0, ↓x_at_0, ↓x_mk0, ↓x_at, ↓x_atL, ↓x_at_, ↓x_at_L, ↓x_mk, ↓x_mkL, ↓x_aald, ↓x_w, ↓x_wi, ↓ok_s, ↓x_ifle_t, ↓x_ifle_f, ↓x_iflt_t, ↓x_iflt_f, ↓x_ifeq_t, ↓x_ifeq_f, ↓x_ifleL_t, ↓x_ifleL_f, ↓x_ifltL_t, ↓x_ifltL_f, ↓x_ifeqL_t, ↓x_ifeqL_f, ↓x_ifLle_t, ↓x_ifLle_f, ↓x_ifLlt_t, ↓x_ifLlt_f, ↓x_ifnm1, ↓x_ifb0, ↓x_ifb1, ↓x_if00, ↓x_if10, x_addL, x_Ladd, x_mulL, x_Lmul, nI_add, pk_mul, nI_pred, if_true, if_false, x_m1, n_a0, x_ue, x_un, h6]; try simp (disch := omega) only [↓x_let, ↓x_nam, ↓x_put, ↓x_bX, ↓x_ob, ↓x_ald, ↓x_aldL, ↓x_ast, ↓x_astL, ↓x_at0, ↓x_at_0, ↓x_mk0, ↓x_at, ↓x_atL, ↓x_at_, ↓x_at_L, ↓x_mk, ↓x_mkL, ↓x_aald, ↓x_w, ↓x_wi, ↓ok_s, ↓x_ifle_t, ↓x_ifle_f, ↓x_iflt_t, ↓x_iflt_f, ↓x_ifeq_t, ↓x_ifeq_f, ↓x_ifleL_t, ↓x_ifleL_f, ↓x_ifltL_t, ↓x_ifltL_f, ↓x_ifeqL_t, ↓x_ifeqL_f, ↓x_ifLle_t, ↓x_ifLle_f, ↓x_ifLlt_t, ↓x_ifLlt_f, ↓x_ifnm1, ↓x_ifb0, ↓x_ifb1, ↓x_if00, ↓x_if10, x_addL, x_Ladd, x_mulL, x_Lmul, nI_add, pk_mul, nI_pred, if_true, if_false, x_m1, n_a0, x_ue, x_un, h6]; try simp (disch := omega) only [↓x_let, ↓x_nam, ↓x_put, ↓x_bX, ↓x_ob, ↓x_ald, ↓x_aldL, ↓x_ast, ↓x_astL, ↓x_at0, ↓x_at_0, ↓x_mk0, ↓x_at, ↓x_atL, ↓x_at_, ↓x_at_L, ↓x_mk, ↓x_mkL, ↓x_aald, ↓x_w, ↓x_wi, ↓ok_s, ↓x_ifle_t, ↓x_ifle_f, ↓x_iflt_t, ↓x_iflt_f, ↓x_ifeq_t, ↓x_ifeq_f, ↓x_ifleL_t, ↓x_ifleL_f, ↓x_ifltL_t, ↓x_ifltL_f, ↓x_ifeqL_t, ↓x_ifeqL_f, ↓x_ifLle_t, ↓x_ifLle_f, ↓x_ifLlt_t, ↓x_ifLlt_f, ↓x_ifnm1, ↓x_ifb0, ↓x_ifb1, ↓x_if00, ↓x_if10, x_addL, x_Ladd, x_mulL, x_Lmul, nI_add, pk_mul, nI_pred, if_true, if_false, x_m1, n_a0, x_ue, x_un, h6]
    exact hK
  have hsi := hs (i + 1) (by omega) (by omega)
  by_cases hle : sp (i + 1) ≤ (esF sp i).1
  · have hlt : ¬ (esF sp i).1 < sp (i + 1) := Int32.not_lt.mpr hle
    simp (disch := omega) only [↓x_let, ↓x_nam, ↓x_put, ↓x_bX, ↓x_ob, ↓x_ald, ↓x_aldL, ↓x_ast, ↓x_astL, ↓x_at0, ↓x_at_0, ↓x_mk0, ↓x_at, ↓x_atL, ↓x_at_, ↓x_at_L, ↓x_mk, ↓x_mkL, ↓x_aald, ↓x_w, ↓x_wi, ↓ok_s, ↓x_ifle_t, ↓x_ifle_f, ↓x_iflt_t, ↓x_iflt_f, ↓x_ifeq_t, ↓x_ifeq_f, ↓x_ifleL_t, ↓x_ifleL_f, ↓x_ifltL_t, ↓x_ifltL_f, ↓x_ifeqL_t, ↓x_ifeqL_f, ↓x_ifLle_t, ↓x_ifLle_f, ↓x_ifLlt_t, ↓x_ifLlt_f, ↓x_ifnm1, ↓x_ifb0, ↓x_ifb1, ↓x_if00, ↓x_if10, x_addL, x_Ladd, x_mulL, x_Lmul, nI_add, pk_mul, nI_pred, if_true, if_false, x_m1, n_a0, x_ue, x_un, h6, hsi, ↓if_neg hlt]; try simp (disch := omega) only [↓x_let, ↓x_nam, ↓x_put, ↓x_bX, ↓x_ob, ↓x_ald, ↓x_aldL, ↓x_ast, ↓x_astL, ↓x_at0, ↓x_at_0, ↓x_mk0, ↓x_at, ↓x_atL, ↓x_at_, ↓x_at_L, ↓x_mk, ↓x_mkL, ↓x_aald, ↓x_w, ↓x_wi, ↓ok_s, ↓x_ifle_t, ↓x_ifle_f, ↓x_iflt_t, ↓x_iflt_f, ↓x_ifeq_t, ↓x_ifeq_f, ↓x_ifleL_t, ↓x_ifleL_f, ↓x_ifltL_t, ↓x_ifltL_f, ↓x_ifeqL_t, ↓x_ifeqL_f, ↓x_ifLle_t, ↓x_ifLle_f, ↓x_ifLlt_t, ↓x_ifLlt_f, ↓x_ifnm1, ↓x_ifb0, ↓x_ifb1, ↓x_if00, ↓x_if10, x_addL, x_Ladd, x_mulL, x_Lmul, nI_add, pk_mul, nI_pred, if_true, if_false, x_m1, n_a0, x_ue, x_un, h6, hsi, ↓if_neg hlt]; try simp (disch := omega) only [↓x_let, ↓x_nam, ↓x_put, ↓x_bX, ↓x_ob, ↓x_ald, ↓x_aldL, ↓x_ast, ↓x_astL, ↓x_at0, ↓x_at_0, ↓x_mk0, ↓x_at, ↓x_atL, ↓x_at_, ↓x_at_L, ↓x_mk, ↓x_mkL, ↓x_aald, ↓x_w, ↓x_wi, ↓ok_s, ↓x_ifle_t, ↓x_ifle_f, ↓x_iflt_t, ↓x_iflt_f, ↓x_ifeq_t, ↓x_ifeq_f, ↓x_ifleL_t, ↓x_ifleL_f, ↓x_ifltL_t, ↓x_ifltL_f, ↓x_ifeqL_t, ↓x_ifeqL_f, ↓x_ifLle_t, ↓x_ifLle_f, ↓x_ifLlt_t, ↓x_ifLlt_f, ↓x_ifnm1, ↓x_ifb0, ↓x_ifb1, ↓x_if00, ↓x_if10, x_addL, x_Ladd, x_mulL, x_Lmul, nI_add, pk_mul, nI_pred, if_true, if_false, x_m1, n_a0, x_ue, x_un, h6, hsi, ↓if_neg hlt]; try simp (disch := omega) only [↓x_let, ↓x_nam, ↓x_put, ↓x_bX, ↓x_ob, ↓x_ald, ↓x_aldL, ↓x_ast, ↓x_astL, ↓x_at0, ↓x_at_0, ↓x_mk0, ↓x_at, ↓x_atL, ↓x_at_, ↓x_at_L, ↓x_mk, ↓x_mkL, ↓x_aald, ↓x_w, ↓x_wi, ↓ok_s, ↓x_ifle_t, ↓x_ifle_f, ↓x_iflt_t, ↓x_iflt_f, ↓x_ifeq_t, ↓x_ifeq_f, ↓x_ifleL_t, ↓x_ifleL_f, ↓x_ifltL_t, ↓x_ifltL_f, ↓x_ifeqL_t, ↓x_ifeqL_f, ↓x_ifLle_t, ↓x_ifLle_f, ↓x_ifLlt_t, ↓x_ifLlt_f, ↓x_ifnm1, ↓x_ifb0, ↓x_ifb1, ↓x_if00, ↓x_if10, x_addL, x_Ladd, x_mulL, x_Lmul, nI_add, pk_mul, nI_pred, if_true, if_false, x_m1, n_a0, x_ue, x_un, h6, hsi, ↓if_neg hlt]
    exact ih (m - 1) _ _ _ (by omega) ⟨i + 1, by omega, rfl, by rw [esF, if_pos hle], by rw [esF, if_pos hle]⟩
  · have hlt : (esF sp i).1 < sp (i + 1) := Int32.not_le.mp hle
    simp (disch := omega) only [↓x_let, ↓x_nam, ↓x_put, ↓x_bX, ↓x_ob, ↓x_ald, ↓x_aldL, ↓x_ast, ↓x_astL, ↓x_at0, ↓x_at_0, ↓x_mk0, ↓x_at, ↓x_atL, ↓x_at_, ↓x_at_L, ↓x_mk, ↓x_mkL, ↓x_aald, ↓x_w, ↓x_wi, ↓ok_s, ↓x_ifle_t, ↓x_ifle_f, ↓x_iflt_t, ↓x_iflt_f, ↓x_ifeq_t, ↓x_ifeq_f, ↓x_ifleL_t, ↓x_ifleL_f, ↓x_ifltL_t, ↓x_ifltL_f, ↓x_ifeqL_t, ↓x_ifeqL_f, ↓x_ifLle_t, ↓x_ifLle_f, ↓x_ifLlt_t, ↓x_ifLlt_f, ↓x_ifnm1, ↓x_ifb0, ↓x_ifb1, ↓x_if00, ↓x_if10, x_addL, x_Ladd, x_mulL, x_Lmul, nI_add, pk_mul, nI_pred, if_true, if_false, x_m1, n_a0, x_ue, x_un, h6, hsi, ↓if_pos hlt]; try simp (disch := omega) only [↓x_let, ↓x_nam, ↓x_put, ↓x_bX, ↓x_ob, ↓x_ald, ↓x_aldL, ↓x_ast, ↓x_astL, ↓x_at0, ↓x_at_0, ↓x_mk0, ↓x_at, ↓x_atL, ↓x_at_, ↓x_at_L, ↓x_mk, ↓x_mkL, ↓x_aald, ↓x_w, ↓x_wi, ↓ok_s, ↓x_ifle_t, ↓x_ifle_f, ↓x_iflt_t, ↓x_iflt_f, ↓x_ifeq_t, ↓x_ifeq_f, ↓x_ifleL_t, ↓x_ifleL_f, ↓x_ifltL_t, ↓x_ifltL_f, ↓x_ifeqL_t, ↓x_ifeqL_f, ↓x_ifLle_t, ↓x_ifLle_f, ↓x_ifLlt_t, ↓x_ifLlt_f, ↓x_ifnm1, ↓x_ifb0, ↓x_ifb1, ↓x_if00, ↓x_if10, x_addL, x_Ladd, x_mulL, x_Lmul, nI_add, pk_mul, nI_pred, if_true, if_false, x_m1, n_a0, x_ue, x_un, h6, hsi, ↓if_pos hlt]; try simp (disch := omega) only [↓x_let, ↓x_nam, ↓x_put, ↓x_bX, ↓x_ob, ↓x_ald, ↓x_aldL, ↓x_ast, ↓x_astL, ↓x_at0, ↓x_at_0, ↓x_mk0, ↓x_at, ↓x_atL, ↓x_at_, ↓x_at_L, ↓x_mk, ↓x_mkL, ↓x_aald, ↓x_w, ↓x_wi, ↓ok_s, ↓x_ifle_t, ↓x_ifle_f, ↓x_iflt_t, ↓x_iflt_f, ↓x_ifeq_t, ↓x_ifeq_f, ↓x_ifleL_t, ↓x_ifleL_f, ↓x_ifltL_t, ↓x_ifltL_f, ↓x_ifeqL_t, ↓x_ifeqL_f, ↓x_ifLle_t, ↓x_ifLle_f, ↓x_ifLlt_t, ↓x_ifLlt_f, ↓x_ifnm1, ↓x_ifb0, ↓x_ifb1, ↓x_if00, ↓x_if10, x_addL, x_Ladd, x_mulL, x_Lmul, nI_add, pk_mul, nI_pred, if_true, if_false, x_m1, n_a0, x_ue, x_un, h6, hsi, ↓if_pos hlt]; try simp (disch := omega) only [↓x_let, ↓x_nam, ↓x_put, ↓x_bX, ↓x_ob, ↓x_ald, ↓x_aldL, ↓x_ast, ↓x_astL, ↓x_at0, ↓x_at_0, ↓x_mk0, ↓x_at, ↓x_atL, ↓x_at_, ↓x_at_L, ↓x_mk, ↓x_mkL, ↓x_aald, ↓x_w, ↓x_wi, ↓ok_s, ↓x_ifle_t, ↓x_ifle_f, ↓x_iflt_t, ↓x_iflt_f, ↓x_ifeq_t, ↓x_ifeq_f, ↓x_ifleL_t, ↓x_ifleL_f, ↓x_ifltL_t, ↓x_ifltL_f, ↓x_ifeqL_t, ↓x_ifeqL_f, ↓x_ifLle_t, ↓x_ifLle_f, ↓x_ifLlt_t, ↓x_ifLlt_f, ↓x_ifnm1, ↓x_ifb0, ↓x_ifb1, ↓x_if00, ↓x_if10, x_addL, x_Ladd, x_mulL, x_Lmul, nI_add, pk_mul, nI_pred, if_true, if_false, x_m1, n_a0, x_ue, x_un, h6, hsi, ↓if_pos hlt]
    exact ih (m - 1) _ _ _ (by omega) ⟨i + 1, by omega, rfl, by rw [esF, if_neg hle], by rw [esF, if_neg hle]⟩
/-- both see the same spaces -/
theorem spaces {d dm d' : z_D} {o b t n s j : Nat} (h : St d b (dm (o + 1)) t n s) (hj : j < s) (ho : ∀ i, i < ordK (rfin (dm (o + 1)) (56 + 325 * j)) 16 → d (b + 5 + 21 * j + 15) i = nI (ordO (rfin (dm (o + 1)) (56 + 325 * j)) 16 i)) (h1 : d' (o + 1) = dm (o + 1)) (h5 : ∀ i, i < ordK (rfin (dm (o + 1)) (56 + 325 * j)) 16 → d' (o + 5) i = nI (ordO (rfin (dm (o + 1)) (56 + 325 * j)) 16 i)) :
    ∀ i, 0 < i → i < ordK (rfin (dm (o + 1)) (56 + 325 * j)) 16 → f_X4_space d (b + 5 + 21 * j) (nI i) = some (rfin (dm (o + 1)) (56 + 325 * j) (ordO (rfin (dm (o + 1)) (56 + 325 * j)) 16 i) - rfin (dm (o + 1)) (56 + 325 * j) (ordO (rfin (dm (o + 1)) (56 + 325 * j)) 16 (i - 1))) ∧ f_X9_space d' o (nI j) (nI i) = some (rfin (dm (o + 1)) (56 + 325 * j) (ordO (rfin (dm (o + 1)) (56 + 325 * j)) 16 i) - rfin (dm (o + 1)) (56 + 325 * j) (ordO (rfin (dm (o + 1)) (56 + 325 * j)) 16 (i - 1))) := by
  intro i hi hiF
  have hs8 := h.1.2.2.1.2
  have hF := ordK_le (rfin (dm (o + 1)) (56 + 325 * j)) 16
  obtain ⟨i, rfl⟩ : ∃ k, i = k + 1 := ⟨i - 1, by omega⟩
  have b1 : ordO (rfin (dm (o + 1)) (56 + 325 * j)) 16 (i + 1) < 16 := ordO_lt _ 16 _ hiF
  have b2 : ordO (rfin (dm (o + 1)) (56 + 325 * j)) 16 i < 16 := ordO_lt _ 16 _ (by omega)
  have s5 := (h.2.2.2.1 j hj).2.2.2.2.1
  rw [show i + 1 - 1 = i by omega, q_X4_space (p := ordO (rfin (dm (o + 1)) (56 + 325 * j)) 16) (ho _ hiF) (ho i (by omega)) (by omega) b1 b2, q_X9_space (p := ordO (rfin (dm (o + 1)) (56 + 325 * j)) 16) (by omega) (h5 _ hiF) (h5 i (by omega)) (by omega) b1 b2, (s5 _ b1).2.2.2.2.1, (s5 _ b2).2.2.2.2.1]
  unfold mfin rfin
  rw [h1]
  refine ⟨rfl, ?_⟩
  rw [show ∀ r, 183 + 325 * j + 12 * r = 56 + 325 * j + 127 + 12 * r from fun r => by omega, show ∀ r, 183 + 325 * j + 12 * r = 56 + 325 * j + 127 + 12 * r from fun r => by omega]
theorem j_escaped {d dm : z_D} {o a t n s : Nat} (h : St d (a + 1) (dm (o + 1)) t n s) (x : Int32) : ok (f_X8_escaped d a x) (fun v => ok (f_X9_escaped dm o x) (fun w => v = w.1 ∧ Fq o dm w.2)) := by
  obtain ⟨cl, cl1, cl2, cl3, cl4⟩ := h.clos
  have hs8 := h.1.2.2.1.2
  have hcs := k_closedStage (x := x) cl2 (by omega)
  have hic := m_isClosed (d := z_up dm o 0 0) (o := o) (x := x) (by rw [u_a (by omega)]; exact cl3)
  unfold f_X8_escaped f_X9_escaped
  rw [hcs, x_ob, x_put, hic, x_ob, x_ifb0]
  by_cases hx : 0 ≤ x ∧ x ≤ nI cl - 1
  rotate_left
  · rw [if_neg hx, if_neg hx, x_nn, ok_s, ok_s]
    exact ⟨rfl, Fq.t⟩
  rw [if_pos hx, if_pos hx]
  obtain ⟨j, hj, rfl⟩ := (i_rng (by omega)).mp hx
  rw [nI_clamp (by omega), x_nl (by omega)]
  obtain ⟨sg, cc⟩ := cl4 j hj
  obtain ⟨d', q1, q2, q3, q4, q5⟩ := m_lays (d := z_up dm o 0 0) (cl := cl) h.tz (show j < s by omega)
  have e1 : (z_up dm o 0 0) (o + 1) = dm (o + 1) := u_a (by omega)
  rw [e1] at q4 q5
  have fq : Fq o dm d' := ⟨fun a h1 h2 _ _ => by rw [q2 a h1 h2, u_a h1], fun k h1 h2 _ => by rw [q3 k h2, u_k h1]⟩
  have hF := ordK_le (rfin (dm (o + 1)) (56 + 325 * j)) 16
  have hsp := spaces (d' := d') h (show j < s by omega) cc.2.1 (by rw [q2 _ (by omega) (by omega), e1]) q5
  rw [k_escaped cc.1.1 hF sg.2.2.2.2.2 (fun i i1 i2 => (hsp i i1 i2).1), x_ob, ok_s, q1, x_ob]
  refine m_escaped cc.1.1 hF q4 (fun i i1 i2 => (hsp i i1 i2).2) ?_
  show ok (some (_, d')) _
  rw [ok_s]
  exact ⟨rfl, fq⟩
/-! the least gap -/
def jgN (sp : Nat → Nat) : Nat → Nat
  | 0 => 1
  | k + 1 => if jgN sp k < sp (k + 1) + 1 then sp (k + 1) + 1 else jgN sp k
theorem jgN_1 (sp : Nat → Nat) : ∀ k, 1 ≤ jgN sp k
  | 0 => Nat.le_refl 1
  | k + 1 => by
    have := jgN_1 sp k
    unfold jgN
    split <;> omega
theorem jgN_lt (sp : Nat → Nat) : ∀ k i, 0 < i → i ≤ k → sp i < jgN sp k
  | 0, i, h, h2 => by omega
  | k + 1, i, h, h2 => by
    unfold jgN
    by_cases hi : i = k + 1
    · subst hi
      split <;> omega
    · have := jgN_lt sp k i h (by omega)
      split <;> omega
theorem jgN_at (sp : Nat → Nat) : ∀ k, jgN sp k = 1 ∨ ∃ i, 0 < i ∧ i ≤ k ∧ jgN sp k = sp i + 1
  | 0 => Or.inl rfl
  | k + 1 => by
    by_cases h : jgN sp k < sp (k + 1) + 1
    · exact Or.inr ⟨k + 1, by omega, by omega, by rw [jgN, if_pos h]⟩
    · rw [jgN, if_neg h]
      rcases jgN_at sp k with e | ⟨i, i1, i2, i3⟩
      · exact Or.inl e
      · exact Or.inr ⟨i, i1, by omega, i3⟩
theorem jgN_le {sp : Nat → Nat} {B : Nat} : ∀ k, (∀ i, 0 < i → i ≤ k → sp i ≤ B) → jgN sp k ≤ B + 1
  | 0, _ => by unfold jgN; omega
  | k + 1, h => by
    have h1 := jgN_le k (fun i a b => h i a (by omega))
    have h2 := h (k + 1) (by omega) (by omega)
    unfold jgN
    split <;> omega
theorem sub_lt {f g k : Nat} (hf : f ≤ 999999) (hg : g ≤ 999999) (hk1 : 1 ≤ k) (hk : k ≤ 1000001) : nI f - nI g < nI k ↔ f - g < k := by
  rw [fa_lt, pk_sub_toInt (by omega) (by omega), nI_toInt (by omega)]
  omega
theorem sub_max {f g m : Nat} (hf : f ≤ 999999) (hg : g ≤ 999999) (hm1 : 1 ≤ m) (hm : m ≤ 1000000) : (if nI m < (nI f - nI g) + 1 then (nI f - nI g) + 1 else nI m) = nI (if m < f - g + 1 then f - g + 1 else m) := by
  have e : ((nI f - nI g) + 1).toInt = (f : Int) - g + 1 := by
    rw [fb_addI, pk_sub_toInt (by omega) (by omega)]
    · rfl
    · rw [pk_sub_toInt (by omega) (by omega)]
      show -2147483648 ≤ (f : Int) - g + 1
      omega
    · rw [pk_sub_toInt (by omega) (by omega)]
      show (f : Int) - g + 1 < 2147483648
      omega
  by_cases h : m < f - g + 1
  · rw [if_pos h, if_pos (by rw [fa_lt, e, nI_toInt (by omega)]; omega)]
    rw [pk_sub (by omega), nI_1]
  · rw [if_neg h, if_neg (by rw [fa_lt, e, nI_toInt (by omega)]; omega)]
theorem k_joining {d : z_D} {c F kd : Nat} {fs gs : Nat → Nat} (hF0 : 0 < F) (hF : F ≤ 16) (h7 : d c 7 = nI F) (hk : d (c + 1) 0 = nI kd) (hk3 : kd ≤ 3) (hb : ∀ i, fs i ≤ 999999 ∧ gs i ≤ 999999) (hs : ∀ i, 0 < i → i < F → f_X4_space d c (nI i) = some (nI (fs i) - nI (gs i))) : f_X4_joiningGap d c = some (if kd = 3 ∧ 1 < F then -1 else if jgN (fun i => fs i - gs i) (F - 1) ≤ 99 then nI (jgN (fun i => fs i - gs i) (F - 1)) else -1) := by
  have main : f_X4_joiningGap_L25 d c (fun v3 => (if 99 < v3 then (some (-1)) else (some v3))) z_N 1 1 = some (if jgN (fun i => fs i - gs i) (F - 1) ≤ 99 then nI (jgN (fun i => fs i - gs i) (F - 1)) else -1) := by
    rw [← ok_e]
    refine zl2 (f_X4_joiningGap_L25_b d c _) (fun _ => rfl) (fun m x1 x2 => ∃ i, m + i + 1 = F ∧ x2 = nI (i + 1) ∧ x1 = nI (jgN (fun i => fs i - gs i) i)) ?_ (F - 1) z_N _ _ ⟨0, by omega, rfl, rfl⟩ (ltz (by omega))
    rintro R m x1 x2 ⟨i, hm, rfl, rfl⟩ ih
    unfold f_X4_joiningGap_L25_b
    have hle := jgN_le (sp := fun i => fs i - gs i) (B := 999999) i (fun k _ _ => by have := hb k; show fs k - gs k ≤ 999999; omega)
    have h1 := jgN_1 (fun i => fs i - gs i) i
    by_cases hi : i + 1 = F
    · have e : F - 1 = i := by omega
      rw [e]
      by_cases h99 : jgN (fun i => fs i - gs i) i ≤ 99
      · rw [if_pos h99]
        simp (disch := omega) only [↓x_let, ↓x_nam, ↓x_put, ↓x_bX, ↓x_ob, ↓x_ald, ↓x_aldL, ↓x_ast, ↓x_astL, ↓x_at0, ↓x_at_0, ↓x_mk0, ↓x_at, ↓x_atL, ↓x_at_, ↓x_at_L, ↓x_mk, ↓x_mkL, ↓x_aald, ↓x_w, ↓x_wi, ↓ok_s, ↓x_ifle_t, ↓x_ifle_f, ↓x_iflt_t, ↓x_iflt_f, ↓x_ifeq_t, ↓x_ifeq_f, ↓x_ifleL_t, ↓x_ifleL_f, ↓x_ifltL_t, ↓x_ifltL_f, ↓x_ifeqL_t, ↓x_ifeqL_f, ↓x_ifLle_t, ↓x_ifLle_f, ↓x_ifLlt_t, ↓x_ifLlt_f, ↓x_ifnm1, ↓x_ifb0, ↓x_ifb1, ↓x_if00, ↓x_if10, x_addL, x_Ladd, x_mulL, x_Lmul, nI_add, pk_mul, nI_pred, if_true, if_false, x_m1, n_a0, x_ue, x_un, h7]; try simp (disch := omega) only [↓x_let, ↓x_nam, ↓x_put, ↓x_bX, ↓x_ob, ↓x_ald, ↓x_aldL, ↓x_ast, ↓x_astL, ↓x_at0, ↓x_at_0, ↓x_mk0, ↓x_at, ↓x_atL, ↓x_at_, ↓x_at_L, ↓x_mk, ↓x_mkL, ↓x_aald, ↓x_w, ↓x_wi, ↓ok_s, ↓x_ifle_t, ↓x_ifle_f, ↓x_iflt_t, ↓x_iflt_f, ↓x_ifeq_t, ↓x_ifeq_f, ↓x_ifleL_t, ↓x_ifleL_f, ↓x_ifltL_t, ↓x_ifltL_f, ↓x_ifeqL_t, ↓x_ifeqL_f, ↓x_ifLle_t, ↓x_ifLle_f, ↓x_ifLlt_t, ↓x_ifLlt_f, ↓x_ifnm1, ↓x_ifb0, ↓x_ifb1, ↓x_if00, ↓x_if10, x_addL, x_Ladd, x_mulL, x_Lmul, nI_add, pk_mul, nI_pred, if_true, if_false, x_m1, n_a0, x_ue, x_un, h7]; try simp (disch := omega) only [↓x_let, ↓x_nam, ↓x_put, ↓x_bX, ↓x_ob, ↓x_ald, ↓x_aldL, ↓x_ast, ↓x_astL, ↓x_at0, ↓x_at_0, ↓x_mk0, ↓x_at, ↓x_atL, ↓x_at_, ↓x_at_L, ↓x_mk, ↓x_mkL, ↓x_aald, ↓x_w, ↓x_wi, ↓ok_s, ↓x_ifle_t, ↓x_ifle_f, ↓x_iflt_t, ↓x_iflt_f, ↓x_ifeq_t, ↓x_ifeq_f, ↓x_ifleL_t, ↓x_ifleL_f, ↓x_ifltL_t, ↓x_ifltL_f, ↓x_ifeqL_t, ↓x_ifeqL_f, ↓x_ifLle_t, ↓x_ifLle_f, ↓x_ifLlt_t, ↓x_ifLlt_f, ↓x_ifnm1, ↓x_ifb0, ↓x_ifb1, ↓x_if00, ↓x_if10, x_addL, x_Ladd, x_mulL, x_Lmul, nI_add, pk_mul, nI_pred, if_true, if_false, x_m1, n_a0, x_ue, x_un, h7]; try simp (disch := omega) only [↓x_let, ↓x_nam, ↓x_put, ↓x_bX, ↓x_ob, ↓x_ald, ↓x_aldL, ↓x_ast, ↓x_astL, ↓x_at0, ↓x_at_0, ↓x_mk0, ↓x_at, ↓x_atL, ↓x_at_, ↓x_at_L, ↓x_mk, ↓x_mkL, ↓x_aald, ↓x_w, ↓x_wi, ↓ok_s, ↓x_ifle_t, ↓x_ifle_f, ↓x_iflt_t, ↓x_iflt_f, ↓x_ifeq_t, ↓x_ifeq_f, ↓x_ifleL_t, ↓x_ifleL_f, ↓x_ifltL_t, ↓x_ifltL_f, ↓x_ifeqL_t, ↓x_ifeqL_f, ↓x_ifLle_t, ↓x_ifLle_f, ↓x_ifLlt_t, ↓x_ifLlt_f, ↓x_ifnm1, ↓x_ifb0, ↓x_ifb1, ↓x_if00, ↓x_if10, x_addL, x_Ladd, x_mulL, x_Lmul, nI_add, pk_mul, nI_pred, if_true, if_false, x_m1, n_a0, x_ue, x_un, h7]
      · rw [if_neg h99]
        simp (disch := omega) only [↓x_let, ↓x_nam, ↓x_put, ↓x_bX, ↓x_ob, ↓x_ald, ↓x_aldL, ↓x_ast, ↓x_astL, ↓x_at0, ↓x_at_0, ↓x_mk0, ↓x_at, ↓x_atL, ↓x_at_, ↓x_at_L, ↓x_mk, ↓x_mkL, ↓x_aald, ↓x_w, ↓x_wi, ↓ok_s, ↓x_ifle_t, ↓x_ifle_f, ↓x_iflt_t, ↓x_iflt_f, ↓x_ifeq_t, ↓x_ifeq_f, ↓x_ifleL_t, ↓x_ifleL_f, ↓x_ifltL_t, ↓x_ifltL_f, ↓x_ifeqL_t, ↓x_ifeqL_f, ↓x_ifLle_t, ↓x_ifLle_f, ↓x_ifLlt_t, ↓x_ifLlt_f, ↓x_ifnm1, ↓x_ifb0, ↓x_ifb1, ↓x_if00, ↓x_if10, x_addL, x_Ladd, x_mulL, x_Lmul, nI_add, pk_mul, nI_pred, if_true, if_false, x_m1, n_a0, x_ue, x_un, h7]; try simp (disch := omega) only [↓x_let, ↓x_nam, ↓x_put, ↓x_bX, ↓x_ob, ↓x_ald, ↓x_aldL, ↓x_ast, ↓x_astL, ↓x_at0, ↓x_at_0, ↓x_mk0, ↓x_at, ↓x_atL, ↓x_at_, ↓x_at_L, ↓x_mk, ↓x_mkL, ↓x_aald, ↓x_w, ↓x_wi, ↓ok_s, ↓x_ifle_t, ↓x_ifle_f, ↓x_iflt_t, ↓x_iflt_f, ↓x_ifeq_t, ↓x_ifeq_f, ↓x_ifleL_t, ↓x_ifleL_f, ↓x_ifltL_t, ↓x_ifltL_f, ↓x_ifeqL_t, ↓x_ifeqL_f, ↓x_ifLle_t, ↓x_ifLle_f, ↓x_ifLlt_t, ↓x_ifLlt_f, ↓x_ifnm1, ↓x_ifb0, ↓x_ifb1, ↓x_if00, ↓x_if10, x_addL, x_Ladd, x_mulL, x_Lmul, nI_add, pk_mul, nI_pred, if_true, if_false, x_m1, n_a0, x_ue, x_un, h7]; try simp (disch := omega) only [↓x_let, ↓x_nam, ↓x_put, ↓x_bX, ↓x_ob, ↓x_ald, ↓x_aldL, ↓x_ast, ↓x_astL, ↓x_at0, ↓x_at_0, ↓x_mk0, ↓x_at, ↓x_atL, ↓x_at_, ↓x_at_L, ↓x_mk, ↓x_mkL, ↓x_aald, ↓x_w, ↓x_wi, ↓ok_s, ↓x_ifle_t, ↓x_ifle_f, ↓x_iflt_t, ↓x_iflt_f, ↓x_ifeq_t, ↓x_ifeq_f, ↓x_ifleL_t, ↓x_ifleL_f, ↓x_ifltL_t, ↓x_ifltL_f, ↓x_ifeqL_t, ↓x_ifeqL_f, ↓x_ifLle_t, ↓x_ifLle_f, ↓x_ifLlt_t, ↓x_ifLlt_f, ↓x_ifnm1, ↓x_ifb0, ↓x_ifb1, ↓x_if00, ↓x_if10, x_addL, x_Ladd, x_mulL, x_Lmul, nI_add, pk_mul, nI_pred, if_true, if_false, x_m1, n_a0, x_ue, x_un, h7]; try simp (disch := omega) only [↓x_let, ↓x_nam, ↓x_put, ↓x_bX, ↓x_ob, ↓x_ald, ↓x_aldL, ↓x_ast, ↓x_astL, ↓x_at0, ↓x_at_0, ↓x_mk0, ↓x_at, ↓x_atL, ↓x_at_, ↓x_at_L, ↓x_mk, ↓x_mkL, ↓x_aald, ↓x_w, ↓x_wi, ↓ok_s, ↓x_ifle_t, ↓x_ifle_f, ↓x_iflt_t, ↓x_iflt_f, ↓x_ifeq_t, ↓x_ifeq_f, ↓x_ifleL_t, ↓x_ifleL_f, ↓x_ifltL_t, ↓x_ifltL_f, ↓x_ifeqL_t, ↓x_ifeqL_f, ↓x_ifLle_t, ↓x_ifLle_f, ↓x_ifLlt_t, ↓x_ifLlt_f, ↓x_ifnm1, ↓x_ifb0, ↓x_ifb1, ↓x_if00, ↓x_if10, x_addL, x_Ladd, x_mulL, x_Lmul, nI_add, pk_mul, nI_pred, if_true, if_false, x_m1, n_a0, x_ue, x_un, h7]
    have hsi := hs (i + 1) (by omega) (by omega)
    have hbi := hb (i + 1)
    have hmx := sub_max (f := fs (i + 1)) (g := gs (i + 1)) (m := jgN (fun i => fs i - gs i) i) hbi.1 hbi.2 h1 (by omega)
    rw [h7, if_neg (show ¬ nI F ≤ nI (i + 1) from nI_ge (by omega) (by omega)), hsi, x_ob, x_nam, hmx, x_addL]
    exact ih (m - 1) _ _ (by omega) ⟨i + 1, by omega, rfl, rfl⟩
  unfold f_X4_joiningGap
  rw [x_let, hk, h7]
  by_cases h3 : kd = 3
  · rw [if_pos (show nI kd = 3 by rw [h3]; rfl)]
    by_cases h1 : 1 < F
    · rw [if_neg (show ¬ nI F ≤ 1 from fun h => by have := (nI_leI (b := 1) (by omega) (by omega)).mp h; omega), if_pos ⟨h3, h1⟩]
    · rw [if_pos (show nI F ≤ 1 from (nI_leI (b := 1) (by omega) (by omega)).mpr (by omega)), if_neg (fun h => h1 h.2)]
      exact main
  · rw [if_neg (show ¬ nI kd = 3 from fun h => h3 ((nI_eq (b := 3) (by omega) (by omega)).mp h)), if_neg (fun h => h3 h.1)]
    exact main
theorem ct_one {b : Nat → Bool} (h0 : b 0 = true) : ∀ F, 0 < F → (fb_ct b F = 1 ↔ ∀ i, 0 < i → i < F → b i = false)
  | 0, h => absurd h (Nat.lt_irrefl 0)
  | 1, _ => by
    rw [fb_ct_succ, if_pos h0]
    exact ⟨fun _ i a b => by omega, fun _ => rfl⟩
  | F + 2, _ => by
    have ih := ct_one h0 (F + 1) (by omega)
    have hp : 0 < fb_ct b (F + 1) := fb_ct_pos.mpr ⟨0, by omega, h0⟩
    rw [fb_ct_succ]
    by_cases hb : b (F + 1) = true
    · rw [if_pos hb]
      constructor
      · intro h; omega
      · intro h
        have := h (F + 1) (by omega) (by omega)
        rw [hb] at this
        exact absurd this (by decide)
    · rw [if_neg hb, n_a0, ih]
      constructor
      · intro h i i1 i2
        by_cases hi : i = F + 1
        · subst hi
          exact Bool.not_eq_true _ ▸ hb
        · exact h i i1 (by omega)
      · intro h i i1 i2
        exact h i i1 (by omega)
theorem bun_one {F kd g : Nat} {fin : Nat → Int32} {p : Nat → Nat} {fs gs : Nat → Nat} (hF0 : 0 < F) (hk3 : kd ≤ 3) (hg1 : 1 ≤ g) (hg : g ≤ 99) (hb : ∀ i, fs i ≤ 999999 ∧ gs i ≤ 999999) (hs : ∀ i, 0 < i → i < F → fin (p i) - fin (p (i - 1)) = nI (fs i) - nI (gs i)) : fb_ct (bgn (nI kd) fin p (nI g)) F = 1 ↔ ¬ (kd = 3 ∧ 1 < F) ∧ jgN (fun i => fs i - gs i) (F - 1) ≤ g := by
  rw [ct_one (by unfold bgn; simp) F hF0]
  have hbg : ∀ i, 0 < i → i < F → (bgn (nI kd) fin p (nI g) i = false ↔ ¬ kd = 3 ∧ fs i - gs i < g) := fun i i1 i2 => by
    unfold bgn
    rw [decide_eq_false_iff_not, hs i i1 i2, sub_lt (hb i).1 (hb i).2 hg1 (by omega)]
    have h3 : nI kd = 3 ↔ kd = 3 := ⟨fun h => (nI_eq (b := 3) (by omega) (by omega)).mp h, fun h => by rw [h]; rfl⟩
    rw [h3]
    constructor
    · intro h
      refine ⟨fun h9 => h (Or.inr (Or.inl h9)), ?_⟩
      rcases Nat.lt_or_ge (fs i - gs i) g with h8 | h8
      · exact h8
      · exact absurd (Or.inr (Or.inr (by omega))) h
    · rintro ⟨h1, h2⟩ h9
      rcases h9 with h9 | h9 | h9
      · omega
      · exact h1 h9
      · exact h9 h2
  constructor
  · intro h
    refine ⟨fun h9 => ((hbg 1 (by omega) h9.2).mp (h 1 (by omega) h9.2)).1 h9.1, ?_⟩
    rcases jgN_at (fun i => fs i - gs i) (F - 1) with e | ⟨i, i1, i2, i3⟩
    · omega
    · have := ((hbg i i1 (by omega)).mp (h i i1 (by omega))).2
      rw [i3]
      show fs i - gs i + 1 ≤ g
      omega
  · rintro ⟨h1, h2⟩ i i1 i2
    have := jgN_lt (fun i => fs i - gs i) (F - 1) i i1 (by omega)
    refine (hbg i i1 i2).mpr ⟨fun h9 => h1 ⟨h9, by omega⟩, ?_⟩
    have h3 : fs i - gs i < jgN (fun i => fs i - gs i) (F - 1) := this
    omega
theorem j_together {d dm : z_D} {o a t n s : Nat} (h : St d (a + 1) (dm (o + 1)) t n s) (x : Int32) : ok (f_X8_together d a x) (fun v => ok (f_X9_together dm o x) (fun w => v = w.1 ∧ Fq o dm w.2)) := by
  obtain ⟨cl, cl1, cl2, cl3, cl4⟩ := h.clos
  have hs8 := h.1.2.2.1.2
  have hcs := k_closedStage (x := x) cl2 (by omega)
  have hic := m_isClosed (d := z_up dm o 0 0) (o := o) (x := x) (by rw [u_a (by omega)]; exact cl3)
  unfold f_X8_together f_X9_together
  rw [hcs, x_ob, x_put, hic, x_ob, x_ifb0]
  by_cases hx : 0 ≤ x ∧ x ≤ nI cl - 1
  rotate_left
  · rw [if_neg hx, if_neg hx, x_nn, ok_s, ok_s]
    exact ⟨rfl, Fq.t⟩
  rw [if_pos hx, if_pos hx]
  obtain ⟨j, hj, rfl⟩ := (i_rng (by omega)).mp hx
  rw [nI_clamp (by omega), x_nl (by omega)]
  obtain ⟨sg, cc⟩ := cl4 j hj
  obtain ⟨d', q1, q2, q3, q4, q5⟩ := m_lays (d := z_up dm o 0 0) (cl := cl) h.tz (show j < s by omega)
  have e1 : (z_up dm o 0 0) (o + 1) = dm (o + 1) := u_a (by omega)
  rw [e1] at q4 q5
  have fq : Fq o dm d' := ⟨fun a h1 h2 _ _ => by rw [q2 a h1 h2, u_a h1], fun k h1 h2 _ => by rw [q3 k h2, u_k h1]⟩
  have d1 : d' (o + 1) = dm (o + 1) := by rw [q2 _ (by omega) (by omega), e1]
  have hF := ordK_le (rfin (dm (o + 1)) (56 + 325 * j)) 16
  have hsp := spaces (d' := d') h (show j < s by omega) cc.2.1 d1 q5
  have hF0 := cc.1.1
  have h7 := sg.2.2.2.2.2
  have hlt : ∀ i, i < ordK (rfin (dm (o + 1)) (56 + 325 * j)) 16 → ordO (rfin (dm (o + 1)) (56 + 325 * j)) 16 i < 16 := fun i hi => ordO_lt _ 16 i hi
  generalize hFF : ordK (rfin (dm (o + 1)) (56 + 325 * j)) 16 = F at *
  generalize hpp : ordO (rfin (dm (o + 1)) (56 + 325 * j)) 16 = p at *
  obtain ⟨⟨kd, k1, k2⟩, -⟩ := id sg
  have hfn : ∀ r, r < 16 → rfin (dm (o + 1)) (56 + 325 * j) r = nI (rfin (dm (o + 1)) (56 + 325 * j) r).toNatClampNeg ∧ (rfin (dm (o + 1)) (56 + 325 * j) r).toNatClampNeg ≤ 999999 := fun r hr => by
    obtain ⟨f, f1, f2, -⟩ := (sg.2.2.2.2.1 r hr).1
    have e : rfin (dm (o + 1)) (56 + 325 * j) r = nI f := f2
    rw [e, nI_clamp (by omega)]
    exact ⟨rfl, f1⟩
  obtain ⟨fs, gs, hfg, hfs⟩ : ∃ fs gs : Nat → Nat, (∀ i, fs i ≤ 999999 ∧ gs i ≤ 999999) ∧ ∀ i, 0 < i → i < F → rfin (dm (o + 1)) (56 + 325 * j) (p i) - rfin (dm (o + 1)) (56 + 325 * j) (p (i - 1)) = nI (fs i) - nI (gs i) := by
    refine ⟨fun i => if i < F then (rfin (dm (o + 1)) (56 + 325 * j) (p i)).toNatClampNeg else 0, fun i => if i < F then (rfin (dm (o + 1)) (56 + 325 * j) (p (i - 1))).toNatClampNeg else 0, fun i => ?_, fun i i1 i2 => ?_⟩
    · show (if i < F then _ else _) ≤ 999999 ∧ (if i < F then _ else _) ≤ 999999
      by_cases hi : i < F
      · rw [if_pos hi, if_pos hi]
        exact ⟨(hfn _ (hlt i hi)).2, (hfn _ (hlt (i - 1) (by omega))).2⟩
      · rw [if_neg hi, if_neg hi]
        exact ⟨by omega, by omega⟩
    · show _ = nI (if i < F then _ else _) - nI (if i < F then _ else _)
      rw [if_pos i2, if_pos i2, ← (hfn _ (hlt i i2)).1, ← (hfn _ (hlt (i - 1) (by omega))).1]
  rw [k_joining (kd := kd) (fs := fs) (gs := gs) hF0 hF h7 (by rw [sg.2.2.1.1, k2]) k1 hfg (fun i i1 i2 => by rw [(hsp i i1 i2).1, hfs i i1 i2]), x_ob, ok_s, q1, x_ob]
  have hbun : ∀ g, f_X9_bunches d' o (nI j) (nI g) = some (nI (fb_ct (bgn (nI kd) (rfin (dm (o + 1)) (56 + 325 * j)) p (nI g)) F)) := fun g => by
    rw [q_bunches (p := p) (by omega) hF q4 q5 hlt]
    refine congrArg some (congrArg nI (fb_ct_cong (fun i hi => bgn_cong (by rw [d1, k2]) rfl (fun i hi => ?_) i hi)))
    unfold mfin rfin
    rw [d1, show 183 + 325 * j + 12 * p i = 56 + 325 * j + 127 + 12 * p i by omega]
  have one := fun g g1 g2 => bun_one (F := F) (kd := kd) (g := g) (fin := rfin (dm (o + 1)) (56 + 325 * j)) (p := p) (fs := fs) (gs := gs) hF0 k1 g1 g2 hfg hfs
  refine zl1 (f_X9_together_L22_b d' o (nI j) _) (fun _ => rfl) (fun m x2 => ∃ g, 1 ≤ g ∧ m + g = 100 ∧ x2 = nI g ∧ ∀ g', 1 ≤ g' → g' < g → ¬ (¬ (kd = 3 ∧ 1 < F) ∧ jgN (fun i => fs i - gs i) (F - 1) ≤ g')) ?_ 99 z_N _ ⟨1, by omega, by omega, rfl, fun g' a b => by omega⟩ (ltz (by omega))
  rintro R m x2 ⟨g, g1, hm, rfl, hno⟩ ih
  unfold f_X9_together_L22_b
  have hj1 := jgN_1 (fun i => fs i - gs i) (F - 1)
  by_cases hg : g = 100
  · subst hg
    rw [if_pos (show (100 : Int32) ≤ nI 100 by decide)]
    show ok (some (-1, d')) _
    rw [ok_s]
    refine ⟨?_, fq⟩
    by_cases h3 : kd = 3 ∧ 1 < F
    · rw [if_pos h3]
    · rw [if_neg h3]
      by_cases h99 : jgN (fun i => fs i - gs i) (F - 1) ≤ 99
      · exact absurd ⟨h3, h99⟩ (hno 99 (by omega) (by omega))
      · rw [if_neg h99]
  have hct := fb_ct_le (bgn (nI kd) (rfin (dm (o + 1)) (56 + 325 * j)) p (nI g)) F
  rw [if_neg (show ¬ (100 : Int32) ≤ nI g from fun h => by have := (nI_leI (a := 100) (by omega) (by omega)).mp h; omega), hbun, x_ob]
  by_cases h1 : fb_ct (bgn (nI kd) (rfin (dm (o + 1)) (56 + 325 * j)) p (nI g)) F = 1
  · rw [if_pos (show nI (fb_ct (bgn (nI kd) (rfin (dm (o + 1)) (56 + 325 * j)) p (nI g)) F) = 1 by rw [h1]; rfl), ok_s]
    obtain ⟨u1, u2⟩ := (one g g1 (by omega)).mp h1
    refine ⟨?_, fq⟩
    rw [if_neg u1, if_pos (by omega)]
    refine congrArg nI ?_
    rcases Nat.lt_or_ge (jgN (fun i => fs i - gs i) (F - 1)) g with h9 | h9
    · exact absurd ⟨u1, Nat.le_refl _⟩ (hno _ hj1 h9)
    · omega
  · rw [if_neg (show ¬ nI (fb_ct (bgn (nI kd) (rfin (dm (o + 1)) (56 + 325 * j)) p (nI g)) F) = 1 from fun h => h1 ((nI_eq (b := 1) (by omega) (by omega)).mp h)), x_addL]
    refine ih (m - 1) _ (by omega) ⟨g + 1, by omega, by omega, rfl, fun g' a1 a2 => ?_⟩
    by_cases hgg : g' = g
    · subst hgg
      exact fun h9 => h1 ((one g' g1 (by omega)).mpr h9)
    · exact hno g' a1 (by omega)
