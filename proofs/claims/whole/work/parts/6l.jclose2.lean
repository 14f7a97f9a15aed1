/-! 6l.jclose2: class and model close alike -/
theorem first_at {p : Nat → Nat} {F j : Nat} (hF : F ≤ 16) (hj : j < F) (hi : ∀ i j, i < F → j < F → p i = p j → i = j) : fa_first (fun k => decide (p k = p j)) 16 = j := by
  have hle : fa_first (fun k => decide (p k = p j)) 16 ≤ j := by
    rcases Nat.lt_or_ge j (fa_first (fun k => decide (p k = p j)) 16) with h | h
    · have := fa_first_no (fun k => decide (p k = p j)) 16 j h
      simp at this
    · exact h
  have hy := fa_first_yes (fun k => decide (p k = p j)) 16 (by omega)
  exact hi _ _ (by omega) hj (of_decide_eq_true hy)
set_option maxHeartbeats 4000000 in
theorem j_close {d dm : z_D} {o b t n s : Nat} (h : St d b (dm (o + 1)) t n s) : ok (f_X3_closeStage d b) (fun v => ok (f_X9_closes dm o) (fun w => v.1 = w.1 ∧ Fr b d v.2 ∧ Fm o dm w.2 ∧ St v.2 b (w.2 (o + 1)) t n s)) := by
  by_cases h3 : dm (o + 1) 3 = 1
  rotate_left
  · have e3 : d b 3 = dm (o + 1) 3 := h.2.1.2.2.2.1
    have hla : f_X9_latest dm o = some (dm (o + 1) 2 - 1) := q_latest
    unfold f_X3_closeStage f_X9_closes
    simp (disch := omega) only [↓x_let, ↓x_nam, ↓x_put, ↓x_bX, ↓x_ob, ↓x_ald, ↓x_aldL, ↓x_ast, ↓x_astL, ↓x_at0, ↓x_at_0, ↓x_mk0, ↓x_at, ↓x_atL, ↓x_at_, ↓x_at_L, ↓x_mk, ↓x_mkL, ↓x_aald, ↓x_w, ↓x_wi, ↓ok_s, ↓x_ifle_t, ↓x_ifle_f, ↓x_iflt_t, ↓x_iflt_f, ↓x_ifeq_t, ↓x_ifeq_f, ↓x_ifleL_t, ↓x_ifleL_f, ↓x_ifltL_t, ↓x_ifltL_f, ↓x_ifeqL_t, ↓x_ifeqL_f, ↓x_ifLle_t, ↓x_ifLle_f, ↓x_ifLlt_t, ↓x_ifLlt_f, ↓x_ifnm1, ↓x_ifb0, ↓x_ifb1, ↓x_if00, ↓x_if10, x_addL, x_Ladd, x_mulL, x_Lmul, nI_add, pk_mul, nI_pred, if_true, if_false, x_m1, n_a0, x_ue, x_un, e3, h.clo h3, m_isOpen, hla]; try simp (disch := omega) only [↓x_let, ↓x_nam, ↓x_put, ↓x_bX, ↓x_ob, ↓x_ald, ↓x_aldL, ↓x_ast, ↓x_astL, ↓x_at0, ↓x_at_0, ↓x_mk0, ↓x_at, ↓x_atL, ↓x_at_, ↓x_at_L, ↓x_mk, ↓x_mkL, ↓x_aald, ↓x_w, ↓x_wi, ↓ok_s, ↓x_ifle_t, ↓x_ifle_f, ↓x_iflt_t, ↓x_iflt_f, ↓x_ifeq_t, ↓x_ifeq_f, ↓x_ifleL_t, ↓x_ifleL_f, ↓x_ifltL_t, ↓x_ifltL_f, ↓x_ifeqL_t, ↓x_ifeqL_f, ↓x_ifLle_t, ↓x_ifLle_f, ↓x_ifLlt_t, ↓x_ifLlt_f, ↓x_ifnm1, ↓x_ifb0, ↓x_ifb1, ↓x_if00, ↓x_if10, x_addL, x_Ladd, x_mulL, x_Lmul, nI_add, pk_mul, nI_pred, if_true, if_false, x_m1, n_a0, x_ue, x_un, e3, h.clo h3, m_isOpen, hla]; try simp (disch := omega) only [↓x_let, ↓x_nam, ↓x_put, ↓x_bX, ↓x_ob, ↓x_ald, ↓x_aldL, ↓x_ast, ↓x_astL, ↓x_at0, ↓x_at_0, ↓x_mk0, ↓x_at, ↓x_atL, ↓x_at_, ↓x_at_L, ↓x_mk, ↓x_mkL, ↓x_aald, ↓x_w, ↓x_wi, ↓ok_s, ↓x_ifle_t, ↓x_ifle_f, ↓x_iflt_t, ↓x_iflt_f, ↓x_ifeq_t, ↓x_ifeq_f, ↓x_ifleL_t, ↓x_ifleL_f, ↓x_ifltL_t, ↓x_ifltL_f, ↓x_ifeqL_t, ↓x_ifeqL_f, ↓x_ifLle_t, ↓x_ifLle_f, ↓x_ifLlt_t, ↓x_ifLlt_f, ↓x_ifnm1, ↓x_ifb0, ↓x_ifb1, ↓x_if00, ↓x_if10, x_addL, x_Ladd, x_mulL, x_Lmul, nI_add, pk_mul, nI_pred, if_true, if_false, x_m1, n_a0, x_ue, x_un, e3, h.clo h3, m_isOpen, hla]; try simp (disch := omega) only [↓x_let, ↓x_nam, ↓x_put, ↓x_bX, ↓x_ob, ↓x_ald, ↓x_aldL, ↓x_ast, ↓x_astL, ↓x_at0, ↓x_at_0, ↓x_mk0, ↓x_at, ↓x_atL, ↓x_at_, ↓x_at_L, ↓x_mk, ↓x_mkL, ↓x_aald, ↓x_w, ↓x_wi, ↓ok_s, ↓x_ifle_t, ↓x_ifle_f, ↓x_iflt_t, ↓x_iflt_f, ↓x_ifeq_t, ↓x_ifeq_f, ↓x_ifleL_t, ↓x_ifleL_f, ↓x_ifltL_t, ↓x_ifltL_f, ↓x_ifeqL_t, ↓x_ifeqL_f, ↓x_ifLle_t, ↓x_ifLle_f, ↓x_ifLlt_t, ↓x_ifLlt_f, ↓x_ifnm1, ↓x_ifb0, ↓x_ifb1, ↓x_if00, ↓x_if10, x_addL, x_Ladd, x_mulL, x_Lmul, nI_add, pk_mul, nI_pred, if_true, if_false, x_m1, n_a0, x_ue, x_un, e3, h.clo h3, m_isOpen, hla]
    rw [if_neg (show ¬ (0 : Int32) = 1 by decide), ok_s]
    exact ⟨rfl, Fr.rf, ⟨fun _ _ _ _ => rfl, fun _ _ => rfl⟩, h⟩
  obtain ⟨L, rfl, hL, -, h2⟩ := h.opn h3
  obtain ⟨g1, g2, g3, g4, g5, g6, g7, g8⟩ := id h
  have hn16 := g1.2.1.2
  obtain ⟨⟨kd, k1, k2⟩, ⟨N, N1, N2, N3⟩, ⟨c0, c1, c2⟩, ⟨M, M1, M2, M3⟩, s5, s6⟩ := g4 L (by omega)
  have hop := g5 h3
  rw [show L + 1 - 1 = L by omega] at hop
  by_cases hF0 : ordK (rfin (dm (o + 1)) (56 + 325 * L)) 16 = 0
  · have e2 : d b 2 = nI (L + 1) := by rw [g2.2.2.1, g1.2.2.1.1]
    have e3 : d b 3 = 1 := by rw [g2.2.2.2.1, h3]
    have hfi := m_finishes h (show L < L + 1 by omega)
    rw [hF0] at s6 hfi
    have hla : f_X9_latest dm o = some (nI L) := by rw [q_latest, g1.2.2.1.1, nI_pred]
    unfold f_X3_closeStage f_X9_closes
    simp (disch := omega) only [↓x_let, ↓x_nam, ↓x_put, ↓x_bX, ↓x_ob, ↓x_ald, ↓x_aldL, ↓x_ast, ↓x_astL, ↓x_at0, ↓x_at_0, ↓x_mk0, ↓x_at, ↓x_atL, ↓x_at_, ↓x_at_L, ↓x_mk, ↓x_mkL, ↓x_aald, ↓x_w, ↓x_wi, ↓ok_s, ↓x_ifle_t, ↓x_ifle_f, ↓x_iflt_t, ↓x_iflt_f, ↓x_ifeq_t, ↓x_ifeq_f, ↓x_ifleL_t, ↓x_ifleL_f, ↓x_ifltL_t, ↓x_ifltL_f, ↓x_ifeqL_t, ↓x_ifeqL_f, ↓x_ifLle_t, ↓x_ifLle_f, ↓x_ifLlt_t, ↓x_ifLlt_f, ↓x_ifnm1, ↓x_ifb0, ↓x_ifb1, ↓x_if00, ↓x_if10, x_addL, x_Ladd, x_mulL, x_Lmul, nI_add, pk_mul, nI_pred, if_true, if_false, x_m1, n_a0, x_ue, x_un, e2, e3, s6, m_isOpen, hla, ↓if_pos h3, hfi]; try simp (disch := omega) only [↓x_let, ↓x_nam, ↓x_put, ↓x_bX, ↓x_ob, ↓x_ald, ↓x_aldL, ↓x_ast, ↓x_astL, ↓x_at0, ↓x_at_0, ↓x_mk0, ↓x_at, ↓x_atL, ↓x_at_, ↓x_at_L, ↓x_mk, ↓x_mkL, ↓x_aald, ↓x_w, ↓x_wi, ↓ok_s, ↓x_ifle_t, ↓x_ifle_f, ↓x_iflt_t, ↓x_iflt_f, ↓x_ifeq_t, ↓x_ifeq_f, ↓x_ifleL_t, ↓x_ifleL_f, ↓x_ifltL_t, ↓x_ifltL_f, ↓x_ifeqL_t, ↓x_ifeqL_f, ↓x_ifLle_t, ↓x_ifLle_f, ↓x_ifLlt_t, ↓x_ifLlt_f, ↓x_ifnm1, ↓x_ifb0, ↓x_ifb1, ↓x_if00, ↓x_if10, x_addL, x_Ladd, x_mulL, x_Lmul, nI_add, pk_mul, nI_pred, if_true, if_false, x_m1, n_a0, x_ue, x_un, e2, e3, s6, m_isOpen, hla, ↓if_pos h3, hfi]; try simp (disch := omega) only [↓x_let, ↓x_nam, ↓x_put, ↓x_bX, ↓x_ob, ↓x_ald, ↓x_aldL, ↓x_ast, ↓x_astL, ↓x_at0, ↓x_at_0, ↓x_mk0, ↓x_at, ↓x_atL, ↓x_at_, ↓x_at_L, ↓x_mk, ↓x_mkL, ↓x_aald, ↓x_w, ↓x_wi, ↓ok_s, ↓x_ifle_t, ↓x_ifle_f, ↓x_iflt_t, ↓x_iflt_f, ↓x_ifeq_t, ↓x_ifeq_f, ↓x_ifleL_t, ↓x_ifleL_f, ↓x_ifltL_t, ↓x_ifltL_f, ↓x_ifeqL_t, ↓x_ifeqL_f, ↓x_ifLle_t, ↓x_ifLle_f, ↓x_ifLlt_t, ↓x_ifLlt_f, ↓x_ifnm1, ↓x_ifb0, ↓x_ifb1, ↓x_if00, ↓x_if10, x_addL, x_Ladd, x_mulL, x_Lmul, nI_add, pk_mul, nI_pred, if_true, if_false, x_m1, n_a0, x_ue, x_un, e2, e3, s6, m_isOpen, hla, ↓if_pos h3, hfi]; try simp (disch := omega) only [↓x_let, ↓x_nam, ↓x_put, ↓x_bX, ↓x_ob, ↓x_ald, ↓x_aldL, ↓x_ast, ↓x_astL, ↓x_at0, ↓x_at_0, ↓x_mk0, ↓x_at, ↓x_atL, ↓x_at_, ↓x_at_L, ↓x_mk, ↓x_mkL, ↓x_aald, ↓x_w, ↓x_wi, ↓ok_s, ↓x_ifle_t, ↓x_ifle_f, ↓x_iflt_t, ↓x_iflt_f, ↓x_ifeq_t, ↓x_ifeq_f, ↓x_ifleL_t, ↓x_ifleL_f, ↓x_ifltL_t, ↓x_ifltL_f, ↓x_ifeqL_t, ↓x_ifeqL_f, ↓x_ifLle_t, ↓x_ifLle_f, ↓x_ifLlt_t, ↓x_ifLlt_f, ↓x_ifnm1, ↓x_ifb0, ↓x_ifb1, ↓x_if00, ↓x_if10, x_addL, x_Ladd, x_mulL, x_Lmul, nI_add, pk_mul, nI_pred, if_true, if_false, x_m1, n_a0, x_ue, x_un, e2, e3, s6, m_isOpen, hla, ↓if_pos h3, hfi]
    exact ⟨trivial, Fr.rf, ⟨fun _ _ _ _ => rfl, fun _ _ => rfl⟩, h⟩
  obtain ⟨p, Dp⟩ : ∃ p, ordO (rfin (dm (o + 1)) (56 + 325 * L)) 16 = p := ⟨_, rfl⟩
  obtain ⟨F, DF⟩ : ∃ F, ordK (rfin (dm (o + 1)) (56 + 325 * L)) 16 = F := ⟨_, rfl⟩
  have DF16 : F ≤ 16 := by rw [← DF]; exact ordK_le _ 16
  have DF0 : 0 < F := by rw [← DF]; omega
  have hb16 : ∀ j, j < F → p j < 16 := fun j hj => by
    rw [← Dp]
    exact ordO_lt _ 16 j (by rw [DF]; exact hj)
  have hinj : ∀ i j, i < F → j < F → p i = p j → i = j := fun i j hi hj he => by
    rw [← Dp] at he
    exact ordO_inj _ 16 i j (by rw [DF]; exact hi) (by rw [DF]; exact hj) he
  have hnz : ∀ j, j < F → ¬ rfin (dm (o + 1)) (56 + 325 * L) (p j) = 0 := fun j hj => by
    rw [← Dp]
    exact ordO_nz _ 16 j (by rw [DF]; exact hj)
  have hon : ∀ r, r < 16 → ¬ rfin (dm (o + 1)) (56 + 325 * L) r = 0 → ∃ j, j < F ∧ p j = r := fun r hr h0 => by
    obtain ⟨j, j1, j2⟩ := ordO_onto _ 16 r hr h0
    exact ⟨j, by rw [← DF]; exact j1, by rw [← Dp]; exact j2⟩
  obtain ⟨Bg, DB⟩ : ∃ Bg, bgn (dm (o + 1) (56 + 325 * L)) (rfin (dm (o + 1)) (56 + 325 * L)) p (dm (o + 1) 4) = Bg := ⟨_, rfl⟩
  obtain ⟨raw, Draw⟩ : ∃ raw : Nat → Int32, ∀ j, j < F → raw (p j) = rfin (dm (o + 1)) (56 + 325 * L) (p (hdI Bg j)) / 10 := ⟨fun r => rfin (dm (o + 1)) (56 + 325 * L) (p (hdI Bg (fa_first (fun k => decide (p k = r)) 16))) / 10, fun j hj => congrArg (fun k => rfin (dm (o + 1)) (56 + 325 * L) (p (hdI Bg k)) / 10) (first_at DF16 hj hinj)⟩
  have hraw : ∀ j, j < F → ∃ a, a ≤ 99999 ∧ raw (p j) = nI a := fun j hj => by
    have hle := hdI_le Bg j
    obtain ⟨f, f1, f2, -⟩ := (s5 (p (hdI Bg j)) (hb16 _ (by omega))).1
    refine ⟨f / 10, by omega, ?_⟩
    rw [Draw j hj]
    unfold rfin
    rw [f2, show (10 : Int32) = nI 10 from rfl, pk_div (by omega) (by omega) (by omega)]
  obtain ⟨T, DT⟩ : ∃ T, tmv (chg kd (fun r => dm (o + 1) (56 + 325 * L + 128 + 12 * r)) (dm (o + 1) 5) (fun r => dm (o + 1) (56 + 325 * L + 129 + 12 * r)) (rfin (dm (o + 1)) (56 + 325 * L))) raw = T := ⟨_, rfl⟩
  have hT : ∀ j, j < F → ∃ t a, t ≤ a ∧ a ≤ 99999 ∧ T (p j) = nI t ∧ raw (p j) = nI a := fun j hj => by
    obtain ⟨a, a1, a2⟩ := hraw j hj
    have := chC_bd (g := chg kd (fun r => dm (o + 1) (56 + 325 * L + 128 + 12 * r)) (dm (o + 1) 5) (fun r => dm (o + 1) (56 + 325 * L + 129 + 12 * r)) (rfin (dm (o + 1)) (56 + 325 * L))) (raw := raw) (S := fun r => r < 16) (fun r q hr hq => by
      have hq2 := chg_some (kd := kd) (r := r) (q := q) (fall := fun r => dm (o + 1) (56 + 325 * L + 128 + 12 * r)) (wi := fun r => dm (o + 1) (56 + 325 * L + 129 + 12 * r)) (fin := rfin (dm (o + 1)) (56 + 325 * L)) (z := dm (o + 1) 5) (fun h0 => by
        obtain ⟨-, x2, -⟩ := s5 r hr
        obtain ⟨-, y2, -⟩ := x2.resolve_left h0
        rcases y2 with y | ⟨q, y4, y5⟩
        · exact Or.inl y
        · exact Or.inr ⟨q, by omega, y5⟩) hq
      obtain ⟨j2, y1, y2⟩ := hon q hq2.1 hq2.2
      exact ⟨hq2.1, by rw [← y2]; exact hraw j2 y1⟩) 16 (p j) a (hb16 j hj) a1
    obtain ⟨t, t1, t2⟩ := this
    refine ⟨t, a, t1, a1, ?_, a2⟩
    rw [← DT]
    unfold tmv
    rw [a2]
    exact t2
  obtain ⟨bb, Dbb, Dbs⟩ := bsF_bd (T := T) (p := p) (F := F) (fun j hj => by
    obtain ⟨t, a, t1, t2, t3, -⟩ := hT j hj
    exact ⟨t, by omega, t3⟩) F DF0 (Nat.le_refl F)
  obtain ⟨lt, Dlt⟩ : ∃ lt : Nat → Bool, ∀ r, r < 16 → lt r = decide (¬ rfin (dm (o + 1)) (56 + 325 * L) r = 0 ∧ ¬ T r ≤ nI (lmN bb kd (spN N bb)) ∧ dm (o + 1) (56 + 325 * L + 131 + 12 * r) = 0) := ⟨fun r => decide (¬ rfin (dm (o + 1)) (56 + 325 * L) r = 0 ∧ ¬ T r ≤ nI (lmN bb kd (spN N bb)) ∧ dm (o + 1) (56 + 325 * L + 131 + 12 * r) = 0), fun _ _ => rfl⟩
  have Dm : ∀ m, m < M → (dm (o + 1) (56 + 325 * L + 14 + 19 * m)).toNatClampNeg ≤ 4 ∧ dm (o + 1) (56 + 325 * L + 14 + 19 * m) = nI (dm (o + 1) (56 + 325 * L + 14 + 19 * m)).toNatClampNeg ∧ (dm (o + 1) (56 + 325 * L + 15 + 19 * m)).toNatClampNeg ≤ 16 ∧ dm (o + 1) (56 + 325 * L + 15 + 19 * m) = nI (dm (o + 1) (56 + 325 * L + 15 + 19 * m)).toNatClampNeg ∧ ∀ k, k < (dm (o + 1) (56 + 325 * L + 15 + 19 * m)).toNatClampNeg → (dm (o + 1) (56 + 325 * L + 16 + 19 * m + k)).toNatClampNeg < 16 ∧ dm (o + 1) (56 + 325 * L + 16 + 19 * m + k) = nI (dm (o + 1) (56 + 325 * L + 16 + 19 * m + k)).toNatClampNeg := fun m hm => by
    obtain ⟨-, ⟨h', x1, x2⟩, ⟨q, y1, y2, y3, -⟩, -⟩ := M3 m hm
    rw [x2, y2, nI_clamp (by omega), nI_clamp (by omega)]
    refine ⟨x1, rfl, y1, rfl, fun k hk => ?_⟩
    obtain ⟨r, z1, z2, -⟩ := y3 k hk
    rw [z2, nI_clamp (by omega)]
    exact ⟨by omega, rfl⟩
  obtain ⟨PF, DPF⟩ : ∃ PF, mOu lt (rfin (dm (o + 1)) (56 + 325 * L)) (fun m => (dm (o + 1) (56 + 325 * L + 14 + 19 * m)).toNatClampNeg) (fun m => (dm (o + 1) (56 + 325 * L + 15 + 19 * m)).toNatClampNeg) (fun m k => (dm (o + 1) (56 + 325 * L + 16 + 19 * m + k)).toNatClampNeg) (pOF kd lt p (fun _ _ => 0) F) M = PF := ⟨_, rfl⟩
  obtain ⟨ou, Dou⟩ : ∃ ou : Nat → Bool, ∀ r, r < n → ou r = decide (dm (o + 1) (10 + 3 * r) = 1 ∧ (rfin (dm (o + 1)) (56 + 325 * L) r = 0 ∨ lt r = true ∧ fb_ct lt 16 * 5 ≤ F)) := ⟨fun r => decide (dm (o + 1) (10 + 3 * r) = 1 ∧ (rfin (dm (o + 1)) (56 + 325 * L) r = 0 ∨ lt r = true ∧ fb_ct lt 16 * 5 ≤ F)), fun _ _ => rfl⟩
  have D : CD (dm (o + 1)) (56 + 325 * L) n kd N M F bb p Bg raw T lt _ _ _ PF ou := ⟨⟨Dp, DF, DF0, DF16⟩, ⟨k2, k1, N3, N2, M2, M1⟩, ⟨DB, Draw, DT, Dbs, Dbb, fun j hj => by
    obtain ⟨t, a, t1, t2, t3, -⟩ := hT j hj
    exact ⟨t, by omega, t3⟩⟩, Dlt, Dm, DPF, Dou⟩
  have hBB : BB PF 1000 := by
    rw [← DPF]
    exact (mOu_bd (pOF_bd F) M (fun m hm => (Dm m hm).2.2.1)).mono (by omega)
  refine ok_m (k_close h h3 D) (fun v hv => ?_)
  refine ok_m (m_close h h3 D) (fun w hw => ?_)
  obtain ⟨v1, K1, ⟨K2, K23⟩, K3, K4, K5, ⟨K14, K15, K16, K17, K18, K19⟩, K6, KP6, K20⟩ := hv
  obtain ⟨w1, W0, ⟨W1, W13, W1r⟩, W2, ⟨W5, W6, W7, W8, W9, W10, W11⟩, W3, W4, WP⟩ := hw
  have hlm := lmN_le (b := bb) (k := kd) (S := spN N bb) Dbb
  have X0 : ∀ k, k < 56 → ¬ k = 3 → (∀ r, r < n → k ≠ 10 + 3 * r) → w.2 (o + 1) k = dm (o + 1) k := fun k x1 x2 x3 => W1 k x2 x3 (by omega)
  have X1 : ∀ k, 56 ≤ k → (k < 56 + 325 * L ∨ 381 + 325 * L ≤ k) → w.2 (o + 1) k = dm (o + 1) k := fun k x1 x2 => W1 k (by omega) (fun r hr => by omega) x2
  have XR : ∀ r w', r < 16 → w' < 5 → w.2 (o + 1) (56 + 325 * L + 127 + 12 * r + w') = dm (o + 1) (56 + 325 * L + 127 + 12 * r + w') := fun r w' hr hw' => by
    rw [show 56 + 325 * L + 127 + 12 * r + w' = 183 + 325 * L + 12 * r + w' by omega]
    exact W3 r w' hr (by omega) (Or.inl hw')
  have hfin' : ∀ r, r < 16 → rfin (w.2 (o + 1)) (56 + 325 * L) r = rfin (dm (o + 1)) (56 + 325 * L) r := fun r hr => XR r 0 hr (by omega)
  have hord := ordO_cong 16 hfin'
  rw [DF, Dp] at hord
  refine ⟨by rw [v1, w1], fun a ha => K1 a (by omega) (by omega) (by omega), W0, ?_⟩
  refine ⟨?_, ?_, fun r hr => ?_, fun j hj => ?_, fun h9 => ?_, fun j hj hc => ?_, fun r hr => ?_, fun j hj => ?_⟩
  · unfold R_cnt
    rw [X0 0 (by omega) (by omega) (fun r hr => by omega), X0 1 (by omega) (by omega) (fun r hr => by omega), X0 2 (by omega) (by omega) (fun r hr => by omega), W13, X0 4 (by omega) (by omega) (fun r hr => by omega), X0 5 (by omega) (by omega) (fun r hr => by omega)]
    exact ⟨g1.1, g1.2.1, g1.2.2.1, Or.inl rfl, g1.2.2.2.2⟩
  · unfold SC
    rw [K2 0 (by omega), K2 1 (by omega), K2 2 (by omega), K23, K2 4 (by omega), K2 5 (by omega), X0 0 (by omega) (by omega) (fun r hr => by omega), X0 1 (by omega) (by omega) (fun r hr => by omega), X0 2 (by omega) (by omega) (fun r hr => by omega), W13, X0 4 (by omega) (by omega) (fun r hr => by omega), X0 5 (by omega) (by omega) (fun r hr => by omega)]
    exact ⟨g2.1, g2.2.1, g2.2.2.1, rfl, g2.2.2.2.2⟩
  · obtain ⟨i1, i2, i3, i4, i5, i6⟩ := g3 r hr
    unfold RI
    rw [K1 _ (by omega) (by omega) (by omega), K1 _ (by omega) (by omega) (by omega), K3 r, W1r r hr, X0 _ (by omega) (by omega) (fun q hq => by omega), X0 (9 + 3 * r) (by omega) (by omega) (fun q hq => by omega)]
    by_cases ho : ou r = true
    · rw [if_pos ho, if_pos ⟨hr, ho⟩]
      exact ⟨i1, i2, Or.inl rfl, i4, i5, rfl⟩
    · rw [if_neg ho, if_neg (fun h9 => ho h9.2)]
      exact ⟨i1, i2, i3, i4, i5, i6⟩
  · by_cases hjL : j = L
    · subst hjL
      refine ⟨⟨kd, k1, by rw [W2 _ (by omega) (by omega) (by omega), k2]⟩, ⟨N, N1, N2, by rw [W2 _ (by omega) (by omega) (by omega), N3]⟩, ?_, ⟨M, M1, by rw [W2 _ (by omega) (by omega) (by omega), M2], fun m hm => ?_⟩, fun r hr => ?_, ?_⟩
      · rw [K4 _ (by omega) (by omega) (by omega), W2 _ (by omega) (by omega) (by omega), W2 _ (by omega) (by omega) (by omega), W2 _ (by omega) (by omega) (by omega)]
        exact ⟨c0, c1, c2⟩
      · exact (M3 m hm).congr (Nat.le_refl _) (fun a x1 x2 => by rw [K4 _ (by omega) (by omega) (by omega)]) (fun k _ => by rw [K4 _ (by omega) (by omega) (by omega)]) (fun k x1 x2 => W2 _ (by omega) (by omega) (by omega))
      · exact (s5 r hr).congr (Nat.le_refl _) (fun a x1 x2 => by rw [K4 _ (by omega) (by omega) (by omega)]) (fun k x1 x2 => by
          have := XR r (k - (56 + 325 * j + 127 + 12 * r)) hr (by omega)
          rw [show 56 + 325 * j + 127 + 12 * r + (k - (56 + 325 * j + 127 + 12 * r)) = k by omega] at this
          exact this)
      · rw [K5 7 (by omega), s6, DF, hord.1]
    · exact (g4 j hj).congr (Nat.le_refl _) (fun a x1 x2 => K1 _ (by omega) (by omega) (by omega)) (fun k x1 x2 => X1 _ (by omega) (by omega))
  · rw [W13] at h9
    exact absurd h9 (by decide)
  · by_cases hjL : j = L
    · subst hjL
      unfold CL
      rw [hord.1, hord.2]
      refine ⟨⟨DF0, W5⟩, fun i hi => (K6 i hi).1, ⟨by rw [K14, W6], by rw [K15, W7], by rw [K16, W8], by rw [K17, W9], by rw [K18, W10], by rw [K19, W11]⟩, ⟨_, by omega, W9⟩, ?_, fun r hr => ?_⟩
      · rw [W11]
        split
        · exact Or.inl rfl
        · exact Or.inr rfl
      · obtain ⟨x1, x2, x3⟩ := WP r hr
        obtain ⟨y1, y2, y3⟩ := KP6 r hr
        obtain ⟨bv, bv1, bv2⟩ := hBB r
        unfold CLr
        rw [hfin' r hr, show 56 + 325 * j + 132 + 12 * r = 183 + 325 * j + 12 * r + 5 by omega, show 56 + 325 * j + 133 + 12 * r = 183 + 325 * j + 12 * r + 6 by omega, show 56 + 325 * j + 134 + 12 * r = 183 + 325 * j + 12 * r + 7 by omega, show 56 + 325 * j + 135 + 12 * r = 183 + 325 * j + 12 * r + 8 by omega, show 56 + 325 * j + 136 + 12 * r = 183 + 325 * j + 12 * r + 9 by omega, show 56 + 325 * j + 137 + 12 * r = 183 + 325 * j + 12 * r + 10 by omega, show 56 + 325 * j + 138 + 12 * r = 183 + 325 * j + 12 * r + 11 by omega, x1, x2, x3]
        by_cases h0 : rfin (dm (o + 1)) (56 + 325 * j) r = 0
        · have hno : ∀ i, i < F → p i ≠ r := fun i hi he => hnz i hi (by rw [he]; exact h0)
          have z5 := hop r 5 hr (by omega) (by omega)
          have z6 := hop r 6 hr (by omega) (by omega)
          have z8 := hop r 8 hr (by omega) (by omega)
          rw [show 56 + 325 * j + 127 + 12 * r + 5 = 183 + 325 * j + 12 * r + 5 by omega] at z5
          rw [show 56 + 325 * j + 127 + 12 * r + 6 = 183 + 325 * j + 12 * r + 6 by omega] at z6
          rw [show 56 + 325 * j + 127 + 12 * r + 8 = 183 + 325 * j + 12 * r + 8 by omega] at z8
          rw [W3 r 5 hr (by omega) (Or.inr hno), W3 r 6 hr (by omega) (Or.inr hno), W3 r 8 hr (by omega) (Or.inr hno), z5, z6, z8]
          exact ⟨fun _ => ⟨rfl, rfl⟩, ⟨0, by omega, nI_0.symm⟩, ⟨0, by omega, nI_0.symm⟩, Int32.le_refl _, ⟨bv, bv1, bv2⟩, ⟨0, by omega, nI_0.symm⟩, fun h9 => absurd h0 h9, y1, y2, y3⟩
        · obtain ⟨i, i1, rfl⟩ := hon r hr h0
          obtain ⟨u5, u6, u7, u8⟩ := W4 i i1
          obtain ⟨q1, q2, q3, q4, q5⟩ := K6 i i1
          obtain ⟨t', a', t1, t2, t3, t4⟩ := hT i i1
          rw [← Draw i i1] at u5 q4
          rw [u5, u6, u7, u8, t3, t4, q2, q3, q4, q5, t3, t4]
          exact ⟨fun h9 => absurd h9 h0, ⟨t', by omega, rfl⟩, ⟨a', t2, rfl⟩, (nI_leI (by omega) (by omega)).mpr t1, ⟨bv, bv1, bv2⟩, ⟨i + 1, by omega, rfl⟩, fun _ => ⟨rfl, rfl, rfl, rfl⟩, y1, y2, y3⟩
    · exact (g6 j hj (fun _ => by omega)).congr (fun a x1 x2 => K1 _ (by omega) (by omega) (by omega)) (fun k x1 x2 => X1 _ (by omega) (by omega))
  · rw [K3 r]
    split
    · exact Or.inl rfl
    · exact g7 r hr
  · have hb := g8 j hj
    by_cases hjL : j = L
    · subst hjL
      refine ⟨?_, fun r hr => ⟨by rw [K4 _ (by omega) (by omega) (by omega)]; exact (hb.2 r hr).1, K20 r hr⟩⟩
      rw [K19]
      split
      · exact Or.inl rfl
      · exact Or.inr rfl
    · unfold SB
      rw [K1 _ (by omega) (by omega) (by omega), K1 _ (by omega) (by omega) (by omega), K1 _ (by omega) (by omega) (by omega)]
      exact hb
