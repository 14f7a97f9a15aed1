/-! 6k.jclose: class and model close alike -/
def MP (dm d' : z_D) (o L n kd N F bb : Nat) (p : Nat → Nat) (Bg : Nat → Bool) (fin T : Nat → Int32) (lt : Nat → Bool) (PF : z_D) (ou : Nat → Bool) : Prop :=
  Fm o dm d' ∧ ((∀ k, ¬ k = 3 → (∀ r, r < n → k ≠ 10 + 3 * r) → (k < 56 + 325 * L ∨ 381 + 325 * L ≤ k) → d' (o + 1) k = dm (o + 1) k) ∧ d' (o + 1) 3 = 0 ∧ ∀ r, r < n → d' (o + 1) (10 + 3 * r) = if ou r = true then 0 else dm (o + 1) (10 + 3 * r)) ∧
  (∀ k, 56 + 325 * L ≤ k → k < 183 + 325 * L → ¬ (59 + 325 * L ≤ k ∧ k ≤ 67 + 325 * L) → d' (o + 1) k = dm (o + 1) k) ∧
  (d' (o + 1) (56 + 325 * L + 5) = nI F ∧ d' (o + 1) (56 + 325 * L + 6) = nI (fb_ct Bg F) ∧ d' (o + 1) (56 + 325 * L + 7) = nI bb ∧ d' (o + 1) (56 + 325 * L + 8) = nI (spN N bb) ∧ d' (o + 1) (56 + 325 * L + 9) = nI (lmN bb kd (spN N bb)) ∧ d' (o + 1) (56 + 325 * L + 10) = nI (fb_ct lt 16) ∧ d' (o + 1) (56 + 325 * L + 11) = (if fb_ct lt 16 * 5 ≤ F then 0 else 1)) ∧
  (∀ r w, r < 16 → w < 9 → (w < 5 ∨ ∀ j, j < F → p j ≠ r) → d' (o + 1) (183 + 325 * L + 12 * r + w) = dm (o + 1) (183 + 325 * L + 12 * r + w)) ∧
  (∀ j, j < F → d' (o + 1) (183 + 325 * L + 12 * p j + 5) = fin (p (hdI Bg j)) / 10 ∧ d' (o + 1) (183 + 325 * L + 12 * p j + 6) = T (p j) ∧ d' (o + 1) (183 + 325 * L + 12 * p j + 7) = nI (fb_ct Bg (j + 1)) - 1 ∧ d' (o + 1) (183 + 325 * L + 12 * p j + 8) = nI (j + 1)) ∧ PY d' o L PF
set_option maxHeartbeats 4000000 in
theorem m_close {d dc : z_D} {o b t n L : Nat} {kd N M F bb : Nat} {p : Nat → Nat} {Bg : Nat → Bool} {raw T : Nat → Int32} {lt : Nat → Bool} {hw q : Nat → Nat} {cr : Nat → Nat → Nat} {PF : z_D} {ou : Nat → Bool} (h : St dc b (d (o + 1)) t n (L + 1)) (h3 : d (o + 1) 3 = 1) (D : CD (d (o + 1)) (56 + 325 * L) n kd N M F bb p Bg raw T lt hw q cr PF ou) :
    ok (f_X9_closes d o) (fun v => v.1 = nI (fb_ct ou n) ∧ MP d v.2 o L n kd N F bb p Bg (rfin (d (o + 1)) (56 + 325 * L)) T lt PF ou) := by
  obtain ⟨⟨Dp, DF, DF0, DF16⟩, ⟨Dk, Dk3, DN, DN3, DM, DM6⟩, ⟨DB, Draw, DT, Dbs, Dbb, DTb⟩, Dlt, Dm, DPF, Dou⟩ := D
  obtain ⟨g1, g2, g3, g4, g5, g6, g7, g8⟩ := id h
  have hn16 := g1.2.1.2
  have hL : L < 8 := by have := g1.2.2.1.2; omega
  obtain ⟨s1, s2, ⟨c0, c1, c2⟩, ⟨M', M1', M2', M3⟩, s5, s6⟩ := g4 L (by omega)
  have hop := g5 h3
  rw [show L + 1 - 1 = L by omega] at hop
  have hfi := m_finishes h (show L < L + 1 by omega)
  rw [DF] at hfi
  have hla : f_X9_latest d o = some (nI L) := by rw [q_latest, g1.2.2.1.1, nI_pred]
  have hb16 : ∀ j, j < F → p j < 16 := fun j hj => by
    rw [← Dp]
    exact ordO_lt _ 16 j (by rw [DF]; exact hj)
  have hinj : ∀ i j, i < F → j < F → p i = p j → i = j := fun i j hi hj he => by
    rw [← Dp] at he
    exact ordO_inj _ 16 i j (by rw [DF]; exact hi) (by rw [DF]; exact hj) he
  have hon : ∀ r, r < 16 → ¬ rfin (d (o + 1)) (56 + 325 * L) r = 0 → ∃ j, j < F ∧ p j = r := fun r hr h0 => by
    obtain ⟨j, j1, j2⟩ := ordO_onto _ 16 r hr h0
    exact ⟨j, by rw [← DF]; exact j1, by rw [← Dp]; exact j2⟩
  have hpos : ∀ r, r < 16 → ¬ rfin (d (o + 1)) (56 + 325 * L) r < 0 := fun r hr => by
    obtain ⟨f, f1, f2, -⟩ := (s5 r hr).1
    unfold rfin
    rw [f2]
    exact nI_pos (by omega)
  unfold f_X9_closes
  simp (disch := omega) only [↓x_let, ↓x_nam, ↓x_put, ↓x_bX, ↓x_ob, ↓x_ald, ↓x_aldL, ↓x_ast, ↓x_astL, ↓x_at0, ↓x_at_0, ↓x_mk0, ↓x_at, ↓x_atL, ↓x_at_, ↓x_at_L, ↓x_mk, ↓x_mkL, ↓x_aald, ↓x_w, ↓x_wi, ↓ok_s, ↓x_ifle_t, ↓x_ifle_f, ↓x_iflt_t, ↓x_iflt_f, ↓x_ifeq_t, ↓x_ifeq_f, ↓x_ifleL_t, ↓x_ifleL_f, ↓x_ifltL_t, ↓x_ifltL_f, ↓x_ifeqL_t, ↓x_ifeqL_f, ↓x_ifLle_t, ↓x_ifLle_f, ↓x_ifLlt_t, ↓x_ifLlt_f, ↓x_ifnm1, ↓x_ifb0, ↓x_ifb1, ↓x_if00, ↓x_if10, x_addL, x_Ladd, x_mulL, x_Lmul, nI_add, pk_mul, nI_pred, if_true, if_false, x_m1, n_a0, x_ue, x_un, m_isOpen, hla, ↓if_pos h3, hfi]; try simp (disch := omega) only [↓x_let, ↓x_nam, ↓x_put, ↓x_bX, ↓x_ob, ↓x_ald, ↓x_aldL, ↓x_ast, ↓x_astL, ↓x_at0, ↓x_at_0, ↓x_mk0, ↓x_at, ↓x_atL, ↓x_at_, ↓x_at_L, ↓x_mk, ↓x_mkL, ↓x_aald, ↓x_w, ↓x_wi, ↓ok_s, ↓x_ifle_t, ↓x_ifle_f, ↓x_iflt_t, ↓x_iflt_f, ↓x_ifeq_t, ↓x_ifeq_f, ↓x_ifleL_t, ↓x_ifleL_f, ↓x_ifltL_t, ↓x_ifltL_f, ↓x_ifeqL_t, ↓x_ifeqL_f, ↓x_ifLle_t, ↓x_ifLle_f, ↓x_ifLlt_t, ↓x_ifLlt_f, ↓x_ifnm1, ↓x_ifb0, ↓x_ifb1, ↓x_if00, ↓x_if10, x_addL, x_Ladd, x_mulL, x_Lmul, nI_add, pk_mul, nI_pred, if_true, if_false, x_m1, n_a0, x_ue, x_un, m_isOpen, hla, ↓if_pos h3, hfi]; try simp (disch := omega) only [↓x_let, ↓x_nam, ↓x_put, ↓x_bX, ↓x_ob, ↓x_ald, ↓x_aldL, ↓x_ast, ↓x_astL, ↓x_at0, ↓x_at_0, ↓x_mk0, ↓x_at, ↓x_atL, ↓x_at_, ↓x_at_L, ↓x_mk, ↓x_mkL, ↓x_aald, ↓x_w, ↓x_wi, ↓ok_s, ↓x_ifle_t, ↓x_ifle_f, ↓x_iflt_t, ↓x_iflt_f, ↓x_ifeq_t, ↓x_ifeq_f, ↓x_ifleL_t, ↓x_ifleL_f, ↓x_ifltL_t, ↓x_ifltL_f, ↓x_ifeqL_t, ↓x_ifeqL_f, ↓x_ifLle_t, ↓x_ifLle_f, ↓x_ifLlt_t, ↓x_ifLlt_f, ↓x_ifnm1, ↓x_ifb0, ↓x_ifb1, ↓x_if00, ↓x_if10, x_addL, x_Ladd, x_mulL, x_Lmul, nI_add, pk_mul, nI_pred, if_true, if_false, x_m1, n_a0, x_ue, x_un, m_isOpen, hla, ↓if_pos h3, hfi]; try simp (disch := omega) only [↓x_let, ↓x_nam, ↓x_put, ↓x_bX, ↓x_ob, ↓x_ald, ↓x_aldL, ↓x_ast, ↓x_astL, ↓x_at0, ↓x_at_0, ↓x_mk0, ↓x_at, ↓x_atL, ↓x_at_, ↓x_at_L, ↓x_mk, ↓x_mkL, ↓x_aald, ↓x_w, ↓x_wi, ↓ok_s, ↓x_ifle_t, ↓x_ifle_f, ↓x_iflt_t, ↓x_iflt_f, ↓x_ifeq_t, ↓x_ifeq_f, ↓x_ifleL_t, ↓x_ifleL_f, ↓x_ifltL_t, ↓x_ifltL_f, ↓x_ifeqL_t, ↓x_ifeqL_f, ↓x_ifLle_t, ↓x_ifLle_f, ↓x_ifLlt_t, ↓x_ifLlt_f, ↓x_ifnm1, ↓x_ifb0, ↓x_ifb1, ↓x_if00, ↓x_if10, x_addL, x_Ladd, x_mulL, x_Lmul, nI_add, pk_mul, nI_pred, if_true, if_false, x_m1, n_a0, x_ue, x_un, m_isOpen, hla, ↓if_pos h3, hfi]
  -- the rules
  generalize hm1 : z_up (z_up (z_up d (o + 1) 3 0) (o + 1) (56 + 325 * L + 3) (d (o + 1) 4)) (o + 1) (56 + 325 * L + 4) (d (o + 1) 5) = m1
  have A1 : ∀ a, ¬ a = o + 1 → m1 a = d a := fun a ha => by rw [← hm1, u_a ha, u_a ha, u_a ha]
  have B1 : ∀ k, ¬ k = 3 → ¬ k = 56 + 325 * L + 3 → ¬ k = 56 + 325 * L + 4 → m1 (o + 1) k = d (o + 1) k := fun k x1 x2 x3 => by rw [← hm1, x_un (by omega), x_un (by omega), x_un (by omega)]
  have B13 : m1 (o + 1) 3 = 0 := by rw [← hm1, x_un (by omega), x_un (by omega), x_ue rfl rfl]
  have B1g : m1 (o + 1) (56 + 325 * L + 3) = d (o + 1) 4 := by rw [← hm1, x_un (by omega), x_ue rfl rfl]
  have B1z : m1 (o + 1) (56 + 325 * L + 4) = d (o + 1) 5 := by rw [← hm1, x_ue rfl rfl]
  clear hm1
  -- the order
  have mf : ∀ r, mfin m1 o L r = rfin (d (o + 1)) (56 + 325 * L) r := fun r => by
    unfold mfin rfin
    rw [B1 _ (by omega) (by omega) (by omega), show 183 + 325 * L + 12 * r = 56 + 325 * L + 127 + 12 * r by omega]
  have mff : mfin m1 o L = rfin (d (o + 1)) (56 + 325 * L) := funext mf
  obtain ⟨m2, q2, a2, a2o, a26, o2⟩ := q_laysOrder (d := m1) (o := o) (s := L) (n := n) hL hn16 (by rw [B1 _ (by omega) (by omega) (by omega), g1.2.1.1]) (fun r hr => by rw [mf]; exact hpos r (by omega))
  have hext := ordK_ext (fin := rfin (d (o + 1)) (56 + 325 * L)) (n := n) (16 - n) (fun r r1 r2 => by
    obtain ⟨f, f1, f2, f3⟩ := (s5 r (by omega)).1
    unfold rfin
    rw [f2, f3 r1, nI_0])
  rw [show n + (16 - n) = 16 by omega, DF, Dp] at hext
  rw [mff, ← hext.1] at a26
  rw [mff, ← hext.1, ← hext.2] at o2
  rw [q2, x_ob, a26]
  generalize hm3 : z_up m2 (o + 1) (56 + 325 * L + 5) (nI F) = m3
  have A3 : ∀ a, ¬ a = o → ¬ a = o + 1 → ¬ a = o + 5 → m3 a = d a := fun a x1 x2 x3 => by rw [← hm3, u_a x2, a2 _ x1 x3, A1 _ x2]
  have A3o : ∀ k, ¬ k = 6 → m3 o k = d o k := fun k hk => by rw [← hm3, x_un (by omega), a2o k hk, A1 _ (by omega)]
  have A36 : m3 o 6 = nI F := by rw [← hm3, x_un (by omega), a26]
  have A35 : ∀ j, j < F → m3 (o + 5) j = nI (p j) := fun j hj => by rw [← hm3, x_un (by omega), o2 j hj]
  have B3 : ∀ k, ¬ k = 56 + 325 * L + 5 → m3 (o + 1) k = m1 (o + 1) k := fun k hk => by rw [← hm3, x_un (by omega), a2 _ (by omega) (by omega)]
  have B35 : m3 (o + 1) (56 + 325 * L + 5) = nI F := by rw [← hm3, x_ue rfl rfl]
  clear hm3
  have B3d : ∀ k, ¬ k = 3 → ¬ (59 + 325 * L ≤ k ∧ k ≤ 61 + 325 * L) → m3 (o + 1) k = d (o + 1) k := fun k x1 x2 => by rw [B3 _ (by omega), B1 _ x1 (by omega) (by omega)]
  have mf3 : mfin m3 o L = rfin (d (o + 1)) (56 + 325 * L) := by
    rw [← mff]
    funext r
    exact B3 _ (by omega)
  -- raw
  rw [ok_b]
  refine ok_m (q_laysRaw (d := m3) (o := o) (s := L) (n := F) (p := p) (B := Bg) hL DF16 A36 A35 hb16 hinj (by rw [mf3, B3 _ (by omega), B3 _ (by omega), B1g, B1 _ (by omega) (by omega) (by omega)]; exact DB)) (fun m4 hm4 => ?_)
  obtain ⟨A4, B4, B46, R4⟩ := hm4
  rw [mf3] at R4
  have W4 : ∀ w, (w < 5 ∨ w = 6 ∨ 8 < w) → ∀ r, r < 16 → w < 12 → m4 (o + 1) (183 + 325 * L + 12 * r + w) = d (o + 1) (183 + 325 * L + 12 * r + w) := fun w hw r hr hw2 => by rw [B4 _ (by omega) (fun j hj => by omega), B3d _ (by omega) (by omega)]
  have mf4 : mfin m4 o L = rfin (d (o + 1)) (56 + 325 * L) := by
    rw [← mf3]
    funext r
    exact B4 _ (by omega) (fun j hj => by omega)
  have e41 : mrd m4 o L 1 = fun r => d (o + 1) (56 + 325 * L + 128 + 12 * r) := by
    funext r
    unfold mrd
    rw [B4 _ (by omega) (fun j hj => by omega), B3d _ (by omega) (by omega), show 183 + 325 * L + 12 * r + 1 = 56 + 325 * L + 128 + 12 * r by omega]
  have e42 : mrd m4 o L 2 = fun r => d (o + 1) (56 + 325 * L + 129 + 12 * r) := by
    funext r
    unfold mrd
    rw [B4 _ (by omega) (fun j hj => by omega), B3d _ (by omega) (by omega), show 183 + 325 * L + 12 * r + 2 = 56 + 325 * L + 129 + 12 * r by omega]
  have e4z : m4 (o + 1) (56 + 325 * L + 4) = d (o + 1) 5 := by rw [B4 _ (by omega) (fun j hj => by omega), B3 _ (by omega), B1z]
  have e4k : m4 (o + 1) (56 + 325 * L) = nI kd := by rw [B4 _ (by omega) (fun j hj => by omega), B3d _ (by omega) (by omega), Dk]
  have hwi : ∀ r, r < 16 → ¬ d (o + 1) (56 + 325 * L + 128 + 12 * r) = -1 → d (o + 1) (56 + 325 * L + 129 + 12 * r) = -1 ∨ ∃ q, q < 16 ∧ d (o + 1) (56 + 325 * L + 129 + 12 * r) = nI q := fun r hr h0 => by
    obtain ⟨-, x2, -⟩ := s5 r hr
    obtain ⟨-, y2, -⟩ := x2.resolve_left h0
    rcases y2 with y | ⟨q, y4, y5⟩
    · exact Or.inl y
    · exact Or.inr ⟨q, by omega, y5⟩
  have hTm : ∀ j, j < F → tmv (chg kd (mrd m4 o L 1) (m4 (o + 1) (56 + 325 * L + 4)) (mrd m4 o L 2) (mfin m4 o L)) (mrd m4 o L 5) (p j) = T (p j) := fun j hj => by
    rw [← DT, e41, e42, e4z, mf4]
    unfold tmv
    have r5 : ∀ j, j < F → mrd m4 o L 5 (p j) = raw (p j) := fun j hj => by
      rw [Draw j hj]
      exact (R4 j hj).1
    rw [r5 j hj]
    refine chC_cong (S := fun r => r < 16) (fun r hr => rfl) (fun r q hr hq => ?_) 16 (p j) _ (hb16 j hj)
    have hq2 := chg_some (kd := kd) (r := r) (q := q) (fall := fun r => d (o + 1) (56 + 325 * L + 128 + 12 * r)) (wi := fun r => d (o + 1) (56 + 325 * L + 129 + 12 * r)) (fin := rfin (d (o + 1)) (56 + 325 * L)) (z := d (o + 1) 5) (fun h0 => hwi r hr h0) hq
    refine ⟨hq2.1, ?_⟩
    obtain ⟨j2, y1, y2⟩ := hon q hq2.1 hq2.2
    rw [← y2, r5 j2 y1]
  -- times
  refine q_mtimes (d := m4) (o := o) (s := L) (F := F) (kd := kd) (p := p) hL DF16 (by rw [A4 _ (by omega), A36]) (fun j hj => by rw [A4 _ (by omega), A35 j hj]) hb16 hinj e4k Dk3 (fun r hr => by
    have := hpos r hr
    rw [← mf4] at this
    exact this) (by rw [e41, e42]; exact hwi) rfl (fun m5 A5 B5 T5 => ?_)
  have T5' : ∀ j, j < F → m5 (o + 1) (183 + 325 * L + 12 * p j + 6) = T (p j) := fun j hj => by rw [T5 j hj, hTm j hj]
  -- the limit
  obtain ⟨t0, t01, t02⟩ := DTb 0 DF0
  rw [ok_b]
  refine ok_m (q_laysLimit (d := m5) (o := o) (s := L) (F := F) (kd := kd) (N := N) (b := bb) (p := p) (T := T) hL DF0 DF16 (by rw [A5 _ (by omega), A4 _ (by omega), A36]) (fun j hj => by rw [A5 _ (by omega), A4 _ (by omega), A35 j hj]) hb16 T5' (by rw [t02]; exact (nI_leI (b := 1000000) (by omega) (by omega)).mpr (by omega)) (by rw [B5 _ (fun j hj => by omega), e4k]) Dk3 (by rw [B5 _ (fun j hj => by omega), B4 _ (by omega) (fun j hj => by omega), B3d _ (by omega) (by omega), DN]) DN3 Dbs Dbb) (fun m6 hm6 => ?_)
  have A6 : ∀ a, ¬ a = o + 1 → m6 a = m3 a := fun a ha => by rw [hm6, u_a ha, u_a ha, u_a ha, A5 _ ha, A4 _ ha]
  have B6 : ∀ k, ¬ (63 + 325 * L ≤ k ∧ k ≤ 65 + 325 * L) → m6 (o + 1) k = m5 (o + 1) k := fun k hk => by rw [hm6, x_un (by omega), x_un (by omega), x_un (by omega)]
  have B67 : m6 (o + 1) (56 + 325 * L + 7) = nI bb := by rw [hm6, x_un (by omega), x_un (by omega), x_ue rfl rfl]
  have B68 : m6 (o + 1) (56 + 325 * L + 8) = nI (spN N bb) := by rw [hm6, x_un (by omega), x_ue rfl rfl]
  have B69 : m6 (o + 1) (56 + 325 * L + 9) = nI (lmN bb kd (spN N bb)) := by rw [hm6, x_ue rfl rfl]
  clear hm6
  have B6d : ∀ k, ¬ k = 3 → (k < 59 + 325 * L ∨ 66 + 325 * L ≤ k) → (∀ j, j < F → k ≠ 183 + 325 * L + 12 * p j + 5 ∧ k ≠ 183 + 325 * L + 12 * p j + 6 ∧ k ≠ 183 + 325 * L + 12 * p j + 7 ∧ k ≠ 183 + 325 * L + 12 * p j + 8) → m6 (o + 1) k = d (o + 1) k := fun k x1 x2 x3 => by rw [B6 _ (by omega), B5 _ (fun j hj => (x3 j hj).2.1), B4 _ (by omega) (fun j hj => ⟨(x3 j hj).1, (x3 j hj).2.2.1, (x3 j hj).2.2.2⟩), B3d _ x1 (by omega)]
  have mf6 : mfin m6 o L = rfin (d (o + 1)) (56 + 325 * L) := by
    rw [← mf4]
    funext r
    unfold mfin
    rw [B6 _ (by omega), B5 _ (fun j hj => by omega)]
  have LT6 : LT m6 o L lt := fun r hr => by
    have hm : m6 (o + 1) (183 + 325 * L + 12 * r) = rfin (d (o + 1)) (56 + 325 * L) r := congrFun mf6 r
    refine ⟨by rw [hm]; exact hpos r hr, ?_⟩
    rw [Dlt r hr, hm, B69, B6d (183 + 325 * L + 12 * r + 4) (by omega) (by omega) (fun j hj => by omega), show 183 + 325 * L + 12 * r + 4 = 56 + 325 * L + 131 + 12 * r by omega]
    by_cases h0 : rfin (d (o + 1)) (56 + 325 * L) r = 0
    · rw [decide_eq_false (fun h9 => h9.1 h0), decide_eq_false (fun h9 => h9.1 h0)]
    · obtain ⟨j, j1, j2⟩ := hon r hr h0
      rw [← j2, B6 _ (by omega), T5' j j1]
  -- prizes
  rw [ok_b]
  have hMM : M' = M := by rw [DM] at M2'; exact ((nI_eq (by omega) (by omega)).mp M2').symm
  subst hMM
  refine ok_m (q_laysPrizes (d := m6) (o := o) (s := L) (F := F) (kd := kd) (M := M') (p := p) (hw := hw) (q := q) (cr := cr) (lt := lt) hL DF16 (by rw [A6 _ (by omega), A36]) (fun j hj => by rw [A6 _ (by omega), A35 j hj]) hb16 (by rw [B6d _ (by omega) (by omega) (fun j hj => by omega), Dk]) Dk3 LT6 (fun r hr => ?_) DM6 (by rw [B6d _ (by omega) (by omega) (fun j hj => by omega), DM]) (fun m hm => ?_) (fun m hm => ?_) (fun m k hm hk => ?_)) (fun m7 hm7 => ?_)
  · rw [B6d _ (by omega) (by omega) (fun j hj => by omega), B6d _ (by omega) (by omega) (fun j hj => by omega), B6d _ (by omega) (by omega) (fun j hj => by omega)]
    have x9 := hop r 9 hr (by omega) (by omega)
    have x10 := hop r 10 hr (by omega) (by omega)
    have x11 := hop r 11 hr (by omega) (by omega)
    rw [show 56 + 325 * L + 127 + 12 * r + 9 = 183 + 325 * L + 12 * r + 9 by omega] at x9
    rw [show 56 + 325 * L + 127 + 12 * r + 10 = 183 + 325 * L + 12 * r + 10 by omega] at x10
    rw [show 56 + 325 * L + 127 + 12 * r + 11 = 183 + 325 * L + 12 * r + 11 by omega] at x11
    exact ⟨x9, x10, x11⟩
  · obtain ⟨x1, x2, x3, x4, x5⟩ := Dm m hm
    refine ⟨x1, ?_⟩
    rw [B6d _ (by omega) (by omega) (fun j hj => by omega), ← x2, show 69 + 325 * L + 19 * m + 1 = 56 + 325 * L + 14 + 19 * m by omega]
  · obtain ⟨x1, x2, x3, x4, x5⟩ := Dm m hm
    refine ⟨x3, ?_⟩
    rw [B6d _ (by omega) (by omega) (fun j hj => by omega), ← x4, show 69 + 325 * L + 19 * m + 2 = 56 + 325 * L + 15 + 19 * m by omega]
  · obtain ⟨x1, x2, x3, x4, x5⟩ := Dm m hm
    obtain ⟨w1, w2⟩ := x5 k hk
    refine ⟨w1, ?_⟩
    rw [B6d _ (by omega) (by omega) (fun j hj => by omega), ← w2, show 69 + 325 * L + 19 * m + (3 + k) = 56 + 325 * L + 16 + 19 * m + k by omega]
  obtain ⟨⟨A7, B7⟩, P7⟩ := hm7
  rw [mf6, DPF] at P7
  -- the late
  refine q_mLate (d := m7) (o := o) (s := L) (F := F) (p := p) (lt := lt) hL DF16 (by rw [A7 _ (by omega), A6 _ (by omega), A36]) (fun j hj => by rw [A7 _ (by omega), A6 _ (by omega), A35 j hj]) hb16 (LT6.fy ⟨A7, B7⟩) ?_
  have hct : fb_ct (fun i => lt (p i)) F = fb_ct lt 16 := by
    rw [← DF, ← Dp]
    refine ord_ct (fun r hr h0 => ?_)
    rw [Dlt r hr]
    exact decide_eq_false (fun h9 => h9.1 h0)
  rw [hct]
  have hc16 := fb_ct_le lt 16
  -- pardon
  have send : ∀ P : Int32, P = (if fb_ct lt 16 * 5 ≤ F then 0 else 1) → ok (f_X9_closes_L222 o (nI L) (fun v40 d39 => some (v40, d39)) z_N 0 0 (z_up (z_up m7 (o + 1) (56 + 325 * L + 10) (nI (fb_ct lt 16))) (o + 1) (56 + 325 * L + 11) P)) (fun v => v.1 = nI (fb_ct ou n) ∧ MP d v.2 o L n kd N F bb p Bg (rfin (d (o + 1)) (56 + 325 * L)) T lt PF ou) := by
    intro P hP
    generalize hm8 : z_up (z_up m7 (o + 1) (56 + 325 * L + 10) (nI (fb_ct lt 16))) (o + 1) (56 + 325 * L + 11) P = m8
    have A8 : ∀ a, ¬ a = o + 1 → m8 a = m3 a := fun a ha => by rw [← hm8, u_a ha, u_a ha, A7 _ ha, A6 _ ha]
    have B8 : ∀ k, ¬ k = 56 + 325 * L + 10 → ¬ k = 56 + 325 * L + 11 → m8 (o + 1) k = m7 (o + 1) k := fun k x1 x2 => by rw [← hm8, x_un (by omega), x_un (by omega)]
    have B810 : m8 (o + 1) (56 + 325 * L + 10) = nI (fb_ct lt 16) := by rw [← hm8, x_un (by omega), x_ue rfl rfl]
    have B811 : m8 (o + 1) (56 + 325 * L + 11) = P := by rw [← hm8, x_ue rfl rfl]
    clear hm8
    have B8d : ∀ k, ¬ k = 3 → (k < 59 + 325 * L ∨ 68 + 325 * L ≤ k) → (∀ j, j < F → k ≠ 183 + 325 * L + 12 * p j + 5 ∧ k ≠ 183 + 325 * L + 12 * p j + 6 ∧ k ≠ 183 + 325 * L + 12 * p j + 7 ∧ k ≠ 183 + 325 * L + 12 * p j + 8) → (∀ r, r < 16 → k ≠ 183 + 325 * L + 12 * r + 9 ∧ k ≠ 183 + 325 * L + 12 * r + 10 ∧ k ≠ 183 + 325 * L + 12 * r + 11) → m8 (o + 1) k = d (o + 1) k := fun k x1 x2 x3 x4 => by rw [B8 _ (by omega) (by omega), B7 _ x4, B6d _ x1 (by omega) x3]
    have LT8 : LT m8 o L lt := fun r hr => by
      rw [B8 _ (by omega) (by omega), B8 _ (by omega) (by omega), B8 _ (by omega) (by omega), B8 _ (by omega) (by omega)]
      exact (LT6.fy ⟨A7, B7⟩) r hr
    refine ok_m (q_mSend (d := m8) (o := o) (s := L) (n := n) (lt := lt) (ou := ou) hL hn16 (by rw [B8d _ (by omega) (by omega) (fun j hj => by omega) (fun r hr => by omega), g1.2.1.1]) LT8 (fun r hr => ?_)) (fun v hv => ?_)
    · rw [Dou r hr, B8d (10 + 3 * r) (by omega) (by omega) (fun j hj => by omega) (fun r hr => by omega), B811, hP, B8d (183 + 325 * L + 12 * r) (by omega) (by omega) (fun j hj => by omega) (fun r hr => by omega), show d (o + 1) (183 + 325 * L + 12 * r) = rfin (d (o + 1)) (56 + 325 * L) r by unfold rfin; rw [show 183 + 325 * L + 12 * r = 56 + 325 * L + 127 + 12 * r by omega]]
      refine decide_eq_decide.mpr ?_
      have hct : (if fb_ct lt 16 * 5 ≤ F then (0 : Int32) else 1) = 0 ↔ fb_ct lt 16 * 5 ≤ F := by
        by_cases h9 : fb_ct lt 16 * 5 ≤ F
        · rw [if_pos h9]; exact ⟨fun _ => h9, fun _ => rfl⟩
        · rw [if_neg h9]; exact ⟨fun h8 => absurd h8 (by decide), fun h8 => absurd h8 h9⟩
      rw [hct]
    · obtain ⟨v1, v2, v3, v4⟩ := hv
      have V : ∀ k, 56 ≤ k → v.2 (o + 1) k = m8 (o + 1) k := fun k hk => v3 k (fun r hr => by omega)
      refine ⟨v1, ⟨fun a x1 x2 x3 => ?_, fun k hk => ?_⟩, ⟨fun k x1 x2 x3 => ?_, ?_, fun r hr => ?_⟩, fun k x1 x2 x3 => ?_, ⟨?_, ?_, ?_, ?_, ?_, ?_, ?_⟩, fun r w hr hw hh => ?_, fun j hj => ⟨?_, ?_, ?_, ?_⟩, fun r hr => ?_⟩
      · rw [v2 _ x2, A8 _ x2, A3 _ x1 x2 x3]
      · rw [v2 _ (by omega), A8 _ (by omega), A3o k hk]
      · rw [v3 k x2, B8d _ x1 (by omega) (fun j hj => by have := hb16 j hj; omega) (fun r hr => by omega)]
      · rw [v3 3 (fun r hr => by omega), B8 _ (by omega) (by omega), B7 _ (fun r hr => by omega), B6 _ (by omega), B5 _ (fun j hj => by omega), B4 _ (by omega) (fun j hj => by omega), B3 _ (by omega), B13]
      · rw [v4 r hr, B8d _ (by omega) (by omega) (fun j hj => by omega) (fun r hr => by omega)]
      · rw [V _ (by omega), B8d _ (by omega) (by omega) (fun j hj => by omega) (fun r hr => by omega)]
      · rw [V _ (by omega), B8 _ (by omega) (by omega), B7 _ (fun r hr => by omega), B6 _ (by omega), B5 _ (fun j hj => by omega), B4 _ (by omega) (fun j hj => by omega), B35]
      · rw [V _ (by omega), B8 _ (by omega) (by omega), B7 _ (fun r hr => by omega), B6 _ (by omega), B5 _ (fun j hj => by omega), B46]
      · rw [V _ (by omega), B8 _ (by omega) (by omega), B7 _ (fun r hr => by omega), B67]
      · rw [V _ (by omega), B8 _ (by omega) (by omega), B7 _ (fun r hr => by omega), B68]
      · rw [V _ (by omega), B8 _ (by omega) (by omega), B7 _ (fun r hr => by omega), B69]
      · rw [V _ (by omega), B810]
      · rw [V _ (by omega), B811, hP]
      · rw [V _ (by omega), B8d _ (by omega) (by omega) (fun j hj => by
          rcases hh with hh | hh
          · omega
          · have := hh j hj
            omega) (fun q hq => by omega)]
      · rw [V _ (by omega), B8 _ (by omega) (by omega), B7 _ (fun r hr => by omega), B6 _ (by omega), B5 _ (fun i hi => by omega), (R4 j hj).1]
      · rw [V _ (by omega), B8 _ (by omega) (by omega), B7 _ (fun r hr => by omega), B6 _ (by omega), T5' j hj]
      · rw [V _ (by omega), B8 _ (by omega) (by omega), B7 _ (fun r hr => by omega), B6 _ (by omega), B5 _ (fun i hi => by omega), (R4 j hj).2.1]
      · rw [V _ (by omega), B8 _ (by omega) (by omega), B7 _ (fun r hr => by omega), B6 _ (by omega), B5 _ (fun i hi => by omega), (R4 j hj).2.2]
      · rw [V _ (by omega), V _ (by omega), V _ (by omega), B8 _ (by omega) (by omega), B8 _ (by omega) (by omega), B8 _ (by omega) (by omega)]
        exact P7 r hr
  show ok (if (5 : Int32) * nI (fb_ct lt 16) ≤ m7 o 6 then _ else _) _
  rw [A7 _ (by omega), A6 _ (by omega), A36, show (5 : Int32) * nI (fb_ct lt 16) = nI (5 * fb_ct lt 16) from pk_mul 5 _]
  by_cases h5 : fb_ct lt 16 * 5 ≤ F
  · rw [if_pos ((nI_leI (by omega) (by omega)).mpr (by omega))]
    exact send 0 (by rw [if_pos h5])
  · rw [if_neg (fun h9 => h5 (by have := (nI_leI (by omega) (by omega)).mp h9; omega))]
    exact send 1 (by rw [if_neg h5])
