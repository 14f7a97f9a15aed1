/-! 85.fall: mishaps told -/
theorem x_bY {α : Type} (x : Int64 × z_D) (f : Int64 → z_D → Option α) : z_bY (some x) f = f x.1 x.2 := Eq.trans rfl rfl
theorem LX.z {d dm dm' : z_D} {c o L q M : Nat} (h : LX d c dm o L q M) (f : Fzp o dm dm') (e : dm' o 13 = dm o 13) : LX d c dm' o L q M := by
  obtain ⟨h1, h2, h3, h4, p, p1, p2, p3, p4⟩ := h
  have eB : dm' (o + 8) = dm (o + 8) := by
    funext k
    exact f _ _ (by omega)
  exact ⟨by rw [eB]; exact h1, h2, by rw [f _ _ (by omega), h3], by rw [f _ _ (by omega), h4], p, p1, p2, by rw [e, p3], by rw [eB, p4]⟩
def lenV (ρ : Nat → Int32) (s : Nat) : Int32 := if s = 0 then 0 else ρ (57 + 325 * (s - 1))
theorem k_len {d : z_D} {b t n s : Nat} {ρ : Nat → Int32} (h : St d b ρ t n s) : f_X3_latestLength d b = some (lenV ρ s) := by
  obtain ⟨g1, g2, g3, g4, -⟩ := id h
  have hs8 := g1.2.2.1.2
  have es : d b 2 = nI s := by rw [g2.2.2.1, g1.2.2.1.1]
  unfold f_X3_latestLength lenV
  by_cases h0 : s = 0
  · rw [es, if_pos (show nI s = 0 by rw [h0, nI_0]), if_pos h0]
  · obtain ⟨k, rfl⟩ : ∃ k, s = k + 1 := ⟨s - 1, by omega⟩
    have e1 := (g4 k (by omega)).2.2.1.2.1
    rw [if_neg h0, show 57 + 325 * (k + 1 - 1) = 56 + 325 * k + 1 by omega]
    simp (disch := omega) only [↓x_let, ↓x_nam, ↓x_put, ↓x_bX, ↓x_ob, ↓x_ald, ↓x_aldL, ↓x_ast, ↓x_astL, ↓x_at0, ↓x_at_0, ↓x_mk0, ↓x_at, ↓x_atL, ↓x_at_, ↓x_at_L, ↓x_mk, ↓x_mkL, ↓x_aald, ↓x_w, ↓x_wi, ↓ok_s, ↓x_ifle_t, ↓x_ifle_f, ↓x_iflt_t, ↓x_iflt_f, ↓x_ifeq_t, ↓x_ifeq_f, ↓x_ifleL_t, ↓x_ifleL_f, ↓x_ifltL_t, ↓x_ifltL_f, ↓x_ifeqL_t, ↓x_ifeqL_f, ↓x_ifLle_t, ↓x_ifLle_f, ↓x_ifLlt_t, ↓x_ifLlt_f, ↓x_ifnm1, ↓x_ifb0, ↓x_ifb1, ↓x_if00, ↓x_if10, x_addL, x_Ladd, x_mulL, x_Lmul, nI_add, pk_mul, nI_pred, if_true, if_false, x_m1, n_a0, x_ue, x_un, es, e1]; try simp (disch := omega) only [↓x_let, ↓x_nam, ↓x_put, ↓x_bX, ↓x_ob, ↓x_ald, ↓x_aldL, ↓x_ast, ↓x_astL, ↓x_at0, ↓x_at_0, ↓x_mk0, ↓x_at, ↓x_atL, ↓x_at_, ↓x_at_L, ↓x_mk, ↓x_mkL, ↓x_aald, ↓x_w, ↓x_wi, ↓ok_s, ↓x_ifle_t, ↓x_ifle_f, ↓x_iflt_t, ↓x_iflt_f, ↓x_ifeq_t, ↓x_ifeq_f, ↓x_ifleL_t, ↓x_ifleL_f, ↓x_ifltL_t, ↓x_ifltL_f, ↓x_ifeqL_t, ↓x_ifeqL_f, ↓x_ifLle_t, ↓x_ifLle_f, ↓x_ifLlt_t, ↓x_ifLlt_f, ↓x_ifnm1, ↓x_ifb0, ↓x_ifb1, ↓x_if00, ↓x_if10, x_addL, x_Ladd, x_mulL, x_Lmul, nI_add, pk_mul, nI_pred, if_true, if_false, x_m1, n_a0, x_ue, x_un, es, e1]; try simp (disch := omega) only [↓x_let, ↓x_nam, ↓x_put, ↓x_bX, ↓x_ob, ↓x_ald, ↓x_aldL, ↓x_ast, ↓x_astL, ↓x_at0, ↓x_at_0, ↓x_mk0, ↓x_at, ↓x_atL, ↓x_at_, ↓x_at_L, ↓x_mk, ↓x_mkL, ↓x_aald, ↓x_w, ↓x_wi, ↓ok_s, ↓x_ifle_t, ↓x_ifle_f, ↓x_iflt_t, ↓x_iflt_f, ↓x_ifeq_t, ↓x_ifeq_f, ↓x_ifleL_t, ↓x_ifleL_f, ↓x_ifltL_t, ↓x_ifltL_f, ↓x_ifeqL_t, ↓x_ifeqL_f, ↓x_ifLle_t, ↓x_ifLle_f, ↓x_ifLlt_t, ↓x_ifLlt_f, ↓x_ifnm1, ↓x_ifb0, ↓x_ifb1, ↓x_if00, ↓x_if10, x_addL, x_Ladd, x_mulL, x_Lmul, nI_add, pk_mul, nI_pred, if_true, if_false, x_m1, n_a0, x_ue, x_un, es, e1]; try simp (disch := omega) only [↓x_let, ↓x_nam, ↓x_put, ↓x_bX, ↓x_ob, ↓x_ald, ↓x_aldL, ↓x_ast, ↓x_astL, ↓x_at0, ↓x_at_0, ↓x_mk0, ↓x_at, ↓x_atL, ↓x_at_, ↓x_at_L, ↓x_mk, ↓x_mkL, ↓x_aald, ↓x_w, ↓x_wi, ↓ok_s, ↓x_ifle_t, ↓x_ifle_f, ↓x_iflt_t, ↓x_iflt_f, ↓x_ifeq_t, ↓x_ifeq_f, ↓x_ifleL_t, ↓x_ifleL_f, ↓x_ifltL_t, ↓x_ifltL_f, ↓x_ifeqL_t, ↓x_ifeqL_f, ↓x_ifLle_t, ↓x_ifLle_f, ↓x_ifLlt_t, ↓x_ifLlt_f, ↓x_ifnm1, ↓x_ifb0, ↓x_ifb1, ↓x_if00, ↓x_if10, x_addL, x_Ladd, x_mulL, x_Lmul, nI_add, pk_mul, nI_pred, if_true, if_false, x_m1, n_a0, x_ue, x_un, es, e1]
theorem m_len {α : Type} {d dc : z_D} {o b t n s : Nat} (h : St dc b (d (o + 1)) t n s) (K : Int32 → Option α) : ((f_X9_latest d o).bind fun v3 => (if 0 ≤ v3 then ((f_X9_latest d o).bind fun v23 => ((f_X9_at v23 1).bind fun v24 => z_ald d (o + 1) 2656 v24 (fun v25 => (K v25)))) else (K 0))) = K (lenV (d (o + 1)) s) := by
  have hs8 := h.1.2.2.1.2
  have hl : f_X9_latest d o = some (nI s - 1) := by rw [q_latest, h.1.2.2.1.1]
  unfold lenV
  rw [hl, x_ob]
  by_cases h0 : s = 0
  · subst h0
    rw [if_neg (show ¬ (0 : Int32) ≤ nI 0 - 1 by decide), if_pos rfl]
  · obtain ⟨k, rfl⟩ : ∃ k, s = k + 1 := ⟨s - 1, by omega⟩
    rw [nI_pred, if_pos (nI_pos' (by omega)), x_ob, if_neg h0]
    show ((f_X9_at (nI k) (nI 1)).bind _) = _
    rw [x_at, x_ob, x_ald _ (by omega) (by omega), show 56 + 325 * k + 1 = 57 + 325 * (k + 1 - 1) by omega]
theorem s_fall {d dm : z_D} {b c o L q wp t n s : Nat} (hc : b + 173 ≤ c) (hs : SX d c dm o L) (h : LX d c dm o L q 0) (hwp : wp ≤ 600) (st : St d b (dm (o + 1)) t n s) : ok (f_X7_tellFall d b c) (fun v => bl v.1 ∧ ok (f_X6_endStatement v.2 c (nI wp) v.1) (fun d' => ok (f_X9_fallTold dm o (nI wp)) (fun dm' => PS b c o L q d dm d' dm'))) := by
  unfold f_X7_tellFall f_X9_fallTold
  simp only [x_let, x_nam, if_true, if_false]
  have e0 : d b 1 = dm (o + 1) 1 := st.2.1.2.1
  rw [q_takeRider, q_lastRider, x_ob, ok_bX, e0]
  refine ok_m (j_num hs h 0 (dm (o + 1) 1 - 1)) (fun v hv => ?_)
  obtain ⟨dm1, en1, f1, g1, hv⟩ := hv
  have er1 : dm1 (o + 1) = dm (o + 1) := g1.1 _ (by omega) (by omega)
  have st1 : St v.2 b (dm (o + 1)) t n s := st.t hc f1
  have hs1 := (hs.k (b := b) f1.k hc).w g1.w
  rw [en1, x_ob, m_len (dc := v.2) (b := b) (t := t) (n := n) (s := s) (by rw [er1]; exact st1), k_len st1, x_ob, ok_bX, er1]
  have nofall : ∀ x y w : Int32, bl (a_fall (dm (o + 1)) x y w).1 := fun x y w => by
    unfold a_fall
    split
    · exact bl1
    · exact bl0
  have bad : ∀ (d2 dm2 : z_D) (x y : Int32) (act : z_D → Option z_D), LF d2 c dm2 o → Ft c d d2 → Fl o dm dm2 → ok (z_bX (f_X3_addFall d2 b x y (-1)) (fun v9 d10 => z_bool v9 (some (v9, d10)))) (fun v => bl v.1 ∧ ok (f_X6_endStatement v.2 c (nI wp) v.1) (fun d' => ok (z_bX (f_X9_ends dm2 o) (fun v dx => if v = 0 then some dx else act dx)) (fun dm' => PS b c o L q d dm d' dm'))) := fun d2 dm2 x y act l1 k1 k2 => by
    rw [ok_bX]
    refine ok_m (k_fall (st.t hc k1) x y (-1)) (fun w hw => ?_)
    obtain ⟨w1, w2, w3⟩ := hw
    have hb : bl w.1 := by rw [w1]; exact nofall _ _ _
    rw [x_bl hb]
    exact RT_F hb (l1.r (by rw [w2 c (Or.inr hc)])) ⟨_, _, _, _, w3⟩ (k1.k.tr (w2.k hc)) k2.w
  rcases hv with ⟨-, -, h1, v1, -, q1⟩ | ⟨-, h1⟩
  rotate_left
  · obtain ⟨n1, n2⟩ := j_num0 h1 0 (lenV (dm (o + 1)) s)
    have h15 : ¬ dm1 o 15 = 0 := by rw [h1.2]; exact h1.1
    rw [n1, n2, x_ob, ok_s, ok_bX, k_takes0 h1.1, ok_s, if_pos rfl, if_neg h15]
    exact bad _ _ _ _ _ h1 f1 g1
  refine ok_m (j_num hs1 h1 0 (lenV (dm (o + 1)) s)) (fun v' hv' => ?_)
  obtain ⟨dm2, en2, f2, g2, hv'⟩ := hv'
  rw [en2, x_ob, ok_bX]
  have st2 : St v'.2 b (dm (o + 1)) t n s := st1.t hc f2
  have hs2 := (hs1.k (b := b) f2.k hc).w g2.w
  have er2 : dm2 (o + 1) = dm (o + 1) := by rw [g2.1 _ (by omega) (by omega), er1]
  rcases hv' with ⟨-, -, h2, v2, v3, q2⟩ | ⟨-, h2⟩
  rotate_left
  · have h15 : ¬ dm2 o 15 = 0 := by rw [h2.2]; exact h2.1
    rw [k_takes0 h2.1, ok_s, if_pos rfl, if_neg h15]
    exact bad _ _ _ _ _ h2 (f1.tr f2) (g1.tr g2)
  have t0 : dm2 (o + 9) 0 = v.1 := by rw [v3 _ (by omega), v1]
  have t1 : dm2 (o + 9) 1 = v'.1 := v2
  generalize hq2 : sx (dm1 (o + 8)) L (sx (dm (o + 8)) L q) = qq at *
  obtain ⟨p, p1, p2, p3, p4⟩ := h2.2.2.2.2
  have h15 : dm2 o 15 = 0 := h2.2.2.1
  have hkt := k_takes (w := 13) (by omega) hs2.1 hs2.2.2.1 hs2.2.2.2.1 h2.1 h2.2.1
  obtain ⟨u, eu, u1, u2, u3⟩ := m_isWord (d := dm2) (o := o) (w := 13) (x := 459818) (by omega) (by decide +kernel) hs2.1 hs2.2.2.2.2 p3 p1
  rw [p4] at u1
  have LXu := h2.z u2 (by rw [u3, p3])
  have SXu := hs2.w u2.fl.w
  have eu9 : u.2 (o + 9) = dm2 (o + 9) := by
    funext k
    exact u2 _ _ (by omega)
  have eu1 : u.2 (o + 1) = dm (o + 1) := by
    rw [← er2]
    funext k
    exact u2 _ _ (by omega)
  refine ok_m hkt (fun v6 hv6 => ?_)
  rw [if_pos h15, eu, x_bX]
  rcases hv6 with ⟨b1, b2, b3, b4, b5⟩ | ⟨b1, rfl⟩
  rotate_left
  · have u10 : u.1 = 0 := by
      rcases u1 with ⟨c1, -⟩ | ⟨-, c1⟩
      · exact absurd c1 b1
      · exact c1
    rw [u10, if_pos rfl, if_pos rfl, ok_bX]
    refine ok_m (k_fall st2 v.1 v'.1 (-1)) (fun w hw => ?_)
    obtain ⟨w1, w2, w3⟩ := hw
    have hb : bl w.1 := by rw [w1]; exact nofall _ _ _
    rw [x_bl hb]
    refine RT_X hb hc (SXu.k (b := b) (w2.k hc) hc) (LXu.r (by rw [w2 c (Or.inr hc)])) (by omega) hwp ⟨_, _, _, _, w3⟩ ((f1.k.tr f2.k).tr (w2.k hc)) ((g1.w.tr g2.w).tr u2.fl.w) (fun dx x1 x9 x15 x17 => ?_)
    have hr := m_fall (d := dx) (o := o) (dc := v'.2) (b := b) (t := t) (n := n) (s := s) (by rw [x1, eu1]; exact st2) v.1 v'.1 (-1)
    rw [x1, eu1] at hr
    rw [x_al0 (by omega) (by omega), x_al1 (by omega) (by omega), x9, eu9, t0, t1, hr, x_bX, ← w1]
    exact fin_b (by rw [setR_w.2]; exact x15) Iff.rfl setR_w.1 (by rw [setR_w.2]) ⟨t, n, s, by rw [setR_s]; exact w3⟩
  · have u11 : u.1 = 1 := by
      rcases u1 with ⟨-, c1⟩ | ⟨c1, -⟩
      · exact c1
      · exact absurd b1 c1
    obtain ⟨y, ey, y1, y2, y3, y4⟩ := m_word (d := u.2) (o := o) SXu.1 SXu.2.2.2.2 u3 p1
    have eB : u.2 (o + 8) = dm2 (o + 8) := by
      funext k
      exact u2 _ _ (by omega)
    rw [eB, p4] at y4
    have hwd := LXu.wd (w := 13) (d' := v6.2) (dm' := y.2) (by omega) (by rw [eB]; exact b1) b4 (by rw [eB]; exact b5) y2 (by rw [eB]; exact y4)
    obtain ⟨l1, l2, -⟩ := hwd
    rw [eB] at l1 l2
    have ey1 : y.2 (o + 1) = dm (o + 1) := by
      rw [← eu1]
      funext k
      exact y2 _ _ (by omega)
    have ey9 : y.2 (o + 9) = dm2 (o + 9) := by
      rw [← eu9]
      funext k
      exact y2 _ _ (by omega)
    have SXy := (SXu.k (b := b) b3.k hc).w y2.fl.w
    have st3 : St v6.2 b (dm (o + 1)) t n s := st2.t hc b3
    have e31 : v6.2 b 1 = dm (o + 1) 1 := st3.2.1.2.1
    have h10 : ¬ (1 : Int32) = 0 := by decide
    rw [u11, b2]
    simp only [if_neg h10]
    rw [ey, x_bY, q_lastRider, x_ob, q_takeRider, ok_bX, e31, ey1]
    refine ok_m (j_num SXy l1 0 (dm (o + 1) 1 - 1)) (fun v7 hv7 => ?_)
    obtain ⟨dm3, en3, f3, g3, hv7⟩ := hv7
    rw [en3, x_ob, ok_bX]
    have st4 : St v7.2 b (dm (o + 1)) t n s := st3.t hc f3
    have SX3 := (SXy.k (b := b) f3.k hc).w g3.w
    refine ok_m (k_fall st4 v.1 v'.1 v7.1) (fun w hw => ?_)
    obtain ⟨w1, w2, w3⟩ := hw
    have hb : bl w.1 := by rw [w1]; exact nofall _ _ _
    rw [x_bl hb]
    have fk : Fk b c d w.2 := (((f1.k.tr f2.k).tr b3.k).tr f3.k).tr (w2.k hc)
    have fw : Fw o dm dm3 := (((g1.w.tr g2.w).tr u2.fl.w).tr y2.fl.w).tr g3.w
    rcases hv7 with ⟨-, -, h3, v4, v5, q3⟩ | ⟨-, h3⟩
    rotate_left
    · exact RT_F hb (h3.r (by rw [w2 c (Or.inr hc)])) ⟨_, _, _, _, w3⟩ fk fw
    have er3 : dm3 (o + 1) = dm (o + 1) := by rw [g3.1 _ (by omega) (by omega), ey1]
    refine RT_X hb hc (SX3.k (b := b) (w2.k hc) hc) (h3.r (by rw [w2 c (Or.inr hc)])) (by omega) hwp ⟨_, _, _, _, w3⟩ fk fw (fun dx x1 x9 x15 x17 => ?_)
    have hr := m_fall (d := dx) (o := o) (dc := v7.2) (b := b) (t := t) (n := n) (s := s) (by rw [x1, er3]; exact st4) v.1 v'.1 v7.1
    rw [x1, er3] at hr
    have t0' : dm3 (o + 9) 0 = v.1 := by rw [v5 _ (by omega), ey9, t0]
    have t1' : dm3 (o + 9) 1 = v'.1 := by rw [v5 _ (by omega), ey9, t1]
    rw [x_al0 (by omega) (by omega), x_al1 (by omega) (by omega), x_al2 (by omega) (by omega), x9, t0', t1', v4, hr, x_bX, ← w1]
    exact fin_b (by rw [setR_w.2]; exact x15) Iff.rfl setR_w.1 (by rw [setR_w.2]) ⟨t, n, s, by rw [setR_s]; exact w3⟩
