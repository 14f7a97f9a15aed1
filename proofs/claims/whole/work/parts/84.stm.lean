/-! 84.stm: statements told: riders, the jury, grace, quitting, rules -/
theorem x_al0 {α : Type} {d : z_D} {a N : Nat} {K : Int32 → Option α} (h : 0 < N) (hN : N < 2 ^ 31) : z_ald d a N 0 K = K (d a 0) := x_aldL 0 h hN
theorem x_al1 {α : Type} {d : z_D} {a N : Nat} {K : Int32 → Option α} (h : 1 < N) (hN : N < 2 ^ 31) : z_ald d a N 1 K = K (d a 1) := x_aldL 1 h hN
theorem x_al2 {α : Type} {d : z_D} {a N : Nat} {K : Int32 → Option α} (h : 2 < N) (hN : N < 2 ^ 31) : z_ald d a N 2 K = K (d a 2) := x_aldL 2 h hN
theorem q_takeRider (d : z_D) (b c : Nat) : f_X7_takeRider d b c = f_X6_takeInt d c 0 (d b 1 - 1) := by
  unfold f_X7_takeRider
  cases f_X6_takeInt d c 0 (d b 1 - 1) with
  | none => rfl
  | some x => rfl
theorem q_lastRider (d : z_D) (o : Nat) : f_X9_lastRider d o = some (d (o + 1) 1 - 1) := by
  unfold f_X9_lastRider
  rw [x_al1 (by omega) (by omega)]
theorem RT_F {d dm d1 dm1 : z_D} {b c o L q wp : Nat} {y : Int32} {act : z_D → Option z_D} (hy : bl y) (h : LF d1 c dm1 o) (hw : ∃ ρ t n s, St d1 b ρ t n s) (f1 : Fk b c d d1) (f2 : Fw o dm dm1) : ok (some (y, d1)) (fun v => bl v.1 ∧ ok (f_X6_endStatement v.2 c (nI wp) v.1) (fun d' => ok (z_bX (f_X9_ends dm1 o) (fun v dx => if v = 0 then some dx else act dx)) (fun dm' => PS b c o L q d dm d' dm'))) := by
  rw [ok_s]
  refine ⟨hy, ok_m (j_finF (L := L) (p0 := q) (act := act) h hw) (fun d' hd => ok_m hd (fun dm' hm => ?_))⟩
  exact hm.pre f1 f2 (Nat.le_refl _)
theorem RT_X {d dm d1 dm1 : z_D} {b c o L q q1 M wp : Nat} {y : Int32} {act : z_D → Option z_D} (hy : bl y) (hc : b + 173 ≤ c) (hs : SX d1 c dm1 o L) (h : LX d1 c dm1 o L q1 M) (hq : q ≤ q1) (hwp : wp ≤ 600) (hw : ∃ ρ t n s, St d1 b ρ t n s) (f1 : Fk b c d d1) (f2 : Fw o dm dm1)
    (ha : ∀ dm2 : z_D, dm2 (o + 1) = dm1 (o + 1) → dm2 (o + 9) = dm1 (o + 9) → dm2 o 15 = 0 → dm2 o 17 = nI M → ok (act dm2) (fun dm3 => Fw o dm2 dm3 ∧ dm3 o 13 = dm2 o 13 ∧ ((¬ y = 0 ∧ dm3 o 15 = 0 ∧ ∃ t n s, St d1 b (dm3 (o + 1)) t n s) ∨ (y = 0 ∧ dm3 o 15 = nI (3 + 8 * wp))))) : ok (some (y, d1)) (fun v => bl v.1 ∧ ok (f_X6_endStatement v.2 c (nI wp) v.1) (fun d' => ok (z_bX (f_X9_ends dm1 o) (fun v dx => if v = 0 then some dx else act dx)) (fun dm' => PS b c o L q d dm d' dm'))) := by
  rw [ok_s]
  refine ⟨hy, ok_m (j_fin (y := y) (act := act) hc hs h hwp hw ha) (fun d' hd => ok_m hd (fun dm' hm => ?_))⟩
  exact hm.pre f1 f2 hq
theorem St.t {d d' : z_D} {b c t n s : Nat} {ρ : Nat → Int32} (h : St d b ρ t n s) (hc : b + 173 ≤ c) (f : Ft c d d') : St d' b ρ t n s := h.congr (fun a _ a2 => f.1 a (by omega))
/-- the model has done it, or says that it can't be done -/
theorem fin_c {D : z_D} {o wp : Nat} {x : Int32} (h15 : D o 15 = 0) : ok ((f_X9_can D o x (nI wp)).bind fun d => some d) (fun dm3 => Fw o D dm3 ∧ dm3 o 13 = D o 13 ∧ dm3 (o + 1) = D (o + 1) ∧ ((¬ x = 0 ∧ dm3 o 15 = 0) ∨ (x = 0 ∧ dm3 o 15 = nI (3 + 8 * wp)))) := by
  by_cases hx : x = 0
  · rw [m_can0 hx h15, x_ob, ok_s]
    exact ⟨(Fl.u (by omega)).w, u_k (by omega), u_a (by omega), Or.inr ⟨hx, u_s _ _ _ _⟩⟩
  · rw [m_can1 hx, x_ob, ok_s]
    exact ⟨Fw.rf, rfl, rfl, Or.inl ⟨hx, h15⟩⟩
theorem fin_b {D dm2 d1 : z_D} {b o wp : Nat} {x y : Int32} (h15 : D o 15 = 0) (hxy : x = 0 ↔ y = 0) (hD : Fw o dm2 D) (h13 : D o 13 = dm2 o 13) (hst : ∃ t n s, St d1 b (D (o + 1)) t n s) : ok ((f_X9_can D o x (nI wp)).bind fun d => some d) (fun dm3 => Fw o dm2 dm3 ∧ dm3 o 13 = dm2 o 13 ∧ ((¬ y = 0 ∧ dm3 o 15 = 0 ∧ ∃ t n s, St d1 b (dm3 (o + 1)) t n s) ∨ (y = 0 ∧ dm3 o 15 = nI (3 + 8 * wp)))) := by
  refine ok_m (fin_c h15) (fun dm3 h3 => ?_)
  obtain ⟨a1, a2, a3, a4⟩ := h3
  refine ⟨hD.tr a1, a2.trans h13, ?_⟩
  rcases a4 with ⟨a4, a5⟩ | ⟨a4, a5⟩
  · refine Or.inl ⟨fun h9 => a4 (hxy.mpr h9), a5, ?_⟩
    rw [a3]
    exact hst
  · exact Or.inr ⟨hxy.mp a4, a5⟩
theorem b01_e {p : Prop} [Decidable p] : bl (b01 p) := b01_b
theorem bl0 : bl 0 := Or.inl rfl
theorem bl1 : bl 1 := Or.inr rfl
theorem setR_w {dm : z_D} {o : Nat} {ρ : Nat → Int32} : Fw o dm (setR dm (o + 1) ρ) ∧ (setR dm (o + 1) ρ) o = dm o := ⟨Fw.R (fun a ha => setR_n ha), setR_n (by omega)⟩
theorem s_rider {d dm : z_D} {b c o L q wp t n s : Nat} (hc : b + 173 ≤ c) (hs : SX d c dm o L) (h : LX d c dm o L q 0) (hwp : wp ≤ 600) (st : St d b (dm (o + 1)) t n s) : ok (f_X7_tellRider d b c) (fun v => bl v.1 ∧ ok (f_X6_endStatement v.2 c (nI wp) v.1) (fun d' => ok (f_X9_riderTold dm o (nI wp)) (fun dm' => PS b c o L q d dm d' dm'))) := by
  unfold f_X7_tellRider f_X9_riderTold
  have e0 : d b 0 = dm (o + 1) 0 := st.2.1.1
  rw [ok_bX, e0, x_al0 (by omega) (by omega)]
  refine ok_m (j_num hs h 0 (dm (o + 1) 0 - 1)) (fun v hv => ?_)
  obtain ⟨dm1, en1, f1, g1, hv⟩ := hv
  rw [en1, x_ob, ok_bX]
  have st1 : St v.2 b (dm (o + 1)) t n s := st.t hc f1
  have hs1 := (hs.k (b := b) f1.k hc).w g1.w
  rcases hv with ⟨-, -, h1, v1, -, q1⟩ | ⟨-, h1⟩
  rotate_left
  · obtain ⟨n1, n2⟩ := j_num0 h1 16 50
    rw [n1, n2, x_ob, ok_s, ok_bX]
    refine ok_m (k_rider st1 v.1 (-1)) (fun w hw => ?_)
    obtain ⟨-, w2, n', w3⟩ := hw
    by_cases hx : w.1 = -1
    · rw [if_pos hx]
      exact RT_F bl0 (h1.r (by rw [w2 c (Or.inr hc)])) ⟨_, _, _, _, w3⟩ (f1.k.tr (w2.k hc)) g1.w
    · rw [if_neg hx]
      exact RT_F bl1 (h1.r (by rw [w2 c (Or.inr hc)])) ⟨_, _, _, _, w3⟩ (f1.k.tr (w2.k hc)) g1.w
  refine ok_m (j_num hs1 h1 16 50) (fun v' hv' => ?_)
  obtain ⟨dm2, en2, f2, g2, hv'⟩ := hv'
  rw [en2, x_ob, ok_bX]
  have st2 : St v'.2 b (dm (o + 1)) t n s := st1.t hc f2
  have hs2 := (hs1.k (b := b) f2.k hc).w g2.w
  refine ok_m (k_rider st2 v.1 v'.1) (fun w hw => ?_)
  obtain ⟨w1, w2, n', w3⟩ := hw
  have fk : Fk b c d w.2 := (f1.k.tr f2.k).tr (w2.k hc)
  have fw : Fw o dm dm2 := g1.w.tr g2.w
  rcases hv' with ⟨-, -, h2, v2, v3, q2⟩ | ⟨-, h2⟩
  rotate_left
  · by_cases hx : w.1 = -1
    · rw [if_pos hx]
      exact RT_F bl0 (h2.r (by rw [w2 c (Or.inr hc)])) ⟨_, _, _, _, w3⟩ fk fw
    · rw [if_neg hx]
      exact RT_F bl1 (h2.r (by rw [w2 c (Or.inr hc)])) ⟨_, _, _, _, w3⟩ fk fw
  have hs3 := hs2.k (b := b) (w2.k hc) hc
  have h3 := h2.r (d' := w.2) (by rw [w2 c (Or.inr hc)])
  have er : dm2 (o + 1) = dm (o + 1) := by rw [g2.1 _ (by omega) (by omega), g1.1 _ (by omega) (by omega)]
  have t0 : dm2 (o + 9) 0 = v.1 := by rw [v3 _ (by omega), v1]
  by_cases hx : w.1 = -1
  · rw [if_pos hx]
    refine RT_X bl0 hc hs3 h3 (by omega) hwp ⟨_, _, _, _, w3⟩ fk fw (fun dx x1 x9 x15 x17 => ?_)
    have hr := m_rider (d := dx) (o := o) (dc := v'.2) (b := b) (t := t) (n := n) (s := s) (by rw [x1, er]; exact st2) v.1 v'.1
    rw [x1, er] at hr
    rw [x_al0 (by omega) (by omega), x_al1 (by omega) (by omega), x9, t0, v2, hr, x_bX, ← w1, if_pos hx]
    exact fin_b (by rw [setR_w.2]; exact x15) Iff.rfl setR_w.1 (by rw [setR_w.2]) ⟨t, n', s, by rw [setR_s]; exact w3⟩
  · rw [if_neg hx]
    refine RT_X bl1 hc hs3 h3 (by omega) hwp ⟨_, _, _, _, w3⟩ fk fw (fun dx x1 x9 x15 x17 => ?_)
    have hr := m_rider (d := dx) (o := o) (dc := v'.2) (b := b) (t := t) (n := n) (s := s) (by rw [x1, er]; exact st2) v.1 v'.1
    rw [x1, er] at hr
    rw [x_al0 (by omega) (by omega), x_al1 (by omega) (by omega), x9, t0, v2, hr, x_bX, ← w1, if_neg hx]
    exact fin_b (by rw [setR_w.2]; exact x15) Iff.rfl setR_w.1 (by rw [setR_w.2]) ⟨t, n', s, by rw [setR_s]; exact w3⟩
theorem s_jury {d dm : z_D} {b c o L q wp t n s : Nat} (hc : b + 173 ≤ c) (hs : SX d c dm o L) (h : LX d c dm o L q 0) (hwp : wp ≤ 600) (st : St d b (dm (o + 1)) t n s) : ok (f_X7_tellJury d b c) (fun v => bl v.1 ∧ ok (f_X6_endStatement v.2 c (nI wp) v.1) (fun d' => ok (f_X9_juryTold dm o (nI wp)) (fun dm' => PS b c o L q d dm d' dm'))) := by
  unfold f_X7_tellJury f_X9_juryTold
  have e0 : d b 1 = dm (o + 1) 1 := st.2.1.2.1
  rw [q_takeRider, q_lastRider, x_ob, ok_bX, e0]
  refine ok_m (j_num hs h 0 (dm (o + 1) 1 - 1)) (fun v hv => ?_)
  obtain ⟨dm1, en1, f1, g1, hv⟩ := hv
  rw [en1, x_ob, ok_bX]
  have st1 : St v.2 b (dm (o + 1)) t n s := st.t hc f1
  have hs1 := (hs.k (b := b) f1.k hc).w g1.w
  rcases hv with ⟨-, -, h1, v1, -, q1⟩ | ⟨-, h1⟩
  rotate_left
  · obtain ⟨n1, n2⟩ := j_num0 h1 1 3600
    rw [n1, n2, x_ob, ok_s, ok_bX]
    refine ok_m (k_jury st1 v.1 (-1)) (fun w hw => ?_)
    obtain ⟨-, w2, w3⟩ := hw
    by_cases hx : w.1 = -1
    · rw [if_pos hx]
      exact RT_F bl0 (h1.r (by rw [w2 c (Or.inr hc)])) ⟨_, _, _, _, w3⟩ (f1.k.tr (w2.k hc)) g1.w
    · rw [if_neg hx]
      exact RT_F bl1 (h1.r (by rw [w2 c (Or.inr hc)])) ⟨_, _, _, _, w3⟩ (f1.k.tr (w2.k hc)) g1.w
  refine ok_m (j_num hs1 h1 1 3600) (fun v' hv' => ?_)
  obtain ⟨dm2, en2, f2, g2, hv'⟩ := hv'
  rw [en2, x_ob, ok_bX]
  have st2 : St v'.2 b (dm (o + 1)) t n s := st1.t hc f2
  have hs2 := (hs1.k (b := b) f2.k hc).w g2.w
  refine ok_m (k_jury st2 v.1 v'.1) (fun w hw => ?_)
  obtain ⟨w1, w2, w3⟩ := hw
  have fk : Fk b c d w.2 := (f1.k.tr f2.k).tr (w2.k hc)
  have fw : Fw o dm dm2 := g1.w.tr g2.w
  rcases hv' with ⟨-, -, h2, v2, v3, q2⟩ | ⟨-, h2⟩
  rotate_left
  · by_cases hx : w.1 = -1
    · rw [if_pos hx]
      exact RT_F bl0 (h2.r (by rw [w2 c (Or.inr hc)])) ⟨_, _, _, _, w3⟩ fk fw
    · rw [if_neg hx]
      exact RT_F bl1 (h2.r (by rw [w2 c (Or.inr hc)])) ⟨_, _, _, _, w3⟩ fk fw
  have hs3 := hs2.k (b := b) (w2.k hc) hc
  have h3 := h2.r (d' := w.2) (by rw [w2 c (Or.inr hc)])
  have er : dm2 (o + 1) = dm (o + 1) := by rw [g2.1 _ (by omega) (by omega), g1.1 _ (by omega) (by omega)]
  have t0 : dm2 (o + 9) 0 = v.1 := by rw [v3 _ (by omega), v1]
  by_cases hx : w.1 = -1
  · rw [if_pos hx]
    refine RT_X bl0 hc hs3 h3 (by omega) hwp ⟨_, _, _, _, w3⟩ fk fw (fun dx x1 x9 x15 x17 => ?_)
    have hr := m_jury (d := dx) (o := o) (dc := v'.2) (b := b) (t := t) (n := n) (s := s) (by rw [x1, er]; exact st2) v.1 v'.1
    rw [x1, er] at hr
    rw [x_al0 (by omega) (by omega), x_al1 (by omega) (by omega), x9, t0, v2, hr, x_bX, ← w1, if_pos hx]
    exact fin_b (by rw [setR_w.2]; exact x15) Iff.rfl setR_w.1 (by rw [setR_w.2]) ⟨t, n, s, by rw [setR_s]; exact w3⟩
  · rw [if_neg hx]
    refine RT_X bl1 hc hs3 h3 (by omega) hwp ⟨_, _, _, _, w3⟩ fk fw (fun dx x1 x9 x15 x17 => ?_)
    have hr := m_jury (d := dx) (o := o) (dc := v'.2) (b := b) (t := t) (n := n) (s := s) (by rw [x1, er]; exact st2) v.1 v'.1
    rw [x1, er] at hr
    rw [x_al0 (by omega) (by omega), x_al1 (by omega) (by omega), x9, t0, v2, hr, x_bX, ← w1, if_neg hx]
    exact fin_b (by rw [setR_w.2]; exact x15) Iff.rfl setR_w.1 (by rw [setR_w.2]) ⟨t, n, s, by rw [setR_s]; exact w3⟩
theorem s_grace {d dm : z_D} {b c o L q wp t n s : Nat} (hc : b + 173 ≤ c) (hs : SX d c dm o L) (h : LX d c dm o L q 0) (hwp : wp ≤ 600) (st : St d b (dm (o + 1)) t n s) : ok (z_bX (f_X7_takeRider d b c) (fun v41 d42 => z_bX (f_X3_addGrace d42 b v41) (fun v43 d44 => (z_bool v43 (some (v43, d44)))))) (fun v => bl v.1 ∧ ok (f_X6_endStatement v.2 c (nI wp) v.1) (fun d' => ok (f_X9_oneTold dm o (nI wp) 1) (fun dm' => PS b c o L q d dm d' dm'))) := by
  unfold f_X9_oneTold
  have e0 : d b 1 = dm (o + 1) 1 := st.2.1.2.1
  rw [q_takeRider, q_lastRider, x_ob, ok_bX, e0]
  refine ok_m (j_num hs h 0 (dm (o + 1) 1 - 1)) (fun v hv => ?_)
  obtain ⟨dm1, en1, f1, g1, hv⟩ := hv
  rw [en1, x_ob, ok_bX]
  have st1 : St v.2 b (dm (o + 1)) t n s := st.t hc f1
  have hs1 := (hs.k (b := b) f1.k hc).w g1.w
  refine ok_m (k_grace st1 v.1) (fun w hw => ?_)
  obtain ⟨w1, w2, w3⟩ := hw
  have hb : bl w.1 := by
    rw [w1]
    unfold a_grace
    split
    · exact bl1
    · exact bl0
  rw [x_bl hb]
  have fk : Fk b c d w.2 := f1.k.tr (w2.k hc)
  rcases hv with ⟨-, -, h1, v1, -, q1⟩ | ⟨-, h1⟩
  rotate_left
  · exact RT_F hb (h1.r (by rw [w2 c (Or.inr hc)])) ⟨_, _, _, _, w3⟩ fk g1.w
  have hs3 := hs1.k (b := b) (w2.k hc) hc
  have h3 := h1.r (d' := w.2) (by rw [w2 c (Or.inr hc)])
  have er : dm1 (o + 1) = dm (o + 1) := g1.1 _ (by omega) (by omega)
  refine RT_X hb hc hs3 h3 (by omega) hwp ⟨_, _, _, _, w3⟩ fk g1.w (fun dx x1 x9 x15 x17 => ?_)
  have hr := m_grace (d := dx) (o := o) (dc := v.2) (b := b) (t := t) (n := n) (s := s) (by rw [x1, er]; exact st1) v.1
  rw [x1, er] at hr
  rw [if_neg (by decide), x_al0 (by omega) (by omega), x9, v1, hr, x_bX, ← w1]
  exact fin_b (by rw [setR_w.2]; exact x15) Iff.rfl setR_w.1 (by rw [setR_w.2]) ⟨t, n, s, by rw [setR_s]; exact w3⟩
theorem s_quit {d dm : z_D} {b c o L q wp t n s : Nat} (hc : b + 173 ≤ c) (hs : SX d c dm o L) (h : LX d c dm o L q 0) (hwp : wp ≤ 600) (st : St d b (dm (o + 1)) t n s) : ok (z_bX (f_X7_takeRider d b c) (fun v41 d42 => z_bX (f_X3_dropRider d42 b v41) (fun v43 d44 => (z_bool v43 (some (v43, d44)))))) (fun v => bl v.1 ∧ ok (f_X6_endStatement v.2 c (nI wp) v.1) (fun d' => ok (f_X9_oneTold dm o (nI wp) 0) (fun dm' => PS b c o L q d dm d' dm'))) := by
  unfold f_X9_oneTold
  have e0 : d b 1 = dm (o + 1) 1 := st.2.1.2.1
  rw [q_takeRider, q_lastRider, x_ob, ok_bX, e0]
  refine ok_m (j_num hs h 0 (dm (o + 1) 1 - 1)) (fun v hv => ?_)
  obtain ⟨dm1, en1, f1, g1, hv⟩ := hv
  rw [en1, x_ob, ok_bX]
  have st1 : St v.2 b (dm (o + 1)) t n s := st.t hc f1
  have hs1 := (hs.k (b := b) f1.k hc).w g1.w
  have er : dm1 (o + 1) = dm (o + 1) := g1.1 _ (by omega) (by omega)
  have jq : ∀ dx : z_D, dx (o + 1) = dm (o + 1) → ok (f_X3_dropRider v.2 b v.1) (fun w => ok (f_X9_quits dx o v.1) (fun u => w.1 = u.1 ∧ bl w.1 ∧ Fr b v.2 w.2 ∧ (∀ a, ¬ a = o + 1 → u.2 a = dx a) ∧ St w.2 b (u.2 (o + 1)) t n s)) := fun dx hx => j_quit (by rw [hx]; exact st1) v.1
  obtain ⟨w, ew, w0⟩ := jq dm rfl
  obtain ⟨u0, -, -, hb, w2, -, w3⟩ := w0
  rw [ew, ok_s, x_bl hb]
  have fk : Fk b c d w.2 := f1.k.tr (w2.k hc)
  rcases hv with ⟨-, -, h1, v1, -, q1⟩ | ⟨-, h1⟩
  rotate_left
  · exact RT_F hb (h1.r (by rw [w2 c (Or.inr hc)])) ⟨_, _, _, _, w3⟩ fk g1.w
  have hs3 := hs1.k (b := b) (w2.k hc) hc
  have h3 := h1.r (d' := w.2) (by rw [w2 c (Or.inr hc)])
  refine RT_X hb hc hs3 h3 (by omega) hwp ⟨_, _, _, _, w3⟩ fk g1.w (fun dx x1 x9 x15 x17 => ?_)
  obtain ⟨w', ew', u, eu, u1, -, -, u4, u5⟩ := jq dx (by rw [x1, er])
  have : w' = w := Option.some.inj (ew'.symm.trans ew)
  subst this
  rw [if_pos rfl, x_al0 (by omega) (by omega), x9, v1, eu, x_bX, ← u1]
  exact fin_b (by rw [u4 o (by omega)]; exact x15) Iff.rfl (Fw.R u4) (by rw [u4 o (by omega)]) ⟨t, n, s, u5⟩
theorem s_rule {d dm : z_D} {b c o L q wp t n s : Nat} {k : Nat} {lo hi : Int32} {F : z_D → Nat → Int32 → Option (Int32 × z_D)} (hk : k = 0 ∨ k = 1) (hc : b + 173 ≤ c) (hs : SX d c dm o L) (h : LX d c dm o L q 0) (hwp : wp ≤ 600) (st : St d b (dm (o + 1)) t n s)
    (hF : ∀ (e : z_D) v, St e b (dm (o + 1)) t n s → ok (F e b v) (fun x => bl x.1 ∧ Fr b e x.2 ∧ ((lo ≤ v ∧ v ≤ hi) → x.1 = 1) ∧ ∃ ρ, ((lo ≤ v ∧ v ≤ hi) → ρ = upd (dm (o + 1)) (4 + k) v) ∧ St x.2 b ρ t n s)) : ok (z_bX (f_X6_takeInt d c lo hi) (fun v41 d42 => z_bX (F d42 b v41) (fun v43 d44 => (z_bool v43 (some (v43, d44)))))) (fun v => bl v.1 ∧ ok (f_X6_endStatement v.2 c (nI wp) v.1) (fun d' => ok (f_X9_ruleTold dm o (nI k) lo hi) (fun dm' => PS b c o L q d dm d' dm'))) := by
  unfold f_X9_ruleTold
  rw [ok_bX]
  refine ok_m (j_num hs h lo hi) (fun v hv => ?_)
  obtain ⟨dm1, en1, f1, g1, hv⟩ := hv
  rw [en1, x_ob, ok_bX]
  have st1 : St v.2 b (dm (o + 1)) t n s := st.t hc f1
  have hs1 := (hs.k (b := b) f1.k hc).w g1.w
  refine ok_m (hF v.2 v.1 st1) (fun w hw => ?_)
  obtain ⟨hb, w2, w1, ρ, w4, w3⟩ := hw
  rw [x_bl hb]
  have fk : Fk b c d w.2 := f1.k.tr (w2.k hc)
  rcases hv with ⟨-, hin, h1, v1, -, q1⟩ | ⟨-, h1⟩
  rotate_left
  · exact RT_F hb (h1.r (by rw [w2 c (Or.inr hc)])) ⟨_, _, _, _, w3⟩ fk g1.w
  have hs3 := hs1.k (b := b) (w2.k hc) hc
  have h3 := h1.r (d' := w.2) (by rw [w2 c (Or.inr hc)])
  have er : dm1 (o + 1) = dm (o + 1) := g1.1 _ (by omega) (by omega)
  refine RT_X hb hc hs3 h3 (by omega) hwp ⟨_, _, _, _, w3⟩ fk g1.w (fun dx x1 x9 x15 x17 => ?_)
  rw [x_al0 (by omega) (by omega), x9, v1, x_Ladd, x_ast _ (show 4 + k < 2656 by omega) (by omega), ok_s]
  refine ⟨Fw.R (fun a ha => u_a ha), by rw [u_a (by omega)], Or.inl ⟨by rw [w1 hin]; decide, by rw [u_a (by omega)]; exact x15, t, n, s, ?_⟩⟩
  rw [up_set, setR_s, x1, er, ← w4 hin]
  exact w3
theorem s_gap {d dm : z_D} {b c o L q wp t n s : Nat} (hc : b + 173 ≤ c) (hs : SX d c dm o L) (h : LX d c dm o L q 0) (hwp : wp ≤ 600) (st : St d b (dm (o + 1)) t n s) : ok (z_bX (f_X6_takeInt d c 1 99) (fun v41 d42 => z_bX (f_X3_setGap d42 b v41) (fun v43 d44 => (z_bool v43 (some (v43, d44)))))) (fun v => bl v.1 ∧ ok (f_X6_endStatement v.2 c (nI wp) v.1) (fun d' => ok (f_X9_ruleTold dm o 0 1 99) (fun dm' => PS b c o L q d dm d' dm'))) := by
  refine s_rule (k := 0) (F := f_X3_setGap) (Or.inl rfl) hc hs h hwp st (fun e v he => ok_m (k_gap he v) (fun x hx => ?_))
  obtain ⟨x1, x2, x3⟩ := hx
  unfold a_gap at x1 x3
  by_cases hv : 1 ≤ v ∧ v ≤ 99
  · rw [if_pos hv] at x1 x3
    exact ⟨by rw [x1]; exact bl1, x2, fun _ => x1, _, fun _ => rfl, x3⟩
  · rw [if_neg hv] at x1 x3
    exact ⟨by rw [x1]; exact bl0, x2, fun h9 => absurd h9 hv, _, fun h9 => absurd h9 hv, x3⟩
theorem s_zone {d dm : z_D} {b c o L q wp t n s : Nat} (hc : b + 173 ≤ c) (hs : SX d c dm o L) (h : LX d c dm o L q 0) (hwp : wp ≤ 600) (st : St d b (dm (o + 1)) t n s) : ok (z_bX (f_X6_takeInt d c 0 9) (fun v41 d42 => z_bX (f_X3_setZone d42 b v41) (fun v43 d44 => (z_bool v43 (some (v43, d44)))))) (fun v => bl v.1 ∧ ok (f_X6_endStatement v.2 c (nI wp) v.1) (fun d' => ok (f_X9_ruleTold dm o 1 0 9) (fun dm' => PS b c o L q d dm d' dm'))) := by
  refine s_rule (k := 1) (F := f_X3_setZone) (Or.inr rfl) hc hs h hwp st (fun e v he => ok_m (k_zone he v) (fun x hx => ?_))
  obtain ⟨x1, x2, x3⟩ := hx
  unfold a_zone at x1 x3
  by_cases hv : 0 ≤ v ∧ v ≤ 9
  · rw [if_pos hv] at x1 x3
    exact ⟨by rw [x1]; exact bl1, x2, fun _ => x1, _, fun _ => rfl, x3⟩
  · rw [if_neg hv] at x1 x3
    exact ⟨by rw [x1]; exact bl0, x2, fun h9 => absurd h9 hv, _, fun h9 => absurd h9 hv, x3⟩
theorem s_team {d dm : z_D} {b c o L q wp t n s : Nat} (hc : b + 173 ≤ c) (hs : SX d c dm o L) (h : LX d c dm o L q 0) (hwp : wp ≤ 600) (st : St d b (dm (o + 1)) t n s) : ok (z_bX (f_X3_addTeam d b) (fun v57 d58 => (if v57 = (-1) then (some (0, d58)) else (some (1, d58))))) (fun v => bl v.1 ∧ ok (f_X6_endStatement v.2 c (nI wp) v.1) (fun d' => ok (z_bX (f_X9_ends dm o) (fun v22 d23 => (if v22 = 0 then (some d23) else z_bX (f_X9_teams d23 o) (fun v24 d25 => (if v24 = (-1) then ((f_X9_can d25 o 0 (nI wp)).bind fun d26 => (some d26)) else ((f_X9_can d25 o 1 (nI wp)).bind fun d27 => (some d27))))))) (fun dm' => PS b c o L q d dm d' dm'))) := by
  rw [ok_bX]
  refine ok_m (k_team st) (fun w hw => ?_)
  obtain ⟨w1, w2, t', w3⟩ := hw
  have hs3 := hs.k (b := b) (w2.k hc) hc
  have h3 := h.r (d' := w.2) (by rw [w2 c (Or.inr hc)])
  by_cases hx : w.1 = -1
  · rw [if_pos hx]
    refine RT_X bl0 hc hs3 h3 (Nat.le_refl _) hwp ⟨_, _, _, _, w3⟩ (w2.k hc) Fw.rf (fun dx x1 x9 x15 x17 => ?_)
    have hr := m_team (d := dx) (o := o) (dc := d) (b := b) (t := t) (n := n) (s := s) (by rw [x1]; exact st)
    rw [x1] at hr
    rw [hr, x_bX, ← w1, if_pos hx]
    exact fin_b (by rw [setR_w.2]; exact x15) Iff.rfl setR_w.1 (by rw [setR_w.2]) ⟨t', n, s, by rw [setR_s]; exact w3⟩
  · rw [if_neg hx]
    refine RT_X bl1 hc hs3 h3 (Nat.le_refl _) hwp ⟨_, _, _, _, w3⟩ (w2.k hc) Fw.rf (fun dx x1 x9 x15 x17 => ?_)
    have hr := m_team (d := dx) (o := o) (dc := d) (b := b) (t := t) (n := n) (s := s) (by rw [x1]; exact st)
    rw [x1] at hr
    rw [hr, x_bX, ← w1, if_neg hx]
    exact fin_b (by rw [setR_w.2]; exact x15) Iff.rfl setR_w.1 (by rw [setR_w.2]) ⟨t', n, s, by rw [setR_s]; exact w3⟩
theorem s_close {d dm : z_D} {b c o L q wp t n s : Nat} (hc : b + 173 ≤ c) (hs : SX d c dm o L) (h : LX d c dm o L q 0) (hwp : wp ≤ 600) (st : St d b (dm (o + 1)) t n s) : ok (z_bX (f_X3_closeStage d b) (fun v57 d58 => (if v57 = (-1) then (some (0, d58)) else (some (1, d58))))) (fun v => bl v.1 ∧ ok (f_X6_endStatement v.2 c (nI wp) v.1) (fun d' => ok (z_bX (f_X9_ends dm o) (fun v22 d23 => (if v22 = 0 then (some d23) else z_bX (f_X9_closes d23 o) (fun v24 d25 => (if v24 = (-1) then ((f_X9_can d25 o 0 (nI wp)).bind fun d26 => (some d26)) else ((f_X9_can d25 o 1 (nI wp)).bind fun d27 => (some d27))))))) (fun dm' => PS b c o L q d dm d' dm'))) := by
  rw [ok_bX]
  obtain ⟨w, ew, u0, -, -, w2, -, w3⟩ := j_close st
  rw [ew, ok_s]
  have hs3 := hs.k (b := b) (w2.k hc) hc
  have h3 := h.r (d' := w.2) (by rw [w2 c (Or.inr hc)])
  have fin : ∀ dx : z_D, dx (o + 1) = dm (o + 1) → dx o 15 = 0 → ok (f_X9_closes dx o) (fun u => w.1 = u.1 ∧ Fw o dx u.2 ∧ u.2 o 13 = dx o 13 ∧ u.2 o 15 = 0 ∧ St w.2 b (u.2 (o + 1)) t n s) := fun dx x1 x15 => by
    obtain ⟨w', ew', u, eu, u1, -, u4, u5⟩ := j_close (d := d) (dm := dx) (o := o) (b := b) (t := t) (n := n) (s := s) (by rw [x1]; exact st)
    have : w' = w := Option.some.inj (ew'.symm.trans ew)
    subst this
    exact ⟨u, eu, u1, u4.w, u4.2 _ (by omega), by rw [u4.2 _ (by omega)]; exact x15, u5⟩
  by_cases hx : w.1 = -1
  · rw [if_pos hx]
    refine RT_X bl0 hc hs3 h3 (Nat.le_refl _) hwp ⟨_, _, _, _, w3⟩ (w2.k hc) Fw.rf (fun dx x1 x9 x15 x17 => ?_)
    rw [ok_bX]
    refine ok_m (fin dx x1 x15) (fun u hu => ?_)
    obtain ⟨u1, u2, u3, u4, u5⟩ := hu
    rw [← u1, if_pos hx]
    exact fin_b u4 Iff.rfl u2 u3 ⟨t, n, s, u5⟩
  · rw [if_neg hx]
    refine RT_X bl1 hc hs3 h3 (Nat.le_refl _) hwp ⟨_, _, _, _, w3⟩ (w2.k hc) Fw.rf (fun dx x1 x9 x15 x17 => ?_)
    rw [ok_bX]
    refine ok_m (fin dx x1 x15) (fun u hu => ?_)
    obtain ⟨u1, u2, u3, u4, u5⟩ := hu
    rw [← u1, if_neg hx]
    exact fin_b u4 Iff.rfl u2 u3 ⟨t, n, s, u5⟩
