/-! 84.stm: statements told: riders, the jury, grace, quitting, rules -/
theorem x_al0 {α : Type} {d : z_D} {a N : Nat} {K : Int32 → Option α} (h : 0 < N) (hN : N < 2 ^ 31) : z_ald d a N 0 K = K (d a 0) := x_aldL 0 h hN
theorem x_al1 {α : Type} {d : z_D} {a N : Nat} {K : Int32 → Option α} (h : 1 < N) (hN : N < 2 ^ 31) : z_ald d a N 1 K = K (d a 1) := x_aldL 1 h hN
theorem x_al2 {α : Type} {d : z_D} {a N : Nat} {K : Int32 → Option α} (h : 2 < N) (hN : N < 2 ^ 31) : z_ald d a N 2 K = K (d a 2) := x_aldL 2 h hN
theorem q_takeRider (d : z_D) (b c : Nat) : f_X7_takeRider d b c = f_X6_takeInt d c 0 (d b 1 - 1) := by
  unfold f_X7_takeRider
  cases f_X6_takeInt d c 0 (d b 1 - 1) with
  | none => rfl
  | some x => rfl
theorem q_lastRider (d : z_D) (o : Nat) : f_X9_lastRider d o = some (d (o + 1) 1 - 1) := by
  unfold f_X9_lastRider
  rw [x_al1 (by omega) (by omega)]
theorem RT_F {d dm d1 dm1 : z_D} {b c o L q wp : Nat} {y : Int32} {act : z_D → Option z_D} (hy : bl y) (h : LF d1 c dm1 o) (hw : ∃ ρ t n s, St d1 b ρ t n s) (f1 : Fk b c d d1) (f2 : Fw o dm dm1) : ok (some (y, d1)) (fun v => bl v.1 ∧ ok (f_X6_endStatement v.2 c (nI wp) v.1) (fun d' => ok (z_bX (f_X9_ends dm1 o) (fun v dx => if v = 0 then some dx else act dx)) (fun dm' => PS b c o L q d dm d' dm'))) := by
  rw [ok_s]
  refine ⟨hy, ok_m (j_finF (L := L) (p0 := q) (act := act) h hw) (fun d' hd => ok_m hd (fun dm' hm => ?_))⟩
  exact hm.pre f1 f2 (Nat.le_refl _)
theorem RT_X {d dm d1 dm1 : z_D} {b c o L q q1 M wp : Nat} {y : Int32} {act : z_D → Option z_D} (hy : bl y) (hc : b + 173 ≤ c) (hs : SX d1 c dm1 o L) (h : LX d1 c dm1 o L q1 M) (hq : q ≤ q1) (hwp : wp ≤ 600) (hw : ∃ ρ t n s, St d1 b ρ t n s) (f1 : Fk b c d d1) (f2 : Fw o dm dm1)
    (ha : ∀ dm2 : z_D, dm2 (o + 1) = dm1 (o + 1) → dm2 (o + 9) = dm1 (o + 9) → dm2 o 15 = 0 → dm2 o 17 = nI M → ok (act dm2) (fun dm3 => Fw o dm2 dm3 ∧ dm3 o 13 = dm2 o 13 ∧ ((¬ y = 0 ∧ dm3 o 15 = 0 ∧ ∃ t n s, St d1 b (dm3 (o + 1)) t n s) ∨ (y = 0 ∧ dm3 o 15 = nI (3 + 8 * wp))))) : ok (some (y, d1)) (fun v => bl v.1 ∧ ok (f_X6_endStatement v.2 c (nI wp) v.1) (fun d' => ok (z_bX (f_X9_ends dm1 o) (fun v dx => if v = 0 then some dx else act dx)) (fun dm' => PS b c o L q d dm d' dm'))) := by
  rw [ok_s]
  refine ⟨hy, ok_m (j_fin (y := y) (act := act) hc hs h hwp hw ha) (fun d' hd => ok_m hd (fun dm' hm => ?_))⟩
  exact hm.pre f1 f2 hq
theorem St.t {d d' : z_D} {b c t n s : Nat} {ρ : Nat → Int32} (h : St d b ρ t n s) (hc : b + 173 ≤ c) (f : Ft c d d') : St d' b ρ t n s := h.congr (fun a _ a2 => f.1 a (by omega))
/-- the model has done it, or says that it can't be done -/
theorem fin_c {D : z_D} {o wp : Nat} {x : Int32} (h15 : D o 15 = 0) : ok ((f_X9_can D o x (nI wp)).bind fun d => some d) (fun dm3 => Fw o D dm3 ∧ dm3 o 13 = D o 13 ∧ dm3 (o + 1) = D (o + 1) ∧ ((¬ x = 0 ∧ dm3 o 15 = 0) ∨ (x = 0 ∧ dm3 o 15 = nI (3 + 8 * wp)))) := by
  by_cases hx : x = 0
  · rw [m_can0 hx h15, x_ob, ok_s]
    exact ⟨(Fl.u (by omega)).w, u_k (by omega), u_a (by omega), Or.inr ⟨hx, u_s _ _ _ _⟩⟩
  · rw [m_can1 hx, x_ob, ok_s]
    exact ⟨Fw.rf, rfl, rfl, Or.inl ⟨hx, h15⟩⟩
theorem fin_b {D dm2 d1 : z_D} {b o wp : Nat} {x y : Int32} (h15 : D o 15 = 0) (hxy : x = 0 ↔ y = 0) (hD : Fw o dm2 D) (h13 : D o 13 = dm2 o 13) (hst : ∃ t n s, St d1 b (D (o + 1)) t n s) : ok ((f_X9_can D o x (nI wp)).bind fun d => some d) (fun dm3 => Fw o dm2 dm3 ∧ dm3 o 13 = dm2 o 13 ∧ ((¬ y = 0 ∧ dm3 o 15 = 0 ∧ ∃ t n s, St d1 b (dm3 (o + 1)) t n s) ∨ (y = 0 ∧ dm3 o 15 = nI (3 + 8 * wp)))) := by
  refine ok_m (fin_c h15) (fun dm3 h3 => ?_)
  obtain ⟨a1, a2, a3, a4⟩ := h3
  refine ⟨hD.tr a1, a2.trans h13, ?_⟩
  rcases a4 with ⟨a4, a5⟩ | ⟨a4, a5⟩
  · refine Or.inl ⟨fun h9 => a4 (hxy.mpr h9), a5, ?_⟩
    rw [a3]
    exact hst
  · exact Or.inr ⟨hxy.mp a4, a5⟩
theorem b01_e {p : Prop} [Decidable p] : bl (b01 p) := b01_b
theorem bl0 : bl 0 := Or.inl rfl
theorem bl1 : bl 1 := Or.inr rfl
theorem setR_w {dm : z_D} {o : Nat} {ρ : Nat → Int32} : Fw o dm (setR dm (o + 1) ρ) ∧ (setR dm (o + 1) ρ) o = dm o := ⟨Fw.R (fun a ha => setR_n ha), setR_n (by omega)⟩
theorem s_rider {d dm : z_D} {b c o L q wp t n s : Nat} (hc : b + 173 ≤ c) (hs : SX d c dm o L) (h : LX d c dm o L q 0) (hwp : wp ≤ 600) (st : St d b (dm (o + 1)) t n s) : ok (f_X7_tellRider d b c) (fun v => bl v.1 ∧ ok (f_X6_endStatement v.2 c (nI wp) v.1) (fun d' => ok (f_X9_riderTold dm o (nI wp)) (fun dm' => PS b c o L q d dm d' dm'))) := by
  unfold f_X7_tellRider f_X9_riderTold
  have e0 : d b 0 = dm (o + 1) 0 := st.2.1.1
  rw [ok_bX, e0, x_al0 (by omega) (by omega)]
  refine ok_m (j_num hs h 0 (dm (o + 1) 0 - 1)) (fun v hv => ?_)
  obtain ⟨dm1, en1, f1, g1, hv⟩ := hv
  rw [en1, x_ob, ok_bX]
  have st1 : St v.2 b (dm (o + 1)) t n s := st.t hc f1
  have hs1 := (hs.k (b := b) f1.k hc).w g1.w
  rcases hv with ⟨-, -, h1, v1, -, q1⟩ | ⟨-, h1⟩
  rotate_left
  · obtain ⟨n1, n2⟩ := j_num0 h1 16 50
    rw [n1, n2, x_ob, ok_s, ok_bX]
    refine ok_m (k_rider st1 v.1 (-1)) (fun w hw => ?_)
    obtain ⟨-, w2, n', w3⟩ := hw
    by_cases hx : w.1 = -1
    · rw [if_pos hx]
      exact RT_F bl0 (h1.r (by rw [w2 c (Or.inr hc)])) ⟨_, _, _, _, w3⟩ (f1.k.tr (w2.k hc)) g1.w
    · rw [if_neg hx]
      exact RT_F bl1 (h1.r (by rw [w2 c (Or.inr hc)])) ⟨_, _, _, _, w3⟩ (f1.k.tr (w2.k hc)) g1.w
  refine ok_m (j_num hs1 h1 16 50) (fun v' hv' => ?_)
  obtain ⟨dm2, en2, f2, g2, hv'⟩ := hv'
  rw [en2, x_ob, ok_bX]
  have st2 : St v'.2 b (dm (o + 1)) t n s := st1.t hc f2
  have hs2 := (hs1.k (b := b) f2.k hc).w g2.w
  refine ok_m (k_rider st2 v.1 v'.1) (fun w hw => ?_)
  obtain ⟨w1, w2, n', w3⟩ := hw
  have fk : Fk b c d w.2 := (f1.k.tr f2.k).tr (w2.k hc)
  have fw : Fw o dm dm2 := g1.w.tr g2.w
  rcases hv' with ⟨-, -, h2, v2, v3, q2⟩ | ⟨-, h2⟩
  rotate_left
  · by_cases hx : w.1 = -1
    · rw [if_pos hx]
      exact RT_F bl0 (h2.r (by rw [w2 c (Or.inr hc)])) ⟨_, _, _, _, w3⟩ fk fw
    · rw [if_neg hx]
      exact RT_F bl1 (h2.r (by rw [w2 c (Or.inr hc)])) ⟨_, _, _, _, w3⟩ fk fw
  have hs3 := hs2.k (b := b) (w2.k hc) hc
  have h3 := h2.r (d' := w.2) (by rw [w2 c (Or.inr hc)])
  have er : dm2 (o + 1) = dm (o + 1) := by rw [g2.1 _ (by omega) (by omega), g1.1 _ (by omega) (by omega)]
  have t0 : dm2 (o + 9) 0 = v.1 := by rw [v3 _ (by omega), v1]
  by_cases hx : w.1 = -1
  · rw [if_pos hx]
    refine RT_X bl0 hc hs3 h3 (by omega) hwp ⟨_, _, _, _, w3⟩ fk fw (fun dx x1 x9 x15 x17 => ?_)
    have hr := m_rider (d := dx) (o := o) (dc := v'.2) (b := b) (t := t) (n := n) (s := s) (by rw [x1, er]; exact st2) v.1 v'.1
    rw [x1, er] at hr
    rw [x_al0 (by omega) (by omega), x_al1 (by omega) (by omega), x9, t0, v2, hr, x_bX, ← w1, if_pos hx]
    exact fin_b (by rw [setR_w.2]; exact x15) Iff.rfl setR_w.1 (by rw [setR_w.2]) ⟨t, n', s, by rw [setR_s]; exact w3⟩
  · rw [if_neg hx]
    refine RT_X bl1 hc hs3 h3 (by omega) hwp ⟨_, _, _, _, w3⟩ fk fw (fun dx x1 x9 x15 x17 => ?_)
    have hr := m_rider (d := dx) (o := o) (dc := v'.2) (b := b) (t := t) (n := n) (s := s) (by rw [x1, er]; exact st2) v.1 v'.1
    rw [x1, er] at hr
    rw [x_al0 (by omega) (by omega), x_al1 (by omega) (by omega), x9, t0, v2, hr, x_bX, ← w1, if_neg hx]
    exact fin_b (by rw [setR_w.2]; exact x15) Iff.rfl setR_w.1 (by rw [setR_w.2]) ⟨t, n', s, by rw [setR_s]; exact w3⟩
