/-! 87.over: crossings told -/
def Ao (tv : Nat → Int32) (ρ : Nat → Int32) (k : Nat) : Bool × (Nat → Int32) := (decide (¬ (a_over ρ (tv 0) (tv (k + 1))).1 = -1), (a_over ρ (tv 0) (tv (k + 1))).2)
theorem m_overL {dx : z_D} {o wp K : Nat} {ρ : Nat → Int32} (hwp : wp ≤ 600) (hK : K + 1 ≤ 600) (x1 : dx (o + 1) = ρ) (x15 : dx o 15 = 0) (x17 : dx o 17 = nI (K + 1)) (hst : ∀ k, k < K → ∃ dc b t n s, St dc b (rp (Ao (dx (o + 9))) (true, ρ) k).2 t n s) :
    ok (f_X9_overTold_L67 o (nI wp) (fun d14 => some d14) z_N 1 dx) (fun dm3 => Fw o dx dm3 ∧ dm3 o 13 = dx o 13 ∧ (((rp (Ao (dx (o + 9))) (true, ρ) K).1 = true ∧ dm3 o 15 = 0 ∧ dm3 (o + 1) = (rp (Ao (dx (o + 9))) (true, ρ) K).2) ∨ ((rp (Ao (dx (o + 9))) (true, ρ) K).1 = false ∧ dm3 o 15 = nI (3 + 8 * wp)))) := by
  generalize htv : dx (o + 9) = tv at *
  refine zl2 (f_X9_overTold_L67_b o (nI wp) _) (fun _ => rfl) (fun m x2 e => Fw o dx e ∧ e o 13 = dx o 13 ∧ ((∃ i, m + i = K + 1 ∧ i ≤ K ∧ x2 = nI (i + 1) ∧ e (o + 9) = tv ∧ e o 15 = 0 ∧ e o 17 = nI (K + 1) ∧ (rp (Ao tv) (true, ρ) i).1 = true ∧ e (o + 1) = (rp (Ao tv) (true, ρ) i).2) ∨ (¬ e o 15 = 0 ∧ (rp (Ao tv) (true, ρ) K).1 = false ∧ e o 15 = nI (3 + 8 * wp)))) ?_ (K + 1) z_N _ _ ⟨Fw.rf, rfl, Or.inl ⟨0, by omega, by omega, rfl, htv, x15, x17, rfl, x1⟩⟩ (ltz (by omega))
  rintro R m x2 e ⟨g1, g2, g3⟩ ih
  unfold f_X9_overTold_L67_b
  rcases g3 with ⟨i, hm, hi, rfl, e9, e15, e17, hf, er⟩ | ⟨a1, a2, a3⟩
  rotate_left
  · by_cases hle : e o 17 ≤ x2
    · rw [if_pos hle, ok_s]
      exact ⟨g1, g2, Or.inr ⟨a2, a3⟩⟩
    · rw [if_neg hle, if_neg a1, ok_s]
      exact ⟨g1, g2, Or.inr ⟨a2, a3⟩⟩
  rw [e17]
  by_cases hiK : i = K
  · subst hiK
    rw [if_pos ((nI_leI (by omega) (by omega)).mpr (Nat.le_refl _)), ok_s]
    exact ⟨g1, g2, Or.inl ⟨hf, e15, er⟩⟩
  obtain ⟨dc, b, t, n, s, hst⟩ := hst i (by omega)
  have hr := m_over (d := e) (o := o) (dc := dc) (b := b) (t := t) (n := n) (s := s) (by rw [er]; exact hst) (tv 0) (tv (i + 1))
  rw [er] at hr
  have hsucc : rp (Ao tv) (true, ρ) (i + 1) = ((rp (Ao tv) (true, ρ) i).1 && decide (¬ (a_over (rp (Ao tv) (true, ρ) i).2 (tv 0) (tv (i + 1))).1 = -1), (a_over (rp (Ao tv) (true, ρ) i).2 (tv 0) (tv (i + 1))).2) := rfl
  rw [hf] at hsucc
  rw [if_neg (nI_ge (by omega) (by omega)), if_pos e15, x_al0 (by omega) (by omega), x_ald _ (by omega) (by omega), e9, hr, x_bX]
  generalize a_over (rp (Ao tv) (true, ρ) i).2 (tv 0) (tv (i + 1)) = a at *
  have s15 : (setR e (o + 1) a.2) o 15 = 0 := by rw [setR_w.2]; exact e15
  by_cases hb : a.1 = -1
  · rw [if_pos hb, m_can0 (p := wp) rfl s15, x_ob, x_addL]
    refine ih (m - 1) _ _ (by omega) ⟨(g1.tr setR_w.1).tr (Fl.u (by omega)).w, by rw [u_k (by omega), setR_w.2, g2], Or.inr ⟨?_, ?_, u_s _ _ _ _⟩⟩
    · rw [u_s]
      exact nI_ne0 (by omega) (by omega)
    · have h1 : (rp (Ao tv) (true, ρ) (i + 1)).1 = false := by
        rw [hsucc]
        show (true && decide (¬ a.1 = -1)) = false
        rw [hb]
        rfl
      have := rp_f h1 (K - (i + 1))
      rw [show i + 1 + (K - (i + 1)) = K by omega] at this
      exact this
  · rw [if_neg hb, m_can1 (by decide), x_ob, x_addL]
    refine ih (m - 1) _ _ (by omega) ⟨g1.tr setR_w.1, by rw [setR_w.2, g2], Or.inl ⟨i + 1, by omega, by omega, rfl, by rw [setR_n (by omega), e9], s15, by rw [setR_w.2]; exact e17, ?_, by rw [setR_s, hsucc]⟩⟩
    rw [hsucc]
    show (true && decide (¬ a.1 = -1)) = true
    rw [Bool.true_and]
    exact decide_eq_true hb
theorem L17u (b c : Nat) (x : Int32) (K : Int32 → z_D → Option (Int32 × z_D)) (f : Nat) : f_X7_tellCrossings_L17 b c x K (f + 1) = f_X7_tellCrossings_L17_b b c x K (f_X7_tellCrossings_L17 b c x K f) := rfl
theorem oL31u (o : Nat) (x1 : Int32) (K : z_D → Option z_D) (f : Nat) : f_X9_overTold_L31 o x1 K (f + 1) = f_X9_overTold_L31_b o x1 K (f_X9_overTold_L31 o x1 K f) := rfl
theorem lp_over {b c o L wp t n s : Nat} {ρ : Nat → Int32} {mk : Int32} (hc : b + 173 ≤ c) (hwp : wp ≤ 600) (hn : ρ 1 = nI n) : ∀ (m fc fm : Nat) (d dm : z_D) (q k : Nat), L - q ≤ m → m + 2 < fc → m + 2 < fm → SX d c dm o L → LX d c dm o L q (k + 1) → dm (o + 1) = ρ → dm (o + 9) 0 = mk → St d b (rp (Ao (dm (o + 9))) (true, ρ) k).2 t n s → (∀ j, j < k → ∃ dc b t n s, St dc b (rp (Ao (dm (o + 9))) (true, ρ) j).2 t n s) →
    ok (f_X7_tellCrossings_L17 b c mk (fun v10 d9 => (z_bool v10 (some (v10, d9)))) fc (b01 ((rp (Ao (dm (o + 9))) (true, ρ) k).1 = true)) (nI k) d) (fun v => bl v.1 ∧ ok (f_X6_endStatement v.2 c (nI wp) v.1) (fun d' => ok (f_X9_overTold_L31 o (nI wp) (fun d7 => z_bX (f_X9_ends d7 o) (fun v8 d9 => (if v8 = 0 then (some d9) else (f_X9_overTold_L67 o (nI wp) (fun d16 => (some d16)) z_N 1 d9)))) fm dm) (fun dm' => PS b c o L q d dm d' dm'))) := by
  intro m
  induction m using Nat.strongRecOn with
  | _ m ih =>
    intro fc fm d dm q k hm hfc hfm hs h hρ hmk st hst
    obtain ⟨gc, rfl⟩ : ∃ g, fc = g + 1 := ⟨fc - 1, by omega⟩
    obtain ⟨gm, rfl⟩ : ∃ g, fm = g + 1 := ⟨fm - 1, by omega⟩
    rw [L17u, oL31u]
    unfold f_X7_tellCrossings_L17_b f_X9_overTold_L31_b
    obtain ⟨s1, s2, s3, s4, s5⟩ := id hs
    obtain ⟨h1, h2, h3, h4, p, p1, p2, p3, p4⟩ := id h
    have hqL := h1.1
    have hpq : p ≤ q := by
      have := (rk_i (k := 4) (B := dm (o + 8)) (L := L) (p := p) (by omega)).1
      omega
    obtain ⟨w, ew, w1, w2, w3⟩ := m_isDigit (d := dm) (o := o) s2 s1 s5 p3 p1
    rw [p4] at w1 w3
    have hw := h.h w2 w3
    have sw := hs.w w2.fl.w
    have ew1 : w.2 (o + 1) = dm (o + 1) := by
      funext i
      exact w2 _ _ (by omega)
    have ew9 : w.2 (o + 9) = dm (o + 9) := by
      funext i
      exact w2 _ _ (by omega)
    have ew8 : w.2 (o + 8) = dm (o + 8) := by
      funext i
      exact w2 _ _ (by omega)
    have hbF : bl (b01 ((rp (Ao (dm (o + 9))) (true, ρ) k).1 = true)) := b01_b
    rw [if_neg (show ¬ (600 : Int32) ≤ nI k from fun h9 => by
      have := (nI_leI (a := 600) (by omega) (by omega)).mp h9
      omega), k_hasInt h1 h2, x_ob, x_ifb0, if_pos h3, ew, x_bX, w1, x_ifb0]
    by_cases b1 : kA (dm (o + 8)) L q = 2
    rotate_left
    · have b2 : ¬ tk (dm (o + 8)) L q = 2 := fun h9 => by
        rw [tk_n (fun h8 => b1 h8.1)] at h9
        exact b1 h9
      rw [if_neg b2, if_neg b1]
      dsimp only
      rw [x_bl hbF]
      refine RT_X hbF hc sw hw (Nat.le_refl _) hwp ⟨_, _, _, _, st⟩ Fk.rf w2.fl.w (fun dx x1 x9 x15 x17 => ?_)
      have hmc := m_overL (dx := dx) (o := o) (wp := wp) (K := k) (ρ := ρ) hwp (by omega) (by rw [x1, ew1, hρ]) x15 x17 (by rw [x9, ew9]; exact hst)
      rw [x9, ew9] at hmc
      refine ok_m hmc (fun dm3 h3' => ?_)
      obtain ⟨a1, a2, a3⟩ := h3'
      refine ⟨a1, a2, ?_⟩
      rcases a3 with ⟨a3, a4, a5⟩ | ⟨a3, a4⟩
      · exact Or.inl ⟨by rw [b01_t a3]; decide, a4, t, n, s, by rw [a5]; exact st⟩
      · exact Or.inr ⟨by rw [b01_f (by rw [a3]; decide)], a4⟩
    rw [if_pos b1, q_lastRider, x_ob, ew1]
    by_cases b2 : tk (dm (o + 8)) L q = 2
    rotate_left
    · rw [if_neg b2]
      dsimp only
      rw [x_bl hbF]
      obtain ⟨dm1, e1, n1, n2, n3, n4, n5⟩ := m_number (d := w.2) (o := o) (M := k + 1) 0 (dm (o + 1) 1 - 1) sw.2.1 s1 sw.2.2.2.2 w3 hqL hw.2.2.1 hw.2.2.2.1 (by omega)
      rw [ew8, rk_x h1.2.1] at n5
      have g15 : dm1 o 15 = nI (1 + 8 * q) := by
        rcases n5 with ⟨-, c2⟩ | ⟨c1, -⟩ | ⟨c1, -⟩
        · exact c2
        · exact absurd c1 b2
        · exact absurd c1 b2
      have ne : ¬ dm1 o 15 = 0 := by
        rw [g15]
        exact nI_ne0 (by omega) (by omega)
      obtain ⟨gm', rfl⟩ : ∃ g, gm = g + 1 := ⟨gm - 1, by omega⟩
      rw [e1, x_ob, oL31u]
      unfold f_X9_overTold_L31_b
      rw [if_neg ne]
      exact RT_W hbF hc hs h (by omega) ⟨_, _, _, _, st⟩ (w2.fl.w.tr n1.w) g15
    have er1 : d b 1 = dm (o + 1) 1 := by rw [st.2.1.2.1, st.1.2.1.1, hρ, hn]
    rw [if_pos b2, q_takeRider, ok_bX, er1]
    refine ok_m (j_num sw hw 0 (dm (o + 1) 1 - 1)) (fun v hv => ?_)
    obtain ⟨dm1, en1, f1, g1, hv⟩ := hv
    rw [en1, x_ob, ok_bX]
    have st1 : St v.2 b (rp (Ao (dm (o + 9))) (true, ρ) k).2 t n s := st.t hc f1
    have hs1 := (sw.k (b := b) f1.k hc).w g1.w
    rcases hv with ⟨-, -, h1', v1, v1', q1⟩ | ⟨-, h1'⟩
    rotate_left
    · refine ok_m (k_over st1 mk v.1) (fun u hu => ?_)
      obtain ⟨u1, u2, u3⟩ := hu
      have l2 := h1'.r (d' := u.2) (by rw [u2 c (Or.inr hc)])
      have ne : ¬ dm1 o 15 = 0 := by rw [h1'.2]; exact h1'.1
      obtain ⟨gm', rfl⟩ : ∃ g, gm = g + 1 := ⟨gm - 1, by omega⟩
      obtain ⟨gc', rfl⟩ : ∃ g, gc = g + 1 := ⟨gc - 1, by omega⟩
      have fin : ∀ p : Bool, ok (f_X7_tellCrossings_L17 b c mk (fun v10 d9 => (z_bool v10 (some (v10, d9)))) (gc' + 1) (b01 (p = true)) (nI (k + 1)) u.2) (fun v => bl v.1 ∧ ok (f_X6_endStatement v.2 c (nI wp) v.1) (fun d' => ok (f_X9_overTold_L31 o (nI wp) (fun d7 => z_bX (f_X9_ends d7 o) (fun v8 d9 => (if v8 = 0 then (some d9) else (f_X9_overTold_L67 o (nI wp) (fun d16 => (some d16)) z_N 1 d9)))) (gm' + 1) dm1) (fun dm' => PS b c o L q d dm d' dm'))) := fun p => by
        rw [L17u, oL31u]
        unfold f_X7_tellCrossings_L17_b f_X9_overTold_L31_b
        rw [if_neg ne, if_neg (show ¬ (600 : Int32) ≤ nI (k + 1) from fun h9 => by
          have := (nI_leI (a := 600) (by omega) (by omega)).mp h9
          omega), k_hasInt0 l2.1, x_ob, if_pos rfl]
        dsimp only
        rw [x_bl b01_b]
        exact RT_F b01_b l2 ⟨_, _, _, _, u3⟩ (f1.k.tr (u2.k hc)) (w2.fl.w.tr g1.w)
      rw [and_in (fun z => (f_X7_tellCrossings_L17 b c mk (fun v10 d9 => (z_bool v10 (some (v10, d9)))) (gc' + 1) z (nI k + 1) u.2)) rfl rfl, nI_1]
      exact fin _
    have fw : Fw o dm dm1 := w2.fl.w.tr g1.w
    have tsame : ∀ i, i < k + 1 → dm1 (o + 9) i = dm (o + 9) i := fun i hi => by rw [v1' _ (by omega), ew9]
    have t0 : dm1 (o + 9) 0 = mk := by rw [tsame 0 (by omega), hmk]
    have hrp : ∀ j, j ≤ k → rp (Ao (dm1 (o + 9))) (true, ρ) j = rp (Ao (dm (o + 9))) (true, ρ) j := fun j hj => rp_cong j (fun ρ' i hi => by
      unfold Ao
      rw [tsame _ (by omega), tsame _ (by omega)])
    have hsucc : rp (Ao (dm1 (o + 9))) (true, ρ) (k + 1) = ((rp (Ao (dm (o + 9))) (true, ρ) k).1 && decide (¬ (a_over (rp (Ao (dm (o + 9))) (true, ρ) k).2 mk v.1).1 = -1), (a_over (rp (Ao (dm (o + 9))) (true, ρ) k).2 mk v.1).2) := by
      show ((rp (Ao (dm1 (o + 9))) (true, ρ) k).1 && decide (¬ (a_over (rp (Ao (dm1 (o + 9))) (true, ρ) k).2 (dm1 (o + 9) 0) (dm1 (o + 9) (k + 1))).1 = -1), (a_over (rp (Ao (dm1 (o + 9))) (true, ρ) k).2 (dm1 (o + 9) 0) (dm1 (o + 9) (k + 1))).2) = _
      rw [hrp k (Nat.le_refl _), t0, v1]
    refine ok_m (k_over st1 mk v.1) (fun u hu => ?_)
    obtain ⟨u1, u2, u3⟩ := hu
    have er2 : dm1 (o + 1) = dm (o + 1) := by rw [g1.1 _ (by omega) (by omega), ew1]
    have l3 := h1'.r (d' := u.2) (by rw [u2 c (Or.inr hc)])
    have hz1 := h1'.1.1
    have go : ok (f_X7_tellCrossings_L17 b c mk (fun v10 d9 => (z_bool v10 (some (v10, d9)))) gc (b01 ((rp (Ao (dm1 (o + 9))) (true, ρ) (k + 1)).1 = true)) (nI (k + 1)) u.2) (fun v => bl v.1 ∧ ok (f_X6_endStatement v.2 c (nI wp) v.1) (fun d' => ok (f_X9_overTold_L31 o (nI wp) (fun d7 => z_bX (f_X9_ends d7 o) (fun v8 d9 => (if v8 = 0 then (some d9) else (f_X9_overTold_L67 o (nI wp) (fun d16 => (some d16)) z_N 1 d9)))) gm dm1) (fun dm' => PS b c o L q d dm d' dm'))) := by
      refine ok_m (ih (m - 1) (by omega) gc gm u.2 dm1 _ (k + 1) ?_ (by omega) (by omega) (hs1.k (b := b) (u2.k hc) hc) l3 (by rw [er2, hρ]) t0 (by rw [hsucc]; exact u3) (fun j hj => ?_)) (fun x hx => ⟨hx.1, ok_m hx.2 (fun d' hd' => ok_m hd' (fun dm' hm' => hm'.pre (f1.k.tr (u2.k hc)) fw (by omega)))⟩)
      · omega
      · rw [hrp j (by omega)]
        by_cases hjk : j = k
        · subst hjk
          exact ⟨_, _, _, _, _, st⟩
        · exact hst j (by omega)
    rw [hsucc, ← u1] at go
    rw [and_in (fun z => (f_X7_tellCrossings_L17 b c mk (fun v10 d9 => (z_bool v10 (some (v10, d9)))) gc z (nI k + 1) u.2)) rfl rfl, nI_1]
    exact go
def mksV (ρ : Nat → Int32) (s : Nat) : Int32 := if s = 0 then 0 else ρ (58 + 325 * (s - 1))
theorem k_mks {d : z_D} {b t n s : Nat} {ρ : Nat → Int32} (h : St d b ρ t n s) : f_X3_latestMarks d b = some (mksV ρ s) := by
  obtain ⟨g1, g2, g3, g4, -⟩ := id h
  have hs8 := g1.2.2.1.2
  have es : d b 2 = nI s := by rw [g2.2.2.1, g1.2.2.1.1]
  unfold f_X3_latestMarks mksV
  by_cases h0 : s = 0
  · rw [es, if_pos (show nI s = 0 by rw [h0, nI_0]), if_pos h0]
  · obtain ⟨k, rfl⟩ : ∃ k, s = k + 1 := ⟨s - 1, by omega⟩
    have e1 := (g4 k (by omega)).2.2.1.2.2
    rw [if_neg h0, show 58 + 325 * (k + 1 - 1) = 56 + 325 * k + 2 by omega]
    simp (disch := omega) only [↓x_let, ↓x_nam, ↓x_put, ↓x_bX, ↓x_ob, ↓x_ald, ↓x_aldL, ↓x_ast, ↓x_astL, ↓x_at0, ↓x_at_0, ↓x_mk0, ↓x_at, ↓x_atL, ↓x_at_, ↓x_at_L, ↓x_mk, ↓x_mkL, ↓x_aald, ↓x_w, ↓x_wi, ↓ok_s, ↓x_ifle_t, ↓x_ifle_f, ↓x_iflt_t, ↓x_iflt_f, ↓x_ifeq_t, ↓x_ifeq_f, ↓x_ifleL_t, ↓x_ifleL_f, ↓x_ifltL_t, ↓x_ifltL_f, ↓x_ifeqL_t, ↓x_ifeqL_f, ↓x_ifLle_t, ↓x_ifLle_f, ↓x_ifLlt_t, ↓x_ifLlt_f, ↓x_ifnm1, ↓x_ifb0, ↓x_ifb1, ↓x_if00, ↓x_if10, x_addL, x_Ladd, x_mulL, x_Lmul, nI_add, pk_mul, nI_pred, if_true, if_false, x_m1, n_a0, x_ue, x_un, es, e1]; try simp (disch := omega) only [↓x_let, ↓x_nam, ↓x_put, ↓x_bX, ↓x_ob, ↓x_ald, ↓x_aldL, ↓x_ast, ↓x_astL, ↓x_at0, ↓x_at_0, ↓x_mk0, ↓x_at, ↓x_atL, ↓x_at_, ↓x_at_L, ↓x_mk, ↓x_mkL, ↓x_aald, ↓x_w, ↓x_wi, ↓ok_s, ↓x_ifle_t, ↓x_ifle_f, ↓x_iflt_t, ↓x_iflt_f, ↓x_ifeq_t, ↓x_ifeq_f, ↓x_ifleL_t, ↓x_ifleL_f, ↓x_ifltL_t, ↓x_ifltL_f, ↓x_ifeqL_t, ↓x_ifeqL_f, ↓x_ifLle_t, ↓x_ifLle_f, ↓x_ifLlt_t, ↓x_ifLlt_f, ↓x_ifnm1, ↓x_ifb0, ↓x_ifb1, ↓x_if00, ↓x_if10, x_addL, x_Ladd, x_mulL, x_Lmul, nI_add, pk_mul, nI_pred, if_true, if_false, x_m1, n_a0, x_ue, x_un, es, e1]; try simp (disch := omega) only [↓x_let, ↓x_nam, ↓x_put, ↓x_bX, ↓x_ob, ↓x_ald, ↓x_aldL, ↓x_ast, ↓x_astL, ↓x_at0, ↓x_at_0, ↓x_mk0, ↓x_at, ↓x_atL, ↓x_at_, ↓x_at_L, ↓x_mk, ↓x_mkL, ↓x_aald, ↓x_w, ↓x_wi, ↓ok_s, ↓x_ifle_t, ↓x_ifle_f, ↓x_iflt_t, ↓x_iflt_f, ↓x_ifeq_t, ↓x_ifeq_f, ↓x_ifleL_t, ↓x_ifleL_f, ↓x_ifltL_t, ↓x_ifltL_f, ↓x_ifeqL_t, ↓x_ifeqL_f, ↓x_ifLle_t, ↓x_ifLle_f, ↓x_ifLlt_t, ↓x_ifLlt_f, ↓x_ifnm1, ↓x_ifb0, ↓x_ifb1, ↓x_if00, ↓x_if10, x_addL, x_Ladd, x_mulL, x_Lmul, nI_add, pk_mul, nI_pred, if_true, if_false, x_m1, n_a0, x_ue, x_un, es, e1]; try simp (disch := omega) only [↓x_let, ↓x_nam, ↓x_put, ↓x_bX, ↓x_ob, ↓x_ald, ↓x_aldL, ↓x_ast, ↓x_astL, ↓x_at0, ↓x_at_0, ↓x_mk0, ↓x_at, ↓x_atL, ↓x_at_, ↓x_at_L, ↓x_mk, ↓x_mkL, ↓x_aald, ↓x_w, ↓x_wi, ↓ok_s, ↓x_ifle_t, ↓x_ifle_f, ↓x_iflt_t, ↓x_iflt_f, ↓x_ifeq_t, ↓x_ifeq_f, ↓x_ifleL_t, ↓x_ifleL_f, ↓x_ifltL_t, ↓x_ifltL_f, ↓x_ifeqL_t, ↓x_ifeqL_f, ↓x_ifLle_t, ↓x_ifLle_f, ↓x_ifLlt_t, ↓x_ifLlt_f, ↓x_ifnm1, ↓x_ifb0, ↓x_ifb1, ↓x_if00, ↓x_if10, x_addL, x_Ladd, x_mulL, x_Lmul, nI_add, pk_mul, nI_pred, if_true, if_false, x_m1, n_a0, x_ue, x_un, es, e1]
theorem m_mks {α : Type} {d dc : z_D} {o b t n s : Nat} (h : St dc b (d (o + 1)) t n s) (K : Int32 → Option α) : ((f_X9_latest d o).bind fun v1 => (if 0 ≤ v1 then ((f_X9_latest d o).bind fun v17 => ((f_X9_at v17 2).bind fun v18 => z_ald d (o + 1) 2656 v18 (fun v19 => (K (v19 - 1))))) else (K (-1)))) = K (mksV (d (o + 1)) s - 1) := by
  have hs8 := h.1.2.2.1.2
  have hl : f_X9_latest d o = some (nI s - 1) := by rw [q_latest, h.1.2.2.1.1]
  unfold mksV
  rw [hl, x_ob]
  by_cases h0 : s = 0
  · subst h0
    rw [if_neg (show ¬ (0 : Int32) ≤ nI 0 - 1 by decide), if_pos rfl]
    rfl
  · obtain ⟨k, rfl⟩ : ∃ k, s = k + 1 := ⟨s - 1, by omega⟩
    rw [nI_pred, if_pos (nI_pos' (by omega)), x_ob, if_neg h0]
    show ((f_X9_at (nI k) (nI 2)).bind _) = _
    rw [x_at, x_ob, x_ald _ (by omega) (by omega), show 56 + 325 * k + 2 = 58 + 325 * (k + 1 - 1) by omega]
theorem s_over {d dm : z_D} {b c o L q wp t n s : Nat} (hc : b + 173 ≤ c) (hs : SX d c dm o L) (h : LX d c dm o L q 0) (hwp : wp ≤ 600) (st : St d b (dm (o + 1)) t n s) : ok (f_X7_tellCrossings d b c) (fun v => bl v.1 ∧ ok (f_X6_endStatement v.2 c (nI wp) v.1) (fun d' => ok (f_X9_overTold dm o (nI wp)) (fun dm' => PS b c o L q d dm d' dm'))) := by
  have hL := hs.1
  unfold f_X7_tellCrossings f_X9_overTold
  simp only [x_let]
  have hm := m_mks (K := fun x => (f_X9_number dm o 0 x).bind fun d2 => f_X9_overTold_L31 o (nI wp) (fun d7 => z_bX (f_X9_ends d7 o) (fun v8 d9 => (if v8 = 0 then (some d9) else (f_X9_overTold_L67 o (nI wp) (fun d16 => (some d16)) z_N 1 d9)))) z_N d2) st
  rw [k_mks st, x_ob, hm, ok_bX]
  refine ok_m (j_num hs h 0 (mksV (dm (o + 1)) s - 1)) (fun v hv => ?_)
  obtain ⟨dm1, en1, f1, g1, hv⟩ := hv
  rw [en1, x_ob]
  have st1 : St v.2 b (dm (o + 1)) t n s := st.t hc f1
  have hs1 := (hs.k (b := b) f1.k hc).w g1.w
  have er1 : dm1 (o + 1) = dm (o + 1) := g1.1 _ (by omega) (by omega)
  rcases hv with ⟨-, -, h1, v1, -, q1⟩ | ⟨-, h1⟩
  · have := lp_over (ρ := dm (o + 1)) (mk := v.1) (wp := wp) hc hwp st.1.2.1.1 L z_N z_N v.2 dm1 _ 0 (by omega) (ltz (by omega)) (ltz (by omega)) hs1 h1 er1 v1 st1 (fun j hj => by omega)
    refine ok_m this (fun x hx => ⟨hx.1, ok_m hx.2 (fun d' hd' => ok_m hd' (fun dm' hm' => hm'.pre f1.k g1.w (by omega)))⟩)
  · have ne : ¬ dm1 o 15 = 0 := by rw [h1.2]; exact h1.1
    rw [show z_N = 5999 + 1 from rfl, L17u, oL31u]
    unfold f_X7_tellCrossings_L17_b f_X9_overTold_L31_b
    rw [if_neg ne, if_neg (show ¬ (600 : Int32) ≤ 0 by decide), k_hasInt0 h1.1, x_ob, if_pos rfl]
    dsimp only
    rw [x_bl bl1]
    exact RT_F bl1 h1 ⟨_, _, _, _, st1⟩ f1.k g1.w
