/-! 86.come: finishes told -/
def rp (A : (Nat → Int32) → Nat → Bool × (Nat → Int32)) (z : Bool × (Nat → Int32)) : Nat → Bool × (Nat → Int32)
  | 0 => z
  | k + 1 => ((rp A z k).1 && (A (rp A z k).2 k).1, (A (rp A z k).2 k).2)
theorem rp_cong {A A' : (Nat → Int32) → Nat → Bool × (Nat → Int32)} {z : Bool × (Nat → Int32)} : ∀ k, (∀ ρ i, i < k → A ρ i = A' ρ i) → rp A z k = rp A' z k
  | 0, _ => rfl
  | k + 1, h => by
    have ih := rp_cong (z := z) k (fun ρ i hi => h ρ i (by omega))
    show ((rp A z k).1 && (A (rp A z k).2 k).1, (A (rp A z k).2 k).2) = ((rp A' z k).1 && (A' (rp A' z k).2 k).1, (A' (rp A' z k).2 k).2)
    rw [ih, h _ k (by omega)]
theorem rp_f {A : (Nat → Int32) → Nat → Bool × (Nat → Int32)} {z : Bool × (Nat → Int32)} {i : Nat} (h : (rp A z i).1 = false) : ∀ k, (rp A z (i + k)).1 = false
  | 0 => h
  | k + 1 => by
    show ((rp A z (i + k)).1 && (A (rp A z (i + k)).2 (i + k)).1) = false
    rw [rp_f h k]
    rfl
def Af (tv : Nat → Int32) (ρ : Nat → Int32) (k : Nat) : Bool × (Nat → Int32) := (decide ((a_finish ρ (tv (2 * k)) (tv (2 * k + 1))).1 = 1), (a_finish ρ (tv (2 * k)) (tv (2 * k + 1))).2)
theorem a_finish_b (ρ : Nat → Int32) (x y : Int32) : bl (a_finish ρ x y).1 := by
  unfold a_finish
  split
  · exact bl1
  · exact bl0
theorem and_bb {p : Bool} {x : Int32} (hx : bl x) : b01 (p = true) &&& x = b01 ((p && decide (x = 1)) = true) := by
  rcases hx with rfl | rfl <;> cases p <;> decide
theorem and_ii {α : Type} {p : Bool} {x : Int32} {A B : α} (hx : bl x) (F : Int32 → α) (hA : A = F 0) (hB : B = F 1) : (if x = 0 then A else (if b01 (p = true) = 0 then A else B)) = F (b01 ((p && decide (x = 1)) = true)) := by
  subst hA
  subst hB
  rcases hx with rfl | rfl
  · rw [if_pos rfl, b01_f (by cases p <;> decide)]
  · rw [if_neg (by decide)]
    cases p with
    | false => rw [if_pos (b01_f (by decide)), b01_f (by decide)]
    | true => rw [if_neg (by rw [b01_t rfl]; decide), b01_t (by decide)]
theorem and_in {α : Type} {p : Bool} {x y : Int32} {A B : α} (F : Int32 → α) (hA : A = F 0) (hB : B = F 1) : (if x = y then A else (if b01 (p = true) = 0 then A else B)) = F (b01 ((p && decide (¬ x = y)) = true)) := by
  subst hA
  subst hB
  by_cases h : x = y
  · rw [if_pos h, decide_eq_false (fun h9 => h9 h), Bool.and_false, b01_f (by decide)]
  · rw [if_neg h, decide_eq_true h, Bool.and_true]
    cases p with
    | false => rw [if_pos (b01_f (by decide)), b01_f (by decide)]
    | true => rw [if_neg (by rw [b01_t rfl]; decide), b01_t rfl]
theorem L43u (o : Nat) (x1 : Int32) (K : z_D → Option z_D) (f : Nat) : f_X9_comeTold_L43 o x1 K (f + 1) = f_X9_comeTold_L43_b o x1 K (f_X9_comeTold_L43 o x1 K f) := rfl
theorem m_come {dx : z_D} {o wp K : Nat} {ρ : Nat → Int32} (hwp : wp ≤ 600) (hK : 2 * K ≤ 600) (x1 : dx (o + 1) = ρ) (x15 : dx o 15 = 0) (x17 : dx o 17 = nI (2 * K)) (hst : ∀ k, k < K → ∃ dc b t n s, St dc b (rp (Af (dx (o + 9))) (true, ρ) k).2 t n s) :
    ok (f_X9_comeTold_L43 o (nI wp) (fun d14 => some d14) z_N 0 dx) (fun dm3 => Fw o dx dm3 ∧ dm3 o 13 = dx o 13 ∧ (((rp (Af (dx (o + 9))) (true, ρ) K).1 = true ∧ dm3 o 15 = 0 ∧ dm3 (o + 1) = (rp (Af (dx (o + 9))) (true, ρ) K).2) ∨ ((rp (Af (dx (o + 9))) (true, ρ) K).1 = false ∧ dm3 o 15 = nI (3 + 8 * wp)))) := by
  generalize htv : dx (o + 9) = tv at *
  refine zl2 (f_X9_comeTold_L43_b o (nI wp) _) (fun _ => rfl) (fun m x2 e => Fw o dx e ∧ e o 13 = dx o 13 ∧ ((∃ i, m + i = K + 1 ∧ i ≤ K ∧ x2 = nI (2 * i) ∧ e (o + 9) = tv ∧ e o 15 = 0 ∧ e o 17 = nI (2 * K) ∧ (rp (Af tv) (true, ρ) i).1 = true ∧ e (o + 1) = (rp (Af tv) (true, ρ) i).2) ∨ (¬ e o 15 = 0 ∧ (rp (Af tv) (true, ρ) K).1 = false ∧ e o 15 = nI (3 + 8 * wp)))) ?_ (K + 1) z_N _ _ ⟨Fw.rf, rfl, Or.inl ⟨0, by omega, by omega, rfl, htv, x15, x17, rfl, x1⟩⟩ (ltz (by omega))
  rintro R m x2 e ⟨g1, g2, g3⟩ ih
  unfold f_X9_comeTold_L43_b
  rcases g3 with ⟨i, hm, hi, rfl, e9, e15, e17, hf, er⟩ | ⟨a1, a2, a3⟩
  rotate_left
  · by_cases hle : e o 17 ≤ x2
    · rw [if_pos hle, ok_s]
      exact ⟨g1, g2, Or.inr ⟨a2, a3⟩⟩
    · rw [if_neg hle, if_neg a1, ok_s]
      exact ⟨g1, g2, Or.inr ⟨a2, a3⟩⟩
  rw [e17]
  by_cases hiK : i = K
  · subst hiK
    rw [if_pos ((nI_leI (by omega) (by omega)).mpr (Nat.le_refl _)), ok_s]
    exact ⟨g1, g2, Or.inl ⟨hf, e15, er⟩⟩
  obtain ⟨dc, b, t, n, s, hst⟩ := hst i (by omega)
  have hr := m_finish (d := e) (o := o) (dc := dc) (b := b) (t := t) (n := n) (s := s) (by rw [er]; exact hst) (tv (2 * i)) (tv (2 * i + 1))
  rw [er] at hr
  have hb := a_finish_b (rp (Af tv) (true, ρ) i).2 (tv (2 * i)) (tv (2 * i + 1))
  have hsucc : rp (Af tv) (true, ρ) (i + 1) = ((rp (Af tv) (true, ρ) i).1 && decide ((a_finish (rp (Af tv) (true, ρ) i).2 (tv (2 * i)) (tv (2 * i + 1))).1 = 1), (a_finish (rp (Af tv) (true, ρ) i).2 (tv (2 * i)) (tv (2 * i + 1))).2) := rfl
  rw [hf] at hsucc
  rw [if_neg (nI_ge (by omega) (by omega)), if_pos e15, x_ald _ (by omega) (by omega), x_addL, x_ald _ (by omega) (by omega), e9, hr, x_bX]
  generalize a_finish (rp (Af tv) (true, ρ) i).2 (tv (2 * i)) (tv (2 * i + 1)) = a at *
  have s15 : (setR e (o + 1) a.2) o 15 = 0 := by rw [setR_w.2]; exact e15
  rcases hb with hb | hb
  · rw [m_can0 (p := wp) hb s15, x_ob, x_addL]
    refine ih (m - 1) _ _ (by omega) ⟨(g1.tr setR_w.1).tr (Fl.u (by omega)).w, by rw [u_k (by omega), setR_w.2, g2], Or.inr ⟨?_, ?_, u_s _ _ _ _⟩⟩
    · rw [u_s]
      exact nI_ne0 (by omega) (by omega)
    · have h1 : (rp (Af tv) (true, ρ) (i + 1)).1 = false := by rw [hsucc, hb]; rfl
      have := rp_f h1 (K - (i + 1))
      rw [show i + 1 + (K - (i + 1)) = K by omega] at this
      exact this
  · rw [m_can1 (by rw [hb]; decide), x_ob, x_addL]
    refine ih (m - 1) _ _ (by omega) ⟨g1.tr setR_w.1, by rw [setR_w.2, g2], Or.inl ⟨i + 1, by omega, by omega, congrArg nI (by omega), by rw [setR_n (by omega), e9], s15, by rw [setR_w.2]; exact e17, by rw [hsucc, hb]; rfl, by rw [setR_s, hsucc]⟩⟩
theorem LX.h {d dm dm' : z_D} {c o L q M : Nat} (h : LX d c dm o L q M) (f : Fp o dm dm') (e : dm' o 13 = nI q) : LX d c dm' o L q M := by
  obtain ⟨h1, h2, h3, h4, p, p1, p2, p3, p4⟩ := h
  have hr := rk_i (k := 4) (B := dm (o + 8)) (L := L) (p := p) (by omega)
  rw [p4] at hr
  have eB : dm' (o + 8) = dm (o + 8) := by
    funext k
    exact f _ _ (by omega)
  exact ⟨by rw [eB]; exact h1, h2, by rw [f _ _ (by omega), h3], by rw [f _ _ (by omega), h4], q, h1.1, by omega, e, by rw [eB]; exact rk_x h1.2.1⟩
theorem k_hasInt {d : z_D} {c L q : Nat} {B : Nat → Int32} (h : TK d c B L q) (h5 : d c 5 = 0) : f_X6_hasInt d c = some (b01 (tk B L q = 2)) := by
  have := tk_5 B L q
  unfold f_X6_hasInt
  rw [if_pos h5, h.2.2.2.1]
  by_cases h2 : tk B L q = 2
  · rw [if_pos (show nI (tk B L q) = 2 by rw [h2]; rfl), b01_t h2]
  · rw [if_neg (show ¬ nI (tk B L q) = 2 from fun h9 => h2 ((nI_eq (b := 2) (by omega) (by omega)).mp h9)), b01_f h2]
theorem k_hasInt0 {d : z_D} {c : Nat} (h5 : ¬ d c 5 = 0) : f_X6_hasInt d c = some 0 := by
  unfold f_X6_hasInt
  rw [if_neg h5]
theorem tk_w {B : Nat → Int32} {L q : Nat} (h : ¬ tk B L q = 2) (h2 : kA B L q = 2) : ¬ kA B L q = 3 := by omega
/-- a number that is too long: the class ends its list there, the model tries to read it -/
theorem RT_W {d dm dm1 : z_D} {b c o L q q0 M wp : Nat} {y : Int32} {act : z_D → Option z_D} (hy : bl y) (hc : b + 173 ≤ c) (hs : SX d c dm o L) (h : LX d c dm o L q M) (h3 : ¬ kA (dm (o + 8)) L q = 3) (hw : ∃ ρ t n s, St d b ρ t n s) (g : Fw o dm dm1) (g15 : dm1 o 15 = nI (1 + 8 * q)) : ok (some (y, d)) (fun v => bl v.1 ∧ ok (f_X6_endStatement v.2 c (nI wp) v.1) (fun d' => ok (z_bX (f_X9_ends dm1 o) (fun v dx => if v = 0 then some dx else act dx)) (fun dm' => PS b c o L q0 d dm d' dm'))) := by
  obtain ⟨s1, s2, s3, s4, s5⟩ := hs
  obtain ⟨h1, h2, -⟩ := h
  have hq := h1.1
  rw [ok_s]
  refine ⟨hy, ok_m (k_end (p := wp) y s1 s3 s4 h1 h2) (fun d' hd => ?_)⟩
  have ne : ¬ dm1 o 15 = 0 := by
    rw [g15]
    exact nI_ne0 (by omega) (by omega)
  rw [m_ends0 ne, x_bX, if_pos rfl, ok_s]
  rcases hd with ⟨-, rfl⟩ | ⟨c1, -⟩ | ⟨c1, -⟩
  · obtain ⟨ρ, t, n, s, hst⟩ := hw
    refine ⟨(Ft.u (by omega)).k, g.tr (Fl.u (by omega)).w, Or.inr ⟨⟨?_, ?_⟩, ρ, t, n, s, hst.congr (fun a a1 a2 => u_a (by omega))⟩⟩
    · rw [u_s, ← g15]
      exact ne
    · rw [u_s, u_k (by omega), g15]
  · exact absurd c1 h3
  · exact absurd c1 h3
theorem L4u (b c : Nat) (K : Int32 → z_D → Option (Int32 × z_D)) (f : Nat) : f_X7_tellFinishes_L4 b c K (f + 1) = f_X7_tellFinishes_L4_b b c K (f_X7_tellFinishes_L4 b c K f) := rfl
theorem cL0u (o : Nat) (x1 : Int32) (K : z_D → Option z_D) (f : Nat) : f_X9_comeTold_L0 o x1 K (f + 1) = f_X9_comeTold_L0_b o x1 K (f_X9_comeTold_L0 o x1 K f) := rfl
theorem lp_come {b c o L wp t n s : Nat} {ρ : Nat → Int32} (hc : b + 173 ≤ c) (hwp : wp ≤ 600) (hn : ρ 1 = nI n) : ∀ (m fc fm : Nat) (d dm : z_D) (q k : Nat), L - q ≤ m → m + 2 < fc → m + 2 < fm → SX d c dm o L → LX d c dm o L q (2 * k) → dm (o + 1) = ρ → St d b (rp (Af (dm (o + 9))) (true, ρ) k).2 t n s → (∀ j, j < k → ∃ dc b t n s, St dc b (rp (Af (dm (o + 9))) (true, ρ) j).2 t n s) →
    ok (f_X7_tellFinishes_L4 b c (fun v10 d9 => (z_bool v10 (some (v10, d9)))) fc (b01 ((rp (Af (dm (o + 9))) (true, ρ) k).1 = true)) (nI k) d) (fun v => bl v.1 ∧ ok (f_X6_endStatement v.2 c (nI wp) v.1) (fun d' => ok (f_X9_comeTold_L0 o (nI wp) (fun d6 => z_bX (f_X9_ends d6 o) (fun v7 d8 => (if v7 = 0 then (some d8) else (f_X9_comeTold_L43 o (nI wp) (fun d14 => (some d14)) z_N 0 d8)))) fm dm) (fun dm' => PS b c o L q d dm d' dm'))) := by
  intro m
  induction m using Nat.strongRecOn with
  | _ m ih =>
    intro fc fm d dm q k hm hfc hfm hs h hρ st hst
    obtain ⟨gc, rfl⟩ : ∃ g, fc = g + 1 := ⟨fc - 1, by omega⟩
    obtain ⟨gm, rfl⟩ : ∃ g, fm = g + 1 := ⟨fm - 1, by omega⟩
    rw [L4u, cL0u]
    unfold f_X7_tellFinishes_L4_b f_X9_comeTold_L0_b
    obtain ⟨s1, s2, s3, s4, s5⟩ := id hs
    obtain ⟨h1, h2, h3, h4, p, p1, p2, p3, p4⟩ := id h
    have hqL := h1.1
    have hpq : p ≤ q := by
      have := (rk_i (k := 4) (B := dm (o + 8)) (L := L) (p := p) (by omega)).1
      omega
    obtain ⟨w, ew, w1, w2, w3⟩ := m_isDigit (d := dm) (o := o) s2 s1 s5 p3 p1
    rw [p4] at w1 w3
    have hw := h.h w2 w3
    have sw := hs.w w2.fl.w
    have ew1 : w.2 (o + 1) = dm (o + 1) := by
      funext i
      exact w2 _ _ (by omega)
    have ew9 : w.2 (o + 9) = dm (o + 9) := by
      funext i
      exact w2 _ _ (by omega)
    have ew8 : w.2 (o + 8) = dm (o + 8) := by
      funext i
      exact w2 _ _ (by omega)
    have hbF : bl (b01 ((rp (Af (dm (o + 9))) (true, ρ) k).1 = true)) := b01_b
    rw [if_neg (show ¬ (600 : Int32) ≤ nI k from fun h9 => by
      have := (nI_leI (a := 600) (by omega) (by omega)).mp h9
      omega), k_hasInt h1 h2, x_ob, x_ifb0, if_pos h3, ew, x_bX, w1, x_ifb0]
    by_cases b1 : kA (dm (o + 8)) L q = 2
    rotate_left
    · have b2 : ¬ tk (dm (o + 8)) L q = 2 := fun h9 => by
        rw [tk_n (fun h8 => b1 h8.1)] at h9
        exact b1 h9
      rw [if_neg b2, if_neg b1]
      dsimp only
      rw [x_bl hbF]
      refine RT_X hbF hc sw hw (Nat.le_refl _) hwp ⟨_, _, _, _, st⟩ Fk.rf w2.fl.w (fun dx x1 x9 x15 x17 => ?_)
      have hmc := m_come (dx := dx) (o := o) (wp := wp) (K := k) (ρ := ρ) hwp (by omega) (by rw [x1, ew1, hρ]) x15 x17 (by rw [x9, ew9]; exact hst)
      rw [x9, ew9] at hmc
      refine ok_m hmc (fun dm3 h3' => ?_)
      obtain ⟨a1, a2, a3⟩ := h3'
      refine ⟨a1, a2, ?_⟩
      rcases a3 with ⟨a3, a4, a5⟩ | ⟨a3, a4⟩
      · exact Or.inl ⟨by rw [b01_t a3]; decide, a4, t, n, s, by rw [a5]; exact st⟩
      · exact Or.inr ⟨by rw [b01_f (by rw [a3]; decide)], a4⟩
    rw [if_pos b1, q_lastRider, x_ob, ew1]
    by_cases b2 : tk (dm (o + 8)) L q = 2
    rotate_left
    · rw [if_neg b2]
      dsimp only
      rw [x_bl hbF]
      obtain ⟨dm1, e1, n1, n2, n3, n4, n5⟩ := m_number (d := w.2) (o := o) (M := 2 * k) 0 (dm (o + 1) 1 - 1) sw.2.1 s1 sw.2.2.2.2 w3 hqL hw.2.2.1 hw.2.2.2.1 (by omega)
      rw [ew8, rk_x h1.2.1] at n5
      have g15 : dm1 o 15 = nI (1 + 8 * q) := by
        rcases n5 with ⟨-, c2⟩ | ⟨c1, -⟩ | ⟨c1, -⟩
        · exact c2
        · exact absurd c1 b2
        · exact absurd c1 b2
      have ne : ¬ dm1 o 15 = 0 := by
        rw [g15]
        exact nI_ne0 (by omega) (by omega)
      obtain ⟨gm', rfl⟩ : ∃ g, gm = g + 1 := ⟨gm - 1, by omega⟩
      rw [e1, x_ob, m_number0 ne, x_ob, cL0u]
      unfold f_X9_comeTold_L0_b
      rw [if_neg ne]
      exact RT_W hbF hc hs h (by omega) ⟨_, _, _, _, st⟩ (w2.fl.w.tr n1.w) g15
    have er1 : d b 1 = dm (o + 1) 1 := by rw [st.2.1.2.1, st.1.2.1.1, hρ, hn]
    rw [if_pos b2, q_takeRider, ok_bX, er1]
    refine ok_m (j_num sw hw 0 (dm (o + 1) 1 - 1)) (fun v hv => ?_)
    obtain ⟨dm1, en1, f1, g1, hv⟩ := hv
    rw [en1, x_ob, ok_bX]
    have st1 : St v.2 b (rp (Af (dm (o + 9))) (true, ρ) k).2 t n s := st.t hc f1
    have hs1 := (sw.k (b := b) f1.k hc).w g1.w
    have bad : ∀ (d2 dm2 : z_D) (x y : Int32), LF d2 c dm2 o → Ft c d d2 → Fw o dm dm2 → ok (z_bX (f_X3_addFinish d2 b x y) (fun v6 d7 => (if v6 = 0 then (f_X7_tellFinishes_L4 b c (fun v10 d9 => (z_bool v10 (some (v10, d9)))) gc 0 (nI k + 1) d7) else (if b01 ((rp (Af (dm (o + 9))) (true, ρ) k).1 = true) = 0 then (f_X7_tellFinishes_L4 b c (fun v10 d9 => (z_bool v10 (some (v10, d9)))) gc 0 (nI k + 1) d7) else (f_X7_tellFinishes_L4 b c (fun v10 d9 => (z_bool v10 (some (v10, d9)))) gc 1 (nI k + 1) d7))))) (fun v => bl v.1 ∧ ok (f_X6_endStatement v.2 c (nI wp) v.1) (fun d' => ok (f_X9_comeTold_L0 o (nI wp) (fun d6 => z_bX (f_X9_ends d6 o) (fun v7 d8 => (if v7 = 0 then (some d8) else (f_X9_comeTold_L43 o (nI wp) (fun d14 => (some d14)) z_N 0 d8)))) gm dm2) (fun dm' => PS b c o L q d dm d' dm'))) := fun d2 dm2 x y l1 k1 k2 => by
      rw [ok_bX]
      refine ok_m (k_finish (st.t hc k1) x y) (fun u hu => ?_)
      obtain ⟨u1, u2, u3⟩ := hu
      have hb6 : bl u.1 := by rw [u1]; exact a_finish_b _ _ _
      have l2 := l1.r (d' := u.2) (by rw [u2 c (Or.inr hc)])
      have ne : ¬ dm2 o 15 = 0 := by rw [l1.2]; exact l1.1
      obtain ⟨gm', rfl⟩ : ∃ g, gm = g + 1 := ⟨gm - 1, by omega⟩
      obtain ⟨gc', rfl⟩ : ∃ g, gc = g + 1 := ⟨gc - 1, by omega⟩
      rw [and_ii hb6 (fun z => (f_X7_tellFinishes_L4 b c (fun v10 d9 => (z_bool v10 (some (v10, d9)))) (gc' + 1) z (nI k + 1) u.2)) rfl rfl, L4u, cL0u]
      unfold f_X7_tellFinishes_L4_b f_X9_comeTold_L0_b
      rw [if_neg ne, nI_1, if_neg (show ¬ (600 : Int32) ≤ nI (k + 1) from fun h9 => by
        have := (nI_leI (a := 600) (by omega) (by omega)).mp h9
        omega), k_hasInt0 l2.1, x_ob, if_pos rfl]
      dsimp only
      rw [x_bl b01_b]
      exact RT_F b01_b l2 ⟨_, _, _, _, u3⟩ (k1.k.tr (u2.k hc)) k2
    rcases hv with ⟨-, -, h1', v1, v1', q1⟩ | ⟨-, h1'⟩
    rotate_left
    · obtain ⟨n1, n2⟩ := j_num0 h1' 1 999999
      rw [n1, n2, x_ob, ok_s]
      exact bad _ _ _ _ h1' f1 (w2.fl.w.tr g1.w)
    refine ok_m (j_num hs1 h1' 1 999999) (fun v' hv' => ?_)
    obtain ⟨dm2, en2, f2, g2, hv'⟩ := hv'
    rw [en2, x_ob]
    have st2 : St v'.2 b (rp (Af (dm (o + 9))) (true, ρ) k).2 t n s := st1.t hc f2
    have hs2 := (hs1.k (b := b) f2.k hc).w g2.w
    have fw : Fw o dm dm2 := (w2.fl.w.tr g1.w).tr g2.w
    rcases hv' with ⟨-, -, h2', v2, v3, q2⟩ | ⟨-, h2'⟩
    rotate_left
    · exact bad _ _ _ _ h2' (f1.tr f2) fw
    have tsame : ∀ i, i < 2 * k → dm2 (o + 9) i = dm (o + 9) i := fun i hi => by rw [v3 _ (by omega), v1' _ (by omega), ew9]
    have t0 : dm2 (o + 9) (2 * k) = v.1 := by rw [v3 _ (by omega), v1]
    have hrp : ∀ j, j ≤ k → rp (Af (dm2 (o + 9))) (true, ρ) j = rp (Af (dm (o + 9))) (true, ρ) j := fun j hj => rp_cong j (fun ρ' i hi => by
      unfold Af
      rw [tsame _ (by omega), tsame _ (by omega)])
    have hsucc : rp (Af (dm2 (o + 9))) (true, ρ) (k + 1) = ((rp (Af (dm (o + 9))) (true, ρ) k).1 && decide ((a_finish (rp (Af (dm (o + 9))) (true, ρ) k).2 v.1 v'.1).1 = 1), (a_finish (rp (Af (dm (o + 9))) (true, ρ) k).2 v.1 v'.1).2) := by
      show ((rp (Af (dm2 (o + 9))) (true, ρ) k).1 && decide ((a_finish (rp (Af (dm2 (o + 9))) (true, ρ) k).2 (dm2 (o + 9) (2 * k)) (dm2 (o + 9) (2 * k + 1))).1 = 1), (a_finish (rp (Af (dm2 (o + 9))) (true, ρ) k).2 (dm2 (o + 9) (2 * k)) (dm2 (o + 9) (2 * k + 1))).2) = _
      rw [hrp k (Nat.le_refl _), t0, v2]
    rw [ok_bX]
    refine ok_m (k_finish st2 v.1 v'.1) (fun u hu => ?_)
    obtain ⟨u1, u2, u3⟩ := hu
    have hb6 : bl u.1 := by rw [u1]; exact a_finish_b _ _ _
    have hflag : b01 (((rp (Af (dm (o + 9))) (true, ρ) k).1 && decide (u.1 = 1)) = true) = b01 ((rp (Af (dm2 (o + 9))) (true, ρ) (k + 1)).1 = true) := by rw [hsucc, u1]
    rw [and_ii hb6 (fun z => (f_X7_tellFinishes_L4 b c (fun v10 d9 => (z_bool v10 (some (v10, d9)))) gc z (nI k + 1) u.2)) rfl rfl, nI_1, hflag]
    have er2 : dm2 (o + 1) = dm (o + 1) := by rw [g2.1 _ (by omega) (by omega), g1.1 _ (by omega) (by omega), ew1]
    have l3 := h2'.r (d' := u.2) (by rw [u2 c (Or.inr hc)])
    have hz1 := h1'.1.1
    have hz2 := h2'.1.1
    refine ok_m (ih (m - 1) (by omega) gc gm u.2 dm2 _ (k + 1) ?_ (by omega) (by omega) (hs2.k (b := b) (u2.k hc) hc) l3 (by rw [er2, hρ]) (by rw [hsucc]; exact u3) (fun j hj => ?_)) (fun x hx => ⟨hx.1, ok_m hx.2 (fun d' hd' => ok_m hd' (fun dm' hm' => hm'.pre ((f1.k.tr f2.k).tr (u2.k hc)) fw (by omega)))⟩)
    · omega
    · rw [hrp j (by omega)]
      by_cases hjk : j = k
      · subst hjk
        exact ⟨_, _, _, _, _, st⟩
      · exact hst j (by omega)
theorem s_come {d dm : z_D} {b c o L q wp t n s : Nat} (hc : b + 173 ≤ c) (hs : SX d c dm o L) (h : LX d c dm o L q 0) (hwp : wp ≤ 600) (st : St d b (dm (o + 1)) t n s) : ok (f_X7_tellFinishes d b c) (fun v => bl v.1 ∧ ok (f_X6_endStatement v.2 c (nI wp) v.1) (fun d' => ok (f_X9_comeTold dm o (nI wp)) (fun dm' => PS b c o L q d dm d' dm'))) := by
  have hL := hs.1
  exact lp_come (ρ := dm (o + 1)) hc hwp st.1.2.1.1 L z_N z_N d dm q 0 (by omega) (ltz (by omega)) (ltz (by omega)) hs h rfl st (fun j hj => by omega)
