/-! 8a.stage3: a stage's statement -/
theorem j_kind {d dm : z_D} {c o L q M : Nat} (hs : SX d c dm o L) (h : LX d c dm o L q M) : ok (f_X7_takeKind d c) (fun v => Ft c d v.2 ∧ ((∃ i, i < 4 ∧ v.1 = nI i ∧ isW (dm (o + 8)) L q (3 + i) ∧ v.2 c 5 = 0 ∧ TK v.2 c (dm (o + 8)) L (sx (dm (o + 8)) L q)) ∨ ((∀ i, i < 4 → ¬ isW (dm (o + 8)) L q (3 + i)) ∧ v = (-1, z_up d c 5 (nI (1 + 8 * q)))))) := by
  obtain ⟨s1, s2, s3, s4, s5⟩ := id hs
  obtain ⟨h1, h2, -⟩ := id h
  unfold f_X7_takeKind
  rw [ok_bX]
  refine ok_m (k_takes (w := 3) (by omega) s1 s3 s4 h1 h2) (fun v hv => ?_)
  rcases hv with ⟨b1, b2, b3, b4, b5⟩ | ⟨b1, rfl⟩
  · rw [b2, if_neg (by decide), ok_s]
    exact ⟨b3, Or.inl ⟨0, by omega, rfl, b1, b4, b5⟩⟩
  show ok (if (0 : Int32) = 0 then _ else _) _
  rw [if_pos rfl, ok_bX]
  refine ok_m (k_takes (w := 4) (by omega) s1 s3 s4 h1 h2) (fun v hv => ?_)
  rcases hv with ⟨c1, b2, b3, b4, b5⟩ | ⟨c1, rfl⟩
  · rw [b2, if_neg (by decide), ok_s]
    exact ⟨b3, Or.inl ⟨1, by omega, rfl, c1, b4, b5⟩⟩
  show ok (if (0 : Int32) = 0 then _ else _) _
  rw [if_pos rfl, ok_bX]
  refine ok_m (k_takes (w := 5) (by omega) s1 s3 s4 h1 h2) (fun v hv => ?_)
  rcases hv with ⟨d1, b2, b3, b4, b5⟩ | ⟨d1, rfl⟩
  · rw [b2, if_neg (by decide), ok_s]
    exact ⟨b3, Or.inl ⟨2, by omega, rfl, d1, b4, b5⟩⟩
  show ok (if (0 : Int32) = 0 then _ else _) _
  rw [if_pos rfl, ok_bX]
  refine ok_m (k_takes (w := 6) (by omega) s1 s3 s4 h1 h2) (fun v hv => ?_)
  rcases hv with ⟨e1, b2, b3, b4, b5⟩ | ⟨e1, rfl⟩
  · rw [b2, if_neg (by decide), ok_s]
    exact ⟨b3, Or.inl ⟨3, by omega, rfl, e1, b4, b5⟩⟩
  show ok (if (0 : Int32) = 0 then _ else _) _
  rw [if_pos rfl, k_cannot h1.2.2.1 h2, x_bX, ok_s]
  refine ⟨Ft.u (by omega), Or.inr ⟨fun i hi => ?_, rfl⟩⟩
  have c0 : i = 0 ∨ i = 1 ∨ i = 2 ∨ i = 3 := by omega
  rcases c0 with rfl | rfl | rfl | rfl
  · exact b1
  · exact c1
  · exact d1
  · exact e1
theorem kd_ch {α : Type} {B : Nat → Int32} {L q i : Nat} {J : Int32 → Option α} (hi : i < 4) (h : isW B L q (3 + i)) : z_let J (fun J65 => (if (lg_cmp (lN (wv B L q)) 126893) = 0 then (J65 0) else (if (lg_cmp (lN (wv B L q)) 4437766) = 0 then (J65 1) else (if (lg_cmp (lN (wv B L q)) 8602516) = 0 then (J65 2) else (if (lg_cmp (lN (wv B L q)) 10989714) = 0 then (J65 3) else (J65 (-1))))))) = J (nI i) := by
  rw [x_let]
  have c3 := wq_c (B := B) (L := L) (q := q) (w := 3) (x := 126893) (by omega) (by decide +kernel)
  have c4 := wq_c (B := B) (L := L) (q := q) (w := 4) (x := 4437766) (by omega) (by decide +kernel)
  have c5 := wq_c (B := B) (L := L) (q := q) (w := 5) (x := 8602516) (by omega) (by decide +kernel)
  have c6 := wq_c (B := B) (L := L) (q := q) (w := 6) (x := 10989714) (by omega) (by decide +kernel)
  have c0 : i = 0 ∨ i = 1 ∨ i = 2 ∨ i = 3 := by omega
  rcases c0 with rfl | rfl | rfl | rfl
  · rw [if_pos (c3.mpr h)]
    rfl
  · rw [if_neg (fun h9 => isW_1 (w' := 3) (by omega) (by omega) (by omega) h (c3.mp h9)), if_pos (c4.mpr h)]
    rfl
  · rw [if_neg (fun h9 => isW_1 (w' := 3) (by omega) (by omega) (by omega) h (c3.mp h9)), if_neg (fun h9 => isW_1 (w' := 4) (by omega) (by omega) (by omega) h (c4.mp h9)), if_pos (c5.mpr h)]
    rfl
  · rw [if_neg (fun h9 => isW_1 (w' := 3) (by omega) (by omega) (by omega) h (c3.mp h9)), if_neg (fun h9 => isW_1 (w' := 4) (by omega) (by omega) (by omega) h (c4.mp h9)), if_neg (fun h9 => isW_1 (w' := 5) (by omega) (by omega) (by omega) h (c5.mp h9)), if_pos (c6.mpr h)]
    rfl
theorem kd_no {α : Type} {B : Nat → Int32} {L q : Nat} {J : Int32 → Option α} (h : ∀ i, i < 4 → ¬ isW B L q (3 + i)) : z_let J (fun J65 => (if (lg_cmp (lN (wv B L q)) 126893) = 0 then (J65 0) else (if (lg_cmp (lN (wv B L q)) 4437766) = 0 then (J65 1) else (if (lg_cmp (lN (wv B L q)) 8602516) = 0 then (J65 2) else (if (lg_cmp (lN (wv B L q)) 10989714) = 0 then (J65 3) else (J65 (-1))))))) = J (-1) := by
  rw [x_let]
  have c3 := wq_c (B := B) (L := L) (q := q) (w := 3) (x := 126893) (by omega) (by decide +kernel)
  have c4 := wq_c (B := B) (L := L) (q := q) (w := 4) (x := 4437766) (by omega) (by decide +kernel)
  have c5 := wq_c (B := B) (L := L) (q := q) (w := 5) (x := 8602516) (by omega) (by decide +kernel)
  have c6 := wq_c (B := B) (L := L) (q := q) (w := 6) (x := 10989714) (by omega) (by decide +kernel)
  rw [if_neg (fun h9 => h 0 (by omega) (c3.mp h9)), if_neg (fun h9 => h 1 (by omega) (c4.mp h9)), if_neg (fun h9 => h 2 (by omega) (c5.mp h9)), if_neg (fun h9 => h 3 (by omega) (c6.mp h9))]
theorem s_stage {d dm : z_D} {b c o L q wp t n s : Nat} (hc : b + 173 ≤ c) (hs : SX d c dm o L) (h : LX d c dm o L q 0) (hwp : wp ≤ 600) (st : St d b (dm (o + 1)) t n s) : ok (f_X7_tellStage d b c) (fun v => bl v.1 ∧ ok (f_X6_endStatement v.2 c (nI wp) v.1) (fun d' => ok (f_X9_stageTold dm o (nI wp)) (fun dm' => PS b c o L q d dm d' dm'))) := by
  obtain ⟨s1, s2, s3, s4, s5⟩ := id hs
  obtain ⟨h1, h2, h3, h4, p, p1, p2, p3, p4⟩ := id h
  have hqL := h1.1
  obtain ⟨y, ey, y1, y2, y3, y4⟩ := m_word (d := dm) (o := o) s1 s5 p3 p1
  rw [p4] at y1 y3 y4
  have ey1 : y.2 (o + 1) = dm (o + 1) := by
    funext k
    exact y2 _ _ (by omega)
  have ey8 : y.2 (o + 8) = dm (o + 8) := by
    funext k
    exact y2 _ _ (by omega)
  have y15 : y.2 o 15 = 0 := by rw [y2 _ _ (by omega), h3]
  unfold f_X7_tellStage f_X9_stageTold
  rw [x_let, if_pos h3, ey, x_bY]
  dsimp only
  rw [x_nam, y1, ok_bX]
  generalize hKM : (fun x65 : Int32 => fun d16 : z_D => z_bX (f_X9_ends d16 o) (fun v17 d18 => (if v17 = 0 then (some d18) else z_ald d18 (o + 9) 600 0 (fun v19 => z_bX (f_X9_stages d18 o x65 v19) (fun v20 d21 => z_let (fun x_276 : Int32 => ((f_X9_can d21 o x_276 (nI wp)).bind fun d22 => (f_X9_stageTold_L283 o (nI wp) (fun d29 => (some d29)) z_N 1 d22))) (fun J276 => (if v20 = (-1) then (J276 0) else (J276 1)))))))) = KM
  have eKM : ∀ x65, KM x65 = (fun d16 : z_D => z_bX (f_X9_ends d16 o) (fun v17 d18 => (if v17 = 0 then (some d18) else z_ald d18 (o + 9) 600 0 (fun v19 => z_bX (f_X9_stages d18 o x65 v19) (fun v20 d21 => z_let (fun x_276 : Int32 => ((f_X9_can d21 o x_276 (nI wp)).bind fun d22 => (f_X9_stageTold_L283 o (nI wp) (fun d29 => (some d29)) z_N 1 d22))) (fun J276 => (if v20 = (-1) then (J276 0) else (J276 1)))))))) := fun x65 => by rw [← hKM]
  have bad : ∀ (d2 dm2 : z_D) (x z x65 top : Int32), LF d2 c dm2 o → Ft c d d2 → Fw o dm dm2 → ok (z_bX (f_X3_openStage d2 b x z) (fun v5 d6 => z_let (fun x_29 : Int32 => (f_X7_tellStage_L37 b c z (fun v18 d17 => (z_bool v18 (some (v18, d17)))) z_N x_29 1 0 d6)) (fun J29 => (if v5 = (-1) then (J29 0) else (J29 1))))) (fun v => bl v.1 ∧ ok (f_X6_endStatement v.2 c (nI wp) v.1) (fun d' => ok (f_X9_stageTold_L112 o (nI wp) x65 top (KM x65) z_N 0 dm2) (fun dm' => PS b c o L q d dm d' dm'))) := fun d2 dm2 x z x65 top k0 k1 k2 => by
    rw [ok_bX]
    obtain ⟨w, ew, u, -, -, w2, -, s', w3⟩ := j_stage (d := d2) (dm := dm) (o := o) (st.t hc k1) x z
    rw [ew, ok_s]
    have k3 := k0.r (d' := w.2) (by rw [w2 c (Or.inr hc)])
    have ne : ¬ dm2 o 15 = 0 := by rw [k0.2]; exact k0.1
    have fin : ∀ x29 : Int32, bl x29 → ok (f_X7_tellStage_L37 b c z (fun v18 d17 => (z_bool v18 (some (v18, d17)))) z_N x29 1 0 w.2) (fun v => bl v.1 ∧ ok (f_X6_endStatement v.2 c (nI wp) v.1) (fun d' => ok (f_X9_stageTold_L112 o (nI wp) x65 top (KM x65) z_N 0 dm2) (fun dm' => PS b c o L q d dm d' dm'))) := fun x29 hb => by
      rw [show z_N = 5999 + 1 from rfl, L37u, L112u]
      unfold f_X7_tellStage_L37_b f_X9_stageTold_L112_b
      rw [if_neg ne, if_neg (show ¬ (600 : Int32) ≤ 0 by decide), k_takes0 k3.1, x_bX, if_pos rfl]
      dsimp only
      rw [x_bl hb, eKM]
      exact RT_F hb k3 ⟨_, _, _, _, w3⟩ (k1.k.tr (w2.k hc)) k2
    rw [x_let]
    by_cases hx : w.1 = -1
    · rw [if_pos hx]
      exact fin 0 bl0
    · rw [if_neg hx]
      exact fin 1 bl1
  refine ok_m (j_kind hs h) (fun v hv => ?_)
  obtain ⟨f1, hv⟩ := hv
  rcases hv with ⟨i, hi, v1, b1, b4, b5⟩ | ⟨b1, rfl⟩
  rotate_left
  · have hf := m_fails (d := y.2) (o := o) (k := 1) (p := q) y15
    have l0 : LF (z_up d c 5 (nI (1 + 8 * q))) c (z_up y.2 o 15 (nI (1 + 8 * q))) o := by
      refine ⟨?_, ?_⟩
      · rw [u_s]
        exact nI_ne0 (by omega) (by omega)
      · rw [u_s, u_s]
    rw [kd_no b1]
    rw [x_let, if_pos rfl, y3]
    show ok _ (fun v : Int32 × z_D => bl v.1 ∧ ok (f_X6_endStatement v.2 c (nI wp) v.1) (fun d' => ok ((f_X9_fails y.2 o (nI 1) (nI q)).bind _) _))
    rw [hf, x_ob]
    dsimp only
    obtain ⟨n1, n2⟩ := j_num0 l0 1 300
    have ne : ¬ (z_up y.2 o 15 (nI (1 + 8 * q))) o 15 = 0 := by rw [l0.2]; exact l0.1
    rw [n1, n2, x_ob, x_bX, x_let, if_neg ne]
    dsimp only
    have := bad _ _ (-1) (-1) (-1) 0 l0 f1 (y2.fl.w.tr (Fl.u (by omega)).w)
    rw [eKM] at this
    exact this
  rw [kd_ch hi b1]
  rw [x_let, if_neg (fun h9 => by rw [x_nm1 i (by omega)] at h9; exact h9)]
  dsimp only
  obtain ⟨l1, l2, -⟩ := h.wd (w := 3 + i) (d' := v.2) (dm' := y.2) (by omega) b1 b4 b5 y2 y4
  have sv := (hs.k (b := b) f1.k hc).w y2.fl.w
  rw [ok_bX]
  refine ok_m (j_num sv l1 1 300) (fun v' hv' => ?_)
  obtain ⟨dm1, en1, f2, g1, hv'⟩ := hv'
  have fw : Fw o dm dm1 := y2.fl.w.tr g1.w
  rw [en1, x_ob, x_let]
  rcases hv' with ⟨-, -, h1', v2, -, q1⟩ | ⟨-, h1'⟩
  rotate_left
  · have ne : ¬ dm1 o 15 = 0 := by rw [h1'.2]; exact h1'.1
    rw [if_neg ne]
    dsimp only
    have := bad v'.2 dm1 v.1 v'.1 (nI i) 0 h1' (f1.tr f2) fw
    rw [eKM] at this
    exact this
  rw [if_pos h1'.2.2.1, x_al0 (by omega) (by omega), v2]
  dsimp only
  have er : dm1 (o + 1) = dm (o + 1) := by rw [g1.1 _ (by omega) (by omega), ey1]
  have st2 : St v'.2 b (dm (o + 1)) t n s := (st.t hc f1).t hc f2
  rw [ok_bX]
  obtain ⟨w, ew, u, eu, w1, w2, -, s', w3⟩ := j_stage (d := v'.2) (dm := dm) (o := o) st2 v.1 v'.1
  rw [ew, ok_s, x_let]
  have SX1 := ((sv.k (b := b) f2.k hc).w g1.w).k (b := b) (w2.k hc) hc
  have l3 := h1'.r (d' := w.2) (by rw [w2 c (Or.inr hc)])
  have hz := h1'.1.1
  have key := lp_stage (b := b) (c := c) (o := o) (L := L) (wp := wp) (t := t) (n := n) (s := s') (ρ := dm (o + 1)) (ρ1 := u.2 (o + 1)) (f0 := decide (¬ w.1 = -1)) (x65 := nI i) (len := v'.1) hc hwp (fun dx hx => by
    rw [v1] at eu
    refine ok_m (m_stage_row st.1 hx eu) (fun z hz => ⟨?_, hz.2⟩)
    rw [hz.1, ← w1]
    by_cases h9 : w.1 = -1
    · rw [decide_eq_false (fun h8 => h8 h9)]
      exact ⟨fun _ => rfl, fun _ => h9⟩
    · rw [decide_eq_true h9]
      exact ⟨fun h8 => absurd h8 h9, fun h8 => absurd h8 (by decide)⟩) L z_N z_N w.2 dm1 _ 0 0 (by omega) (ltz (by omega)) (ltz (by omega)) SX1 l3 er v2 w3 (fun j hj => by omega)
  have key2 := ok_m key (fun x hx => (⟨hx.1, ok_m hx.2 (fun d' hd' => ok_m hd' (fun dm' hm' => hm'.pre ((f1.k.tr f2.k).tr (w2.k hc)) fw (by omega)))⟩ : bl x.1 ∧ ok (f_X6_endStatement x.2 c (nI wp) x.1) (fun d' => ok _ (fun dm' => PS b c o L q d dm d' dm'))))
  by_cases h9 : w.1 = -1
  · rw [if_pos h9]
    have e9 : decide (¬ w.1 = -1) = false := decide_eq_false (fun h8 => h8 h9)
    rw [e9] at key2
    exact key2
  · rw [if_neg h9]
    have e9 : decide (¬ w.1 = -1) = true := decide_eq_true h9
    rw [e9] at key2
    exact key2
