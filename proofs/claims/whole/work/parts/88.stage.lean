/-! 88.stage: stages told -/
theorem wN_ne : ∀ w, w < 20 → ∀ w', w' < 20 → w ≠ w' → wN (wg w) (wl w) ≠ wN (wg w') (wl w') := by decide +kernel
theorem isW_1 {B : Nat → Int32} {L q w w' : Nat} (hw : w < 20) (hw' : w' < 20) (hne : w ≠ w') (h : isW B L q w) : ¬ isW B L q w' := fun h9 => wN_ne w hw w' hw' hne (((w_iff hw).mpr h).symm.trans ((w_iff hw').mpr h9))
theorem wq_c {B : Nat → Int32} {L q w : Nat} {x : Int64} (hw : w < 20) (hx : x = lN (wN (wg w) (wl w))) : lg_cmp (lN (wv B L q)) x = 0 ↔ isW B L q w := by
  rw [hx]
  exact wq_iff hw
theorem m_stage_row {dm dx : z_D} {o t n s : Nat} {x y : Int32} {w : Int32 × z_D} (h : R_cnt (dm (o + 1)) t n s) (e : dx (o + 1) = dm (o + 1)) (hw : f_X9_stages dm o x y = some w) : ok (f_X9_stages dx o x y) (fun u => u.1 = w.1 ∧ u.2 (o + 1) = w.2 (o + 1) ∧ ∀ a, ¬ a = o + 1 → u.2 a = dx a) := by
  obtain ⟨w', ew', a⟩ := m_stage h x y
  have : w' = w := Option.some.inj (ew'.symm.trans hw)
  subst this
  refine ok_m (m_stage (d := dx) (by rw [e]; exact h) x y) (fun u hu => ?_)
  rw [e] at hu
  rcases a with ⟨a0, rfl⟩ | ⟨a0, a1, a2, a3, a4, a5, a6, a7, a8, a9⟩
  · rcases hu with ⟨-, rfl⟩ | ⟨h9, -⟩
    · exact ⟨rfl, e, fun _ _ => rfl⟩
    · exact absurd h9 a0
  · rcases hu with ⟨h9, -⟩ | ⟨-, b1, b2, b3, b4, b5, b6, b7, b8, b9⟩
    · exact absurd a0 h9
    · refine ⟨by rw [a1, b1], ?_, b2⟩
      funext k
      by_cases k2 : k = 2
      · rw [k2, a4, b4]
      by_cases k3 : k = 3
      · rw [k3, a5, b5]
      by_cases ko : k < 56 + 325 * s ∨ 381 + 325 * s ≤ k
      · rw [a3 k k2 k3 ko, b3 k k2 k3 ko]
      by_cases k6 : k = 56 + 325 * s
      · rw [k6, a6, b6]
      by_cases k7 : k = 57 + 325 * s
      · rw [k7, a7, b7]
      by_cases k8 : ∃ r, r < 16 ∧ k = 184 + 325 * s + 12 * r
      · obtain ⟨r, r1, r2⟩ := k8
        rw [r2, a8 r r1, b8 r r1]
      · have hno : ∀ r, r < 16 → k ≠ 184 + 325 * s + 12 * r := fun r r1 r2 => k8 ⟨r, r1, r2⟩
        rw [a9 k (by omega) (by omega) hno, b9 k (by omega) (by omega) hno]
def Am (tv : Nat → Int32) (ρ : Nat → Int32) (k : Nat) : Bool × (Nat → Int32) := (decide (¬ (a_mark ρ (tv (2 * k + 1)) (tv (2 * k + 2))).1 = -1), (a_mark ρ (tv (2 * k + 1)) (tv (2 * k + 2))).2)
theorem m_marksL {dx : z_D} {o wp K : Nat} {ρ : Nat → Int32} (hwp : wp ≤ 600) (hK : 2 * K + 1 ≤ 600) (x1 : dx (o + 1) = ρ) (x15 : dx o 15 = 0) (x17 : dx o 17 = nI (2 * K + 1)) (hst : ∀ k, k < K → ∃ dc b t n s, St dc b (rp (Am (dx (o + 9))) (true, ρ) k).2 t n s) :
    ok (f_X9_stageTold_L283 o (nI wp) (fun d14 => some d14) z_N 1 dx) (fun dm3 => Fw o dx dm3 ∧ dm3 o 13 = dx o 13 ∧ (((rp (Am (dx (o + 9))) (true, ρ) K).1 = true ∧ dm3 o 15 = 0 ∧ dm3 (o + 1) = (rp (Am (dx (o + 9))) (true, ρ) K).2) ∨ ((rp (Am (dx (o + 9))) (true, ρ) K).1 = false ∧ dm3 o 15 = nI (3 + 8 * wp)))) := by
  generalize htv : dx (o + 9) = tv at *
  refine zl2 (f_X9_stageTold_L283_b o (nI wp) _) (fun _ => rfl) (fun m x2 e => Fw o dx e ∧ e o 13 = dx o 13 ∧ ((∃ i, m + i = K + 1 ∧ i ≤ K ∧ x2 = nI (2 * i + 1) ∧ e (o + 9) = tv ∧ e o 15 = 0 ∧ e o 17 = nI (2 * K + 1) ∧ (rp (Am tv) (true, ρ) i).1 = true ∧ e (o + 1) = (rp (Am tv) (true, ρ) i).2) ∨ (¬ e o 15 = 0 ∧ (rp (Am tv) (true, ρ) K).1 = false ∧ e o 15 = nI (3 + 8 * wp)))) ?_ (K + 1) z_N _ _ ⟨Fw.rf, rfl, Or.inl ⟨0, by omega, by omega, rfl, htv, x15, x17, rfl, x1⟩⟩ (ltz (by omega))
  rintro R m x2 e ⟨g1, g2, g3⟩ ih
  unfold f_X9_stageTold_L283_b
  rcases g3 with ⟨i, hm, hi, rfl, e9, e15, e17, hf, er⟩ | ⟨a1, a2, a3⟩
  rotate_left
  · by_cases hle : e o 17 ≤ x2
    · rw [if_pos hle, ok_s]
      exact ⟨g1, g2, Or.inr ⟨a2, a3⟩⟩
    · rw [if_neg hle, if_neg a1, ok_s]
      exact ⟨g1, g2, Or.inr ⟨a2, a3⟩⟩
  rw [e17]
  by_cases hiK : i = K
  · subst hiK
    rw [if_pos ((nI_leI (by omega) (by omega)).mpr (Nat.le_refl _)), ok_s]
    exact ⟨g1, g2, Or.inl ⟨hf, e15, er⟩⟩
  obtain ⟨dc, b, t, n, s, hst⟩ := hst i (by omega)
  have hr := m_mark (d := e) (o := o) (dc := dc) (b := b) (t := t) (n := n) (s := s) (by rw [er]; exact hst) (tv (2 * i + 1)) (tv (2 * i + 1 + 1))
  rw [er] at hr
  have hsucc : rp (Am tv) (true, ρ) (i + 1) = ((rp (Am tv) (true, ρ) i).1 && decide (¬ (a_mark (rp (Am tv) (true, ρ) i).2 (tv (2 * i + 1)) (tv (2 * i + 1 + 1))).1 = -1), (a_mark (rp (Am tv) (true, ρ) i).2 (tv (2 * i + 1)) (tv (2 * i + 1 + 1))).2) := rfl
  rw [hf] at hsucc
  rw [if_neg (nI_ge (by omega) (by omega)), if_pos e15, x_ald _ (by omega) (by omega), x_addL, x_ald _ (by omega) (by omega), e9, hr, x_bX]
  generalize a_mark (rp (Am tv) (true, ρ) i).2 (tv (2 * i + 1)) (tv (2 * i + 1 + 1)) = a at *
  have s15 : (setR e (o + 1) a.2) o 15 = 0 := by rw [setR_w.2]; exact e15
  by_cases hb : a.1 = -1
  · rw [if_pos hb, m_can0 (p := wp) rfl s15, x_ob, x_addL]
    refine ih (m - 1) _ _ (by omega) ⟨(g1.tr setR_w.1).tr (Fl.u (by omega)).w, by rw [u_k (by omega), setR_w.2, g2], Or.inr ⟨?_, ?_, u_s _ _ _ _⟩⟩
    · rw [u_s]
      exact nI_ne0 (by omega) (by omega)
    · have h1 : (rp (Am tv) (true, ρ) (i + 1)).1 = false := by
        rw [hsucc]
        show (true && decide (¬ a.1 = -1)) = false
        rw [hb]
        rfl
      have := rp_f h1 (K - (i + 1))
      rw [show i + 1 + (K - (i + 1)) = K by omega] at this
      exact this
  · rw [if_neg hb, m_can1 (by decide), x_ob, x_addL]
    refine ih (m - 1) _ _ (by omega) ⟨g1.tr setR_w.1, by rw [setR_w.2, g2], Or.inl ⟨i + 1, by omega, by omega, congrArg nI (by omega), by rw [setR_n (by omega), e9], s15, by rw [setR_w.2]; exact e17, ?_, by rw [setR_s, hsucc]⟩⟩
    rw [hsucc]
    show (true && decide (¬ a.1 = -1)) = true
    rw [Bool.true_and]
    exact decide_eq_true hb
/-- what the model does with a word behind a mark's km -/
def mHow (dm : z_D) (o : Nat) (R : z_D → Option z_D) : Option z_D := z_bY (f_X9_word dm o) (fun v13 d14 => (if (lg_cmp v13 1837433) = 0 then ((f_X9_number d14 o 1 4).bind fun d12 => (R d12)) else (if (lg_cmp v13 281493542) = 0 then z_ast d14 (o + 9) 600 (d14 o 17) 0 (fun d10 => z_put d10 o 17 ((d10 o 17) + 1) (fun d11 => (R d11))) else ((f_X9_fails d14 o 1 (d14 o 14)).bind fun d9 => (R d9)))))
theorem j_how {d dm : z_D} {c o L q M : Nat} (hs : SX d c dm o L) (h : LX d c dm o L q M) : ok (f_X7_takeHow d c) (fun v => ∃ dm', (∀ R, mHow dm o R = R dm') ∧ Ft c d v.2 ∧ Fl o dm dm' ∧ ((∃ q', q < q' ∧ LX v.2 c dm' o L q' (M + 1) ∧ dm' (o + 9) M = v.1 ∧ ∀ i, ¬ i = M → dm' (o + 9) i = dm (o + 9) i) ∨ (v.1 = -1 ∧ LF v.2 c dm' o))) := by
  obtain ⟨s1, s2, s3, s4, s5⟩ := id hs
  obtain ⟨h1, h2, h3, h4, p, p1, p2, p3, p4⟩ := id h
  have hqL := h1.1
  have hpq : p ≤ q := by
    have := (rk_i (k := 4) (B := dm (o + 8)) (L := L) (p := p) (by omega)).1
    omega
  obtain ⟨y, ey, y1, y2, y3, y4⟩ := m_word (d := dm) (o := o) s1 s5 p3 p1
  rw [p4] at y1 y3 y4
  have ey9 : y.2 (o + 9) = dm (o + 9) := by
    funext k
    exact y2 _ _ (by omega)
  have ey8 : y.2 (o + 8) = dm (o + 8) := by
    funext k
    exact y2 _ _ (by omega)
  have y15 : y.2 o 15 = 0 := by rw [y2 _ _ (by omega), h3]
  have y17 : y.2 o 17 = nI M := by rw [y2 _ _ (by omega), h4]
  have c9 := wq_c (B := dm (o + 8)) (L := L) (q := q) (w := 9) (x := 1837433) (by omega) (by decide +kernel)
  have c8 := wq_c (B := dm (o + 8)) (L := L) (q := q) (w := 8) (x := 281493542) (by omega) (by decide +kernel)
  have sy := hs.w y2.fl.w
  unfold f_X7_takeHow
  rw [ok_bX]
  refine ok_m (k_takes (w := 8) (by omega) s1 s3 s4 h1 h2) (fun v hv => ?_)
  rcases hv with ⟨b1, b2, b3, b4, b5⟩ | ⟨b1, rfl⟩
  · rw [b2, if_neg (by decide), ok_s]
    have n9 := isW_1 (w := 8) (w' := 9) (by omega) (by omega) (by omega) b1
    obtain ⟨l1, l2, l3⟩ := h.wd (w := 8) (d' := v.2) (dm' := y.2) (by omega) b1 b4 b5 y2 y4
    refine ⟨z_up (z_up y.2 (o + 9) M 0) o 17 (nI (M + 1)), fun R => ?_, b3, ⟨fun a a1 a2 => ?_, fun k k1 k2 k3 k4 => ?_⟩, Or.inl ⟨_, l2, ?_, ?_, fun i hi => ?_⟩⟩
    · unfold mHow
      rw [ey, x_bY, y1, if_neg (fun h9 => n9 (c9.mp h9)), if_pos (c8.mpr b1), y17, x_ast _ (by omega) (by omega), x_put, x_un (by omega), y17, nI_1]
    · rw [u_a a1, u_a a2]
      funext k
      exact y2 _ _ (by omega)
    · rw [u_k k4, u_a (by omega)]
      exact y2 _ _ (by omega)
    · obtain ⟨m1, m2, m3, m4, p', r1, r2, r3, r4⟩ := l1
      have e8 : (z_up (z_up y.2 (o + 9) M 0) o 17 (nI (M + 1))) (o + 8) = y.2 (o + 8) := by rw [u_a (by omega), u_a (by omega)]
      have hp' : p' = rk 1 (dm (o + 8)) L q := by
        have := (rk_i (k := 1) (B := dm (o + 8)) (L := L) (p := q) (by omega)).2.1 hqL
        rw [y4] at r3
        exact ((nI_eq (by omega) (by omega)).mp r3).symm
      exact ⟨by rw [e8]; exact m1, m2, by rw [u_k (by omega), u_a (by omega)]; exact m3, u_s _ _ _ _, p', r1, by omega, by rw [u_k (by omega), u_a (by omega)]; exact r3, by rw [e8]; exact r4⟩
    · show (z_up (z_up y.2 (o + 9) M 0) o 17 (nI (M + 1))) (o + 9) M = 0
      rw [u_a (by omega), u_s]
    · rw [u_a (by omega), u_k hi, ey9]
  show ok (if (0 : Int32) = 0 then _ else _) _
  rw [if_pos rfl, ok_bX]
  refine ok_m (k_takes (w := 9) (by omega) s1 s3 s4 h1 h2) (fun v hv => ?_)
  rcases hv with ⟨d1, d2, d3, d4, d5⟩ | ⟨d1, rfl⟩
  · rw [d2, if_neg (by decide), ok_bX]
    obtain ⟨l1, l2, l3⟩ := h.wd (w := 9) (d' := v.2) (dm' := y.2) (by omega) d1 d4 d5 y2 y4
    have sv : SX v.2 c y.2 o L := ⟨s1, by rw [ey8]; exact s2, by rw [d3.2 _ (by omega) (by omega) (by omega) (by omega)]; exact s3, fun i hi => by rw [d3.1 _ (by omega), ey8]; exact s4 i hi, by rw [y2 _ _ (by omega)]; exact s5⟩
    refine ok_m (j_num sv l1 1 4) (fun u hu => ?_)
    obtain ⟨dm', en, f1, g1, hu⟩ := hu
    rw [ok_s]
    refine ⟨dm', fun R => ?_, d3.tr f1, y2.fl.tr g1, ?_⟩
    · unfold mHow
      rw [ey, x_bY, y1, if_pos (c9.mpr d1), en, x_ob]
    · rcases hu with ⟨-, -, u1, u2, u3, u4⟩ | hu
      · exact Or.inl ⟨_, by omega, u1, u2, fun i hi => by rw [u3 i hi, ey9]⟩
      · exact Or.inr hu
  · show ok (if (0 : Int32) = 0 then _ else _) _
    rw [if_pos rfl, k_cannot h1.2.2.1 h2, x_bX, ok_s]
    refine ⟨z_up y.2 o 15 (nI (1 + 8 * q)), fun R => ?_, Ft.u (by omega), y2.fl.tr (Fl.u (by omega)), Or.inr ⟨rfl, ?_, ?_⟩⟩
    · unfold mHow
      have hf := m_fails (d := y.2) (o := o) (k := 1) (p := q) y15
      rw [ey, x_bY, y1, if_neg (fun h9 => d1 (c9.mp h9)), if_neg (fun h9 => b1 (c8.mp h9)), y3]
      show (f_X9_fails y.2 o (nI 1) (nI q)).bind _ = _
      rw [hf, x_ob]
    · show ¬ z_up d c 5 _ c 5 = 0
      rw [u_s]
      exact nI_ne0 (by omega) (by omega)
    · show _ = z_up d c 5 _ c 5
      rw [u_s, u_s]
theorem j_how0 {d dm : z_D} {c o : Nat} (h : LF d c dm o) : f_X7_takeHow d c = some (-1, d) := by
  unfold f_X7_takeHow
  rw [k_takes0 h.1, x_bX, if_pos rfl, k_takes0 h.1, x_bX, if_pos rfl, k_cannot0 h.1, x_bX]
theorem L37u (b c : Nat) (x : Int32) (K : Int32 → z_D → Option (Int32 × z_D)) (f : Nat) : f_X7_tellStage_L37 b c x K (f + 1) = f_X7_tellStage_L37_b b c x K (f_X7_tellStage_L37 b c x K f) := rfl
theorem L112u (o : Nat) (x1 x4 x5 : Int32) (K : z_D → Option z_D) (f : Nat) : f_X9_stageTold_L112 o x1 x4 x5 K (f + 1) = f_X9_stageTold_L112_b o x1 x4 x5 K (f_X9_stageTold_L112 o x1 x4 x5 K f) := rfl
/-- the model's step behind 'at' -/
theorem m_step {dm : z_D} {o : Nat} {x1 x4 x5 x6 : Int32} {K : z_D → Option z_D} {R : Int32 → z_D → Option z_D} (h15 : dm o 15 = 0) : f_X9_stageTold_L112_b o x1 x4 x5 K R x6 dm = z_bX (f_X9_isWord dm o 47) (fun v3 d4 => (if v3 = 0 then (K d4) else z_bY (f_X9_word d4 o) (fun v5 d6 => ((f_X9_number d6 o (x6 + 1) (x5 - 1)).bind fun d7 => (if (d7 o 15) = 0 then z_ald d7 (o + 9) 600 ((d7 o 17) - 1) (fun v15 => mHow d7 o (R v15)) else ((f_X9_fails d7 o 1 (d7 o 14)).bind fun d9 => (R 0 d9))))))) := by
  unfold f_X9_stageTold_L112_b mHow
  rw [if_pos h15]
  simp only [x_let, x_nam]
  congr 1
  funext v3 d4
  by_cases hv : v3 = 0
  · rw [if_pos hv, if_pos hv]
  rw [if_neg hv, if_neg hv]
  congr 1
  funext v5 d6
  congr 1
  funext d7
  by_cases h7 : d7 o 15 = 0
  · rw [if_pos h7, if_pos h7]
    congr 1
    funext v15
    rw [if_pos h7]
  · have z1 : ¬ lg_cmp 0 1837433 = 0 := by decide
    have z2 : ¬ lg_cmp 0 281493542 = 0 := by decide
    rw [if_neg h7, if_neg h7, if_neg h7, if_neg z1, if_neg z2]
