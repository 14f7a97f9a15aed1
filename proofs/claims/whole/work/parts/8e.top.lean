/-! 8e.top: what holds between calls; each call answers alike and keeps it -/
def Z (a o : Nat) (rf : Nat → Option Nat) (d : z_D) : Prop :=
  (∃ t n s, St d (a + 1) (d (o + 1)) t n s) ∧ (∀ j, j < 8 → SB d (a + 174 + 5 + 21 * j)) ∧ (∃ L, TA d (a + 353) d o L) ∧ (∀ x, x < 2 → (rf x = none ∧ d (o + 4) x = 0) ∨ ∃ r, rf x = some r ∧ o + 11 ≤ r ∧ d (o + 4) x = 1 ∧ ∃ t n s, St d r (fun k => d (o + 2) (2656 * x + k)) t n s) ∧ ∀ r r', rf 0 = some r → rf 1 = some r' → r + 173 ≤ r' ∨ r' + 173 ≤ r
theorem two {α β : Type} {F : Option α} {G : z_D → Option β} {h : α → z_D} {P : z_D → α → β → Prop} {C : z_D → Prop} {d : z_D} (J : ∀ dm, C dm → ok F (fun v => ok (G dm) (P dm v))) (hc0 : C d) (hcl : ∀ v w, P d v w → C (h v)) : ok F (fun v => ok (G (h v)) (P (h v) v)) := by
  obtain ⟨v, ev, w, ew, pw⟩ := J d hc0
  obtain ⟨v', ev', r⟩ := J (h v) (hcl v w pw)
  have : v' = v := Option.some.inj (ev'.symm.trans ev)
  subst this
  exact ⟨v', ev', r⟩
theorem Z.step {a o : Nat} {rf : Nat → Option Nat} {d d' : z_D} (hz : Z a o rf d) (ho : a + 355 ≤ o) (hs : ∃ t n s, St d' (a + 1) (d' (o + 1)) t n s) (h1 : ∀ x, a + 174 ≤ x → x < a + 347 → d' x = d x) (h2 : d' (a + 353) 1 = d (a + 353) 1 ∧ d' (a + 353) 5 = d (a + 353) 5) (h3 : d' (a + 354) = d (a + 354)) (h4 : d' o 11 = d o 11 ∧ d' o 15 = d o 15) (h5 : d' (o + 2) = d (o + 2)) (h6 : d' (o + 4) = d (o + 4)) (h7 : d' (o + 8) = d (o + 8)) (h8 : ∀ x, o + 11 ≤ x → d' x = d x) : Z a o rf d' := by
  obtain ⟨-, z2, ⟨L, t1, t2, t3, t4, t5, t6⟩, z4, z5⟩ := hz
  refine ⟨hs, fun j hj => ?_, ⟨L, t1, by rw [h2.1, t2], by rw [h4.1, t3], by rw [h7]; exact t4, fun i hi => ?_, by rw [h2.2, h4.2, t6]⟩, fun x hx => ?_, z5⟩
  · have := z2 j hj
    unfold SB at this ⊢
    rw [h1 _ (by omega) (by omega), h1 _ (by omega) (by omega), h1 _ (by omega) (by omega)]
    exact this
  · have := t5 i hi
    rw [h7]
    show d' (a + 354) i = _
    rw [h3]
    exact this
  · rw [h6, h5]
    rcases z4 x hx with z | ⟨r, r1, r2, r3, t, n, s, r4⟩
    · exact Or.inl z
    · exact Or.inr ⟨r, r1, r2, r3, t, n, s, r4.congr (fun y y1 y2 => h8 y (by omega))⟩
/-- questions -/
theorem Z.ask {a o : Nat} {rf : Nat → Option Nat} {d d1 d2 : z_D} (hz : Z a o rf d) (ho : a + 355 ≤ o) (f1 : ∀ q, ¬ (a + 348 ≤ q ∧ q ≤ a + 352) → d1 q = d q) (f2 : Fq o d1 d2) : Z a o rf d2 := by
  have g : ∀ q, ¬ (a + 348 ≤ q ∧ q ≤ a + 352) → ¬ q = o → ¬ q = o + 5 → ¬ q = o + 6 → ¬ q = o + 7 → d2 q = d q := fun q q1 q2 q3 q4 q5 => by rw [f2.1 q q2 q3 q4 q5, f1 q q1]
  have go : ∀ k, ¬ k = 0 → ¬ k = 6 → ¬ k = 8 → d2 o k = d o k := fun k k1 k2 k3 => by rw [f2.2 k k1 k2 k3, f1 o (by omega)]
  obtain ⟨t, n, s, hst⟩ := id hz.1
  refine hz.step ho ⟨t, n, s, ?_⟩ (fun x x1 x2 => g x (by omega) (by omega) (by omega) (by omega) (by omega)) ⟨by rw [g _ (by omega) (by omega) (by omega) (by omega) (by omega)], by rw [g _ (by omega) (by omega) (by omega) (by omega) (by omega)]⟩ (g _ (by omega) (by omega) (by omega) (by omega) (by omega)) ⟨go 11 (by omega) (by omega) (by omega), go 15 (by omega) (by omega) (by omega)⟩ (g _ (by omega) (by omega) (by omega) (by omega) (by omega)) (g _ (by omega) (by omega) (by omega) (by omega) (by omega)) (g _ (by omega) (by omega) (by omega) (by omega) (by omega)) (fun x x1 => g x (by omega) (by omega) (by omega) (by omega) (by omega))
  rw [g _ (by omega) (by omega) (by omega) (by omega) (by omega)]
  exact hst.congr (fun x x1 x2 => g x (by omega) (by omega) (by omega) (by omega) (by omega))
/-- what is told -/
theorem Z.tel {a o : Nat} {rf : Nat → Option Nat} {d d1 d2 : z_D} (hz : Z a o rf d) (ho : a + 355 ≤ o) (f1 : Fr (a + 1) d d1) (f2 : ∀ q, ¬ q = o → ¬ q = o + 1 → ¬ q = o + 5 → d2 q = d1 q) (f3 : ∀ k, ¬ k = 0 → ¬ k = 6 → d2 o k = d1 o k) (hs : ∃ t n s, St d1 (a + 1) (d2 (o + 1)) t n s) : Z a o rf d2 := by
  have g : ∀ q, (q < a + 1 ∨ a + 174 ≤ q) → ¬ q = o → ¬ q = o + 1 → ¬ q = o + 5 → d2 q = d q := fun q q1 q2 q3 q4 => by rw [f2 q q2 q3 q4, f1 q (by omega)]
  have go : ∀ k, ¬ k = 0 → ¬ k = 6 → d2 o k = d o k := fun k k1 k2 => by rw [f3 k k1 k2, f1 o (by omega)]
  obtain ⟨t, n, s, hst⟩ := hs
  exact hz.step ho ⟨t, n, s, hst.congr (fun x x1 x2 => f2 x (by omega) (by omega) (by omega))⟩ (fun x x1 x2 => g x (by omega) (by omega) (by omega) (by omega)) ⟨by rw [g _ (by omega) (by omega) (by omega) (by omega)], by rw [g _ (by omega) (by omega) (by omega) (by omega)]⟩ (g _ (by omega) (by omega) (by omega) (by omega)) ⟨go 11 (by omega) (by omega), go 15 (by omega) (by omega)⟩ (g _ (by omega) (by omega) (by omega) (by omega)) (g _ (by omega) (by omega) (by omega) (by omega)) (g _ (by omega) (by omega) (by omega) (by omega)) (fun x x1 => g x (by omega) (by omega) (by omega) (by omega))
theorem Z.telR {a o : Nat} {rf : Nat → Option Nat} {d d1 : z_D} {ρ : Nat → Int32} (hz : Z a o rf d) (ho : a + 355 ≤ o) (f1 : Fr (a + 1) d d1) (hs : ∃ t n s, St d1 (a + 1) ρ t n s) : Z a o rf (setR (z_up d1 o 0 0) (o + 1) ρ) := by
  refine hz.tel ho f1 (fun q q1 q2 q3 => by rw [setR_n q2, u_a q1]) (fun k k1 k2 => by rw [setR_n (by omega), u_k k1]) ?_
  rw [setR_s]
  exact hs
theorem Z.tap {a o : Nat} {rf : Nat → Option Nat} {d d1 d2 : z_D} (hz : Z a o rf d) (ho : a + 355 ≤ o) (ht : ∃ L, TA d1 (a + 353) d2 o L) (f1 : Fdc (a + 353) d d1) (f2 : Fem o d1 d2) : Z a o rf d2 := by
  have g : ∀ q, ¬ q = a + 353 → ¬ q = a + 354 → ¬ q = o → ¬ q = o + 8 → d2 q = d q := fun q q1 q2 q3 q4 => by rw [f2.1 q q3 q4, f1.1 q q1 q2]
  obtain ⟨⟨t, n, s, st⟩, z2, -, z4, z5⟩ := hz
  obtain ⟨L, t1, t2, t3, t4, t5, t6⟩ := ht
  refine ⟨⟨t, n, s, ?_⟩, fun j hj => ?_, ⟨L, t1, by rw [f2.1 _ (by omega) (by omega), t2], t3, t4, fun i hi => by rw [f2.1 _ (by omega) (by omega)]; exact t5 i hi, by rw [f2.1 _ (by omega) (by omega), t6]⟩, fun x hx => ?_, z5⟩
  · rw [g _ (by omega) (by omega) (by omega) (by omega)]
    exact st.congr (fun x x1 x2 => g x (by omega) (by omega) (by omega) (by omega))
  · have := z2 j hj
    unfold SB at this ⊢
    rw [g _ (by omega) (by omega) (by omega) (by omega), g _ (by omega) (by omega) (by omega) (by omega), g _ (by omega) (by omega) (by omega) (by omega)]
    exact this
  · rw [g (o + 4) (by omega) (by omega) (by omega) (by omega), g (o + 2) (by omega) (by omega) (by omega) (by omega)]
    rcases z4 x hx with z | ⟨r, r1, r2, r3, t', n', s', r4⟩
    · exact Or.inl z
    · exact Or.inr ⟨r, r1, r2, r3, t', n', s', r4.congr (fun y y1 y2 => g y (by omega) (by omega) (by omega) (by omega))⟩
theorem z_team {a o : Nat} {rf : Nat → Option Nat} {d : z_D} (hz : Z a o rf d) (ho : a + 355 ≤ o)  : ok (f_X8_team d a) (fun v => ok (f_X9_team v.2 o) (fun w => v.1 = w.1 ∧ Z a o rf w.2)) := by
  obtain ⟨t, n, s, st⟩ := id hz.1
  unfold f_X8_team f_X9_team
  rw [ok_bX]
  refine ok_m (k_team st) (fun w hw => ?_)
  obtain ⟨w1, w2, t', w3⟩ := hw
  have e1 : (z_up w.2 o 0 0) (o + 1) = d (o + 1) := by rw [u_a (by omega), w2 _ (by omega)]
  have hr := m_team (d := z_up w.2 o 0 0) (o := o) (dc := d) (b := a + 1) (t := t) (n := n) (s := s) (by rw [e1]; exact st)
  rw [e1] at hr
  rw [ok_s]
  dsimp only
  rw [x_put, hr, x_bX, ok_s]
  exact ⟨w1, hz.telR ho w2 ⟨t', _, _, w3⟩⟩
theorem z_rider {a o : Nat} {rf : Nat → Option Nat} {d : z_D} (hz : Z a o rf d) (ho : a + 355 ≤ o) (x y : Int32) : ok (f_X8_rider d a x y) (fun v => ok (f_X9_rider v.2 o x y) (fun w => v.1 = w.1 ∧ Z a o rf w.2)) := by
  obtain ⟨t, n, s, st⟩ := id hz.1
  unfold f_X8_rider f_X9_rider
  rw [ok_bX]
  refine ok_m (k_rider st x y) (fun w hw => ?_)
  obtain ⟨w1, w2, n', w3⟩ := hw
  have e1 : (z_up w.2 o 0 0) (o + 1) = d (o + 1) := by rw [u_a (by omega), w2 _ (by omega)]
  have hr := m_rider (d := z_up w.2 o 0 0) (o := o) (dc := d) (b := a + 1) (t := t) (n := n) (s := s) (by rw [e1]; exact st) x y
  rw [e1] at hr
  rw [ok_s]
  dsimp only
  rw [x_put, hr, x_bX, ok_s]
  exact ⟨w1, hz.telR ho w2 ⟨_, n', _, w3⟩⟩
theorem z_mark {a o : Nat} {rf : Nat → Option Nat} {d : z_D} (hz : Z a o rf d) (ho : a + 355 ≤ o) (x y : Int32) : ok (f_X8_mark d a x y) (fun v => ok (f_X9_mark_ v.2 o x y) (fun w => v.1 = w.1 ∧ Z a o rf w.2)) := by
  obtain ⟨t, n, s, st⟩ := id hz.1
  unfold f_X8_mark f_X9_mark_
  rw [ok_bX]
  refine ok_m (k_mark st x y) (fun w hw => ?_)
  obtain ⟨w1, w2, w3⟩ := hw
  have e1 : (z_up w.2 o 0 0) (o + 1) = d (o + 1) := by rw [u_a (by omega), w2 _ (by omega)]
  have hr := m_mark (d := z_up w.2 o 0 0) (o := o) (dc := d) (b := a + 1) (t := t) (n := n) (s := s) (by rw [e1]; exact st) x y
  rw [e1] at hr
  rw [ok_s]
  dsimp only
  rw [x_put, hr, x_bX, ok_s]
  exact ⟨w1, hz.telR ho w2 ⟨_, _, _, w3⟩⟩
theorem z_finish {a o : Nat} {rf : Nat → Option Nat} {d : z_D} (hz : Z a o rf d) (ho : a + 355 ≤ o) (x y : Int32) : ok (f_X8_finish d a x y) (fun v => ok (f_X9_finish v.2 o x y) (fun w => v.1 = w.1 ∧ Z a o rf w.2)) := by
  obtain ⟨t, n, s, st⟩ := id hz.1
  unfold f_X8_finish f_X9_finish
  rw [ok_bX]
  refine ok_m (k_finish st x y) (fun w hw => ?_)
  obtain ⟨w1, w2, w3⟩ := hw
  have e1 : (z_up w.2 o 0 0) (o + 1) = d (o + 1) := by rw [u_a (by omega), w2 _ (by omega)]
  have hr := m_finish (d := z_up w.2 o 0 0) (o := o) (dc := d) (b := a + 1) (t := t) (n := n) (s := s) (by rw [e1]; exact st) x y
  rw [e1] at hr
  have hb : bl w.1 := by
    rw [w1]
    unfold a_finish
    split
    · exact bl1
    · exact bl0
  rw [x_bl hb, ok_s]
  dsimp only
  rw [x_put, hr, x_bX, ← w1, x_bl hb, ok_s]
  exact ⟨rfl, hz.telR ho w2 ⟨_, _, _, w3⟩⟩
theorem z_over {a o : Nat} {rf : Nat → Option Nat} {d : z_D} (hz : Z a o rf d) (ho : a + 355 ≤ o) (x y : Int32) : ok (f_X8_over d a x y) (fun v => ok (f_X9_over v.2 o x y) (fun w => v.1 = w.1 ∧ Z a o rf w.2)) := by
  obtain ⟨t, n, s, st⟩ := id hz.1
  unfold f_X8_over f_X9_over
  rw [ok_bX]
  refine ok_m (k_over st x y) (fun w hw => ?_)
  obtain ⟨w1, w2, w3⟩ := hw
  have e1 : (z_up w.2 o 0 0) (o + 1) = d (o + 1) := by rw [u_a (by omega), w2 _ (by omega)]
  have hr := m_over (d := z_up w.2 o 0 0) (o := o) (dc := d) (b := a + 1) (t := t) (n := n) (s := s) (by rw [e1]; exact st) x y
  rw [e1] at hr
  rw [ok_s]
  dsimp only
  rw [x_put, hr, x_bX, ok_s]
  exact ⟨w1, hz.telR ho w2 ⟨_, _, _, w3⟩⟩
theorem z_fall {a o : Nat} {rf : Nat → Option Nat} {d : z_D} (hz : Z a o rf d) (ho : a + 355 ≤ o) (x y z : Int32) : ok (f_X8_fall d a x y z) (fun v => ok (f_X9_fall v.2 o x y z) (fun w => v.1 = w.1 ∧ Z a o rf w.2)) := by
  obtain ⟨t, n, s, st⟩ := id hz.1
  unfold f_X8_fall f_X9_fall
  rw [ok_bX]
  refine ok_m (k_fall st x y z) (fun w hw => ?_)
  obtain ⟨w1, w2, w3⟩ := hw
  have e1 : (z_up w.2 o 0 0) (o + 1) = d (o + 1) := by rw [u_a (by omega), w2 _ (by omega)]
  have hr := m_fall (d := z_up w.2 o 0 0) (o := o) (dc := d) (b := a + 1) (t := t) (n := n) (s := s) (by rw [e1]; exact st) x y z
  rw [e1] at hr
  have hb : bl w.1 := by
    rw [w1]
    unfold a_fall
    split
    · exact bl1
    · exact bl0
  rw [x_bl hb, ok_s]
  dsimp only
  rw [x_put, hr, x_bX, ← w1, x_bl hb, ok_s]
  exact ⟨rfl, hz.telR ho w2 ⟨_, _, _, w3⟩⟩
theorem z_jury {a o : Nat} {rf : Nat → Option Nat} {d : z_D} (hz : Z a o rf d) (ho : a + 355 ≤ o) (x y : Int32) : ok (f_X8_jury d a x y) (fun v => ok (f_X9_jury v.2 o x y) (fun w => v.1 = w.1 ∧ Z a o rf w.2)) := by
  obtain ⟨t, n, s, st⟩ := id hz.1
  unfold f_X8_jury f_X9_jury
  rw [ok_bX]
  refine ok_m (k_jury st x y) (fun w hw => ?_)
  obtain ⟨w1, w2, w3⟩ := hw
  have e1 : (z_up w.2 o 0 0) (o + 1) = d (o + 1) := by rw [u_a (by omega), w2 _ (by omega)]
  have hr := m_jury (d := z_up w.2 o 0 0) (o := o) (dc := d) (b := a + 1) (t := t) (n := n) (s := s) (by rw [e1]; exact st) x y
  rw [e1] at hr
  rw [ok_s]
  dsimp only
  rw [x_put, hr, x_bX, ok_s]
  exact ⟨w1, hz.telR ho w2 ⟨_, _, _, w3⟩⟩
theorem z_grace {a o : Nat} {rf : Nat → Option Nat} {d : z_D} (hz : Z a o rf d) (ho : a + 355 ≤ o) (x : Int32) : ok (f_X8_grace d a x) (fun v => ok (f_X9_grace v.2 o x) (fun w => v.1 = w.1 ∧ Z a o rf w.2)) := by
  obtain ⟨t, n, s, st⟩ := id hz.1
  unfold f_X8_grace f_X9_grace
  rw [ok_bX]
  refine ok_m (k_grace st x) (fun w hw => ?_)
  obtain ⟨w1, w2, w3⟩ := hw
  have e1 : (z_up w.2 o 0 0) (o + 1) = d (o + 1) := by rw [u_a (by omega), w2 _ (by omega)]
  have hr := m_grace (d := z_up w.2 o 0 0) (o := o) (dc := d) (b := a + 1) (t := t) (n := n) (s := s) (by rw [e1]; exact st) x
  rw [e1] at hr
  have hb : bl w.1 := by
    rw [w1]
    unfold a_grace
    split
    · exact bl1
    · exact bl0
  rw [x_bl hb, ok_s]
  dsimp only
  rw [x_put, hr, x_bX, ← w1, x_bl hb, ok_s]
  exact ⟨rfl, hz.telR ho w2 ⟨_, _, _, w3⟩⟩
theorem z_quit {a o : Nat} {rf : Nat → Option Nat} {d : z_D} (hz : Z a o rf d) (ho : a + 355 ≤ o) (x : Int32) : ok (f_X8_quit d a x) (fun v => ok (f_X9_quit v.2 o x) (fun w => v.1 = w.1 ∧ Z a o rf w.2)) := by
  obtain ⟨t, n, s, st⟩ := id hz.1
  unfold f_X8_quit f_X9_quit
  rw [ok_bX]
  refine ok_m (two (F := f_X3_dropRider d (a + 1) x) (G := fun dm => f_X9_quits dm o x) (h := fun v => z_up v.2 o 0 0) (C := fun dm => dm (o + 1) = d (o + 1)) (d := d) (fun dm hdm => j_quit (d := d) (dm := dm) (o := o) (t := t) (n := n) (s := s) (by rw [hdm]; exact st) x) rfl (fun v w hw => by rw [u_a (by omega), hw.2.2.1 _ (by omega)])) (fun v hv => ?_)
  obtain ⟨w, ew, w1, w2, w3, w4, w5⟩ := hv
  rw [x_bl w2, ok_s]
  dsimp only
  rw [x_put, ew, x_bX, ← w1, x_bl w2, ok_s]
  exact ⟨rfl, hz.tel ho w3 (fun q q1 q2 q3 => by rw [w4 q q2, u_a q1]) (fun k k1 k2 => by rw [w4 o (by omega), u_k k1]) ⟨_, _, _, w5⟩⟩
theorem z_stage {a o : Nat} {rf : Nat → Option Nat} {d : z_D} (hz : Z a o rf d) (ho : a + 355 ≤ o) (x y : Int32) : ok (f_X8_stage d a x y) (fun v => ok (f_X9_stage v.2 o x y) (fun w => v.1 = w.1 ∧ Z a o rf w.2)) := by
  obtain ⟨t, n, s, st⟩ := id hz.1
  unfold f_X8_stage f_X9_stage
  rw [ok_bX]
  refine ok_m (two (F := f_X3_openStage d (a + 1) x y) (G := fun dm => f_X9_stages dm o x y) (h := fun v => z_up v.2 o 0 0) (C := fun dm => dm (o + 1) = d (o + 1)) (d := d) (fun dm hdm => j_stage (d := d) (dm := dm) (o := o) (t := t) (n := n) (s := s) (by rw [hdm]; exact st) x y) rfl (fun v w hw => by rw [u_a (by omega), hw.2.1 _ (by omega)])) (fun v hv => ?_)
  obtain ⟨w, ew, w1, w3, w4, s', w5⟩ := hv
  rw [ok_s]
  dsimp only
  rw [x_put, ew, x_bX, ok_s]
  exact ⟨w1, hz.tel ho w3 (fun q q1 q2 q3 => by rw [w4.1 q q1 q2 q3, u_a q1]) (fun k k1 k2 => by rw [w4.2 k k2, u_k k1]) ⟨_, _, _, w5⟩⟩
theorem z_close {a o : Nat} {rf : Nat → Option Nat} {d : z_D} (hz : Z a o rf d) (ho : a + 355 ≤ o) : ok (f_X8_close d a) (fun v => ok (f_X9_close v.2 o) (fun w => v.1 = w.1 ∧ Z a o rf w.2)) := by
  obtain ⟨t, n, s, st⟩ := id hz.1
  unfold f_X8_close f_X9_close
  rw [ok_bX]
  refine ok_m (two (F := f_X3_closeStage d (a + 1)) (G := fun dm => f_X9_closes dm o) (h := fun v => z_up v.2 o 0 0) (C := fun dm => dm (o + 1) = d (o + 1)) (d := d) (fun dm hdm => j_close (d := d) (dm := dm) (o := o) (t := t) (n := n) (s := s) (by rw [hdm]; exact st)) rfl (fun v w hw => by rw [u_a (by omega), hw.2.1 _ (by omega)])) (fun v hv => ?_)
  obtain ⟨w, ew, w1, w3, w4, w5⟩ := hv
  rw [ok_s]
  dsimp only
  rw [x_put, ew, x_bX, ok_s]
  exact ⟨w1, hz.tel ho w3 (fun q q1 q2 q3 => by rw [w4.1 q q1 q2 q3, u_a q1]) (fun k k1 k2 => by rw [w4.2 k k2, u_k k1]) ⟨_, _, _, w5⟩⟩
theorem z_told {a o : Nat} {rf : Nat → Option Nat} {d : z_D} (hz : Z a o rf d) (ho : a + 355 ≤ o) (x y : Int32) : ok (f_X8_told d a x y) (fun v => ok (f_X9_told d o x y) (fun w => v = w.1 ∧ Z a o rf w.2)) := by
  obtain ⟨t, n, s, st⟩ := id hz.1
  exact ok_m (j_told (dm := d) st x y) (fun v hv => ok_m hv (fun w hw => ⟨hw.1, hz.ask ho (fun _ _ => rfl) hw.2⟩))
theorem z_order {a o : Nat} {rf : Nat → Option Nat} {d : z_D} (hz : Z a o rf d) (ho : a + 355 ≤ o) (x y : Int32) : ok (f_X8_order d a x y) (fun v => ok (f_X9_order d o x y) (fun w => v = w.1 ∧ Z a o rf w.2)) := by
  obtain ⟨t, n, s, st⟩ := id hz.1
  exact ok_m (j_order (dm := d) st x y) (fun v hv => ok_m hv (fun w hw => ⟨hw.1, hz.ask ho (fun _ _ => rfl) hw.2⟩))
theorem z_result {a o : Nat} {rf : Nat → Option Nat} {d : z_D} (hz : Z a o rf d) (ho : a + 355 ≤ o) (x y z : Int32) : ok (f_X8_result d a x y z) (fun v => ok (f_X9_result d o x y z) (fun w => v = w.1 ∧ Z a o rf w.2)) := by
  obtain ⟨t, n, s, st⟩ := id hz.1
  exact ok_m (j_result (dm := d) st x y z) (fun v hv => ok_m hv (fun w hw => ⟨hw.1, hz.ask ho (fun _ _ => rfl) hw.2⟩))
theorem z_parted {a o : Nat} {rf : Nat → Option Nat} {d : z_D} (hz : Z a o rf d) (ho : a + 355 ≤ o) (x y : Int32) : ok (f_X8_parted d a x y) (fun v => ok (f_X9_parted d o x y) (fun w => v = w.1 ∧ Z a o rf w.2)) := by
  obtain ⟨t, n, s, st⟩ := id hz.1
  exact ok_m (j_parted (dm := d) st x y) (fun v hv => ok_m hv (fun w hw => ⟨hw.1, hz.ask ho (fun _ _ => rfl) hw.2⟩))
theorem z_together {a o : Nat} {rf : Nat → Option Nat} {d : z_D} (hz : Z a o rf d) (ho : a + 355 ≤ o) (x : Int32) : ok (f_X8_together d a x) (fun v => ok (f_X9_together d o x) (fun w => v = w.1 ∧ Z a o rf w.2)) := by
  obtain ⟨t, n, s, st⟩ := id hz.1
  exact ok_m (j_together (dm := d) st x) (fun v hv => ok_m hv (fun w hw => ⟨hw.1, hz.ask ho (fun _ _ => rfl) hw.2⟩))
theorem z_escaped {a o : Nat} {rf : Nat → Option Nat} {d : z_D} (hz : Z a o rf d) (ho : a + 355 ≤ o) (x : Int32) : ok (f_X8_escaped d a x) (fun v => ok (f_X9_escaped d o x) (fun w => v = w.1 ∧ Z a o rf w.2)) := by
  obtain ⟨t, n, s, st⟩ := id hz.1
  exact ok_m (j_escaped (dm := d) st x) (fun v hv => ok_m hv (fun w hw => ⟨hw.1, hz.ask ho (fun _ _ => rfl) hw.2⟩))
theorem z_total {a o : Nat} {rf : Nat → Option Nat} {d : z_D} (hz : Z a o rf d) (ho : a + 355 ≤ o) (x y : Int32) : ok (f_X8_total d a x y) (fun v => ok (f_X9_total d o x y) (fun w => v = w.1 ∧ Z a o rf w.2)) := by
  obtain ⟨t, n, s, st⟩ := id hz.1
  exact ok_m (j_total (dm := d) st x y) (fun v hv => ok_m hv (fun w hw => ⟨hw.1, hz.ask ho (fun _ _ => rfl) hw.2⟩))
theorem z_count {a o : Nat} {rf : Nat → Option Nat} {d : z_D} (hz : Z a o rf d) (ho : a + 355 ≤ o) (x : Int32) : ok (f_X8_count d a x) (fun v => ok (f_X9_count d o x) (fun w => v = w.1 ∧ Z a o rf w.2)) := by
  obtain ⟨t, n, s, st⟩ := id hz.1
  obtain ⟨L, t1, t2, t3, -⟩ := id hz.2.2.1
  exact ok_m (j_count (dm := d) st (by rw [t2, t3]) x) (fun v hv => ok_m hv (fun w hw => ⟨hw.1, hz.ask ho (fun _ _ => rfl) hw.2⟩))
theorem z_fault {a o : Nat} {rf : Nat → Option Nat} {d : z_D} (hz : Z a o rf d) (ho : a + 355 ≤ o) : ok (f_X8_fault d a) (fun v => ok (f_X9_fault d o) (fun w => v = w.1 ∧ Z a o rf w.2)) := by
  obtain ⟨L, hL⟩ := id hz.2.2.1
  exact ok_m (j_fault (dm := d) hL) (fun v hv => ok_m hv (fun w hw => ⟨hw.1, hz.ask ho (fun _ _ => rfl) hw.2⟩))
theorem z_caught {a o : Nat} {rf : Nat → Option Nat} {d : z_D} (hz : Z a o rf d) (ho : a + 355 ≤ o) (x y z w : Int32) : ok (f_X8_caught a x y z w) (fun v => ok (f_X9_caught d o x y z w) (fun w => v = w.1 ∧ Z a o rf w.2)) := ok_m (j_caught (dm := d) x y z w) (fun v hv => ok_m hv (fun w hw => ⟨hw.1, hz.ask ho (fun _ _ => rfl) hw.2⟩))
theorem z_holds {a o : Nat} {rf : Nat → Option Nat} {d : z_D} (hz : Z a o rf d) (ho : a + 355 ≤ o) (x y z : Int32) : ok (f_X8_holds a x y z) (fun v => ok (f_X9_holds d o x y z) (fun w => v = w.1 ∧ Z a o rf w.2)) := ok_m (j_holds (dm := d) x y z) (fun v hv => ok_m hv (fun w hw => ⟨hw.1, hz.ask ho (fun _ _ => rfl) hw.2⟩))
theorem z_chase {a o : Nat} {rf : Nat → Option Nat} {d : z_D} (hz : Z a o rf d) (ho : a + 355 ≤ o) (x y z : Int32) : ok (f_X8_chase a x y z) (fun v => ok (f_X9_chase d o x y z) (fun w => v = w.1 ∧ Z a o rf w.2)) := ok_m (j_chase (dm := d) x y z) (fun v hv => ok_m hv (fun w hw => ⟨hw.1, hz.ask ho (fun _ _ => rfl) hw.2⟩))
theorem z_list {a o : Nat} {rf : Nat → Option Nat} {d : z_D} (hz : Z a o rf d) (ho : a + 355 ≤ o) (x y : Int32) : ok (f_X8_list d a x y) (fun v => ok (f_X9_list v.2 o x y) (fun w => v.1 = w.1 ∧ Z a o rf w.2)) := by
  obtain ⟨t, n, s, st⟩ := id hz.1
  refine ok_m (two (F := f_X8_list d a x y) (G := fun dm => f_X9_list dm o x y) (h := fun v => v.2) (C := fun dm => dm (o + 1) = d (o + 1)) (d := d) (fun dm hdm => j_list (d := d) (dm := dm) (o := o) (t := t) (n := n) (s := s) (by rw [hdm]; exact st) x y) rfl (fun v w hw => hw.2.1 _ (by omega))) (fun v hv => ok_m hv (fun w hw => ⟨hw.1, hz.ask ho hw.2.1 hw.2.2⟩))
theorem z_jersey {a o : Nat} {rf : Nat → Option Nat} {d : z_D} (hz : Z a o rf d) (ho : a + 355 ≤ o) (x y : Int32) : ok (f_X8_jersey d a x y) (fun v => ok (f_X9_jersey v.2 o x y) (fun w => v.1 = w.1 ∧ Z a o rf w.2)) := by
  obtain ⟨t, n, s, st⟩ := id hz.1
  refine ok_m (two (F := f_X8_jersey d a x y) (G := fun dm => f_X9_jersey dm o x y) (h := fun v => v.2) (C := fun dm => dm (o + 1) = d (o + 1)) (d := d) (fun dm hdm => j_jersey (d := d) (dm := dm) (o := o) (t := t) (n := n) (s := s) (by rw [hdm]; exact st) x y) rfl (fun v w hw => hw.2.1 _ (by omega))) (fun v hv => ok_m hv (fun w hw => ⟨hw.1, hz.ask ho hw.2.1 hw.2.2⟩))
theorem z_needs {a o : Nat} {rf : Nat → Option Nat} {d : z_D} (hz : Z a o rf d) (ho : a + 355 ≤ o) (x : Int32) : ok (f_X8_needs d a x) (fun v => ok (f_X9_needs v.2 o x) (fun w => v.1 = w.1 ∧ Z a o rf w.2)) := by
  obtain ⟨t, n, s, st⟩ := id hz.1
  refine ok_m (two (F := f_X8_needs d a x) (G := fun dm => f_X9_needs dm o x) (h := fun v => v.2) (C := fun dm => dm (o + 1) = d (o + 1)) (d := d) (fun dm hdm => j_needs (d := d) (dm := dm) (o := o) (t := t) (n := n) (s := s) (by rw [hdm]; exact st) x) rfl (fun v w hw => hw.2.1 _ (by omega))) (fun v hv => ok_m hv (fun w hw => ⟨hw.1, hz.ask ho hw.2.1 hw.2.2⟩))
theorem z_without {a o : Nat} {rf : Nat → Option Nat} {d : z_D} (hz : Z a o rf d) (ho : a + 355 ≤ o) (x : Int32) : ok (f_X8_without d a x) (fun v => ok (f_X9_without v.2 o x) (fun w => v.1 = w.1 ∧ Z a o rf w.2)) := by
  obtain ⟨t, n, s, st⟩ := id hz.1
  refine ok_m (two (F := f_X8_without d a x) (G := fun dm => f_X9_without dm o x) (h := fun v => v.2) (C := fun dm => dm (o + 1) = d (o + 1)) (d := d) (fun dm hdm => j_without (d := d) (dm := dm) (o := o) (t := t) (n := n) (s := s) (by rw [hdm]; exact st) x) rfl (fun v w hw => hw.2.1 _ (by omega))) (fun v hv => ok_m hv (fun w hw => ⟨hw.1, hz.ask ho hw.2.1 hw.2.2⟩))
theorem z_rule {a o : Nat} {rf : Nat → Option Nat} {d : z_D} (hz : Z a o rf d) (ho : a + 355 ≤ o) (x y : Int32) : ok (f_X8_rule d a x y) (fun v => ok (f_X9_rule v.2 o x y) (fun w => v.1 = w.1 ∧ Z a o rf w.2)) := by
  obtain ⟨t, n, s, st⟩ := id hz.1
  have e4 : d (a + 1) 4 = d (o + 1) 4 := st.2.1.2.2.2.2.1
  have e5 : d (a + 1) 5 = d (o + 1) 5 := st.2.1.2.2.2.2.2
  have key : ok (f_X8_rule d a x y) (fun v => v.1 = (a_rule (d (o + 1)) x y).1 ∧ Fr (a + 1) d v.2 ∧ St v.2 (a + 1) (a_rule (d (o + 1)) x y).2 t n s) := by
    unfold f_X8_rule a_rule
    rw [e4, e5]
    by_cases hx : x = 0
    · rw [if_pos hx, if_pos hx]
      by_cases h4 : d (o + 1) 4 = y
      · rw [if_pos h4, if_pos h4, ok_s]
        exact ⟨rfl, Fr.rf, st⟩
      rw [if_neg h4, if_neg h4, ok_bX]
      refine ok_m (k_gap st y) (fun v hv => ?_)
      obtain ⟨v1, v2, v3⟩ := hv
      by_cases h0 : v.1 = 0
      · rw [if_pos h0, ok_s]
        exact ⟨by rw [← v1, h0], v2, v3⟩
      · rw [if_neg h0, ok_s]
        refine ⟨?_, v2, v3⟩
        show 1 = (a_gap (d (o + 1)) y).1
        rw [v1] at h0
        unfold a_gap at h0 ⊢
        split
        · rfl
        · rename_i h9
          rw [if_neg h9] at h0
          exact absurd rfl h0
    · rw [if_neg hx, if_neg hx]
      by_cases hx1 : x = 1
      · rw [if_pos hx1, if_pos hx1]
        by_cases h4 : d (o + 1) 5 = y
        · rw [if_pos h4, if_pos h4, ok_s]
          exact ⟨rfl, Fr.rf, st⟩
        rw [if_neg h4, if_neg h4, ok_bX]
        refine ok_m (k_zone st y) (fun v hv => ?_)
        obtain ⟨v1, v2, v3⟩ := hv
        by_cases h0 : v.1 = 0
        · rw [if_pos h0, ok_s]
          exact ⟨by rw [← v1, h0], v2, v3⟩
        · rw [if_neg h0, ok_s]
          refine ⟨?_, v2, v3⟩
          show 1 = (a_zone (d (o + 1)) y).1
          rw [v1] at h0
          unfold a_zone at h0 ⊢
          split
          · rfl
          · rename_i h9
            rw [if_neg h9] at h0
            exact absurd rfl h0
      · rw [if_neg hx1, if_neg hx1, ok_s]
        exact ⟨rfl, Fr.rf, st⟩
  refine ok_m key (fun v hv => ?_)
  obtain ⟨v1, v2, v3⟩ := hv
  have e1 : v.2 (o + 1) = d (o + 1) := v2 _ (by omega)
  rw [m_rule, e1, ok_s]
  exact ⟨v1, hz.telR ho v2 ⟨_, _, _, v3⟩⟩
theorem z_feed {a o : Nat} {rf : Nat → Option Nat} {d : z_D} (hz : Z a o rf d) (ho : a + 355 ≤ o) (x1 x2 x3 x4 x5 : Int32) : ok (f_X8_feed d a x1 x2 x3 x4 x5) (fun v => ok (f_X9_feed v.2 o x1 x2 x3 x4 x5) (fun w => v.1 = w.1 ∧ Z a o rf w.2)) := by
  obtain ⟨L, hL⟩ := id hz.2.2.1
  obtain ⟨t, n, s, st⟩ := id hz.1
  have TC : ∀ dm : z_D, (dm o = d o ∧ dm (o + 8) = d (o + 8)) → TA d (a + 353) dm o L := fun dm h => by
    obtain ⟨t1, t2, t3, t4, t5, t6⟩ := hL
    exact ⟨t1, t2, by rw [h.1]; exact t3, by rw [h.2]; exact t4, by rw [h.2]; exact t5, by rw [h.1]; exact t6⟩
  refine ok_m (two (F := f_X8_feed d a x1 x2 x3 x4 x5) (G := fun dm => f_X9_feed dm o x1 x2 x3 x4 x5) (h := fun v => v.2) (C := fun dm => dm o = d o ∧ dm (o + 8) = d (o + 8)) (d := d) (fun dm hdm => j_feed (a := a) x1 x2 x3 x4 x5 (TC dm hdm)) ⟨rfl, rfl⟩ (fun v w hw => ⟨hw.2.2.1.1 _ (by omega) (by omega), hw.2.2.1.1 _ (by omega) (by omega)⟩)) (fun v hv => ok_m hv (fun w hw => ⟨hw.1, ?_⟩))
  exact hz.tap ho hw.2.1 hw.2.2.1 hw.2.2.2
theorem z_end {a o : Nat} {rf : Nat → Option Nat} {d : z_D} (hz : Z a o rf d) (ho : a + 355 ≤ o) (x1 : Int32) : ok (f_X8_end d a x1) (fun v => ok (f_X9_end v.2 o x1) (fun w => v.1 = w.1 ∧ Z a o rf w.2)) := by
  obtain ⟨L, hL⟩ := id hz.2.2.1
  obtain ⟨t, n, s, st⟩ := id hz.1
  have TC : ∀ dm : z_D, (dm o = d o ∧ dm (o + 8) = d (o + 8)) → TA d (a + 353) dm o L := fun dm h => by
    obtain ⟨t1, t2, t3, t4, t5, t6⟩ := hL
    exact ⟨t1, t2, by rw [h.1]; exact t3, by rw [h.2]; exact t4, by rw [h.2]; exact t5, by rw [h.1]; exact t6⟩
  refine ok_m (two (F := f_X8_end d a x1) (G := fun dm => f_X9_end dm o x1) (h := fun v => v.2) (C := fun dm => dm o = d o ∧ dm (o + 8) = d (o + 8)) (d := d) (fun dm hdm => j_end (a := a) x1 (TC dm hdm)) ⟨rfl, rfl⟩ (fun v w hw => ⟨hw.2.2.1.1 _ (by omega) (by omega), hw.2.2.1.1 _ (by omega) (by omega)⟩)) (fun v hv => ok_m hv (fun w hw => ⟨hw.1, ?_⟩))
  exact hz.tap ho hw.2.1 hw.2.2.1 hw.2.2.2
theorem z_tell {a o : Nat} {rf : Nat → Option Nat} {d : z_D} (hz : Z a o rf d) (ho : a + 355 ≤ o) : ok (f_X8_tell d a) (fun v => ok (f_X9_tell v.2 o) (fun w => v.1 = w.1 ∧ Z a o rf w.2)) := by
  obtain ⟨L, t1, t2, t3, t4, t5, t6⟩ := id hz.2.2.1
  obtain ⟨t, n, s, st⟩ := id hz.1
  refine ok_m (two (F := f_X8_tell d a) (G := fun dm => f_X9_tell dm o) (h := fun v => v.2) (C := fun dm => dm (o + 1) = d (o + 1) ∧ dm o = d o ∧ dm (o + 8) = d (o + 8)) (d := d) (fun dm hdm => j_tell (d := d) (dm := dm) (a := a) (o := o) (t := t) (n := n) (s := s) (L := L) (by rw [hdm.1]; exact st) hz.2.1 t1 t2 (by rw [hdm.2.1]; exact t3) (by rw [hdm.2.2]; exact t4) (by rw [hdm.2.2]; exact t5)) ⟨rfl, rfl, rfl⟩ (fun v w hw => ?_)) (fun v hv => ok_m hv (fun w hw => ?_))
  · obtain ⟨-, -, -, -, -, -, w7, -⟩ := hw
    exact ⟨w7 _ (by omega) (by omega), w7 _ (by omega) (by omega), w7 _ (by omega) (by omega)⟩
  · obtain ⟨w1, w2, w3, w4, w5, w6, w7, w8⟩ := hw
    have g : ∀ q, (q < a + 1 ∨ a + 347 ≤ q) → ¬ q = a + 353 → ¬ q = o → ¬ q = o + 1 → ¬ q = o + 3 → ¬ q = o + 5 → ¬ q = o + 9 → w.2 q = d q := fun q q1 q2 q3 q4 q5 q6 q7 => by rw [w8 q q3 q4 q5 q6 q7, w7 q q1 q2]
    have gv : ∀ q, q < o → w.2 q = v.2 q := fun q q1 => w8 q (by omega) (by omega) (by omega) (by omega) (by omega)
    refine ⟨w1, ?_, fun j hj => ?_, ⟨0, by omega, ?_, ?_, ?_, fun i hi => ?_, ?_⟩, fun x hx => ?_, hz.2.2.2.2⟩
    · obtain ⟨t', n', s', st'⟩ := w2
      exact ⟨t', n', s', st'.congr (fun x x1 x2 => gv x (by omega))⟩
    · have := w3 j hj
      unfold SB at this ⊢
      rw [gv _ (by omega), gv _ (by omega), gv _ (by omega)]
      exact this
    · rw [gv _ (by omega), w4, nI_0]
    · rw [w5, nI_0]
    · rw [g _ (by omega) (by omega) (by omega) (by omega) (by omega) (by omega) (by omega)]
      exact t4
    · rw [g (a + 353 + 1) (by omega) (by omega) (by omega) (by omega) (by omega) (by omega) (by omega), g (o + 8) (by omega) (by omega) (by omega) (by omega) (by omega) (by omega) (by omega)]
      exact t5 i hi
    · rw [gv _ (by omega), w6]
    · rw [g (o + 4) (by omega) (by omega) (by omega) (by omega) (by omega) (by omega) (by omega), g (o + 2) (by omega) (by omega) (by omega) (by omega) (by omega) (by omega) (by omega)]
      rcases hz.2.2.2.1 x hx with z | ⟨r, r1, r2, r3, t', n', s', r4⟩
      · exact Or.inl z
      · exact Or.inr ⟨r, r1, r2, r3, t', n', s', r4.congr (fun y y1 y2 => g y (by omega) (by omega) (by omega) (by omega) (by omega) (by omega) (by omega))⟩
