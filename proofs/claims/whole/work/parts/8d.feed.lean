/-! 8d.feed: bytes fed, the end, the fault -/
def bY (x : Int32) (j : Nat) : Int32 := (((x >>> ((nI (32 - 8 * j) - 8) &&& 31)).toInt8.toInt32).toInt8.toInt32)
theorem bY_b (x : Int32) (j : Nat) : -128 ≤ bY x j ∧ bY x j ≤ 127 := by
  unfold bY
  generalize ((x >>> ((nI (32 - 8 * j) - 8) &&& 31)).toInt8.toInt32).toInt8 = y
  have a := Int8.le_toInt y
  have b := Int8.toInt_lt y
  have e1 : (-128 : Int32).toInt = -128 := rfl
  have e2 : (127 : Int32).toInt = 127 := rfl
  rw [fa_le, fa_le, Int8.toInt_toInt32, e1, e2]
  omega
theorem x2s : ∀ j, j < 4 → ¬ (nI (32 - 8 * j) - 8) < 0 ∧ (nI (32 - 8 * j) - 8) + (-8) = nI (32 - 8 * (j + 1)) - 8 := by decide
theorem k_putFour {d : z_D} {c l : Nat} (x : Int32) (hl : l + 4 ≤ 600) (h1 : d c 1 = nI l) : ok (f_X6_putFour d c x) (fun e => e c 1 = nI (l + 4) ∧ (∀ i, e (c + 1) i = if l ≤ i ∧ i < l + 4 then bY x (i - l) else d (c + 1) i) ∧ (∀ a, ¬ a = c → ¬ a = c + 1 → e a = d a) ∧ ∀ k, ¬ k = 1 → e c k = d c k) := by
  unfold f_X6_putFour
  refine zl2 (f_X6_putFour_L3_b c x _) (fun _ => rfl) (fun m x2 e => ∃ j, m + j = 4 ∧ x2 = nI (32 - 8 * j) - 8 ∧ e c 1 = nI (l + j) ∧ (∀ i, e (c + 1) i = if l ≤ i ∧ i < l + j then bY x (i - l) else d (c + 1) i) ∧ (∀ a, ¬ a = c → ¬ a = c + 1 → e a = d a) ∧ ∀ k, ¬ k = 1 → e c k = d c k) ?_ 4 z_N _ _ ⟨0, by omega, rfl, h1, fun i => by rw [if_neg (by omega)], fun _ _ _ => rfl, fun _ _ => rfl⟩ (ltz (by omega))
  rintro R m x2 e ⟨j, hm, rfl, g1, g2, g3, g4⟩ ih
  unfold f_X6_putFour_L3_b
  by_cases hj : j = 4
  · subst hj
    rw [if_pos (show nI (32 - 8 * 4) - 8 < 0 by decide), ok_s]
    exact ⟨g1, g2, g3, g4⟩
  obtain ⟨y1, y2⟩ := x2s j (by omega)
  rw [if_neg y1, g1, if_neg (show ¬ (600 : Int32) ≤ nI (l + j) from fun h9 => by
    have := (nI_leI (a := 600) (by omega) (by omega)).mp h9
    omega), x_ast _ (by omega) (by omega), x_put, u_a (by omega), g1, nI_1, y2]
  refine ih (m - 1) _ _ (by omega) ⟨j + 1, by omega, rfl, u_s _ _ _ _, fun i => ?_, fun a a1 a2 => by rw [u_a a1, u_a a2, g3 a a1 a2], fun k hk => by rw [u_k hk, u_a (by omega), g4 k hk]⟩
  rw [u_a (by omega)]
  by_cases hi : i = l + j
  · subst hi
    rw [u_s, if_pos (by omega), show l + j - l = j by omega]
    rfl
  · rw [u_k hi, g2 i]
    by_cases h9 : l ≤ i ∧ i < l + j
    · rw [if_pos h9, if_pos (by omega)]
    · rw [if_neg h9, if_neg (by omega)]
theorem m_put {d : z_D} {o l : Nat} (x : Int32) (hl : l + 4 ≤ 600) (h1 : d o 11 = nI l) : ok (f_X9_put d o x) (fun e => e o 11 = nI (l + 4) ∧ (∀ i, e (o + 8) i = if l ≤ i ∧ i < l + 4 then bY x (i - l) else d (o + 8) i) ∧ (∀ a, ¬ a = o → ¬ a = o + 8 → e a = d a) ∧ ∀ k, ¬ k = 11 → e o k = d o k) := by
  unfold f_X9_put
  refine zl2 (f_X9_put_L3_b o x _) (fun _ => rfl) (fun m x2 e => ∃ j, m + j = 4 ∧ x2 = nI (32 - 8 * j) - 8 ∧ e o 11 = nI (l + j) ∧ (∀ i, e (o + 8) i = if l ≤ i ∧ i < l + j then bY x (i - l) else d (o + 8) i) ∧ (∀ a, ¬ a = o → ¬ a = o + 8 → e a = d a) ∧ ∀ k, ¬ k = 11 → e o k = d o k) ?_ 4 z_N _ _ ⟨0, by omega, rfl, h1, fun i => by rw [if_neg (by omega)], fun _ _ _ => rfl, fun _ _ => rfl⟩ (ltz (by omega))
  rintro R m x2 e ⟨j, hm, rfl, g1, g2, g3, g4⟩ ih
  unfold f_X9_put_L3_b
  by_cases hj : j = 4
  · subst hj
    rw [if_pos (show nI (32 - 8 * 4) - 8 < 0 by decide), ok_s]
    exact ⟨g1, g2, g3, g4⟩
  obtain ⟨y1, y2⟩ := x2s j (by omega)
  rw [if_neg y1, g1, x_ast _ (by omega) (by omega), x_put, u_a (by omega), g1, nI_1, y2]
  refine ih (m - 1) _ _ (by omega) ⟨j + 1, by omega, rfl, u_s _ _ _ _, fun i => ?_, fun a a1 a2 => by rw [u_a a1, u_a a2, g3 a a1 a2], fun k hk => by rw [u_k hk, u_a (by omega), g4 k hk]⟩
  rw [u_a (by omega)]
  by_cases hi : i = l + j
  · subst hi
    rw [u_s, if_pos (by omega), show l + j - l = j by omega]
    rfl
  · rw [u_k hi, g2 i]
    by_cases h9 : l ≤ i ∧ i < l + j
    · rw [if_pos h9, if_pos (by omega)]
    · rw [if_neg h9, if_neg (by omega)]
/-- the tapes alike -/
def TA (d : z_D) (c : Nat) (dm : z_D) (o L : Nat) : Prop := L ≤ 600 ∧ d c 1 = nI L ∧ dm o 11 = nI L ∧ BY (dm (o + 8)) ∧ (∀ i, i < 600 → d (c + 1) i = dm (o + 8) i) ∧ d c 5 = dm o 15
def Fdc (c : Nat) (d e : z_D) : Prop := (∀ a, ¬ a = c → ¬ a = c + 1 → e a = d a) ∧ ∀ k, ¬ k = 1 → e c k = d c k
def Fem (o : Nat) (d e : z_D) : Prop := (∀ a, ¬ a = o → ¬ a = o + 8 → e a = d a) ∧ ∀ k, ¬ k = 11 → ¬ k = 0 → e o k = d o k
theorem j_put {d dm : z_D} {c o L : Nat} (x : Int32) (h : TA d c dm o L) (hl : L + 4 ≤ 600) : ok (f_X6_putFour d c x) (fun e => ok (f_X9_put dm o x) (fun em => TA e c em o (L + 4) ∧ Fdc c d e ∧ Fem o dm em)) := by
  obtain ⟨h1, h2, h3, h4, h5, h6⟩ := h
  refine ok_m (k_putFour x hl h2) (fun e he => ok_m (m_put x hl h3) (fun em hm => ?_))
  obtain ⟨a1, a2, a3, a4⟩ := he
  obtain ⟨b1, b2, b3, b4⟩ := hm
  refine ⟨⟨hl, a1, b1, fun i hi => ?_, fun i hi => ?_, ?_⟩, ⟨a3, a4⟩, ⟨b3, fun k k1 _ => b4 k k1⟩⟩
  · rw [b2 i]
    split
    · exact bY_b _ _
    · exact h4 i hi
  · rw [a2 i, b2 i]
    split
    · rfl
    · exact h5 i hi
  · rw [a4 _ (by omega), b4 _ (by omega), h6]
theorem Fdc.tr {c : Nat} {d e f : z_D} (h : Fdc c d e) (g : Fdc c e f) : Fdc c d f := ⟨fun a a1 a2 => by rw [g.1 a a1 a2, h.1 a a1 a2], fun k hk => by rw [g.2 k hk, h.2 k hk]⟩
theorem Fem.tr {o : Nat} {d e f : z_D} (h : Fem o d e) (g : Fem o e f) : Fem o d f := ⟨fun a a1 a2 => by rw [g.1 a a1 a2, h.1 a a1 a2], fun k hk h0 => by rw [g.2 k hk h0, h.2 k hk h0]⟩
theorem Fem.t {o : Nat} {d : z_D} : Fem o d (z_up d o 0 0) := ⟨fun a a1 _ => u_a a1, fun k _ h0 => u_k h0⟩
theorem TA.t {d dm : z_D} {c o L : Nat} (h : TA d c dm o L) : TA d c (z_up dm o 0 0) o L := by
  obtain ⟨h1, h2, h3, h4, h5, h6⟩ := h
  exact ⟨h1, h2, by rw [u_k (by omega)]; exact h3, by rw [u_a (by omega)]; exact h4, by rw [u_a (by omega)]; exact h5, by rw [u_k (by omega)]; exact h6⟩
theorem j_feed {d dm : z_D} {a o L : Nat} (x1 x2 x3 x4 x5 : Int32) (h : TA d (a + 353) dm o L) : ok (f_X8_feed d a x1 x2 x3 x4 x5) (fun v => ok (f_X9_feed dm o x1 x2 x3 x4 x5) (fun w => v.1 = w.1 ∧ (∃ L', TA v.2 (a + 353) w.2 o L') ∧ Fdc (a + 353) d v.2 ∧ Fem o dm w.2)) := by
  unfold f_X8_feed f_X9_feed
  obtain ⟨h1, h2, h3, -⟩ := id h
  rw [x_put, h2, u_k (by omega), h3, x_addL]
  by_cases hl : L + 20 ≤ 600
  rotate_left
  · have hl' : ¬ nI (L + 20) ≤ (600 : Int32) := fun h9 => hl ((nI_leI (b := 600) (by omega) (by omega)).mp h9)
    rw [if_neg hl', if_neg hl', ok_s, ok_s]
    exact ⟨rfl, ⟨L, h.t⟩, ⟨fun _ _ _ => rfl, fun _ _ => rfl⟩, Fem.t⟩
  have hl' : nI (L + 20) ≤ (600 : Int32) := (nI_leI (b := 600) (by omega) (by omega)).mpr hl
  rw [if_pos hl', if_pos hl', ok_b]
  refine ok_m (j_put x1 h.t (by omega)) (fun e1 he1 => ?_)
  obtain ⟨m1, k1, t1, f1, g1⟩ := he1
  rw [k1, x_ob, ok_b]
  refine ok_m (j_put x2 t1 (by omega)) (fun e2 he2 => ?_)
  obtain ⟨m2, k2, t2, f2, g2⟩ := he2
  rw [k2, x_ob, ok_b]
  refine ok_m (j_put x3 t2 (by omega)) (fun e3 he3 => ?_)
  obtain ⟨m3, k3, t3, f3, g3⟩ := he3
  rw [k3, x_ob, ok_b]
  refine ok_m (j_put x4 t3 (by omega)) (fun e4 he4 => ?_)
  obtain ⟨m4, k4, t4, f4, g4⟩ := he4
  rw [k4, x_ob, ok_b]
  refine ok_m (j_put x5 t4 (by omega)) (fun e5 he5 => ?_)
  obtain ⟨m5, k5, t5, f5, g5⟩ := he5
  rw [k5, x_ob, ok_s, ok_s]
  refine ⟨?_, ⟨_, t5⟩, (((f1.tr f2).tr f3).tr f4).tr f5, ((((Fem.t.tr g1).tr g2).tr g3).tr g4).tr g5⟩
  show e5 (a + 353) 1 = m5 o 11
  rw [t5.2.1, t5.2.2.1]
theorem j_end {d dm : z_D} {a o L : Nat} (x : Int32) (h : TA d (a + 353) dm o L) : ok (f_X8_end d a x) (fun v => ok (f_X9_end dm o x) (fun w => v.1 = w.1 ∧ (∃ L', TA v.2 (a + 353) w.2 o L') ∧ Fdc (a + 353) d v.2 ∧ Fem o dm w.2)) := by
  unfold f_X8_end f_X9_end
  obtain ⟨h1, h2, h3, h4, h5, h6⟩ := id h
  rw [x_put, x_put, h2, u_k (by omega), h3, x_w, x_wi, x_ob, x_ob, x_ifb0, x_ifb0]
  by_cases hx : 0 ≤ x ∧ x ≤ nI L
  rotate_left
  · rw [if_neg hx, if_neg hx, ok_s, ok_s]
    exact ⟨rfl, ⟨L, h.t⟩, ⟨fun _ _ _ => rfl, fun _ _ => rfl⟩, Fem.t⟩
  obtain ⟨l, -, hl, rfl⟩ := i_nat (a := 0) (b := L) (by omega) hx (by omega)
  rw [if_pos hx, if_pos hx, x_put, ok_s, ok_s]
  refine ⟨rfl, ⟨l, by omega, u_s _ _ _ _, u_s _ _ _ _, ?_, fun i hi => ?_, ?_⟩, ⟨fun b b1 _ => u_a b1, fun k hk => u_k hk⟩, ⟨fun b b1 _ => (u_a b1).trans (u_a b1), fun k hk h0 => (u_k hk).trans (u_k h0)⟩⟩
  · show BY (z_up (z_up dm o 0 0) o 11 (nI l) (o + 8))
    rw [u_a (by omega), u_a (by omega)]
    exact h4
  · show z_up d (a + 353) 1 (nI l) (a + 353 + 1) i = z_up (z_up dm o 0 0) o 11 (nI l) (o + 8) i
    rw [u_a (by omega), u_a (by omega), u_a (by omega)]
    exact h5 i hi
  · show z_up d (a + 353) 1 (nI l) (a + 353) 5 = z_up (z_up dm o 0 0) o 11 (nI l) o 15
    rw [u_k (by omega), u_k (by omega), u_k (by omega), h6]
theorem j_fault {d dm : z_D} {a o L : Nat} (h : TA d (a + 353) dm o L) : ok (f_X8_fault d a) (fun v => ok (f_X9_fault dm o) (fun w => v = w.1 ∧ Fq o dm w.2)) := by
  unfold f_X8_fault f_X9_fault
  rw [x_put, ok_s, ok_s]
  refine ⟨?_, Fq.t⟩
  show d (a + 353) 5 = z_up dm o 0 0 o 15
  rw [u_k (by omega), h.2.2.2.2.2]
