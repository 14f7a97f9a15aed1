/-! 96.of: of -/
def f_of (d : z_D) (b : Nat) (x y : Int32) : Option Int32 := if y = 0 then z_ald d (b + 1) 16 x (fun v => some v) else if y = 1 then z_ald d (b + 2) 16 x (fun v => some v) else if y = 2 then z_ald d (b + 3) 16 x (fun v => if v = 0 then some 0 else some 1) else f_X3_gained d b x y
theorem q_X9_in (x a b : Int32) : f_X9_isIn x a b = some (b01 (a ≤ x ∧ x ≤ b)) := by
  unfold f_X9_isIn
  by_cases h1 : x < a
  · rw [if_pos h1, b01_f (fun h => absurd h1 (Int32.not_lt.mpr h.1))]
  · rw [if_neg h1]
    by_cases h2 : b < x
    · rw [if_pos h2, b01_f (fun h => absurd h2 (Int32.not_lt.mpr h.2))]
    · rw [if_neg h2, b01_t ⟨Int32.not_lt.mp h1, Int32.not_lt.mp h2⟩]
theorem i_10 : ((1 : Int32) = 0) = False := eq_false (by decide)
theorem i_o01 : ((0 : Int32) = 1) = False := eq_false (by decide)
theorem q_of_bad {d : z_D} {o n : Nat} {x y : Int32} (h1 : d (o + 1) 1 = nI n) (h : ¬ ((0 ≤ x ∧ x ≤ nI n - 1) ∧ (0 ≤ y ∧ y ≤ 6))) : f_X9_of d o x y = some (0, z_up d o 0 1) := by
  unfold f_X9_of
  rw [q_isRider x h1, q_X9_in]
  by_cases hP : 0 ≤ x ∧ x ≤ nI n - 1
  · have hQ : ¬ (0 ≤ y ∧ y ≤ 6) := fun q => h ⟨hP, q⟩
    rw [b01_t hP, b01_f hQ]
    simp only [Option.bind_some, x_let, x_put, i_10, if_true, if_false, u_s]
  · rw [b01_f hP]
    simp only [Option.bind_some, x_let, x_put, i_10, if_true, if_false, u_s]
theorem q_of_ok {d : z_D} {o n r : Nat} {y : Int32} (h1 : d (o + 1) 1 = nI n) (hr : r < n) (h16 : n ≤ 16) (hy : 0 ≤ y ∧ y ≤ 6) : f_X9_of d o (nI r) y = (if y = 0 then some (d (o + 1) (8 + 3 * r + 0), z_up d o 0 0) else if y = 1 then some (d (o + 1) (8 + 3 * r + 1), z_up d o 0 0) else if y = 2 then some (d (o + 1) (8 + 3 * r + 2), z_up d o 0 0) else if y = 3 then ((f_X9_allOf (z_up d o 0 0) o (nI r) 10).bind fun v => some (v, z_up d o 0 0)) else if y = 4 then ((f_X9_allOf (z_up d o 0 0) o (nI r) 11).bind fun v => some (v, z_up d o 0 0)) else if y = 5 then ((f_X9_allOf (z_up d o 0 0) o (nI r) 9).bind fun v => some (v, z_up d o 0 0)) else ((f_X9_allOf (z_up d o 0 0) o (nI r) 3).bind fun v => some (v, z_up d o 0 0))) := by
  have hP : (0 : Int32) ≤ nI r ∧ nI r ≤ nI n - 1 := by
    rw [show nI n - 1 = nI (n - 1) from x_subL n 1 (show 1 ≤ n by omega)]
    exact ⟨(nI_leI (a := 0) (by omega) (by omega)).mpr (by omega), (nI_leI (by omega) (by omega)).mpr (by omega)⟩
  have e : ∀ kk, z_up d o 0 0 (o + 1) kk = d (o + 1) kk := fun kk => by rw [u_a (by omega)]
  unfold f_X9_of
  rw [q_isRider _ h1, q_X9_in, b01_t hP, b01_t hy]
  simp only [Option.bind_some, x_let, x_put, i_10, i_o01, if_true, if_false, u_s]
  by_cases y0 : y = 0
  · subst y0
    rw [if_pos rfl, if_pos rfl]
    show z_ald (z_up d o 0 0) (o + 1) 2656 ((8 + 3 * nI r) + 0) _ = _
    rw [q_r3, show (nI (8 + 3 * r) + 0 : Int32) = nI (8 + 3 * r + 0) from nI_add _ 0, q_ald (by omega) (by omega), e]
  · by_cases y1 : y = 1
    · subst y1
      rw [if_neg y0, if_pos rfl, if_neg y0, if_pos rfl]
      show z_ald (z_up d o 0 0) (o + 1) 2656 ((8 + 3 * nI r) + 1) _ = _
      rw [q_r3, nI_1, q_ald (by omega) (by omega), e]
    · by_cases y2 : y = 2
      · subst y2
        rw [if_neg y0, if_neg y1, if_pos rfl, if_neg y0, if_neg y1, if_pos rfl]
        show z_ald (z_up d o 0 0) (o + 1) 2656 ((8 + 3 * nI r) + 2) _ = _
        rw [q_r3, show (nI (8 + 3 * r) + 2 : Int32) = nI (8 + 3 * r + 2) from nI_add _ 2, q_ald (by omega) (by omega), e]
      · simp only [y0, y1, y2, if_false]
theorem Z.of {a o : Nat} {rf : Nat → Option Nat} {d : z_D} {v : Int32} (hz : Z a o rf d) (ho : a + 355 ≤ o) : Z a o rf (z_up d o 0 v) := hz.ask ho (fun _ _ => rfl) ⟨fun q q1 _ _ _ => by rw [u_a q1], fun k k1 _ _ => by rw [u_k k1]⟩
theorem z_of {a o : Nat} {rf : Nat → Option Nat} {d : z_D} (hz : Z a o rf d) (ho : a + 355 ≤ o) (x y : Int32) :
    (∃ h g, f_X3_hasRider d (a + 1) x = some h ∧ f_X8_within y 0 6 = some g ∧ (h = 0 ∨ g = 0) ∧ ok (f_X9_of d o x y) (fun w => w.2 o 0 = 1 ∧ Z a o rf w.2)) ∨
    (f_X3_hasRider d (a + 1) x = some 1 ∧ f_X8_within y 0 6 = some 1 ∧ ok (f_of d (a + 1) x y) (fun v => ok (f_X9_of d o x y) (fun w => w.2 o 0 = 0 ∧ v = w.1 ∧ Z a o rf w.2))) := by
  obtain ⟨t, n, s, st⟩ := id hz.1
  have c1 := st.1.2.1
  have h1 : d (o + 1) 1 = nI n := c1.1
  have h16 : n ≤ 16 := c1.2
  have hd1 : d (a + 1) 1 = nI n := st.2.1.2.1.trans h1
  by_cases hPQ : (0 ≤ x ∧ x ≤ nI n - 1) ∧ (0 ≤ y ∧ y ≤ 6)
  · obtain ⟨hP, hQ⟩ := hPQ
    refine Or.inr ⟨by rw [q_hasRider x hd1, b01_t hP], by rw [q_X8_within, b01_t hQ], ?_⟩
    have hn0 : 0 < n := by
      rcases Nat.eq_zero_or_pos n with h | h
      · subst h
        have := Int32.le_trans hP.1 hP.2
        exact absurd this (by decide)
      · exact h
    rw [show nI n - 1 = nI (n - 1) from x_subL n 1 (show 1 ≤ n by omega)] at hP
    obtain ⟨r, -, hr, rfl⟩ := i_nat (a := 0) (b := n - 1) (by omega) hP (by omega)
    have hrn : r < n := by omega
    rw [q_of_ok h1 hrn h16 hQ]
    obtain ⟨ri1, ri2, ri3, ri4, ri5, ri6⟩ := st.2.2.1 r hrn
    obtain ⟨cl, hcl, hclo, hrho, h4⟩ := st.clos
    have h8 : cl ≤ 8 := Nat.le_trans hcl st.1.2.2.1.2
    have eo : z_up d o 0 0 (o + 1) = d (o + 1) := by rw [u_a (by omega)]
    have all : ∀ w, w < 12 → f_X9_allOf (z_up d o 0 0) o (nI r) (nI w) = some (gtv (d (o + 1)) w r cl) := fun w hw => by
      have := m_allOf (d := z_up d o 0 0) (o := o) (cl := cl) (r := r) (w := w) (by omega) hw (by rw [eo]; exact hrho) h8
      rw [this, eo]
    have got : ∀ w, 3 ≤ w → w ≤ 6 → f_X3_gained d (a + 1) (nI r) (nI w) = some (gtv (d (o + 1)) (gwt w) r cl) := fun w w1 w2 => St.got (t := t) (s := s) (by omega) ⟨w1, w2⟩ hclo h8 h4
    have hz0 : Z a o rf (z_up d o 0 0) := hz.of ho
    have hs0 : z_up d o 0 0 o 0 = 0 := u_s _ _ _ _
    obtain ⟨yn, -, hyn, rfl⟩ := i_nat (a := 0) (b := 6) (y := y) (by omega) hQ (by omega)
    unfold f_of
    rcases (show yn = 0 ∨ yn = 1 ∨ yn = 2 ∨ yn = 3 ∨ yn = 4 ∨ yn = 5 ∨ yn = 6 by omega) with rfl | rfl | rfl | rfl | rfl | rfl | rfl
    · rw [if_pos (by decide), if_pos (by decide), q_ald (by omega) (by omega), ok_s, ok_s]
      exact ⟨hs0, ri4, hz0⟩
    · rw [if_neg (by decide), if_pos (by decide), if_neg (by decide), if_pos (by decide), q_ald (by omega) (by omega), ok_s, ok_s]
      exact ⟨hs0, ri5.trans (by rw [show 9 + 3 * r = 8 + 3 * r + 1 by omega]), hz0⟩
    · rw [if_neg (by decide), if_neg (by decide), if_pos (by decide), if_neg (by decide), if_neg (by decide), if_pos (by decide), q_ald (by omega) (by omega), ri6]
      have e2 : d (o + 1) (8 + 3 * r + 2) = d (o + 1) (10 + 3 * r) := by rw [show 10 + 3 * r = 8 + 3 * r + 2 by omega]
      rw [e2]
      rcases ri3 with h0 | h0
      · rw [h0, if_pos rfl, ok_s, ok_s]
        exact ⟨hs0, rfl, hz0⟩
      · rw [h0, if_neg (by decide), ok_s, ok_s]
        exact ⟨hs0, rfl, hz0⟩
    · rw [if_neg (by decide), if_neg (by decide), if_neg (by decide), if_neg (by decide), if_neg (by decide), if_neg (by decide), if_pos (by decide), got 3 (by omega) (by omega), ok_s]
      have := all 10 (by omega)
      rw [show f_X9_allOf (z_up d o 0 0) o (nI r) 10 = _ from this]
      exact ⟨_, rfl, hs0, rfl, hz0⟩
    · rw [if_neg (by decide), if_neg (by decide), if_neg (by decide), if_neg (by decide), if_neg (by decide), if_neg (by decide), if_neg (by decide), if_pos (by decide), got 4 (by omega) (by omega), ok_s]
      have := all 11 (by omega)
      rw [show f_X9_allOf (z_up d o 0 0) o (nI r) 11 = _ from this]
      exact ⟨_, rfl, hs0, rfl, hz0⟩
    · rw [if_neg (by decide), if_neg (by decide), if_neg (by decide), if_neg (by decide), if_neg (by decide), if_neg (by decide), if_neg (by decide), if_neg (by decide), if_pos (by decide), got 5 (by omega) (by omega), ok_s]
      have := all 9 (by omega)
      rw [show f_X9_allOf (z_up d o 0 0) o (nI r) 9 = _ from this]
      exact ⟨_, rfl, hs0, rfl, hz0⟩
    · rw [if_neg (by decide), if_neg (by decide), if_neg (by decide), if_neg (by decide), if_neg (by decide), if_neg (by decide), if_neg (by decide), if_neg (by decide), if_neg (by decide), got 6 (by omega) (by omega), ok_s]
      have := all 3 (by omega)
      rw [show f_X9_allOf (z_up d o 0 0) o (nI r) 3 = _ from this]
      exact ⟨_, rfl, hs0, rfl, hz0⟩
  · refine Or.inl ⟨_, _, q_hasRider x hd1, q_X8_within _ _ _, ?_, ?_⟩
    · by_cases hP : 0 ≤ x ∧ x ≤ nI n - 1
      · exact Or.inr (b01_f (fun q => hPQ ⟨hP, q⟩))
      · exact Or.inl (b01_f hP)
    · rw [q_of_bad h1 hPQ, ok_s]
      exact ⟨u_s _ _ _ _, hz.of ho⟩
