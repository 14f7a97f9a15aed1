/-! 57.bunch: where a bunch begins, by class and by model -/
/-- place i of the order p begins a bunch (kind, finishes, gap) -/
def bgn (kind : Int32) (fin : Nat → Int32) (p : Nat → Nat) (g : Int32) (i : Nat) : Bool := decide (i = 0 ∨ kind = 3 ∨ ¬ fin (p i) - fin (p (i - 1)) < g)
theorem q_X4_space {d : z_D} {c i : Nat} {p : Nat → Nat} (h1 : d (c + 15) (i + 1) = nI (p (i + 1))) (h2 : d (c + 15) i = nI (p i)) (hi : i + 1 < 16) (b1 : p (i + 1) < 16) (b2 : p i < 16) : f_X4_space d c (nI (i + 1)) = some (d (c + 10) (p (i + 1)) - d (c + 10) (p i)) := by
  unfold f_X4_space
  rw [q_ald hi (by omega), h1, q_ald b1 (by omega), nI_pred, q_ald (by omega) (by omega), h2, q_ald b2 (by omega)]
theorem q_X9_space {d : z_D} {o s i : Nat} {p : Nat → Nat} (hs : s < 8) (h1 : d (o + 5) (i + 1) = nI (p (i + 1))) (h2 : d (o + 5) i = nI (p i)) (hi : i + 1 < 16) (b1 : p (i + 1) < 16) (b2 : p i < 16) : f_X9_space d o (nI s) (nI (i + 1)) = some (mfin d o s (p (i + 1)) - mfin d o s (p i)) := by
  unfold f_X9_space
  rw [q_ald hi (by omega), h1, show f_X9_at_ (nI s) (nI (p (i + 1))) 0 = _ from q_at_ s (p (i + 1)) 0, o_b, q_ald (by omega) (by omega), nI_pred, q_ald (by omega) (by omega), h2, show f_X9_at_ (nI s) (nI (p i)) 0 = _ from q_at_ s (p i) 0, o_b, q_ald (by omega) (by omega)]
  rfl
theorem q_begins {d : z_D} {c i n : Nat} {g : Int32} {p : Nat → Nat} (hn : n ≤ 16) (hi : i < n) (ho : ∀ j, j < n → d (c + 15) j = nI (p j)) (hb : ∀ j, j < n → p j < 16) : f_X4_beginsBunch d c (nI i) g = some (if bgn (d (c + 1) 0) (d (c + 10)) p g i = true then 1 else 0) := by
  unfold f_X4_beginsBunch bgn
  cases i with
  | zero => rw [if_pos (show nI 0 = 0 by decide), if_pos (by simp)]
  | succ i =>
    have hz : ¬ nI (i + 1) = 0 := fun h => nI_nle (n := i + 1) (by omega) (by omega) (h ▸ Int32.le_refl _)
    rw [if_neg hz]
    by_cases h3 : d (c + 1) 0 = 3
    · rw [if_pos h3, if_pos (by simp [h3])]
    · rw [if_neg h3, q_X4_space (ho _ hi) (ho i (by omega)) (by omega) (hb _ hi) (hb i (by omega)), o_b]
      by_cases h4 : d (c + 10) (p (i + 1)) - d (c + 10) (p i) < g
      · rw [if_pos h4, if_neg (by simp [h3, h4])]
      · rw [if_neg h4, if_pos (by simp [h4])]
theorem q_countBunches {d : z_D} {c n : Nat} {g : Int32} {p : Nat → Nat} (hn : n ≤ 16) (h7 : d c 7 = nI n) (ho : ∀ j, j < n → d (c + 15) j = nI (p j)) (hb : ∀ j, j < n → p j < 16) : f_X4_countBunches d c g = some (nI (fb_ct (bgn (d (c + 1) 0) (d (c + 10)) p g) n)) := by
  have key : ∀ (m i f : Nat), i + m = n → m < f → f_X4_countBunches_L4 d c g (fun v2 => some v2) f (nI (fb_ct (bgn (d (c + 1) 0) (d (c + 10)) p g) i)) (nI i) = some (nI (fb_ct (bgn (d (c + 1) 0) (d (c + 10)) p g) n)) := by
    intro m
    induction m with
    | zero =>
      intro i f hi hf
      obtain ⟨f, rfl⟩ : ∃ g, f = g + 1 := ⟨f - 1, by omega⟩
      have en : i = n := by omega
      subst en
      show f_X4_countBunches_L4_b d c g _ _ _ (nI i) = _
      unfold f_X4_countBunches_L4_b
      rw [h7, if_pos (Int32.le_refl _)]
    | succ m ih =>
      intro i f hi hf
      obtain ⟨f, rfl⟩ : ∃ g, f = g + 1 := ⟨f - 1, by omega⟩
      show f_X4_countBunches_L4_b d c g _ (f_X4_countBunches_L4 d c g _ f) _ (nI i) = _
      unfold f_X4_countBunches_L4_b
      rw [h7, if_neg (nI_ge (by omega) (by omega)), q_begins hn (by omega) ho hb, o_b]
      have h3 := ih (i + 1) f (by omega) (by omega)
      rw [fb_ct_succ] at h3
      by_cases h4 : bgn (d (c + 1) 0) (d (c + 10)) p g i = true
      · rw [if_pos h4, if_neg (by decide), nI_1, nI_1]
        rw [if_pos h4] at h3
        exact h3
      · rw [if_neg h4, if_pos rfl, nI_1]
        rw [if_neg h4] at h3
        exact h3
  exact key n 0 z_N (by omega) (by show n < 6000; omega)
theorem q_bunches {d : z_D} {o s n : Nat} {g : Int32} {p : Nat → Nat} (hs : s < 8) (hn : n ≤ 16) (h6 : d o 6 = nI n) (ho : ∀ j, j < n → d (o + 5) j = nI (p j)) (hb : ∀ j, j < n → p j < 16) : f_X9_bunches d o (nI s) g = some (nI (fb_ct (bgn (d (o + 1) (56 + 325 * s)) (mfin d o s) p g) n)) := by
  have key : ∀ (m i f : Nat), i + m = n → m < f → 0 < i → f_X9_bunches_L16 d o (nI s) g (fun v6 => some v6) f (nI (fb_ct (bgn (d (o + 1) (56 + 325 * s)) (mfin d o s) p g) i)) (nI i) = some (nI (fb_ct (bgn (d (o + 1) (56 + 325 * s)) (mfin d o s) p g) n)) := by
    intro m
    induction m with
    | zero =>
      intro i f hi hf _
      obtain ⟨f, rfl⟩ : ∃ g, f = g + 1 := ⟨f - 1, by omega⟩
      have en : i = n := by omega
      subst en
      show f_X9_bunches_L16_b d o (nI s) g _ _ _ (nI i) = _
      unfold f_X9_bunches_L16_b
      rw [h6, if_pos (Int32.le_refl _)]
    | succ m ih =>
      intro i f hi hf hp
      obtain ⟨f, rfl⟩ : ∃ g, f = g + 1 := ⟨f - 1, by omega⟩
      obtain ⟨i, rfl⟩ : ∃ k, i = k + 1 := ⟨i - 1, by omega⟩
      show f_X9_bunches_L16_b d o (nI s) g _ (f_X9_bunches_L16 d o (nI s) g _ f) _ (nI (i + 1)) = _
      unfold f_X9_bunches_L16_b z_let z_nam
      rw [h6, if_neg (nI_ge (by omega) (by omega)), show f_X9_at (nI s) 0 = _ from q_at s 0, o_b, q_ald (by omega) (by omega)]
      have h3 := ih (i + 1 + 1) f (by omega) (by omega) (by omega)
      rw [fb_ct_succ] at h3
      show (if d (o + 1) (56 + 325 * s) = 3 then _ else _) = _
      by_cases h4 : d (o + 1) (56 + 325 * s) = 3
      · rw [if_pos (show bgn (d (o + 1) (56 + 325 * s)) (mfin d o s) p g (i + 1) = true by unfold bgn; simp [h4])] at h3
        rw [if_pos h4, nI_1, nI_1]
        exact h3
      · rw [if_neg h4, q_X9_space hs (ho _ (by omega)) (ho i (by omega)) (by omega) (hb _ (by omega)) (hb i (by omega)), o_b]
        by_cases h5 : mfin d o s (p (i + 1)) - mfin d o s (p i) < g
        · rw [if_neg (show ¬ bgn (d (o + 1) (56 + 325 * s)) (mfin d o s) p g (i + 1) = true by unfold bgn; simp [h4, h5])] at h3
          rw [if_pos h5, nI_1, Int32.add_zero]
          exact h3
        · rw [if_pos (show bgn (d (o + 1) (56 + 325 * s)) (mfin d o s) p g (i + 1) = true by unfold bgn; simp [h5])] at h3
          rw [if_neg h5, nI_1, nI_1]
          exact h3
  unfold f_X9_bunches z_let
  rw [h6]
  show (if nI n = 0 then _ else _) = _
  by_cases h0 : n = 0
  · subst h0
    rw [if_pos (show nI 0 = 0 by decide)]
    show f_X9_bunches_L16_b d o (nI s) g _ _ _ 1 = _
    unfold f_X9_bunches_L16_b
    rw [h6, if_pos (show nI 0 ≤ 1 by decide)]
    rfl
  · rw [if_neg (fun h : nI n = 0 => nI_nle (n := n) (by omega) (by omega) (h ▸ Int32.le_refl _))]
    have h1 := key (n - 1) 1 z_N (by omega) (by show n - 1 < 6000; omega) (by omega)
    have h2 : fb_ct (bgn (d (o + 1) (56 + 325 * s)) (mfin d o s) p g) 1 = 1 := by
      rw [fb_ct_succ, if_pos (show bgn (d (o + 1) (56 + 325 * s)) (mfin d o s) p g 0 = true by unfold bgn; simp)]
      rfl
    rw [h2] at h1
    exact h1
