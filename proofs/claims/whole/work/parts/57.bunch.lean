/-! 57.bunch: where a bunch begins, by class and by model -/
/-- place i of the order p begins a bunch (kind, finishes, gap) -/
def bgn (kind : Int32) (fin : Nat → Int32) (p : Nat → Nat) (g : Int32) (i : Nat) : Bool := decide (i = 0 ∨ kind = 3 ∨ ¬ fin (p i) - fin (p (i - 1)) < g)
theorem q_X4_space {d : z_D} {c i : Nat} {p : Nat → Nat} (h1 : d (c + 15) (i + 1) = nI (p (i + 1))) (h2 : d (c + 15) i = nI (p i)) (hi : i + 1 < 16) (b1 : p (i + 1) < 16) (b2 : p i < 16) : f_X4_space d c (nI (i + 1)) = some (d (c + 10) (p (i + 1)) - d (c + 10) (p i)) := by
  unfold f_X4_space
  rw [q_ald hi (by omega), h1, q_ald b1 (by omega), nI_pred, q_ald (by omega) (by omega), h2, q_ald b2 (by omega)]
theorem q_X9_space {d : z_D} {o s i : Nat} {p : Nat → Nat} (hs : s < 8) (h1 : d (o + 5) (i + 1) = nI (p (i + 1))) (h2 : d (o + 5) i = nI (p i)) (hi : i + 1 < 16) (b1 : p (i + 1) < 16) (b2 : p i < 16) : f_X9_space d o (nI s) (nI (i + 1)) = some (mfin d o s (p (i + 1)) - mfin d o s (p i)) := by
  unfold f_X9_space
  rw [q_ald hi (by omega), h1, show f_X9_at_ (nI s) (nI (p (i + 1))) 0 = _ from q_at_ s (p (i + 1)) 0, o_b, q_ald (by omega) (by omega), nI_pred, q_ald (by omega) (by omega), h2, show f_X9_at_ (nI s) (nI (p i)) 0 = _ from q_at_ s (p i) 0, o_b, q_ald (by omega) (by omega)]
  rfl
theorem q_begins {d : z_D} {c i n : Nat} {g : Int32} {p : Nat → Nat} (hn : n ≤ 16) (hi : i < n) (ho : ∀ j, j < n → d (c + 15) j = nI (p j)) (hb : ∀ j, j < n → p j < 16) : f_X4_beginsBunch d c (nI i) g = some (if bgn (d (c + 1) 0) (d (c + 10)) p g i = true then 1 else 0) := by
  unfold f_X4_beginsBunch bgn
  cases i with
  | zero => rw [if_pos (show nI 0 = 0 by decide), if_pos (by simp)]
  | succ i =>
    have hz : ¬ nI (i + 1) = 0 := fun h => nI_nle (n := i + 1) (by omega) (by omega) (h ▸ Int32.le_refl _)
    rw [if_neg hz]
    by_cases h3 : d (c + 1) 0 = 3
    · rw [if_pos h3, if_pos (by simp [h3])]
    · rw [if_neg h3, q_X4_space (ho _ hi) (ho i (by omega)) (by omega) (hb _ hi) (hb i (by omega)), o_b]
      by_cases h4 : d (c + 10) (p (i + 1)) - d (c + 10) (p i) < g
      · rw [if_pos h4, if_neg (by simp [h3, h4])]
      · rw [if_neg h4, if_pos (by simp [h4])]
theorem q_countBunches {d : z_D} {c n : Nat} {g : Int32} {p : Nat → Nat} (hn : n ≤ 16) (h7 : d c 7 = nI n) (ho : ∀ j, j < n → d (c + 15) j = nI (p j)) (hb : ∀ j, j < n → p j < 16) : f_X4_countBunches d c g = some (nI (fb_ct (bgn (d (c + 1) 0) (d (c + 10)) p g) n)) := by
  have key : ∀ (m i f : Nat), i + m = n → m < f → f_X4_countBunches_L4 d c g (fun v2 => some v2) f (nI (fb_ct (bgn (d (c + 1) 0) (d (c + 10)) p g) i)) (nI i) = some (nI (fb_ct (bgn (d (c + 1) 0) (d (c + 10)) p g) n)) := by
    intro m
    induction m with
    | zero =>
      intro i f hi hf
      obtain ⟨f, rfl⟩ : ∃ g, f = g + 1 := ⟨f - 1, by omega⟩
      have en : i = n := by omega
      subst en
      show f_X4_countBunches_L4_b d c g _ _ _ (nI i) = _
      unfold f_X4_countBunches_L4_b
      rw [h7, if_pos (Int32.le_refl _)]
    | succ m ih =>
      intro i f hi hf
      obtain ⟨f, rfl⟩ : ∃ g, f = g + 1 := ⟨f - 1, by omega⟩
      show f_X4_countBunches_L4_b d c g _ (f_X4_countBunches_L4 d c g _ f) _ (nI i) = _
      unfold f_X4_countBunches_L4_b
      rw [h7, if_neg (nI_ge (by omega) (by omega)), q_begins hn (by omega) ho hb, o_b]
      have h3 := ih (i + 1) f (by omega) (by omega)
      rw [fb_ct_succ] at h3
      by_cases h4 : bgn (d (c + 1) 0) (d (c + 10)) p g i = true
      · rw [if_pos h4, if_neg (by decide), nI_1, nI_1]
        rw [if_pos h4] at h3
        exact h3
      · rw [if_neg h4, if_pos rfl, nI_1]
        rw [if_neg h4] at h3
        exact h3
  exact key n 0 z_N (by omega) (by show n < 6000; omega)
