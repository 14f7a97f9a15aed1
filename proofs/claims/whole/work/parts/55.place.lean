/-! 55.place: the places of a stage's order -/
theorem ordO_inj (fin : Nat → Int32) : ∀ m i j, i < ordK fin m → j < ordK fin m → ordO fin m i = ordO fin m j → i = j
  | 0, i, _, h, _, _ => absurd h (Nat.not_lt_zero i)
  | m + 1, i, j, hi, hj, h => by
    by_cases h1 : fin m = 0
    · have e9 : ordO fin (m + 1) = ordO fin m := by show (if _ then _ else _) = _; rw [if_pos h1]
      rw [ordK_z h1] at hi hj
      rw [e9] at h
      exact ordO_inj fin m i j hi hj h
    · have e9 : ordO fin (m + 1) = insO (fun x => decide (¬ fin x ≤ fin m)) m (ordO fin m) (ordK fin m) := by show (if _ then _ else _) = _; rw [if_neg h1]
      rw [ordK_s h1] at hi hj
      rw [e9] at h
      unfold insO at h
      have hp := posI_le (fun x => decide (¬ fin x ≤ fin m)) (ordO fin m) (ordK fin m)
      generalize posI (fun x => decide (¬ fin x ≤ fin m)) (ordO fin m) (ordK fin m) = p at h hp
      have lt := ordO_lt fin m
      by_cases a1 : i < p
      · rw [if_pos a1] at h
        by_cases b1 : j < p
        · rw [if_pos b1] at h
          exact ordO_inj fin m i j (by omega) (by omega) h
        · rw [if_neg b1] at h
          by_cases b2 : j = p
          · rw [if_pos b2] at h
            have := lt i (by omega)
            omega
          · rw [if_neg b2] at h
            have := ordO_inj fin m i (j - 1) (by omega) (by omega) h
            omega
      · rw [if_neg a1] at h
        by_cases a2 : i = p
        · rw [if_pos a2] at h
          by_cases b1 : j < p
          · rw [if_pos b1] at h
            have := lt j (by omega)
            omega
          · rw [if_neg b1] at h
            by_cases b2 : j = p
            · omega
            · rw [if_neg b2] at h
              have := lt (j - 1) (by omega)
              omega
        · rw [if_neg a2] at h
          by_cases b1 : j < p
          · rw [if_pos b1] at h
            have := ordO_inj fin m (i - 1) j (by omega) (by omega) h
            omega
          · rw [if_neg b1] at h
            by_cases b2 : j = p
            · rw [if_pos b2] at h
              have := lt (i - 1) (by omega)
              omega
            · rw [if_neg b2] at h
              have := ordO_inj fin m (i - 1) (j - 1) (by omega) (by omega) h
              omega
theorem q_rank88 {d : z_D} {c n : Nat} {o : Nat → Nat} (K : z_D → Option z_D) (hn : n ≤ 16) (ho : ∀ i, i < n → d (c + 15) i = nI (o i)) (hb : ∀ i, i < n → o i < 16) (hi : ∀ i j, i < n → j < n → o i = o j → i = j) : ∃ d', f_X4_rank_L88 c (nI n) K z_N 0 d = K d' ∧ (∀ a, a ≠ c + 16 → d' a = d a) ∧ (∀ i, i < n → d' (c + 16) (o i) = nI (i + 1)) ∧ ∀ q, (∀ i, i < n → q ≠ o i) → d' (c + 16) q = d (c + 16) q := by
  have key : ∀ (m i f : Nat) (e : z_D), i + m = n → m < f → (∀ a, a ≠ c + 16 → e a = d a) → (∀ j, j < i → e (c + 16) (o j) = nI (j + 1)) → (∀ q, (∀ j, j < i → q ≠ o j) → e (c + 16) q = d (c + 16) q) → ∃ d', f_X4_rank_L88 c (nI n) K f (nI i) e = K d' ∧ (∀ a, a ≠ c + 16 → d' a = d a) ∧ (∀ j, j < n → d' (c + 16) (o j) = nI (j + 1)) ∧ ∀ q, (∀ j, j < n → q ≠ o j) → d' (c + 16) q = d (c + 16) q := by
    intro m
    induction m with
    | zero =>
      intro i f e h0 hf h1 h2 h3
      obtain ⟨f, rfl⟩ : ∃ g, f = g + 1 := ⟨f - 1, by omega⟩
      have en : i = n := by omega
      subst en
      refine ⟨e, ?_, h1, h2, h3⟩
      show f_X4_rank_L88_b c (nI i) K _ (nI i) e = _
      unfold f_X4_rank_L88_b
      rw [if_pos (Int32.le_refl _)]
    | succ m ih =>
      intro i f e h0 hf h1 h2 h3
      obtain ⟨f, rfl⟩ : ∃ g, f = g + 1 := ⟨f - 1, by omega⟩
      have hb1 : f_X4_rank_L88 c (nI n) K (f + 1) (nI i) e = f_X4_rank_L88_b c (nI n) K (f_X4_rank_L88 c (nI n) K f) (nI i) e := rfl
      rw [hb1]
      unfold f_X4_rank_L88_b
      have h16 : ¬ nI n ≤ nI i := nI_ge (by omega) (by omega)
      have ei : e (c + 15) i = nI (o i) := by rw [h1 _ (by omega)]; exact ho i (by omega)
      rw [if_neg h16, q_ald (by omega) (by omega), ei, q_ast (hb i (by omega)) (by omega), nI_1]
      refine ih (i + 1) f _ (by omega) (by omega) (fun a ha => ?_) (fun j hj => ?_) (fun q hq => ?_)
      · rw [u_a ha]
        exact h1 a ha
      · by_cases h5 : j = i
        · subst h5
          rw [u_s]
        · rw [u_k (fun h => h5 (hi j i (by omega) (by omega) h))]
          exact h2 j (by omega)
      · rw [u_k (hq i (by omega))]
        exact h3 q (fun j hj => hq j (by omega))
  exact key n 0 z_N d (by omega) (by show n < 6000; omega) (fun _ _ => rfl) (fun j hj => absurd hj (Nat.not_lt_zero j)) (fun _ _ => rfl)
theorem q_rank {d : z_D} {c : Nat} : ∃ d', f_X4_rank d c = some d' ∧ (∀ a, a ≠ c + 15 → a ≠ c + 16 → d' a = d a) ∧ (∀ i, i < ordK (d (c + 10)) 16 → d' (c + 15) i = nI (ordO (d (c + 10)) 16 i)) ∧ (∀ i, i < ordK (d (c + 10)) 16 → d' (c + 16) (ordO (d (c + 10)) 16 i) = nI (i + 1)) := by
  unfold f_X4_rank
  obtain ⟨e, h1, h2, h3⟩ := q_rank4 (d := d) (c := c) (fun v11 d10 => (f_X4_rank_L88 c v11 (fun d14 => (some d14)) z_N 0 d10))
  rw [h1]
  obtain ⟨d', h4, h5, h6, _⟩ := q_rank88 (c := c) (fun d14 => some d14) (ordK_le (d (c + 10)) 16) h3 (fun i hi => ordO_lt _ 16 i hi) (ordO_inj _ 16)
  refine ⟨d', h4, fun a h7 h8 => ?_, fun i hi => ?_, h6⟩
  · rw [h5 a h8, h2 a h7]
  · rw [h5 _ (by omega)]
    exact h3 i hi
