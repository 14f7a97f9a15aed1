/-! 54.rank: the order of a stage, by class and by model -/
def ordK (fin : Nat → Int32) (m : Nat) : Nat := fb_ct (fun r => decide (¬ fin r = 0)) m
def ordO (fin : Nat → Int32) : Nat → Nat → Nat
  | 0 => fun _ => 0
  | m + 1 => if fin m = 0 then ordO fin m else insO (fun x => decide (¬ fin x ≤ fin m)) m (ordO fin m) (ordK fin m)
theorem ordK_le (fin : Nat → Int32) (m : Nat) : ordK fin m ≤ m := fb_ct_le _ m
theorem ordK_z {fin : Nat → Int32} {m : Nat} (h : fin m = 0) : ordK fin (m + 1) = ordK fin m := by
  unfold ordK
  rw [fb_ct_succ]
  simp [h]
theorem ordK_s {fin : Nat → Int32} {m : Nat} (h : ¬ fin m = 0) : ordK fin (m + 1) = ordK fin m + 1 := by
  unfold ordK
  rw [fb_ct_succ]
  simp [h]
theorem ordO_lt (fin : Nat → Int32) : ∀ m i, i < ordK fin m → ordO fin m i < m
  | 0, i, h => absurd h (Nat.not_lt_zero i)
  | m + 1, i, h => by
    unfold ordO
    by_cases h1 : fin m = 0
    · rw [if_pos h1]
      rw [ordK_z h1] at h
      exact Nat.lt_succ_of_lt (ordO_lt fin m i h)
    · rw [if_neg h1]
      rw [ordK_s h1] at h
      unfold insO
      have hp := posI_le (fun x => decide (¬ fin x ≤ fin m)) (ordO fin m) (ordK fin m)
      by_cases h2 : i < posI (fun x => decide (¬ fin x ≤ fin m)) (ordO fin m) (ordK fin m)
      · rw [if_pos h2]
        exact Nat.lt_succ_of_lt (ordO_lt fin m i (by omega))
      · rw [if_neg h2]
        by_cases h3 : i = posI (fun x => decide (¬ fin x ≤ fin m)) (ordO fin m) (ordK fin m)
        · rw [if_pos h3]
          exact Nat.lt_succ_self m
        · rw [if_neg h3]
          exact Nat.lt_succ_of_lt (ordO_lt fin m (i - 1) (by omega))
/-- the class's inner loop -/
theorem q_rank24 {d : z_D} {c k r : Nat} {x1 : Int32} {o : Nat → Nat} (K : Int32 → z_D → Option z_D) (hk : k < 16) (hr : r < 16) (ho : ∀ i, i < k → d (c + 15) i = nI (o i)) (hb : ∀ i, i < k → o i < 16) : f_X4_rank_L24 c x1 (nI r) K z_N (nI k) d = K (nI (posI (fun x => decide (¬ d (c + 10) x ≤ d (c + 10) r)) o k)) (z_shf d (c + 15) (posI (fun x => decide (¬ d (c + 10) x ≤ d (c + 10) r)) o k) k o) := by
  have h := ins_loop (fun f x e => f_X4_rank_L24 c x1 (nI r) K f x e) K d (c + 15) k (fun x => decide (¬ d (c + 10) x ≤ d (c + 10) r)) o (fun f e => ?_) (fun f j e hj he => ?_) k z_N (Nat.le_refl k) (by show k < 6000; omega)
  · rw [z_shf_0] at h
    exact h
  · show f_X4_rank_L24_b c x1 (nI r) K _ (nI 0) e = _
    unfold f_X4_rank_L24_b
    rw [if_pos (show nI 0 ≤ 0 by decide)]
  · show f_X4_rank_L24_b c x1 (nI r) K _ (nI (j + 1)) e = _
    unfold f_X4_rank_L24_b
    have e1 : e (c + 15) j = nI (o j) := by rw [he _ _ (by omega)]; exact ho j hj
    have e2 : ∀ x, e (c + 10) x = d (c + 10) x := fun x => he _ _ (by omega)
    rw [if_neg (nI_nle (by omega) (by omega)), nI_pred, q_ald (by omega) (by omega), e1, q_ald (hb j hj) (by omega), q_ald hr (by omega), e2, e2]
    by_cases h9 : d (c + 10) (o j) ≤ d (c + 10) r
    · rw [if_pos h9, if_neg (by simp [h9])]
    · rw [if_neg h9, if_pos (by simp [h9]), q_ald (by omega) (by omega), e1, q_ast (by omega) (by omega)]
      show f_X4_rank_L24 c x1 (nI r) K f (nI (j + 1) + -1) _ = _
      rw [pk_m1]
theorem q_rank4 {d : z_D} {c : Nat} (K : Int32 → z_D → Option z_D) : ∃ d', f_X4_rank_L4 c K z_N 0 0 d = K (nI (ordK (d (c + 10)) 16)) d' ∧ (∀ a, a ≠ c + 15 → d' a = d a) ∧ ∀ i, i < ordK (d (c + 10)) 16 → d' (c + 15) i = nI (ordO (d (c + 10)) 16 i) := by
  have key : ∀ (m i f : Nat) (e : z_D), i + m = 16 → m < f → (∀ a, a ≠ c + 15 → e a = d a) → (∀ j, j < ordK (d (c + 10)) i → e (c + 15) j = nI (ordO (d (c + 10)) i j)) → ∃ d', f_X4_rank_L4 c K f (nI (ordK (d (c + 10)) i)) (nI i) e = K (nI (ordK (d (c + 10)) 16)) d' ∧ (∀ a, a ≠ c + 15 → d' a = d a) ∧ ∀ j, j < ordK (d (c + 10)) 16 → d' (c + 15) j = nI (ordO (d (c + 10)) 16 j) := by
    intro m
    induction m with
    | zero =>
      intro i f e hi hf h1 h2
      obtain ⟨f, rfl⟩ : ∃ g, f = g + 1 := ⟨f - 1, by omega⟩
      have e16 : i = 16 := by omega
      subst e16
      refine ⟨e, ?_, h1, h2⟩
      show f_X4_rank_L4_b c K _ _ (nI 16) e = _
      unfold f_X4_rank_L4_b
      rw [if_pos (show (16 : Int32) ≤ nI 16 by decide)]
    | succ m ih =>
      intro i f e hi hf h1 h2
      obtain ⟨f, rfl⟩ : ∃ g, f = g + 1 := ⟨f - 1, by omega⟩
      have hb : f_X4_rank_L4 c K (f + 1) (nI (ordK (d (c + 10)) i)) (nI i) e = f_X4_rank_L4_b c K (f_X4_rank_L4 c K f) (nI (ordK (d (c + 10)) i)) (nI i) e := rfl
      rw [hb]
      unfold f_X4_rank_L4_b
      have e10 : e (c + 10) = d (c + 10) := h1 _ (by omega)
      have h16 : ¬ (16 : Int32) ≤ nI i := nI_ge (a := i) (b := 16) (by omega) (by omega)
      rw [if_neg h16, q_ald (by omega) (by omega), e10]
      by_cases h0 : d (c + 10) i = 0
      · rw [if_pos h0]
        have h3 := ih (i + 1) f e (by omega) (by omega) h1 (by
          rw [ordK_z h0]
          have e9 : ordO (d (c + 10)) (i + 1) = ordO (d (c + 10)) i := by show (if _ then _ else _) = _; rw [if_pos h0]
          rw [e9]
          exact h2)
        rw [ordK_z h0, ← nI_1] at h3
        exact h3
      · rw [if_neg h0]
        have hkle := ordK_le (d (c + 10)) i
        rw [q_rank24 _ (by omega) (by omega) h2 (fun j hj => Nat.lt_trans (ordO_lt _ i j hj) (by omega)), q_ast (by have := posI_le (fun x => decide (¬ e (c + 10) x ≤ e (c + 10) i)) (ordO (d (c + 10)) i) (ordK (d (c + 10)) i); omega) (by omega), e10]
        have h3 := ih (i + 1) f (z_up (z_shf e (c + 15) (posI (fun x => decide (¬ d (c + 10) x ≤ d (c + 10) i)) (ordO (d (c + 10)) i) (ordK (d (c + 10)) i)) (ordK (d (c + 10)) i) (ordO (d (c + 10)) i)) (c + 15) (posI (fun x => decide (¬ d (c + 10) x ≤ d (c + 10) i)) (ordO (d (c + 10)) i) (ordK (d (c + 10)) i)) (nI i)) (by omega) (by omega) (fun a ha => by
          rw [u_a ha, ← h1 a ha]
          funext q
          unfold z_shf
          rw [if_neg (fun h => ha h.1)]) (by
          rw [ordK_s h0]
          intro j hj
          rw [ins_row h2 j hj]
          have e9 : ordO (d (c + 10)) (i + 1) = insO (fun x => decide (¬ d (c + 10) x ≤ d (c + 10) i)) i (ordO (d (c + 10)) i) (ordK (d (c + 10)) i) := by show (if _ then _ else _) = _; rw [if_neg h0]
          rw [e9])
        rw [ordK_s h0, ← nI_1, ← nI_1] at h3
        exact h3
  exact key 16 0 z_N d (by omega) (by show 16 < 6000; omega) (fun _ _ => rfl) (fun j hj => absurd hj (Nat.not_lt_zero j))
