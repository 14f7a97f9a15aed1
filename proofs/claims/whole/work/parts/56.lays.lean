/-! 56.lays: the model lays the same order -/
def mfin (d : z_D) (o s : Nat) (r : Nat) : Int32 := d (o + 1) (183 + 325 * s + 12 * r)
theorem q_lays34 {d : z_D} {o s k r : Nat} {f0 : Nat → Int32} {p : Nat → Nat} (K : Int32 → z_D → Option z_D) (hs : s < 8) (hk : k < 16) (hr : r < 16) (hf : ∀ x, mfin d o s x = f0 x) (ho : ∀ i, i < k → d (o + 5) i = nI (p i)) (hb : ∀ i, i < k → p i < 16) : f_X9_laysOrder_L34 o (nI s) (nI r) K z_N (nI k) d = K (nI (posI (fun x => decide (¬ f0 x ≤ f0 r)) p k)) (z_shf d (o + 5) (posI (fun x => decide (¬ f0 x ≤ f0 r)) p k) k p) := by
  have h := ins_loop (fun f x e => f_X9_laysOrder_L34 o (nI s) (nI r) K f x e) K d (o + 5) k (fun x => decide (¬ f0 x ≤ f0 r)) p (fun f e => ?_) (fun f j e hj he => ?_) k z_N (Nat.le_refl k) (by show k < 6000; omega)
  · rw [z_shf_0] at h
    exact h
  · show f_X9_laysOrder_L34_b o (nI s) (nI r) K _ (nI 0) e = _
    unfold f_X9_laysOrder_L34_b
    rw [if_pos (show nI 0 ≤ 0 by decide)]
  · show f_X9_laysOrder_L34_b o (nI s) (nI r) K _ (nI (j + 1)) e = _
    unfold f_X9_laysOrder_L34_b
    have e1 : e (o + 5) j = nI (p j) := by rw [he _ _ (by omega)]; exact ho j hj
    have e2 : ∀ x, e (o + 1) (183 + 325 * s + 12 * x + 0) = f0 x := fun x => by rw [he _ _ (by omega)]; exact hf x
    have b1 := hb j hj
    rw [if_neg (nI_nle (by omega) (by omega)), nI_pred, q_ald (by omega) (by omega), e1, show f_X9_at_ (nI s) (nI (p j)) 0 = _ from q_at_ s (p j) 0, o_b, q_ald (by omega) (by omega), e2, show f_X9_at_ (nI s) (nI r) 0 = _ from q_at_ s r 0, o_b, q_ald (by omega) (by omega), e2]
    by_cases h9 : f0 (p j) ≤ f0 r
    · rw [if_pos h9, if_neg (by simp [h9])]
    · rw [if_neg h9, if_pos (by simp [h9]), q_ald (by omega) (by omega), e1, q_ast (by omega) (by omega)]
      show f_X9_laysOrder_L34 o (nI s) (nI r) K f (nI (j + 1) + -1) _ = _
      rw [pk_m1]
theorem q_laysOrder {d : z_D} {o s n : Nat} (hs : s < 8) (hn : n ≤ 16) (hd : d (o + 1) 1 = nI n) (h0 : ∀ r, r < n → ¬ mfin d o s r < 0) : ∃ d', f_X9_laysOrder d o (nI s) = some d' ∧ (∀ a, a ≠ o → a ≠ o + 5 → d' a = d a) ∧ (∀ q, q ≠ 6 → d' o q = d o q) ∧ d' o 6 = nI (ordK (mfin d o s) n) ∧ ∀ i, i < ordK (mfin d o s) n → d' (o + 5) i = nI (ordO (mfin d o s) n i) := by
  have key : ∀ (m i f : Nat) (e : z_D), i + m = n → m < f → (∀ a, a ≠ o → a ≠ o + 5 → e a = d a) → (∀ q, q ≠ 6 → e o q = d o q) → e o 6 = nI (ordK (mfin d o s) i) → (∀ j, j < ordK (mfin d o s) i → e (o + 5) j = nI (ordO (mfin d o s) i j)) → ∃ d', f_X9_laysOrder_L7 o (nI s) (fun d16 => some d16) f (nI i) e = some d' ∧ (∀ a, a ≠ o → a ≠ o + 5 → d' a = d a) ∧ (∀ q, q ≠ 6 → d' o q = d o q) ∧ d' o 6 = nI (ordK (mfin d o s) n) ∧ ∀ j, j < ordK (mfin d o s) n → d' (o + 5) j = nI (ordO (mfin d o s) n j) := by
    intro m
    induction m with
    | zero =>
      intro i f e hi hf h1 h2 h3 h4
      obtain ⟨f, rfl⟩ : ∃ g, f = g + 1 := ⟨f - 1, by omega⟩
      have en : i = n := by omega
      subst en
      refine ⟨e, ?_, h1, h2, h3, h4⟩
      show f_X9_laysOrder_L7_b o (nI s) _ _ (nI i) e = _
      unfold f_X9_laysOrder_L7_b
      rw [q_aldl 1 1 rfl (by omega) (by omega), h1 _ (by omega) (by omega), hd, if_pos (Int32.le_refl _)]
    | succ m ih =>
      intro i f e hi hf h1 h2 h3 h4
      obtain ⟨f, rfl⟩ : ∃ g, f = g + 1 := ⟨f - 1, by omega⟩
      have hb : f_X9_laysOrder_L7 o (nI s) (fun d16 => some d16) (f + 1) (nI i) e = f_X9_laysOrder_L7_b o (nI s) (fun d16 => some d16) (f_X9_laysOrder_L7 o (nI s) (fun d16 => some d16) f) (nI i) e := rfl
      rw [hb]
      unfold f_X9_laysOrder_L7_b
      have e1 : e (o + 1) = d (o + 1) := h1 _ (by omega) (by omega)
      have h16 : ¬ nI n ≤ nI i := nI_ge (by omega) (by omega)
      rw [q_aldl 1 1 rfl (by omega) (by omega), e1, hd, if_neg h16, q_hasFinish hs (by omega), e1, o_b]
      have hm : d (o + 1) (183 + 325 * s + 12 * i) = mfin d o s i := rfl
      rw [hm]
      have hge := h0 i (by omega)
      by_cases h9 : mfin d o s i = 0
      · rw [h9, if_pos (show (0 : Int32) ≤ 0 by decide), if_pos rfl, nI_1]
        refine ih (i + 1) f e (by omega) (by omega) h1 h2 ?_ ?_
        · rw [ordK_z h9]
          exact h3
        · rw [ordK_z h9]
          have e9 : ordO (mfin d o s) (i + 1) = ordO (mfin d o s) i := by show (if _ then _ else _) = _; rw [if_pos h9]
          rw [e9]
          exact h4
      · have hpos : ¬ mfin d o s i ≤ 0 := fun h => by
          rcases Int32.lt_or_eq_of_le h with h5 | h5
          · exact hge h5
          · exact h9 h5
        have hkle := ordK_le (mfin d o s) i
        have hp := posI_le (fun x => decide (¬ mfin d o s x ≤ mfin d o s i)) (ordO (mfin d o s) i) (ordK (mfin d o s) i)
        rw [if_neg hpos, if_neg (by decide)]
        show ∃ d', f_X9_laysOrder_L34 o (nI s) (nI i) _ z_N (e o 6) e = some d' ∧ _
        rw [h3, q_lays34 (f0 := mfin d o s) (p := ordO (mfin d o s) i) _ hs (by omega) (by omega) (fun x => by show e (o + 1) _ = _; rw [e1]; rfl) h4 (fun j hj => Nat.lt_trans (ordO_lt _ i j hj) (by omega)), q_ast (by omega) (by omega)]
        have e6 : ∀ q, z_up (z_shf e (o + 5) (posI (fun x => decide (¬ mfin d o s x ≤ mfin d o s i)) (ordO (mfin d o s) i) (ordK (mfin d o s) i)) (ordK (mfin d o s) i) (ordO (mfin d o s) i)) (o + 5) (posI (fun x => decide (¬ mfin d o s x ≤ mfin d o s i)) (ordO (mfin d o s) i) (ordK (mfin d o s) i)) (nI i) o q = e o q := fun q => by
          rw [u_a (by omega)]
          unfold z_shf
          rw [if_neg (fun h => by omega)]
        unfold z_put
        rw [nI_1]
        refine ih (i + 1) f _ (by omega) (by omega) (fun a ha hb => ?_) (fun q hq => ?_) ?_ ?_
        · rw [u_a ha, u_a hb, ← h1 a ha hb]
          funext q
          unfold z_shf
          rw [if_neg (fun h => hb h.1)]
        · rw [u_k hq, e6]
          exact h2 q hq
        · rw [u_s, e6, h3, nI_1, ordK_s h9]
        · rw [ordK_s h9]
          intro j hj
          rw [u_a (by omega), ins_row h4 j hj]
          have e9 : ordO (mfin d o s) (i + 1) = insO (fun x => decide (¬ mfin d o s x ≤ mfin d o s i)) i (ordO (mfin d o s) i) (ordK (mfin d o s) i) := by show (if _ then _ else _) = _; rw [if_neg h9]
          rw [e9]
  unfold f_X9_laysOrder z_put
  exact key n 0 z_N (z_up d o 6 0) (by omega) (by show n < 6000; omega) (fun a ha _ => u_a ha) (fun q hq => u_k hq) (u_s _ _ _ _) (fun j hj => absurd hj (Nat.not_lt_zero j))
/-- riders beyond the last one add nothing -/
theorem ordK_ext {fin : Nat → Int32} {n : Nat} : ∀ m, (∀ r, n ≤ r → r < n + m → fin r = 0) → ordK fin (n + m) = ordK fin n ∧ ordO fin (n + m) = ordO fin n
  | 0, _ => ⟨rfl, rfl⟩
  | m + 1, h => by
    have h1 := ordK_ext m (fun r a b => h r a (by omega))
    have h2 : fin (n + m) = 0 := h _ (by omega) (by omega)
    constructor
    · rw [← h1.1]
      exact ordK_z h2
    · rw [← h1.2]
      exact if_pos h2
