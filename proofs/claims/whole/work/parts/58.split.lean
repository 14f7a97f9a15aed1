/-! 58.split: bunches and raw times, by the class -/
/-- the place at which the bunch of place i begins -/
def hdI (b : Nat → Bool) : Nat → Nat
  | 0 => 0
  | i + 1 => if b (i + 1) = true then i + 1 else hdI b i
theorem hdI_le (b : Nat → Bool) : ∀ i, hdI b i ≤ i
  | 0 => Nat.le_refl 0
  | i + 1 => by
    unfold hdI
    have := hdI_le b i
    split <;> omega
theorem q_split {d : z_D} {c n : Nat} {g : Int32} {p : Nat → Nat} (hn : n ≤ 16) (h7 : d c 7 = nI n) (ho : ∀ j, j < n → d (c + 15) j = nI (p j)) (hb : ∀ j, j < n → p j < 16) (hi : ∀ i j, i < n → j < n → p i = p j → i = j) : ∃ d', f_X4_split d c g = some d' ∧ (∀ a, a ≠ c → a ≠ c + 17 → a ≠ c + 18 → d' a = d a) ∧ (∀ q, q ≠ 14 → d' c q = d c q) ∧ d' c 14 = nI (fb_ct (bgn (d (c + 1) 0) (d (c + 10)) p g) n) ∧ ∀ j, j < n → d' (c + 17) (p j) = nI (fb_ct (bgn (d (c + 1) 0) (d (c + 10)) p g) (j + 1)) - 1 ∧ d' (c + 18) (p j) = d (c + 10) (p (hdI (bgn (d (c + 1) 0) (d (c + 10)) p g) j)) / 10 := by
  generalize hB : bgn (d (c + 1) 0) (d (c + 10)) p g = B
  have hB0 : B 0 = true := by rw [← hB]; unfold bgn; simp
  have key : ∀ (m i f : Nat) (e : z_D) (x2 : Int32), i + m = n → m < f → (∀ a, a ≠ c → a ≠ c + 17 → a ≠ c + 18 → e a = d a) → (∀ q, q ≠ 14 → e c q = d c q) → e c 14 = nI (fb_ct B i) → (∀ k, i = k + 1 → x2 = nI (p (hdI B k))) → (∀ j, j < i → e (c + 17) (p j) = nI (fb_ct B (j + 1)) - 1 ∧ e (c + 18) (p j) = d (c + 10) (p (hdI B j)) / 10) → ∃ d', f_X4_split_L14 c g (fun d9 => some d9) f x2 (nI i) e = some d' ∧ (∀ a, a ≠ c → a ≠ c + 17 → a ≠ c + 18 → d' a = d a) ∧ (∀ q, q ≠ 14 → d' c q = d c q) ∧ d' c 14 = nI (fb_ct B n) ∧ ∀ j, j < n → d' (c + 17) (p j) = nI (fb_ct B (j + 1)) - 1 ∧ d' (c + 18) (p j) = d (c + 10) (p (hdI B j)) / 10 := by
    intro m
    induction m with
    | zero =>
      intro i f e x2 h0 hf h1 h2 h3 h4 h5
      obtain ⟨f, rfl⟩ : ∃ g, f = g + 1 := ⟨f - 1, by omega⟩
      have en : i = n := by omega
      subst en
      refine ⟨e, ?_, h1, h2, h3, h5⟩
      show f_X4_split_L14_b c g _ _ x2 (nI i) e = _
      unfold f_X4_split_L14_b
      rw [h2 7 (by omega), h7, if_pos (Int32.le_refl _)]
    | succ m ih =>
      intro i f e x2 h0 hf h1 h2 h3 h4 h5
      obtain ⟨f, rfl⟩ : ∃ g, f = g + 1 := ⟨f - 1, by omega⟩
      have e1 : e (c + 1) = d (c + 1) := h1 _ (by omega) (by omega) (by omega)
      have e10 : e (c + 10) = d (c + 10) := h1 _ (by omega) (by omega) (by omega)
      have e15 : e (c + 15) = d (c + 15) := h1 _ (by omega) (by omega) (by omega)
      have bi := hb i (by omega)
      have step : ∀ (e2 : z_D) (h : Nat), h < n → h = hdI B i → (∀ a, a ≠ c → e2 a = e a) → (∀ q, q ≠ 14 → e2 c q = e c q) → e2 c 14 = nI (fb_ct B (i + 1)) → ∃ d', z_ast e2 (c + 17) 16 (nI (p i)) (e2 c 14 - 1) (fun d5 => z_ald d5 (c + 10) 16 (nI (p h)) (fun v6 => z_ast d5 (c + 18) 16 (nI (p i)) (v6 / 10) (fun d7 => f_X4_split_L14 c g (fun d9 => some d9) f (nI (p h)) (nI i + 1) d7))) = some d' ∧ (∀ a, a ≠ c → a ≠ c + 17 → a ≠ c + 18 → d' a = d a) ∧ (∀ q, q ≠ 14 → d' c q = d c q) ∧ d' c 14 = nI (fb_ct B n) ∧ ∀ j, j < n → d' (c + 17) (p j) = nI (fb_ct B (j + 1)) - 1 ∧ d' (c + 18) (p j) = d (c + 10) (p (hdI B j)) / 10 := by
        intro e2 h hh he k1 k2 k3
        have f10 : e2 (c + 10) = d (c + 10) := by rw [k1 _ (by omega), e10]
        rw [q_ast bi (by omega), q_ald (hb h hh) (by omega), q_ast bi (by omega), nI_1, u_a (show c + 10 ≠ c + 17 by omega), f10]
        refine ih (i + 1) f _ _ (by omega) (by omega) (fun a a1 a2 a3 => ?_) (fun q hq => ?_) ?_ (fun k hk => ?_) (fun j hj => ?_)
        · rw [u_a a3, u_a a2, k1 a a1, h1 a a1 a2 a3]
        · rw [u_a (by omega), u_a (by omega), k2 q hq, h2 q hq]
        · rw [u_a (by omega), u_a (by omega), k3]
        · have : k = i := by omega
          subst this
          rw [he]
        · by_cases h9 : j = i
          · subst h9
            rw [u_a (show c + 17 ≠ c + 18 by omega), u_s, u_s, k3, he]
            exact ⟨rfl, rfl⟩
          · have hne : p j ≠ p i := fun h => h9 (hi j i (by omega) (by omega) h)
            rw [u_a (show c + 17 ≠ c + 18 by omega), u_k hne, u_k hne, u_a (show c + 18 ≠ c + 17 by omega), k1 _ (by omega), k1 _ (by omega)]
            exact h5 j (by omega)
      show ∃ d', f_X4_split_L14_b c g _ (f_X4_split_L14 c g _ f) x2 (nI i) e = some d' ∧ _
      unfold f_X4_split_L14_b z_let z_put
      rw [h2 7 (by omega), h7, if_neg (nI_ge (by omega) (by omega)), q_ald (by omega) (by omega), e15, ho i (by omega), q_begins hn (i := i) (p := p) (by omega) (fun j hj => by rw [e15]; exact ho j hj) hb, o_b, e1, e10, hB]
      by_cases h9 : B i = true
      · rw [if_pos h9]
        show ∃ d', (if (1 : Int32) = 0 then _ else _) = some d' ∧ _
        rw [if_neg (by decide)]
        refine step (z_up e c 14 (e c 14 + 1)) i (by omega) ?_ (fun a ha => u_a ha) (fun q hq => u_k hq) ?_
        · cases i with
          | zero => rfl
          | succ i => unfold hdI; rw [if_pos h9]
        · rw [u_s, h3, nI_1, fb_ct_succ, if_pos h9]
      · rw [if_neg h9]
        show ∃ d', (if (0 : Int32) = 0 then _ else _) = some d' ∧ _
        rw [if_pos rfl]
        cases i with
        | zero => exact absurd hB0 h9
        | succ i =>
          have := hdI_le B i
          rw [h4 i rfl]
          refine step e (hdI B i) (by omega) ?_ (fun _ _ => rfl) (fun _ _ => rfl) ?_
          · show _ = if _ then _ else _
            rw [if_neg h9]
          · rw [h3, fb_ct_succ B (i + 1), if_neg h9]
            rfl
  unfold f_X4_split z_put
  show ∃ d', z_ald (z_up d c 14 0) (c + 15) 16 0 _ = some d' ∧ _
  rw [q_aldl 0 0 rfl (by omega) (by omega)]
  exact key n 0 z_N _ _ (by omega) (by show n < 6000; omega) (fun a ha _ _ => u_a ha) (fun q hq => u_k hq) (u_s _ _ _ _) (fun k hk => absurd hk (by omega)) (fun j hj => absurd hj (Nat.not_lt_zero j))
