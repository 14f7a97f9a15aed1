/-! 62.st: what a race of the class and a row of the model have in common -/
def bl (x : Int32) : Prop := x = 0 ∨ x = 1
/-- mark m of the stage at c, at B in the row, of n riders -/
def MK (d : z_D) (c : Nat) (ρ : Nat → Int32) (B n m : Nat) : Prop :=
  (∃ k, 1 ≤ k ∧ k < 300 ∧ ρ (B + 13 + 19 * m) = nI k) ∧ (∃ h, h ≤ 4 ∧ ρ (B + 14 + 19 * m) = nI h) ∧
  (∃ q, q ≤ 16 ∧ ρ (B + 15 + 19 * m) = nI q ∧ (∀ k, k < q → ∃ r, r < n ∧ ρ (B + 16 + 19 * m + k) = nI r ∧ d (c + 5) (16 * m + k) = nI r) ∧ ∀ i j, i < j → j < q → ρ (B + 16 + 19 * m + i) ≠ ρ (B + 16 + 19 * m + j)) ∧
  d (c + 2) m = ρ (B + 13 + 19 * m) ∧ d (c + 3) m = ρ (B + 14 + 19 * m) ∧ d (c + 4) m = ρ (B + 15 + 19 * m)
theorem MK.congr {d d' : z_D} {c B n n' m : Nat} {ρ ρ' : Nat → Int32} (h : MK d c ρ B n m) (hn : n ≤ n') (hd : ∀ a, c + 2 ≤ a → a ≤ c + 4 → d' a m = d a m) (hd5 : ∀ k, k < 16 → d' (c + 5) (16 * m + k) = d (c + 5) (16 * m + k)) (hρ : ∀ k, B + 13 + 19 * m ≤ k → k < B + 32 + 19 * m → ρ' k = ρ k) : MK d' c ρ' B n' m := by
  obtain ⟨⟨k, k1, k2, k3⟩, ⟨g, g1, g2⟩, ⟨q, q1, q2, q3, q4⟩, e1, e2, e3⟩ := h
  refine ⟨⟨k, k1, k2, ?_⟩, ⟨g, g1, ?_⟩, ⟨q, q1, ?_, fun k hk => ?_, fun i j hij hj => ?_⟩, ?_, ?_, ?_⟩
  · rw [hρ _ (by omega) (by omega), k3]
  · rw [hρ _ (by omega) (by omega), g2]
  · rw [hρ _ (by omega) (by omega), q2]
  · obtain ⟨r, r1, r2, r3⟩ := q3 k hk
    exact ⟨r, by omega, by rw [hρ _ (by omega) (by omega), r2], by rw [hd5 _ (by omega), r3]⟩
  · rw [hρ _ (by omega) (by omega), hρ _ (by omega) (by omega)]
    exact q4 i j hij hj
  · rw [hd _ (by omega) (by omega), hρ _ (by omega) (by omega), e1]
  · rw [hd _ (by omega) (by omega), hρ _ (by omega) (by omega), e2]
  · rw [hd _ (by omega) (by omega), hρ _ (by omega) (by omega), e3]
/-- what is told of rider r in it -/
def RD (d : z_D) (c : Nat) (ρ : Nat → Int32) (B n r : Nat) : Prop :=
  (∃ f, f ≤ 999999 ∧ ρ (B + 127 + 12 * r) = nI f ∧ (n ≤ r → f = 0)) ∧
  (ρ (B + 128 + 12 * r) = -1 ∨ (∃ k, k ≤ 300 ∧ ρ (B + 128 + 12 * r) = nI k) ∧ (ρ (B + 129 + 12 * r) = -1 ∨ ∃ q, q < n ∧ ρ (B + 129 + 12 * r) = nI q) ∧ d (c + 12) r = ρ (B + 129 + 12 * r)) ∧
  (∃ j, j ≤ 99999 ∧ ρ (B + 130 + 12 * r) = nI j) ∧ bl (ρ (B + 131 + 12 * r)) ∧
  d (c + 10) r = ρ (B + 127 + 12 * r) ∧ d (c + 11) r = ρ (B + 128 + 12 * r) ∧ d (c + 13) r = ρ (B + 130 + 12 * r) ∧ d (c + 14) r = ρ (B + 131 + 12 * r)
theorem RD.congr {d d' : z_D} {c B n n' r : Nat} {ρ ρ' : Nat → Int32} (h : RD d c ρ B n r) (hn : n ≤ n') (hd : ∀ a, c + 10 ≤ a → a ≤ c + 14 → d' a r = d a r) (hρ : ∀ k, B + 127 + 12 * r ≤ k → k ≤ B + 131 + 12 * r → ρ' k = ρ k) : RD d' c ρ' B n' r := by
  obtain ⟨⟨f, f1, f2, f3⟩, h1, ⟨j, j1, j2⟩, h2, e1, e2, e3, e4⟩ := h
  refine ⟨⟨f, f1, by rw [hρ _ (by omega) (by omega), f2], fun h => f3 (by omega)⟩, ?_, ⟨j, j1, by rw [hρ _ (by omega) (by omega), j2]⟩, by rw [hρ _ (by omega) (by omega)]; exact h2, ?_, ?_, ?_, ?_⟩
  · rw [hρ _ (by omega) (by omega), hρ (B + 129 + 12 * r) (by omega) (by omega), hd _ (by omega) (by omega)]
    rcases h1 with h1 | ⟨h3, h4, h5⟩
    · exact Or.inl h1
    · refine Or.inr ⟨h3, ?_, h5⟩
      rcases h4 with h4 | ⟨q, q1, q2⟩
      · exact Or.inl h4
      · exact Or.inr ⟨q, by omega, q2⟩
  · rw [hd _ (by omega) (by omega), hρ _ (by omega) (by omega), e1]
  · rw [hd _ (by omega) (by omega), hρ _ (by omega) (by omega), e2]
  · rw [hd _ (by omega) (by omega), hρ _ (by omega) (by omega), e3]
  · rw [hd _ (by omega) (by omega), hρ _ (by omega) (by omega), e4]
def rfin (ρ : Nat → Int32) (B : Nat) (r : Nat) : Int32 := ρ (B + 127 + 12 * r)
theorem posI_cong {f g : Nat → Bool} {o : Nat → Nat} : ∀ k, (∀ i, i < k → f (o i) = g (o i)) → posI f o k = posI g o k
  | 0, _ => rfl
  | k + 1, h => by
    unfold posI
    rw [h k (by omega), posI_cong k (fun i hi => h i (by omega))]
theorem ordO_cong {f g : Nat → Int32} : ∀ m, (∀ r, r < m → f r = g r) → ordK f m = ordK g m ∧ ordO f m = ordO g m
  | 0, _ => ⟨rfl, rfl⟩
  | m + 1, h => by
    have h1 := ordO_cong m (fun r hr => h r (by omega))
    have hm := h m (by omega)
    by_cases h0 : g m = 0
    · have h0' : f m = 0 := by rw [hm, h0]
      refine ⟨by rw [ordK_z h0, ordK_z h0', h1.1], ?_⟩
      rw [ordO, ordO, if_pos h0, if_pos h0', h1.2]
    · have h0' : ¬ f m = 0 := by rw [hm]; exact h0
      refine ⟨by rw [ordK_s h0, ordK_s h0', h1.1], ?_⟩
      rw [ordO, ordO, if_neg h0, if_neg h0', h1.2, h1.1]
      have hp : posI (fun x => decide (¬ f x ≤ f m)) (ordO g m) (ordK g m) = posI (fun x => decide (¬ g x ≤ g m)) (ordO g m) (ordK g m) := posI_cong _ (fun i hi => by
        have := ordO_lt g m i hi
        rw [h _ (by omega), hm])
      unfold insO
      rw [hp]
/-- what is told of a stage: class cells from c on, row from B on, n riders -/
def SG (d : z_D) (c : Nat) (ρ : Nat → Int32) (B n : Nat) : Prop :=
  (∃ k, k ≤ 3 ∧ ρ B = nI k) ∧ (∃ L, 1 ≤ L ∧ L ≤ 300 ∧ ρ (B + 1) = nI L) ∧ (d (c + 1) 0 = ρ B ∧ d (c + 1) 1 = ρ (B + 1) ∧ d (c + 1) 2 = ρ (B + 2)) ∧
  (∃ M, M ≤ 6 ∧ ρ (B + 2) = nI M ∧ ∀ m, m < M → MK d c ρ B n m) ∧ (∀ r, r < 16 → RD d c ρ B n r) ∧ d c 7 = nI (ordK (rfin ρ B) 16)
theorem SG.congr {d d' : z_D} {c B n n' : Nat} {ρ ρ' : Nat → Int32} (h : SG d c ρ B n) (hn : n ≤ n') (hd : ∀ a, c ≤ a → a < c + 21 → d' a = d a) (hρ : ∀ k, B ≤ k → k < B + 325 → ρ' k = ρ k) : SG d' c ρ' B n' := by
  obtain ⟨⟨k, k1, k2⟩, ⟨L, L1, L2, L3⟩, ⟨e1, e2, e3⟩, ⟨M, M1, M2, M3⟩, hr, h7⟩ := h
  refine ⟨⟨k, k1, by rw [hρ _ (by omega) (by omega), k2]⟩, ⟨L, L1, L2, by rw [hρ _ (by omega) (by omega), L3]⟩, ?_, ⟨M, M1, by rw [hρ _ (by omega) (by omega), M2], fun m hm => ?_⟩, fun r hr16 => ?_, ?_⟩
  · rw [hd _ (by omega) (by omega), hρ _ (by omega) (by omega), hρ _ (by omega) (by omega), hρ _ (by omega) (by omega)]
    exact ⟨e1, e2, e3⟩
  · exact (M3 m hm).congr hn (fun a a1 a2 => by rw [hd _ (by omega) (by omega)]) (fun k _ => by rw [hd _ (by omega) (by omega)]) (fun k k1 k2 => hρ _ (by omega) (by omega))
  · exact (hr r hr16).congr hn (fun a a1 a2 => by rw [hd _ (by omega) (by omega)]) (fun k k1 k2 => hρ _ (by omega) (by omega))
  · rw [hd _ (by omega) (by omega), h7, (ordO_cong (f := rfin ρ' B) (g := rfin ρ B) 16 (fun r hr => hρ _ (by omega) (by omega))).1]
/-- nothing has come of it yet -/
def OP (ρ : Nat → Int32) (B : Nat) : Prop := ∀ r w, r < 16 → 5 ≤ w → w < 12 → ρ (B + 127 + 12 * r + w) = 0
/-- what has come of a stage -/
def CLr (d : z_D) (c : Nat) (ρ : Nat → Int32) (B r : Nat) : Prop :=
  (rfin ρ B r = 0 → ρ (B + 132 + 12 * r) = 0 ∧ ρ (B + 133 + 12 * r) = 0) ∧ (∃ t, t ≤ 99999 ∧ ρ (B + 133 + 12 * r) = nI t) ∧ (∃ a, a ≤ 99999 ∧ ρ (B + 132 + 12 * r) = nI a) ∧ ρ (B + 133 + 12 * r) ≤ ρ (B + 132 + 12 * r) ∧ (∃ b, b ≤ 1000 ∧ ρ (B + 136 + 12 * r) = nI b) ∧ (∃ p, p ≤ 16 ∧ ρ (B + 135 + 12 * r) = nI p) ∧
  (¬ rfin ρ B r = 0 → d (c + 16) r = ρ (B + 135 + 12 * r) ∧ d (c + 17) r = ρ (B + 134 + 12 * r) ∧ d (c + 18) r = ρ (B + 132 + 12 * r) ∧ d (c + 19) r = ρ (B + 133 + 12 * r)) ∧
  d (c + 7) r = ρ (B + 136 + 12 * r) ∧ d (c + 8) r = ρ (B + 137 + 12 * r) ∧ d (c + 9) r = ρ (B + 138 + 12 * r)
def CL (d : z_D) (c : Nat) (ρ : Nat → Int32) (B : Nat) : Prop :=
  (0 < ordK (rfin ρ B) 16 ∧ ρ (B + 5) = nI (ordK (rfin ρ B) 16)) ∧ (∀ i, i < ordK (rfin ρ B) 16 → d (c + 15) i = nI (ordO (rfin ρ B) 16 i)) ∧
  (d c 14 = ρ (B + 6) ∧ d c 15 = ρ (B + 7) ∧ d c 16 = ρ (B + 8) ∧ d c 17 = ρ (B + 9) ∧ d c 18 = ρ (B + 10) ∧ d c 19 = ρ (B + 11)) ∧ (∃ L, L ≤ 200000 ∧ ρ (B + 9) = nI L) ∧ bl (ρ (B + 11)) ∧ ∀ r, r < 16 → CLr d c ρ B r
theorem CL.congr {d d' : z_D} {c B : Nat} {ρ ρ' : Nat → Int32} (h : CL d c ρ B) (hd : ∀ a, c ≤ a → a < c + 21 → d' a = d a) (hρ : ∀ k, B ≤ k → k < B + 325 → ρ' k = ρ k) : CL d' c ρ' B := by
  have ho := ordO_cong (f := rfin ρ' B) (g := rfin ρ B) 16 (fun r hr => hρ _ (by omega) (by omega))
  unfold CL
  rw [ho.1, ho.2]
  obtain ⟨⟨h1, h2⟩, h3, h4, ⟨L, L1, L2⟩, h6, h7⟩ := h
  refine ⟨⟨h1, by rw [hρ _ (by omega) (by omega), h2]⟩, fun i hi => by rw [hd _ (by omega) (by omega), h3 i hi], ?_, ⟨L, L1, by rw [hρ _ (by omega) (by omega), L2]⟩, by rw [hρ _ (by omega) (by omega)]; exact h6, fun r hr => ?_⟩
  · rw [hd _ (by omega) (by omega), hρ _ (by omega) (by omega), hρ _ (by omega) (by omega), hρ _ (by omega) (by omega), hρ _ (by omega) (by omega), hρ _ (by omega) (by omega), hρ _ (by omega) (by omega)]
    exact h4
  · have := h7 r hr
    unfold CLr rfin at this ⊢
    rw [hρ _ (by omega) (by omega), hρ (B + 132 + 12 * r) (by omega) (by omega), hρ (B + 133 + 12 * r) (by omega) (by omega), hρ (B + 136 + 12 * r) (by omega) (by omega), hρ (B + 135 + 12 * r) (by omega) (by omega), hρ (B + 134 + 12 * r) (by omega) (by omega), hρ (B + 137 + 12 * r) (by omega) (by omega), hρ (B + 138 + 12 * r) (by omega) (by omega), hd (c + 16) (by omega) (by omega), hd (c + 17) (by omega) (by omega), hd (c + 18) (by omega) (by omega), hd (c + 19) (by omega) (by omega), hd (c + 7) (by omega) (by omega), hd (c + 8) (by omega) (by omega), hd (c + 9) (by omega) (by omega)]
    exact this
/-- rider r of the race at b -/
def RI (d : z_D) (b : Nat) (ρ : Nat → Int32) (t r : Nat) : Prop :=
  (∃ k, k < t ∧ ρ (8 + 3 * r) = nI k) ∧ (∃ a, 16 ≤ a ∧ a ≤ 50 ∧ ρ (9 + 3 * r) = nI a) ∧ bl (ρ (10 + 3 * r)) ∧ d (b + 1) r = ρ (8 + 3 * r) ∧ d (b + 2) r = ρ (9 + 3 * r) ∧ d (b + 3) r = ρ (10 + 3 * r)
/-- booleans of a stage -/
def SB (d : z_D) (c : Nat) : Prop := bl (d c 19) ∧ ∀ r, r < 16 → bl (d (c + 14) r) ∧ bl (d (c + 20) r)
def SC (d : z_D) (b : Nat) (ρ : Nat → Int32) : Prop := d b 0 = ρ 0 ∧ d b 1 = ρ 1 ∧ d b 2 = ρ 2 ∧ d b 3 = ρ 3 ∧ d b 4 = ρ 4 ∧ d b 5 = ρ 5
/-- the race at b holds what the row holds: t teams, n riders, s stages -/
def St (d : z_D) (b : Nat) (ρ : Nat → Int32) (t n s : Nat) : Prop :=
  R_cnt ρ t n s ∧ SC d b ρ ∧ (∀ r, r < n → RI d b ρ t r) ∧ (∀ j, j < s → SG d (b + 5 + 21 * j) ρ (56 + 325 * j) n) ∧ (ρ 3 = 1 → OP ρ (56 + 325 * (s - 1))) ∧ (∀ j, j < s → (ρ 3 = 1 → j + 1 < s) → CL d (b + 5 + 21 * j) ρ (56 + 325 * j)) ∧ (∀ r, r < 16 → bl (d (b + 3) r)) ∧ ∀ j, j < 8 → SB d (b + 5 + 21 * j)
/-- only the race at b has changed -/
def Fr (b : Nat) (d d' : z_D) : Prop := ∀ a, (a < b ∨ b + 173 ≤ a) → d' a = d a
theorem Fr.rf {b : Nat} {d : z_D} : Fr b d d := fun _ _ => rfl
theorem Fr.tr {b : Nat} {d d' d'' : z_D} (h : Fr b d d') (h2 : Fr b d' d'') : Fr b d d'' := fun a ha => by rw [h2 a ha, h a ha]
theorem Fr.up {b a k : Nat} {d d' : z_D} {v : Int32} (h : Fr b d d') (h1 : b ≤ a) (h2 : a < b + 173) : Fr b d (z_up d' a k v) := fun q hq => by rw [u_a (by omega), h q hq]
theorem St.congr {d d' : z_D} {b t n s : Nat} {ρ : Nat → Int32} (h : St d b ρ t n s) (hd : ∀ a, b ≤ a → a < b + 173 → d' a = d a) : St d' b ρ t n s := by
  obtain ⟨h1, h2, h3, h4, h5, h6, h7, h8⟩ := h
  have hs := h1.2.2.1.2
  have hn := h1.2.1.2
  refine ⟨h1, ?_, fun r hr => ?_, fun j hj => (h4 j hj).congr (Nat.le_refl _) (fun a a1 a2 => hd _ (by omega) (by omega)) (fun _ _ _ => rfl), h5, fun j hj hc => (h6 j hj hc).congr (fun a a1 a2 => hd _ (by omega) (by omega)) (fun _ _ _ => rfl), fun r hr => by rw [hd _ (by omega) (by omega)]; exact h7 r hr, fun j hj => ?_⟩
  · unfold SC
    rw [hd b (by omega) (by omega)]
    exact h2
  · unfold RI
    rw [hd _ (by omega) (by omega), hd _ (by omega) (by omega), hd _ (by omega) (by omega)]
    exact h3 r hr
  · unfold SB
    rw [hd _ (by omega) (by omega), hd _ (by omega) (by omega), hd _ (by omega) (by omega)]
    exact h8 j hj
/-- the open stage has changed, and nothing else -/
theorem St.touch {d d' : z_D} {b t n s : Nat} {ρ ρ' : Nat → Int32} (h : St d b ρ t n s) (ho : ρ 3 = 1) (hd : ∀ a, (a < b + 5 + 21 * (s - 1) ∨ b + 5 + 21 * (s - 1) + 21 ≤ a) → d' a = d a) (hρ : ∀ k, (k < 56 + 325 * (s - 1) ∨ 56 + 325 * (s - 1) + 325 ≤ k) → ρ' k = ρ k)
    (hsg : SG d' (b + 5 + 21 * (s - 1)) ρ' (56 + 325 * (s - 1)) n) (hop : OP ρ' (56 + 325 * (s - 1))) (hsb : SB d' (b + 5 + 21 * (s - 1))) : St d' b ρ' t n s := by
  obtain ⟨h1, h2, h3, h4, h5, h6, h7, h8⟩ := h
  have hs := h1.2.2.1.2
  have hn := h1.2.1.2
  have hs0 : 0 < s := by
    rcases h1.2.2.2.1 with e | e
    · rw [e] at ho; exact absurd ho (by decide)
    · exact e.2
  have hr : ∀ k, k < 56 → ρ' k = ρ k := fun k hk => hρ k (by omega)
  refine ⟨?_, ?_, fun r hr' => ?_, fun j hj => ?_, fun _ => hop, fun j hj hc => ?_, fun r hr' => by rw [hd _ (by omega)]; exact h7 r hr', fun j hj => ?_⟩
  · unfold R_cnt
    rw [hr 0 (by omega), hr 1 (by omega), hr 2 (by omega), hr 3 (by omega), hr 4 (by omega), hr 5 (by omega)]
    exact h1
  · unfold SC
    rw [hd b (by omega), hr 0 (by omega), hr 1 (by omega), hr 2 (by omega), hr 3 (by omega), hr 4 (by omega), hr 5 (by omega)]
    exact h2
  · unfold RI
    rw [hd _ (by omega), hd _ (by omega), hd _ (by omega), hr _ (by omega), hr (9 + 3 * r) (by omega), hr (10 + 3 * r) (by omega)]
    exact h3 r hr'
  · by_cases hj2 : j = s - 1
    · subst hj2
      exact hsg
    · exact (h4 j hj).congr (Nat.le_refl _) (fun a a1 a2 => hd _ (by omega)) (fun k k1 k2 => hρ _ (by omega))
  · have hj2 := hc (by rw [hr 3 (by omega)]; exact ho)
    exact (h6 j hj (fun _ => hj2)).congr (fun a a1 a2 => hd _ (by omega)) (fun k k1 k2 => hρ _ (by omega))
  · by_cases hj2 : j = s - 1
    · subst hj2
      exact hsb
    · unfold SB
      rw [hd _ (by omega), hd _ (by omega), hd _ (by omega)]
      exact h8 j hj
