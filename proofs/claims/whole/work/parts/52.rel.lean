/-! 52.rel: what it is that class and model have in common -/
/-- counts, rules, riders of a row: t teams, n riders, s stages -/
def R_cnt (ρ : Nat → Int32) (t n s : Nat) : Prop :=
  (ρ 0 = nI t ∧ t ≤ 6) ∧ (ρ 1 = nI n ∧ n ≤ 16) ∧ (ρ 2 = nI s ∧ s ≤ 8) ∧ (ρ 3 = 0 ∨ ρ 3 = 1 ∧ 0 < s) ∧ (∃ g, 1 ≤ g ∧ g ≤ 99 ∧ ρ 4 = nI g) ∧ (∃ z, z ≤ 9 ∧ ρ 5 = nI z)
def R_rid (ρ : Nat → Int32) (t n : Nat) : Prop :=
  ∀ r, r < n → (∃ k, k < t ∧ ρ (8 + 3 * r) = nI k) ∧ (∃ a, 16 ≤ a ∧ a ≤ 50 ∧ ρ (9 + 3 * r) = nI a) ∧ (ρ (10 + 3 * r) = 0 ∨ ρ (10 + 3 * r) = 1)
/-- the marks of a stage whose place in the row is B -/
def R_mrk (ρ : Nat → Int32) (B n M : Nat) : Prop :=
  ∀ m, m < M → (∃ k, 1 ≤ k ∧ k < 300 ∧ ρ (B + 13 + 19 * m) = nI k) ∧ (∃ h, h ≤ 4 ∧ ρ (B + 14 + 19 * m) = nI h) ∧ ∃ q, q ≤ 16 ∧ ρ (B + 15 + 19 * m) = nI q ∧ (∀ k, k < q → ∃ r, r < n ∧ ρ (B + 16 + 19 * m + k) = nI r) ∧ ∀ i j, i < j → j < q → ρ (B + 16 + 19 * m + i) ≠ ρ (B + 16 + 19 * m + j)
/-- what is told of the riders in a stage -/
def R_tld (ρ : Nat → Int32) (B n : Nat) : Prop :=
  ∀ r, r < 16 → (∃ f, f ≤ 999999 ∧ ρ (B + 127 + 12 * r) = nI f ∧ (n ≤ r → f = 0)) ∧ (ρ (B + 128 + 12 * r) = -1 ∨ (∃ k, k ≤ 300 ∧ ρ (B + 128 + 12 * r) = nI k) ∧ (ρ (B + 129 + 12 * r) = -1 ∨ ∃ q, q < n ∧ ρ (B + 129 + 12 * r) = nI q)) ∧ (∃ j, j ≤ 99999 ∧ ρ (B + 130 + 12 * r) = nI j) ∧ (ρ (B + 131 + 12 * r) = 0 ∨ ρ (B + 131 + 12 * r) = 1)
def R_stg (ρ : Nat → Int32) (B n : Nat) : Prop :=
  (∃ k, k ≤ 3 ∧ ρ B = nI k) ∧ (∃ L, 1 ≤ L ∧ L ≤ 300 ∧ ρ (B + 1) = nI L) ∧ (∃ M, M ≤ 6 ∧ ρ (B + 2) = nI M ∧ R_mrk ρ B n M) ∧ R_tld ρ B n
/-- how many have a finish, of the first k riders -/
def R_fin (ρ : Nat → Int32) (B k : Nat) : Nat := fb_ct (fun r => decide (¬ ρ (B + 127 + 12 * r) = 0)) k
/-- the class's stage at c against the row -/
def C_mrk (d : z_D) (c : Nat) (ρ : Nat → Int32) (B M : Nat) : Prop :=
  ∀ m, m < M → d (c + 2) m = ρ (B + 13 + 19 * m) ∧ d (c + 3) m = ρ (B + 14 + 19 * m) ∧ d (c + 4) m = ρ (B + 15 + 19 * m) ∧ ∀ k q, ρ (B + 15 + 19 * m) = nI q → k < q → d (c + 5) (16 * m + k) = ρ (B + 16 + 19 * m + k)
def C_tld (d : z_D) (c : Nat) (ρ : Nat → Int32) (B : Nat) : Prop :=
  ∀ r, r < 16 → d (c + 10) r = ρ (B + 127 + 12 * r) ∧ d (c + 11) r = ρ (B + 128 + 12 * r) ∧ (ρ (B + 128 + 12 * r) ≠ -1 → d (c + 12) r = ρ (B + 129 + 12 * r)) ∧ d (c + 13) r = ρ (B + 130 + 12 * r) ∧ d (c + 14) r = ρ (B + 131 + 12 * r)
def C_stg (d : z_D) (c : Nat) (ρ : Nat → Int32) (B : Nat) : Prop :=
  d (c + 1) 0 = ρ B ∧ d (c + 1) 1 = ρ (B + 1) ∧ d (c + 1) 2 = ρ (B + 2) ∧ (∀ M, ρ (B + 2) = nI M → M ≤ 6 → C_mrk d c ρ B M) ∧ C_tld d c ρ B ∧ d c 7 = nI (R_fin ρ B 16)
