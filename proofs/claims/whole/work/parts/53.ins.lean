/-! 53.ins: to put one into a row from behind -/
def posI (lt : Nat → Bool) (o : Nat → Nat) : Nat → Nat
  | 0 => 0
  | k + 1 => if lt (o k) = true then posI lt o k else k + 1
theorem posI_le (lt : Nat → Bool) (o : Nat → Nat) : ∀ k, posI lt o k ≤ k
  | 0 => Nat.le_refl 0
  | k + 1 => by
    unfold posI
    by_cases h : lt (o k) = true
    · rw [if_pos h]
      exact Nat.le_succ_of_le (posI_le lt o k)
    · rw [if_neg h]
      exact Nat.le_refl _
/-- the row behind p is one place further on -/
def z_shf (d : z_D) (a p k : Nat) (o : Nat → Nat) : z_D := fun a' i => if a' = a ∧ p < i ∧ i ≤ k then nI (o (i - 1)) else d a' i
theorem z_shf_0 (d : z_D) (a k : Nat) (o : Nat → Nat) : z_shf d a k k o = d := by
  funext a' i
  unfold z_shf
  rw [if_neg (by omega)]
theorem z_shf_s {d : z_D} {a j k : Nat} {o : Nat → Nat} (h : j < k) : z_up (z_shf d a (j + 1) k o) a (j + 1) (nI (o j)) = z_shf d a j k o := by
  funext a' i
  unfold z_up z_shf
  by_cases h1 : a' = a ∧ i = j + 1
  · obtain ⟨rfl, rfl⟩ := h1
    rw [if_pos ⟨rfl, rfl⟩, if_pos ⟨rfl, by omega, by omega⟩]
    rfl
  · rw [if_neg h1]
    by_cases h2 : a' = a ∧ j + 1 < i ∧ i ≤ k
    · rw [if_pos h2, if_pos ⟨h2.1, by omega, h2.2.2⟩]
    · rw [if_neg h2, if_neg (fun h3 => by
        have h4 : i ≠ j + 1 := fun e => h1 ⟨h3.1, e⟩
        exact h2 ⟨h3.1, by omega, h3.2.2⟩)]
theorem ins_loop {α : Type} (F : Nat → Int32 → z_D → Option α) (K : Int32 → z_D → Option α) (d0 : z_D) (a k0 : Nat) (lt : Nat → Bool) (o : Nat → Nat)
    (h0 : ∀ f d, F (f + 1) (nI 0) d = K (nI 0) d)
    (hs : ∀ f j d, j < k0 → (∀ a' i, ¬ (a' = a ∧ j + 1 < i) → d a' i = d0 a' i) → F (f + 1) (nI (j + 1)) d = if lt (o j) = true then F f (nI j) (z_up d a (j + 1) (nI (o j))) else K (nI (j + 1)) d) :
    ∀ j f, j ≤ k0 → j < f → F f (nI j) (z_shf d0 a j k0 o) = K (nI (posI lt o j)) (z_shf d0 a (posI lt o j) k0 o) := by
  intro j
  induction j with
  | zero =>
    intro f _ hf
    obtain ⟨g, rfl⟩ : ∃ g, f = g + 1 := ⟨f - 1, by omega⟩
    exact h0 g _
  | succ j ih =>
    intro f hj hf
    obtain ⟨g, rfl⟩ : ∃ g, f = g + 1 := ⟨f - 1, by omega⟩
    rw [hs g j _ (by omega) (fun a' i h => by unfold z_shf; rw [if_neg (fun h9 => h ⟨h9.1, h9.2.1⟩)])]
    unfold posI
    by_cases h : lt (o j) = true
    · rw [if_pos h, if_pos h, z_shf_s (by omega)]
      exact ih g (by omega) (by omega)
    · rw [if_neg h, if_neg h]
/-- the new row -/
def insO (lt : Nat → Bool) (r : Nat) (o : Nat → Nat) (k : Nat) : Nat → Nat := fun i => if i < posI lt o k then o i else if i = posI lt o k then r else o (i - 1)
theorem ins_row {d : z_D} {a k r : Nat} {lt : Nat → Bool} {o : Nat → Nat} (ho : ∀ i, i < k → d a i = nI (o i)) : ∀ i, i < k + 1 → z_up (z_shf d a (posI lt o k) k o) a (posI lt o k) (nI r) a i = nI (insO lt r o k i) := by
  intro i hi
  have hp := posI_le lt o k
  unfold z_up z_shf insO
  by_cases h1 : i = posI lt o k
  · rw [if_pos ⟨rfl, h1⟩, if_neg (by omega), if_pos h1]
  · rw [if_neg (fun h => h1 h.2)]
    by_cases h2 : i < posI lt o k
    · rw [if_neg (by omega), if_pos h2]
      exact ho i (by omega)
    · rw [if_pos ⟨rfl, by omega, by omega⟩, if_neg h2, if_neg h1]
