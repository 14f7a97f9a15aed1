/-! 50.pure: the pure functions, first facts -/
theorem i_nlt {a b : Int32} : ¬ a < b ↔ b ≤ a := Int32.not_lt
theorem i_nle {a b : Int32} : ¬ a ≤ b ↔ b < a := Int32.not_le
/-- 1 where it holds, 0 else -/
def b01 (p : Prop) [Decidable p] : Int32 := if p then 1 else 0
theorem b01_t {p : Prop} [Decidable p] (h : p) : b01 p = 1 := if_pos h
theorem b01_f {p : Prop} [Decidable p] (h : ¬ p) : b01 p = 0 := if_neg h
theorem b01_0 {p : Prop} [Decidable p] : b01 p = 0 ↔ ¬ p := by
  unfold b01
  by_cases h : p <;> simp [h]
theorem b01_1 {p : Prop} [Decidable p] : b01 p = 1 ↔ p := by
  unfold b01
  by_cases h : p <;> simp [h]
theorem b01_b {p : Prop} [Decidable p] : b01 p = 0 ∨ b01 p = 1 := by
  by_cases h : p
  · exact Or.inr (b01_t h)
  · exact Or.inl (b01_f h)
theorem q_X8_within (x a b : Int32) : f_X8_within x a b = some (b01 (a ≤ x ∧ x ≤ b)) := by
  unfold f_X8_within
  by_cases h1 : x < a
  · rw [if_pos h1, b01_f (fun h => i_nle.mpr h1 h.1)]
  · rw [if_neg h1]
    by_cases h2 : b < x
    · rw [if_pos h2, b01_f (fun h => i_nle.mpr h2 h.2)]
    · rw [if_neg h2, b01_t ⟨i_nlt.mp h1, i_nlt.mp h2⟩]
theorem q_X9_isIn (x a b : Int32) : f_X9_isIn x a b = some (b01 (a ≤ x ∧ x ≤ b)) := q_X8_within x a b
/-- a row's place -/
theorem q_at (s w : Nat) : f_X9_at (nI s) (nI w) = some (nI (56 + 325 * s + w)) := by
  unfold f_X9_at
  rw [fa_lit 56, fa_lit 325, pk_mul, nI_add, nI_add]
theorem q_at_ (s r w : Nat) : f_X9_at_ (nI s) (nI r) (nI w) = some (nI (183 + 325 * s + 12 * r + w)) := by
  unfold f_X9_at_
  rw [fa_lit 56, fa_lit 325, fa_lit 127, fa_lit 12, pk_mul, nI_add, nI_add, pk_mul, nI_add, nI_add]
  congr 2
  omega
theorem q_mark (s m w : Nat) : f_X9_mark (nI s) (nI m) (nI w) = some (nI (69 + 325 * s + 19 * m + w)) := by
  unfold f_X9_mark
  rw [fa_lit 56, fa_lit 325, fa_lit 13, fa_lit 19, pk_mul, nI_add, nI_add, pk_mul, nI_add, nI_add]
  congr 2
  omega
/-- loads and stores within their rows -/
theorem q_ald {α : Type} {d : z_D} {a N i : Nat} {K : Int32 → Option α} (h : i < N) (hN : N < 2 ^ 31) : z_ald d a N (nI i) K = K (d a i) := by
  unfold z_ald
  rw [if_neg (nI_in h hN), nI_clamp (by omega)]
theorem q_ast {α : Type} {d : z_D} {a N i : Nat} {x : Int32} {K : z_D → Option α} (h : i < N) (hN : N < 2 ^ 31) : z_ast d a N (nI i) x K = K (z_up d a i x) := by
  unfold z_ast
  rw [if_neg (nI_in h hN), nI_clamp (by omega)]
theorem q_aald {α : Type} {N i : Nat} {K : Nat → Option α} (h : i < N) (hN : N < 2 ^ 31) : z_aald N (nI i) K = K i := by
  unfold z_aald
  rw [if_neg (nI_in h hN), nI_clamp (by omega)]
theorem q_tab {α : Type} {L : List Int32} {i : Nat} {K : Int32 → Option α} (h : i < L.length) (hN : L.length < 2 ^ 31) : z_tab L (nI i) K = K (L.getD i 0) := by
  unfold z_tab
  rw [if_neg (nI_in h hN), nI_clamp (by omega)]
theorem u_s (d : z_D) (a k : Nat) (v : Int32) : z_up d a k v a k = v := by simp [z_up]
theorem u_n {d : z_D} {a k a' k' : Nat} {v : Int32} (h : ¬ (a' = a ∧ k' = k)) : z_up d a k v a' k' = d a' k' := by simp [z_up, h]
theorem u_a {d : z_D} {a k a' : Nat} {v : Int32} (h : a' ≠ a) : z_up d a k v a' = d a' := by
  funext j
  simp [z_up, h]
theorem u_k {d : z_D} {a k k' : Nat} {v : Int32} (h : k' ≠ k) : z_up d a k v a k' = d a k' := by simp [z_up, h]
theorem o_b {α β : Type} (a : α) (f : α → Option β) : (some a).bind f = f a := rfl
theorem q_aldl {α : Type} {d : z_D} {a N : Nat} {K : Int32 → Option α} (x : Int32) (i : Nat) (hx : x = nI i) (h : i < N) (hN : N < 2 ^ 31) : z_ald d a N x K = K (d a i) := by
  rw [hx]
  exact q_ald h hN
theorem q_astl {α : Type} {d : z_D} {a N : Nat} {v : Int32} {K : z_D → Option α} (x : Int32) (i : Nat) (hx : x = nI i) (h : i < N) (hN : N < 2 ^ 31) : z_ast d a N x v K = K (z_up d a i v) := by
  rw [hx]
  exact q_ast h hN
theorem q_r3 (r : Nat) : (8 + 3 * nI r : Int32) = nI (8 + 3 * r) := by
  rw [fa_lit 8, fa_lit 3, pk_mul, nI_add]
