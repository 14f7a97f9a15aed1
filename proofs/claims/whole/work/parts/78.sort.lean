/-! 78.sort: a list laid so is sorted; two sorted lists of the same are one -/
/-- a strict total order -/
def STO (T : Nat → Nat → Bool) : Prop := (∀ x y, T x y = true → T y x = false) ∧ (∀ x y z, T x y = true → T y z = true → T x z = true) ∧ ∀ x y, x ≠ y → T x y = true ∨ T y x = true
theorem STO.irr {T : Nat → Nat → Bool} (h : STO T) {x : Nat} {y : Nat} (e : x = y) : ¬ T x y = true := fun h9 => by
  subst e
  have := h.1 _ _ h9
  rw [h9] at this
  exact absurd this (by decide)
theorem posI_ge {lt : Nat → Bool} {o : Nat → Nat} : ∀ k i, posI lt o k ≤ i → i < k → lt (o i) = true
  | 0, i, _, h => absurd h (Nat.not_lt_zero i)
  | k + 1, i, h1, h2 => by
    unfold posI at h1
    by_cases h : lt (o k) = true
    · rw [if_pos h] at h1
      by_cases hi : i = k
      · rw [hi]; exact h
      · exact posI_ge k i h1 (by omega)
    · rw [if_neg h] at h1
      omega
theorem posI_pr {lt : Nat → Bool} {o : Nat → Nat} : ∀ k p, posI lt o k = p + 1 → lt (o p) = false
  | 0, p, h => by
    have : (0 : Nat) = p + 1 := h
    omega
  | k + 1, p, h => by
    unfold posI at h
    by_cases hl : lt (o k) = true
    · rw [if_pos hl] at h
      exact posI_pr k p h
    · rw [if_neg hl] at h
      have : k = p := by omega
      subst this
      cases e : lt (o k) with
      | true => exact absurd e hl
      | false => rfl
def SRT (T : Nat → Nat → Bool) (o : Nat → Nat) (k : Nat) : Prop := ∀ i j, i < j → j < k → T (o i) (o j) = true
theorem rkO_srt {P : Nat → Bool} {T : Nat → Nat → Bool} (hT : STO T) : ∀ m, SRT T (rkO P T m) (fb_ct P m)
  | 0 => fun i j _ h => absurd h (Nat.not_lt_zero j)
  | m + 1 => by
    have ih := rkO_srt (P := P) hT m
    by_cases hP : P m = true
    · rw [rkK_y hP, rkO_y hP]
      have hle := posI_le (T m) (rkO P T m) (fb_ct P m)
      have hlt := rkO_lt P T m
      have hge : ∀ i, posI (T m) (rkO P T m) (fb_ct P m) ≤ i → i < fb_ct P m → T m (rkO P T m i) = true := fun i h1 h2 => posI_ge _ i h1 h2
      have hbe : ∀ i, i < posI (T m) (rkO P T m) (fb_ct P m) → T (rkO P T m i) m = true := fun i hi => by
        obtain ⟨p, hp⟩ : ∃ p, posI (T m) (rkO P T m) (fb_ct P m) = p + 1 := ⟨posI (T m) (rkO P T m) (fb_ct P m) - 1, by omega⟩
        have h0 := posI_pr _ p hp
        have h1 : T (rkO P T m p) m = true := by
          have hx := hlt p (by omega)
          rcases hT.2.2 m (rkO P T m p) (by omega) with h | h
          · rw [h0] at h; exact absurd h (by decide)
          · exact h
        by_cases hip : i = p
        · rw [hip]; exact h1
        · exact hT.2.1 _ _ _ (ih i p (by omega) (by omega)) h1
      unfold insO
      intro i j hij hj
      generalize posI (T m) (rkO P T m) (fb_ct P m) = p at hle hge hbe
      show T (if i < p then rkO P T m i else if i = p then m else rkO P T m (i - 1)) (if j < p then rkO P T m j else if j = p then m else rkO P T m (j - 1)) = true
      by_cases a1 : i < p
      · rw [if_pos a1]
        by_cases b1 : j < p
        · rw [if_pos b1]
          exact ih i j hij (by omega)
        · rw [if_neg b1]
          by_cases b2 : j = p
          · rw [if_pos b2]
            exact hbe i a1
          · rw [if_neg b2]
            exact ih i (j - 1) (by omega) (by omega)
      · rw [if_neg a1]
        by_cases a2 : i = p
        · rw [if_pos a2, if_neg (by omega), if_neg (by omega)]
          exact hge (j - 1) (by omega) (by omega)
        · rw [if_neg a2, if_neg (by omega), if_neg (by omega)]
          exact ih (i - 1) (j - 1) (by omega) (by omega)
    · rw [rkK_n hP, rkO_n hP]
      exact ih
theorem rkO_onto {P : Nat → Bool} {T : Nat → Nat → Bool} : ∀ m r, r < m → P r = true → ∃ i, i < fb_ct P m ∧ rkO P T m i = r
  | 0, r, h, _ => absurd h (Nat.not_lt_zero r)
  | m + 1, r, h, hPr => by
    by_cases hP : P m = true
    · rw [rkK_y hP, rkO_y hP]
      have hle := posI_le (T m) (rkO P T m) (fb_ct P m)
      unfold insO
      generalize posI (T m) (rkO P T m) (fb_ct P m) = p at hle
      by_cases hrm : r = m
      · exact ⟨p, by omega, by rw [if_neg (by omega), if_pos rfl, hrm]⟩
      · obtain ⟨i, i1, i2⟩ := rkO_onto (T := T) m r (by omega) hPr
        by_cases hi : i < p
        · exact ⟨i, by omega, by rw [if_pos hi, i2]⟩
        · exact ⟨i + 1, by omega, by rw [if_neg (by omega), if_neg (by omega), Nat.add_sub_cancel, i2]⟩
    · have hrm : r < m := by
        rcases Nat.lt_or_ge r m with h9 | h9
        · exact h9
        · exact absurd (by rw [← show r = m by omega]; exact hPr) hP
      rw [rkK_n hP, rkO_n hP]
      exact rkO_onto m r hrm hPr
/-- two sorted rows of the same -/
theorem srt_one {T : Nat → Nat → Bool} (hT : STO T) {o o' : Nat → Nat} {k k' : Nat} (h1 : SRT T o k) (h2 : SRT T o' k') (hs : ∀ i, i < k → ∃ j, j < k' ∧ o' j = o i) (hs' : ∀ j, j < k' → ∃ i, i < k ∧ o i = o' j) : k = k' ∧ ∀ i, i < k → o i = o' i := by
  have main : ∀ i, i < k → i < k' → (∀ j, j < i → o j = o' j) → o i = o' i := by
    intro i hi hi' ih
    obtain ⟨j, j1, j2⟩ := hs i hi
    obtain ⟨l, l1, l2⟩ := hs' i hi'
    rcases Nat.lt_trichotomy j i with h | h | h
    · have hj := ih j h
      exact absurd (h1 j i h hi) (hT.irr (by rw [hj, j2]))
    · rw [← j2, h]
    · rcases Nat.lt_trichotomy l i with g | g | g
      · have hl := ih l g
        exact absurd (h2 l i g hi') (hT.irr (by rw [← hl, l2]))
      · rw [← l2, g]
      · have a := h2 i j h j1
        rw [j2] at a
        have b := h1 i l g l1
        rw [l2] at b
        rw [hT.1 _ _ a] at b
        exact absurd b (by decide)
  have all : ∀ i, i < k → i < k' → o i = o' i := by
    intro i
    induction i using Nat.strongRecOn with
    | _ i ih =>
      intro hi hi'
      exact main i hi hi' (fun j hj => ih j hj (by omega) (by omega))
  have hk : k = k' := by
    rcases Nat.lt_trichotomy k k' with h | h | h
    · obtain ⟨i, i1, i2⟩ := hs' k h
      have e := all i i1 (by omega)
      exact absurd (h2 i k i1 h) (hT.irr (by rw [← e, i2]))
    · exact h
    · obtain ⟨j, j1, j2⟩ := hs k' h
      have e := all j (by omega) j1
      exact absurd (h1 j k' j1 h) (hT.irr (by rw [e, j2]))
  exact ⟨hk, fun i hi => all i hi (by omega)⟩
/-- by two numbers, then by one's own -/
def T2 (S P : Nat → Int32) (x y : Nat) : Bool := if S x = S y then (if P x = P y then decide (x < y) else decide (P x < P y)) else decide (S x < S y)
theorem T2_sto (S P : Nat → Int32) : STO (T2 S P) := by
  have key : ∀ x y, T2 S P x y = true ↔ ((S x).toInt < (S y).toInt ∨ (S x).toInt = (S y).toInt ∧ ((P x).toInt < (P y).toInt ∨ (P x).toInt = (P y).toInt ∧ x < y)) := by
    intro x y
    unfold T2
    by_cases h1 : S x = S y
    · rw [if_pos h1]
      have e1 : (S x).toInt = (S y).toInt := by rw [h1]
      by_cases h2 : P x = P y
      · rw [if_pos h2, decide_eq_true_iff]
        have e2 : (P x).toInt = (P y).toInt := by rw [h2]
        omega
      · rw [if_neg h2, decide_eq_true_iff, fa_lt]
        have e2 : ¬ (P x).toInt = (P y).toInt := fun h => h2 ((fa_eq _ _).mpr h)
        omega
    · rw [if_neg h1, decide_eq_true_iff, fa_lt]
      have e1 : ¬ (S x).toInt = (S y).toInt := fun h => h1 ((fa_eq _ _).mpr h)
      omega
  refine ⟨fun x y h => ?_, fun x y z h1 h2 => ?_, fun x y h => ?_⟩
  · cases e : T2 S P y x with
    | false => rfl
    | true =>
      have a := (key x y).mp h
      have b := (key y x).mp e
      omega
  · have a := (key x y).mp h1
    have b := (key y z).mp h2
    exact (key x z).mpr (by omega)
  · rw [key, key]
    omega
theorem lx_T2 {S P : Nat → Int32} {r x : Nat} (h : x < r) : lx (S r) (S x) (P r) (P x) = T2 S P r x := by
  unfold lx T2
  by_cases h1 : S r = S x
  · rw [if_pos h1, if_pos h1]
    by_cases h2 : P r = P x
    · rw [if_pos h2, h2, decide_eq_false (by simp), decide_eq_false (by omega)]
    · rw [if_neg h2]
      refine decide_eq_decide.mpr ?_
      rw [fa_le, fa_lt]
      have e2 : ¬ (P r).toInt = (P x).toInt := fun h => h2 ((fa_eq _ _).mpr h)
      omega
  · rw [if_neg h1, if_neg h1]
    refine decide_eq_decide.mpr ?_
    rw [fa_le, fa_lt]
    have e1 : ¬ (S r).toInt = (S x).toInt := fun h => h1 ((fa_eq _ _).mpr h)
    omega
