/-! 7a.worth: points and dots: the class puts them in out of the general order -/
theorem ins_srt {T : Nat → Nat → Bool} (hT : STO T) {o : Nat → Nat} {k r : Nat} (ih : SRT T o k) (hne : ∀ i, i < k → o i ≠ r) : SRT T (insO (T r) r o k) (k + 1) := by
  have hle := posI_le (T r) o k
  have hge : ∀ i, posI (T r) o k ≤ i → i < k → T r (o i) = true := fun i h1 h2 => posI_ge _ i h1 h2
  have hbe : ∀ i, i < posI (T r) o k → T (o i) r = true := fun i hi => by
    obtain ⟨p, hp⟩ : ∃ p, posI (T r) o k = p + 1 := ⟨posI (T r) o k - 1, by omega⟩
    have h0 := posI_pr _ p hp
    have h1 : T (o p) r = true := by
      rcases hT.2.2 r (o p) (fun h => hne p (by omega) h.symm) with h | h
      · rw [h0] at h; exact absurd h (by decide)
      · exact h
    by_cases hip : i = p
    · rw [hip]; exact h1
    · exact hT.2.1 _ _ _ (ih i p (by omega) (by omega)) h1
  unfold insO
  intro i j hij hj
  generalize posI (T r) o k = p at hle hge hbe
  show T (if i < p then o i else if i = p then r else o (i - 1)) (if j < p then o j else if j = p then r else o (j - 1)) = true
  by_cases a1 : i < p
  · rw [if_pos a1]
    by_cases b1 : j < p
    · rw [if_pos b1]
      exact ih i j hij (by omega)
    · rw [if_neg b1]
      by_cases b2 : j = p
      · rw [if_pos b2]
        exact hbe i a1
      · rw [if_neg b2]
        exact ih i (j - 1) (by omega) (by omega)
  · rw [if_neg a1]
    by_cases a2 : i = p
    · rw [if_pos a2, if_neg (by omega), if_neg (by omega)]
      exact hge (j - 1) (by omega) (by omega)
    · rw [if_neg a2, if_neg (by omega), if_neg (by omega)]
      exact ih (i - 1) (j - 1) (by omega) (by omega)
theorem ins_in {lt : Nat → Bool} {o : Nat → Nat} {k r x : Nat} : (∃ i, i < k + 1 ∧ insO lt r o k i = x) ↔ x = r ∨ ∃ i, i < k ∧ o i = x := by
  have hle := posI_le lt o k
  unfold insO
  generalize posI lt o k = p at hle
  constructor
  · rintro ⟨i, i1, i2⟩
    have i3 : (if i < p then o i else if i = p then r else o (i - 1)) = x := i2
    by_cases a1 : i < p
    · rw [if_pos a1] at i3
      exact Or.inr ⟨i, by omega, i3⟩
    · rw [if_neg a1] at i3
      by_cases a2 : i = p
      · rw [if_pos a2] at i3
        exact Or.inl i3.symm
      · rw [if_neg a2] at i3
        exact Or.inr ⟨i - 1, by omega, i3⟩
  · rintro (rfl | ⟨i, i1, i2⟩)
    · exact ⟨p, by omega, by show (if p < p then _ else if p = p then _ else _) = _; rw [if_neg (by omega), if_pos rfl]⟩
    · by_cases a1 : i < p
      · exact ⟨i, by omega, by show (if i < p then _ else _) = _; rw [if_pos a1, i2]⟩
      · exact ⟨i + 1, by omega, by show (if i + 1 < p then _ else if i + 1 = p then _ else o (i + 1 - 1)) = _; rw [if_neg (by omega), if_neg (by omega), Nat.add_sub_cancel, i2]⟩
/-- most first, then as in general -/
def T3 (G : Nat → Int32) (T : Nat → Nat → Bool) (x y : Nat) : Bool := if G x = G y then T x y else decide (G y < G x)
theorem T3_sto {G : Nat → Int32} {T : Nat → Nat → Bool} (hT : STO T) : STO (T3 G T) := by
  have key : ∀ x y, T3 G T x y = true ↔ ((G y).toInt < (G x).toInt ∨ (G x).toInt = (G y).toInt ∧ T x y = true) := by
    intro x y
    unfold T3
    by_cases h1 : G x = G y
    · rw [if_pos h1]
      have e1 : (G x).toInt = (G y).toInt := by rw [h1]
      constructor
      · exact fun h => Or.inr ⟨e1, h⟩
      · rintro (h | h)
        · omega
        · exact h.2
    · rw [if_neg h1, decide_eq_true_iff, fa_lt]
      have e1 : ¬ (G x).toInt = (G y).toInt := fun h => h1 ((fa_eq _ _).mpr h)
      constructor
      · exact fun h => Or.inl h
      · rintro (h | h)
        · exact h
        · exact absurd h.1 e1
  refine ⟨fun x y h => ?_, fun x y z h1 h2 => ?_, fun x y h => ?_⟩
  · cases e : T3 G T y x with
    | false => rfl
    | true =>
      rcases (key x y).mp h with a | a
      · rcases (key y x).mp e with b | b <;> omega
      · rcases (key y x).mp e with b | b
        · omega
        · have := hT.1 _ _ a.2
          rw [b.2] at this
          exact absurd this (by decide)
  · rw [key]
    rcases (key x y).mp h1 with a | a
    · rcases (key y z).mp h2 with b | b <;> exact Or.inl (by omega)
    · rcases (key y z).mp h2 with b | b
      · exact Or.inl (by omega)
      · exact Or.inr ⟨by omega, hT.2.1 _ _ _ a.2 b.2⟩
  · rw [key, key]
    rcases hT.2.2 x y h with a | a
    · rcases Int.lt_trichotomy (G x).toInt (G y).toInt with b | b | b
      · exact Or.inr (Or.inl b)
      · exact Or.inl (Or.inr ⟨b, a⟩)
      · exact Or.inl (Or.inl b)
    · rcases Int.lt_trichotomy (G x).toInt (G y).toInt with b | b | b
      · exact Or.inr (Or.inl b)
      · exact Or.inr (Or.inr ⟨b.symm, a⟩)
      · exact Or.inl (Or.inl b)
theorem q_worth62 {d : z_D} {q b k r : Nat} {x2 x3 x4 : Int32} {p : Nat → Nat} {lt : Nat → Bool} {K : Int32 → z_D → Option z_D} (hk : k < 16) (hr : r < 16) (ho : ∀ i, i < k → d (q + 1) i = nI (p i)) (hb : ∀ i, i < k → p i < 16) (hl : ∀ i, i < k → lt (p i) = decide (¬ d (q + 4) r ≤ d (q + 4) (p i))) : f_X5_rankWorthy_L62 q b x2 x3 x4 (nI r) K z_N (nI k) d = K (nI (posI lt p k)) (z_shf d (q + 1) (posI lt p k) k p) := by
  have hloop := ins_loop (fun f x e => f_X5_rankWorthy_L62 q b x2 x3 x4 (nI r) K f x e) K d (q + 1) k lt p (fun f e => ?_) (fun f j e hj he => ?_) k z_N (Nat.le_refl k) (ltz (by omega))
  · rw [z_shf_0] at hloop
    exact hloop
  · show f_X5_rankWorthy_L62_b q b x2 x3 x4 (nI r) K _ (nI 0) e = _
    unfold f_X5_rankWorthy_L62_b
    rw [if_pos (show nI 0 ≤ 0 by decide)]
  · show f_X5_rankWorthy_L62_b q b x2 x3 x4 (nI r) K _ (nI (j + 1)) e = _
    unfold f_X5_rankWorthy_L62_b
    have e1 : e (q + 1) j = nI (p j) := by rw [he _ _ (by omega)]; exact ho j hj
    have e4 : ∀ x, e (q + 4) x = d (q + 4) x := fun x => he _ _ (by omega)
    have hlj := hl j hj
    rw [if_neg (nI_nle (by omega) (by omega)), nI_pred, x_ald _ (by omega) (by omega), e1, x_ald _ (hb j hj) (by omega), x_ald _ hr (by omega), e4, e4]
    by_cases h9 : d (q + 4) r ≤ d (q + 4) (p j)
    · rw [if_pos h9, if_neg (by rw [hlj]; simp [h9])]
    · rw [if_neg h9, if_pos (by rw [hlj]; simp [h9]), x_ald _ (by omega) (by omega), e1, x_ast _ (by omega) (by omega), pk_m1]
set_option maxHeartbeats 4000000 in
theorem k_rankWorthy {d : z_D} {q b t n s cl w : Nat} {ρ : Nat → Int32} (hw : 3 ≤ w ∧ w ≤ 6) (h : St d b ρ t n s) (hq : b + 173 ≤ q ∨ q + 5 ≤ b) (hc : f_X3_closed d b = some (nI cl)) (h8 : cl ≤ 8) (hcl : ∀ j, j < cl → SG d (b + 5 + 21 * j) ρ (56 + 325 * j) n ∧ CL d (b + 5 + 21 * j) ρ (56 + 325 * j)) :
    ok (f_X5_rankWorthy d q b (nI w)) (fun d' => (∀ a, ¬ (q ≤ a ∧ a ≤ q + 4) → d' a = d a) ∧ ∃ k o, k ≤ 16 ∧ d' q 4 = nI k ∧ (∀ i, i < k → d' (q + 1) i = nI (o i)) ∧ SRT (T3 (fun r => gtv ρ (gwt w) r cl) (T2 (fun r => smB (ntv ρ r) (-1) cl) (fun r => smB (plv ρ r) (-1) cl))) o k ∧ ∀ x, (∃ i, i < k ∧ o i = x) ↔ x < n ∧ Pon ρ 50 x = true ∧ 1 ≤ gtv ρ (gwt w) x cl) := by
  have hn16 := h.1.2.1.2
  unfold f_X5_rankWorthy
  rw [ok_b]
  refine ok_m (k_rankRiders (old := 50) (but := -1) h hq hc h8 hcl) (fun d1 hd1 => ?_)
  obtain ⟨k1, k2, k3, -⟩ := hd1
  rw [Lon_rk] at k3
  have hT := T2_sto (fun r => smB (ntv ρ r) (-1) cl) (fun r => smB (plv ρ r) (-1) cl)
  generalize T2 (fun r => smB (ntv ρ r) (-1) cl) (fun r => smB (plv ρ r) (-1) cl) = T at *
  have hT3 := T3_sto (G := fun r => gtv ρ (gwt w) r cl) hT
  have hct := fb_ct_le (Pon ρ 50) n
  have hsrt := rkO_srt (P := Pon ρ 50) hT n
  have hlt := rkO_lt (Pon ρ 50) T n
  have hon := fun x h1 h2 => rkO_onto (P := Pon ρ 50) (T := T) n x h1 h2
  generalize hKK : fb_ct (Pon ρ 50) n = KK at *
  generalize hOO : rkO (Pon ρ 50) T n = OO at *
  refine zl3 (f_X5_rankWorthy_L13_b q b (nI w) _) (fun _ => rfl) (fun m x3 x4 e => ∃ i k o, m + i = KK ∧ x4 = nI i ∧ x3 = nI k ∧ k ≤ i ∧ (∀ a, ¬ (q ≤ a ∧ a ≤ q + 4) → e a = d a) ∧ e q 4 = nI KK ∧ (∀ j, i ≤ j → j < KK → e (q + 1) j = nI (OO j)) ∧ (∀ j, j < k → e (q + 1) j = nI (o j)) ∧ SRT (T3 (fun r => gtv ρ (gwt w) r cl) T) o k ∧ (∀ x, (∃ j, j < k ∧ o j = x) ↔ ∃ j, j < i ∧ OO j = x ∧ 1 ≤ gtv ρ (gwt w) x cl) ∧ ∀ j, j < i → e (q + 4) (OO j) = gtv ρ (gwt w) (OO j) cl) ?_ KK z_N _ _ _ ⟨0, 0, fun _ => 0, by omega, rfl, rfl, Nat.le_refl 0, fun a ha => k1 a (by omega), k2, fun j _ hj => k3 j hj, fun j hj => absurd hj (Nat.not_lt_zero j), fun i j _ hj => absurd hj (Nat.not_lt_zero j), fun x => ⟨fun ⟨j, hj, _⟩ => absurd hj (Nat.not_lt_zero j), fun ⟨j, hj, _⟩ => absurd hj (Nat.not_lt_zero j)⟩, fun j hj => absurd hj (Nat.not_lt_zero j)⟩ (ltz (by omega))
  rintro R m x3 x4 e ⟨i, k, o, hm, rfl, rfl, hki, f1, f2, f3, f4, f5, f6, f7⟩ ih
  unfold f_X5_rankWorthy_L13_b
  by_cases hi : i = KK
  · rw [f2, if_pos (show nI KK ≤ nI i by rw [hi]; exact Int32.le_refl _)]
    show ok (z_put e q 4 (nI k) (fun d16 => some d16)) _
    rw [x_put, ok_s]
    refine ⟨fun a ha => by rw [u_a (by omega), f1 a ha], k, o, by omega, u_s _ _ _ _, fun j hj => by rw [u_a (by omega), f4 j hj], f5, fun x => ?_⟩
    rw [f6 x]
    constructor
    · rintro ⟨j, j1, j2, j3⟩
      have := hlt j (by omega)
      rw [j2] at this
      exact ⟨this.1, this.2, j3⟩
    · rintro ⟨x1, x2, x3⟩
      obtain ⟨j, j1, j2⟩ := hon x x1 x2
      exact ⟨j, by omega, j2, x3⟩
  have hiK : i < KK := by omega
  have hOi := hlt i hiK
  have Eb : ∀ a, b ≤ a → a < b + 173 → e a = d a := fun a x1 x2 => f1 a (by omega)
  have hg : f_X3_gained e b (nI (OO i)) (nI w) = some (gtv ρ (gwt w) (OO i) cl) := St.got (t := t) (s := s) (n := n) (by omega) hw (by rw [St.cl_fr Eb, hc]) h8 (fun j hj => ⟨(hcl j hj).1.congr (Nat.le_refl _) (fun a x1 x2 => Eb _ (by omega) (by omega)) (fun _ _ _ => rfl), (hcl j hj).2.congr (fun a x1 x2 => Eb _ (by omega) (by omega)) (fun _ _ _ => rfl)⟩)
  have hdist : ∀ j, j < KK → OO j = OO i → j = i := fun j hj he => by
    rcases Nat.lt_trichotomy j i with h9 | h9 | h9
    · exact absurd (hsrt j i h9 hiK) (hT.irr he)
    · exact h9
    · exact absurd (hsrt i j h9 hj) (hT.irr he.symm)
  rw [f2, if_neg (nI_ge (by omega) (by omega)), x_ald _ (by omega) (by omega), f3 i (Nat.le_refl i) hiK, hg, x_ob, x_ast _ (by omega) (by omega), x_ald _ (by omega) (by omega), x_ue rfl rfl]
  have f7' : ∀ j, j < i + 1 → z_up e (q + 4) (OO i) (gtv ρ (gwt w) (OO i) cl) (q + 4) (OO j) = gtv ρ (gwt w) (OO j) cl := fun j hj => by
    by_cases hji : j = i
    · rw [hji, x_ue rfl rfl]
    · have : OO j ≠ OO i := fun h9 => hji (hdist j (by omega) h9)
      rw [x_un (by omega), f7 j (by omega)]
  by_cases hg1 : 1 ≤ gtv ρ (gwt w) (OO i) cl
  rotate_left
  · rw [if_neg hg1, x_addL]
    refine ih (m - 1) _ _ _ (by omega) ⟨i + 1, k, o, by omega, rfl, rfl, by omega, fun a ha => by rw [u_a (by omega), f1 a ha], by rw [x_un (by omega), f2], fun j j1 j2 => by rw [x_un (by omega), f3 j (by omega) j2], fun j hj => by rw [x_un (by omega), f4 j hj], f5, fun x => ?_, f7'⟩
    rw [f6 x]
    constructor
    · rintro ⟨j, j1, j2⟩
      exact ⟨j, by omega, j2⟩
    · rintro ⟨j, j1, j2, j3⟩
      by_cases hji : j = i
      · rw [hji] at j2
        rw [← j2] at j3
        exact absurd j3 hg1
      · exact ⟨j, by omega, j2, j3⟩
  rw [if_pos hg1]
  have hmem : ∀ j, j < k → ∃ l, l < i ∧ OO l = o j ∧ 1 ≤ gtv ρ (gwt w) (o j) cl := fun j hj => (f6 (o j)).mp ⟨j, hj, rfl⟩
  have ho16 : ∀ j, j < k → o j < 16 := fun j hj => by
    obtain ⟨l, l1, l2, -⟩ := hmem j hj
    have := hlt l (by omega)
    omega
  have hne : ∀ j, j < k → o j ≠ OO i := fun j hj he => by
    obtain ⟨l, l1, l2, -⟩ := hmem j hj
    have := hdist l (by omega) (by rw [l2, he])
    omega
  rw [q_worth62 (lt := T3 (fun r => gtv ρ (gwt w) r cl) T (OO i)) (p := o) (by omega) (by omega) (fun j hj => by rw [x_un (by omega), f4 j hj]) ho16 (fun j hj => ?_)]
  · have hpos := posI_le (T3 (fun r => gtv ρ (gwt w) r cl) T (OO i)) o k
    rw [x_ast _ (by omega) (by omega), x_addL, x_addL]
    have V : ∀ a k', ¬ (a = q + 1 ∧ k' ≤ k) → z_up (z_shf (z_up e (q + 4) (OO i) (gtv ρ (gwt w) (OO i) cl)) (q + 1) (posI (T3 (fun r => gtv ρ (gwt w) r cl) T (OO i)) o k) k o) (q + 1) (posI (T3 (fun r => gtv ρ (gwt w) r cl) T (OO i)) o k) (nI (OO i)) a k' = z_up e (q + 4) (OO i) (gtv ρ (gwt w) (OO i) cl) a k' := fun a k' hk' => by
      rw [x_un (by omega)]
      unfold z_shf
      rw [if_neg (by omega)]
    refine ih (m - 1) _ _ _ (by omega) ⟨i + 1, k + 1, insO (T3 (fun r => gtv ρ (gwt w) r cl) T (OO i)) (OO i) o k, by omega, rfl, rfl, by omega, fun a ha => ?_, ?_, fun j j1 j2 => ?_, fun j hj => ?_, ins_srt hT3 f5 hne, fun x => ?_, fun j hj => ?_⟩
    · funext k'
      rw [V _ _ (by omega), x_un (by omega), f1 a ha]
    · rw [V _ _ (by omega), x_un (by omega), f2]
    · rw [V _ _ (by omega), x_un (by omega), f3 j (by omega) j2]
    · exact ins_row (fun l hl => by rw [x_un (by omega), f4 l hl]) j hj
    · rw [ins_in, f6 x]
      constructor
      · rintro (rfl | ⟨j, j1, j2⟩)
        · exact ⟨i, by omega, rfl, hg1⟩
        · exact ⟨j, by omega, j2⟩
      · rintro ⟨j, j1, j2, j3⟩
        by_cases hji : j = i
        · rw [hji] at j2
          exact Or.inl j2.symm
        · exact Or.inr ⟨j, by omega, j2, j3⟩
    · rw [V _ _ (by omega)]
      exact f7' j hj
  · obtain ⟨l, l1, l2, -⟩ := hmem j hj
    rw [x_ue rfl rfl, ← l2, f7' l (by omega)]
    unfold T3
    have hTf : T (OO i) (OO l) = false := hT.1 _ _ (hsrt l i l1 hiK)
    by_cases he : gtv ρ (gwt w) (OO i) cl = gtv ρ (gwt w) (OO l) cl
    · rw [if_pos he, hTf, he, decide_eq_false (by simp)]
    · rw [if_neg he]
      refine decide_eq_decide.mpr ?_
      show gtv ρ (gwt w) (OO l) cl < gtv ρ (gwt w) (OO i) cl ↔ ¬ gtv ρ (gwt w) (OO i) cl ≤ gtv ρ (gwt w) (OO l) cl
      rw [fa_lt, fa_le]
      omega
