/-! 8f.keep: keep, back, of -/
theorem x_11 : (1 &&& 1 : Int32) = 1 := by decide
theorem i_2 {x : Int32} (h : 0 ≤ x ∧ x ≤ 1) : ∃ j, j < 2 ∧ x = nI j := by
  obtain ⟨j, -, hj, rfl⟩ := i_nat (a := 0) (b := 1) (by omega) h (by omega)
  exact ⟨j, by omega, rfl⟩
theorem z_keepG {a o j r : Nat} {rf : Nat → Option Nat} {d d1 : z_D} (hz : Z a o rf d) (ho : a + 355 ≤ o) (hj : j < 2) (hr : o + 11 ≤ r) (hd1 : ∀ x, x < o + 11 → d1 x = d x) (hk : ∀ x r', x < 2 → ¬ x = j → rf x = some r' → (r + 173 ≤ r' ∨ r' + 173 ≤ r) ∧ ∀ y, r' ≤ y → y < r' + 173 → d1 y = d y) (hSB : ∀ k, k < 8 → SB d1 (r + 5 + 21 * k)) : ok (f_X3_copyFrom d1 r (a + 1)) (fun d' => ok (f_X9_keep d' o (nI j)) (fun w => w.1 = 1 ∧ Z a o (va_up rf j (some r)) w.2)) := by
  obtain ⟨⟨t, n, s, st⟩, z2, ⟨L, t1, t2, t3, t4, t5, t6⟩, z4, z5⟩ := hz
  have st1 : St d1 (a + 1) (d (o + 1)) t n s := st.congr (fun x x1 x2 => hd1 x (by omega))
  refine ok_m (k_copy (d := d1) (b := r) (b0 := a + 1) st1 (Or.inr (by omega)) hSB) (fun d' hd' => ?_)
  obtain ⟨c1, c2⟩ := hd'
  unfold f_X9_keep
  have hin : 0 ≤ nI j ∧ nI j ≤ 1 := ⟨nI_pos' (by omega), (nI_leI (b := 1) (by omega) (by omega)).mpr (by omega)⟩
  rw [x_put, x_wi, x_ob, x_ifb0, if_pos hin]
  refine q_keepL hj (fun e e1 e2 e3 => ?_)
  rw [x_11, x_ast _ hj (by omega), ok_s]
  have g : ∀ q, q < o + 11 → ¬ q = o → ¬ q = o + 2 → ¬ q = o + 4 → z_up e (o + 4) j 1 q = d q := fun q q0 q1 q2 q3 => by rw [u_a q3, e1 q q2, u_a q1, c1 q (by omega), hd1 q q0]
  have gh : ∀ q, o + 11 ≤ q → z_up e (o + 4) j 1 q = d' q := fun q q0 => by rw [u_a (by omega), e1 q (by omega), u_a (by omega)]
  have go : ∀ k, ¬ k = 0 → z_up e (o + 4) j 1 o k = d o k := fun k k0 => by rw [u_a (by omega), e1 _ (by omega), u_k k0, c1 _ (by omega), hd1 _ (by omega)]
  refine ⟨rfl, ?_⟩
  show Z a o (va_up rf j (some r)) (z_up e (o + 4) j 1)
  refine ⟨⟨t, n, s, ?_⟩, fun i hi => ?_, ⟨L, t1, ?_, ?_, ?_, fun i hi => ?_, ?_⟩, fun x hx => ?_, ?_⟩
  · show St (z_up e (o + 4) j 1) (a + 1) (z_up e (o + 4) j 1 (o + 1)) t n s
    rw [g _ (by omega) (by omega) (by omega) (by omega)]
    exact st.congr (fun x x1 x2 => g x (by omega) (by omega) (by omega) (by omega))
  · have := z2 i hi
    unfold SB at this ⊢
    rw [g _ (by omega) (by omega) (by omega) (by omega), g _ (by omega) (by omega) (by omega) (by omega), g _ (by omega) (by omega) (by omega) (by omega)]
    exact this
  · rw [g _ (by omega) (by omega) (by omega) (by omega), t2]
  · rw [go _ (by omega), t3]
  · rw [g _ (by omega) (by omega) (by omega) (by omega)]
    exact t4
  · rw [g (a + 353 + 1) (by omega) (by omega) (by omega) (by omega), g (o + 8) (by omega) (by omega) (by omega) (by omega)]
    exact t5 i hi
  · rw [go _ (by omega), g _ (by omega) (by omega) (by omega) (by omega), t6]
  · show (va_up rf j (some r) x = none ∧ z_up e (o + 4) j 1 (o + 4) x = 0) ∨ ∃ r', va_up rf j (some r) x = some r' ∧ o + 11 ≤ r' ∧ z_up e (o + 4) j 1 (o + 4) x = 1 ∧ ∃ t n s, St (z_up e (o + 4) j 1) r' (fun k => z_up e (o + 4) j 1 (o + 2) (2656 * x + k)) t n s
    by_cases hxj : x = j
    · subst hxj
      refine Or.inr ⟨r, va_up_self _ _ _, hr, u_s _ _ _ _, t, n, s, ?_⟩
      refine (c2.congr (fun y y1 y2 => gh y (by omega))).row (fun k hk => ?_)
      show z_up e (o + 4) x 1 (o + 2) (2656 * x + k) = d (o + 1) k
      rw [u_a (by omega), e3 k hk, u_a (by omega), c1 _ (by omega), hd1 _ (by omega)]
    · rw [va_up_ne _ _ hxj, u_k hxj, e1 _ (by omega), u_a (by omega), c1 _ (by omega), hd1 _ (by omega)]
      rcases z4 x hx with z | ⟨r', r1, r2, r3, t', n', s', r4⟩
      · exact Or.inl z
      · obtain ⟨k1, k2⟩ := hk x r' hx hxj r1
        refine Or.inr ⟨r', r1, r2, r3, t', n', s', ?_⟩
        refine (r4.congr (fun y y1 y2 => ?_)).row (fun k hk => ?_)
        · rw [gh y (by omega), c1 y (by omega), k2 y y1 y2]
        · show z_up e (o + 4) j 1 (o + 2) (2656 * x + k) = d (o + 2) (2656 * x + k)
          rw [u_a (by omega), e2 _ (by omega), u_a (by omega), c1 _ (by omega), hd1 _ (by omega)]
  · intro q q' hq hq'
    by_cases h0 : j = 0
    · subst h0
      rw [va_up_self] at hq
      rw [va_up_ne _ _ (by omega)] at hq'
      cases hq
      exact (hk 1 q' (by omega) (by omega) hq').1
    · have h1 : j = 1 := by omega
      subst h1
      rw [va_up_self] at hq'
      rw [va_up_ne _ _ (by omega)] at hq
      cases hq'
      exact (hk 0 q (by omega) (by omega) hq).1.symm
theorem z_keep_bad {a o : Nat} {rf : Nat → Option Nat} {d : z_D} (hz : Z a o rf d) (ho : a + 355 ≤ o) {x : Int32} (hx : ¬ (0 ≤ x ∧ x ≤ 1)) : ok (f_X9_keep d o x) (fun w => w.1 = 0 ∧ Z a o rf w.2) := by
  unfold f_X9_keep
  rw [x_put, x_wi, x_ob, x_ifb0, if_neg hx, ok_s]
  exact ⟨rfl, hz.ask ho (fun _ _ => rfl) Fq.t⟩
theorem z_back_bad {a o : Nat} {rf : Nat → Option Nat} {d : z_D} (hz : Z a o rf d) (ho : a + 355 ≤ o) {x : Int32} (hx : ¬ (0 ≤ x ∧ x ≤ 1)) : ok (f_X9_back d o x) (fun w => w.1 = 0 ∧ Z a o rf w.2) := by
  unfold f_X9_back
  rw [x_put, x_wi, x_ob, x_ifb0, if_neg hx, ok_s]
  exact ⟨rfl, hz.ask ho (fun _ _ => rfl) Fq.t⟩
theorem z_back_none {a o j : Nat} {rf : Nat → Option Nat} {d : z_D} (hz : Z a o rf d) (ho : a + 355 ≤ o) (hj : j < 2) (hr : rf j = none) : ok (f_X9_back d o (nI j)) (fun w => w.1 = 0 ∧ Z a o rf w.2) := by
  have h0 : d (o + 4) j = 0 := by
    rcases hz.2.2.2.1 j hj with z | ⟨r, r1, -⟩
    · exact z.2
    · rw [hr] at r1
      cases r1
  unfold f_X9_back
  have hin : 0 ≤ nI j ∧ nI j ≤ 1 := ⟨nI_pos' (by omega), (nI_leI (b := 1) (by omega) (by omega)).mpr (by omega)⟩
  rw [x_put, x_wi, x_ob, x_ifb0, if_pos hin, x_ald _ hj (by omega), u_a (by omega), h0, if_pos rfl, ok_s]
  exact ⟨rfl, hz.ask ho (fun _ _ => rfl) Fq.t⟩
theorem z_back_some {a o j r : Nat} {rf : Nat → Option Nat} {d : z_D} (hz : Z a o rf d) (ho : a + 355 ≤ o) (hj : j < 2) (hr : rf j = some r) : ok (f_X3_copyFrom d (a + 1) r) (fun d' => ok (f_X9_back d' o (nI j)) (fun w => w.1 = 1 ∧ Z a o rf w.2)) := by
  obtain ⟨r1, h1, t', n', s', r4⟩ : o + 11 ≤ r ∧ d (o + 4) j = 1 ∧ ∃ t n s, St d r (fun k => d (o + 2) (2656 * j + k)) t n s := by
    rcases hz.2.2.2.1 j hj with z | ⟨r', q1, q2, q3, q4⟩
    · rw [hr] at z
      cases z.1
    · rw [hr] at q1
      cases q1
      exact ⟨q2, q3, q4⟩
  obtain ⟨t, n, s, st⟩ := id hz.1
  refine ok_m (k_copy (d := d) (b := a + 1) (b0 := r) r4 (Or.inl (by omega)) st.2.2.2.2.2.2.2) (fun d' hd' => ?_)
  obtain ⟨c1, c2⟩ := hd'
  unfold f_X9_back
  have hin : 0 ≤ nI j ∧ nI j ≤ 1 := ⟨nI_pos' (by omega), (nI_leI (b := 1) (by omega) (by omega)).mpr (by omega)⟩
  rw [x_put, x_wi, x_ob, x_ifb0, if_pos hin, x_ald _ hj (by omega), u_a (by omega), c1 _ (by omega), h1, if_neg (by decide)]
  refine q_backL hj (fun e e1 e2 => ?_)
  rw [ok_s]
  refine ⟨rfl, hz.tel ho c1 (fun q q1 q2 q3 => (e1 q q2).trans (u_a q1)) (fun k k1 k2 => ?_) ⟨t', n', s', c2.row (fun k hk => ?_)⟩⟩
  · show e o k = d' o k
    rw [e1 _ (by omega), u_k k1]
  · show e (o + 1) k = d (o + 2) (2656 * j + k)
    rw [e2 k hk, u_a (by omega), c1 _ (by omega)]
