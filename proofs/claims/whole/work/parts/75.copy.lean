/-! 75.copy: a race copied, a row copied -/
theorem St.row {d : z_D} {b t n s : Nat} {ρ ρ' : Nat → Int32} (h : St d b ρ t n s) (hρ : ∀ k, k < 2656 → ρ' k = ρ k) : St d b ρ' t n s := by
  obtain ⟨h1, h2, h3, h4, h5, h6, h7, h8⟩ := h
  have hs := h1.2.2.1.2
  have hn := h1.2.1.2
  refine ⟨?_, ?_, fun r hr => ?_, fun j hj => (h4 j hj).congr (Nat.le_refl _) (fun _ _ _ => rfl) (fun k k1 k2 => hρ _ (by omega)), fun h9 => ?_, fun j hj hc => (h6 j hj (fun h9 => hc (by rw [hρ 3 (by omega)]; exact h9))).congr (fun _ _ _ => rfl) (fun k k1 k2 => hρ _ (by omega)), h7, h8⟩
  · unfold R_cnt
    rw [hρ 0 (by omega), hρ 1 (by omega), hρ 2 (by omega), hρ 3 (by omega), hρ 4 (by omega), hρ 5 (by omega)]
    exact h1
  · unfold SC
    rw [hρ 0 (by omega), hρ 1 (by omega), hρ 2 (by omega), hρ 3 (by omega), hρ 4 (by omega), hρ 5 (by omega)]
    exact h2
  · unfold RI
    rw [hρ _ (by omega), hρ (9 + 3 * r) (by omega), hρ (10 + 3 * r) (by omega)]
    exact h3 r hr
  · rw [hρ 3 (by omega)] at h9
    have hs0 : 0 < s := by
      rcases h1.2.2.2.1 with e | e
      · rw [e] at h9; exact absurd h9 (by decide)
      · exact e.2
    intro r w hr w1 w2
    rw [hρ _ (by omega)]
    exact h5 h9 r w hr w1 w2
/-- which cells of a stage are copied -/
def CK (a k : Nat) : Prop := (a = 0 ∧ (k = 7 ∨ 14 ≤ k ∧ k ≤ 19)) ∨ (a = 1 ∧ k < 3) ∨ (2 ≤ a ∧ a ≤ 4 ∧ k < 6) ∨ (a = 5 ∧ k < 96) ∨ (7 ≤ a ∧ a ≤ 20 ∧ k < 16)
theorem SG.shift {d d' : z_D} {c c' B n : Nat} {ρ : Nat → Int32} (h : SG d c ρ B n) (H : ∀ a k, CK a k → d' (c' + a) k = d (c + a) k) : SG d' c' ρ B n := by
  obtain ⟨k1, L1, ⟨e1, e2, e3⟩, ⟨M, M1, M2, M3⟩, hr, h7⟩ := h
  have h07 : d' c' 7 = d c 7 := H 0 7 (Or.inl ⟨rfl, Or.inl rfl⟩)
  refine ⟨k1, L1, ?_, ⟨M, M1, M2, fun m hm => ?_⟩, fun r hr16 => ?_, by rw [h07, h7]⟩
  · rw [H 1 0 (Or.inr (Or.inl ⟨rfl, by omega⟩)), H 1 1 (Or.inr (Or.inl ⟨rfl, by omega⟩)), H 1 2 (Or.inr (Or.inl ⟨rfl, by omega⟩))]
    exact ⟨e1, e2, e3⟩
  · obtain ⟨n1, n2, ⟨q, q1, q2, q3, q4⟩, n4, n5, n6⟩ := M3 m hm
    refine ⟨n1, n2, ⟨q, q1, q2, fun k hk => ?_, q4⟩, ?_, ?_, ?_⟩
    · obtain ⟨r, r1, r2, r3⟩ := q3 k hk
      exact ⟨r, r1, r2, by rw [H 5 _ (Or.inr (Or.inr (Or.inr (Or.inl ⟨rfl, by omega⟩)))), r3]⟩
    · rw [H 2 _ (Or.inr (Or.inr (Or.inl ⟨by omega, by omega, by omega⟩))), n4]
    · rw [H 3 _ (Or.inr (Or.inr (Or.inl ⟨by omega, by omega, by omega⟩))), n5]
    · rw [H 4 _ (Or.inr (Or.inr (Or.inl ⟨by omega, by omega, by omega⟩))), n6]
  · obtain ⟨r1, r2, r3, r4, r5, r6, r7, r8⟩ := hr r hr16
    have G : ∀ a, 7 ≤ a → a ≤ 20 → d' (c' + a) r = d (c + a) r := fun a x1 x2 => H a r (Or.inr (Or.inr (Or.inr (Or.inr ⟨x1, x2, hr16⟩))))
    refine ⟨r1, by rw [G 12 (by omega) (by omega)]; exact r2, r3, r4, by rw [G 10 (by omega) (by omega), r5], by rw [G 11 (by omega) (by omega), r6], by rw [G 13 (by omega) (by omega), r7], by rw [G 14 (by omega) (by omega), r8]⟩
theorem CL.shift {d d' : z_D} {c c' B : Nat} {ρ : Nat → Int32} (h : CL d c ρ B) (H : ∀ a k, CK a k → d' (c' + a) k = d (c + a) k) : CL d' c' ρ B := by
  obtain ⟨h1, h3, h4, h5, h6, h7⟩ := h
  have hF := ordK_le (rfin ρ B) 16
  have g : ∀ k, 14 ≤ k → k ≤ 19 → d' c' k = d c k := fun k x1 x2 => H 0 k (Or.inl ⟨rfl, Or.inr ⟨x1, x2⟩⟩)
  refine ⟨h1, fun i hi => by rw [H 15 i (Or.inr (Or.inr (Or.inr (Or.inr ⟨by omega, by omega, by omega⟩)))), h3 i hi], ?_, h5, h6, fun r hr => ?_⟩
  · rw [g 14 (by omega) (by omega), g 15 (by omega) (by omega), g 16 (by omega) (by omega), g 17 (by omega) (by omega), g 18 (by omega) (by omega), g 19 (by omega) (by omega)]
    exact h4
  · have G : ∀ a, 7 ≤ a → a ≤ 20 → d' (c' + a) r = d (c + a) r := fun a x1 x2 => H a r (Or.inr (Or.inr (Or.inr (Or.inr ⟨x1, x2, hr⟩))))
    unfold CLr
    rw [G 16 (by omega) (by omega), G 17 (by omega) (by omega), G 18 (by omega) (by omega), G 19 (by omega) (by omega), G 7 (by omega) (by omega), G 8 (by omega) (by omega), G 9 (by omega) (by omega)]
    exact h7 r hr
theorem x_cpy {α : Type} (d : z_D) (a0 a N : Nat) (K : z_D → Option α) : z_cpy d a0 a N K = K (z_cpd d a0 a N) := Eq.trans rfl rfl
theorem x_cin {d : z_D} {a0 a N a' k : Nat} (h : a' = a) (hk : k < N) : z_cpd d a0 a N a' k = d a0 k := by
  unfold z_cpd
  rw [if_pos ⟨h, hk⟩]
theorem x_cou {d : z_D} {a0 a N a' k : Nat} (h : ¬ (a' = a ∧ k < N)) : z_cpd d a0 a N a' k = d a' k := by
  unfold z_cpd
  rw [if_neg h]
theorem x_cof {d : z_D} {a0 a N a' : Nat} (h : ¬ a' = a) : z_cpd d a0 a N a' = d a' := by
  funext k
  exact x_cou (fun h9 => h h9.1)
theorem x_cpyz {α : Type} {d : z_D} {a0 a N : Nat} {K : z_D → Option α} (h : ∀ i, i < N → (d a0 i = 0 ∨ d a0 i = 1)) : z_cpyz d a0 a N K = K (z_cpd d a0 a N) := if_pos h
theorem x_putz {α : Type} {d : z_D} {a i : Nat} {x : Int32} {K : z_D → Option α} (h : x = 0 ∨ x = 1) : z_putz d a i x K = K (z_up d a i x) := if_pos h
set_option maxHeartbeats 4000000 in
theorem q_X4_copy {d : z_D} {c c0 : Nat} (hd : c + 21 ≤ c0 ∨ c0 + 21 ≤ c) (hb : SB d c0) : ok (f_X4_copyFrom d c c0) (fun d' => (∀ a, (a < c ∨ c + 21 ≤ a) → d' a = d a) ∧ ∀ a k, CK a k → d' (c + a) k = d (c0 + a) k) := by
  unfold f_X4_copyFrom f_X1_copyFrom f_X2_copyFrom
  simp only [↓x_put, ↓x_cpy, ↓x_ob]
  have hb2 : ∀ i, i < 16 → bl (d (c0 + 14) i) := fun i hi => (hb.2 i hi).1
  have hb3 : ∀ i, i < 16 → bl (d (c0 + 20) i) := fun i hi => (hb.2 i hi).2
  rw [x_cpyz (fun i hi => by simp (disch := omega) only [x_un, x_cou]; exact hb2 i hi)]
  try simp only [↓x_put, ↓x_cpy]
  rw [x_cpyz (fun i hi => by simp (disch := omega) only [x_un, x_cou]; exact hb3 i hi)]
  try simp only [↓x_put]
  rw [x_putz (by simp (disch := omega) only [x_un, x_cou]; exact hb.1), ok_s]
  refine ⟨fun a ha => ?_, fun a k hak => ?_⟩
  · simp (disch := omega) only [x_uf, x_cof]
  · have e0 : c + 0 = c := Nat.add_zero c
    rcases hak with ⟨rfl, hk | hk⟩ | ⟨rfl, hk⟩ | ⟨h1, h2, hk⟩ | ⟨rfl, hk⟩ | ⟨h1, h2, hk⟩
    · subst hk
      simp (disch := omega) only [x_un, x_cou, x_ue, x_cin, Nat.add_zero]
    · obtain rfl | rfl | rfl | rfl | rfl | rfl : k = 14 ∨ k = 15 ∨ k = 16 ∨ k = 17 ∨ k = 18 ∨ k = 19 := by omega
      all_goals simp (disch := omega) only [x_un, x_cou, x_ue, x_cin, Nat.add_zero]
    · obtain rfl | rfl | rfl : k = 0 ∨ k = 1 ∨ k = 2 := by omega
      all_goals simp (disch := omega) only [x_un, x_cou, x_ue, x_cin]
    · obtain rfl | rfl | rfl : a = 2 ∨ a = 3 ∨ a = 4 := by omega
      all_goals simp (disch := omega) only [x_un, x_cou, x_ue, x_cin]
    · simp (disch := omega) only [x_un, x_cou, x_ue, x_cin]
    · obtain rfl | rfl | rfl | rfl | rfl | rfl | rfl | rfl | rfl | rfl | rfl | rfl | rfl | rfl : a = 7 ∨ a = 8 ∨ a = 9 ∨ a = 10 ∨ a = 11 ∨ a = 12 ∨ a = 13 ∨ a = 14 ∨ a = 15 ∨ a = 16 ∨ a = 17 ∨ a = 18 ∨ a = 19 ∨ a = 20 := by omega
      all_goals simp (disch := omega) only [x_un, x_cou, x_ue, x_cin]
set_option maxHeartbeats 4000000 in
theorem k_copy {d : z_D} {b b0 t n s : Nat} {ρ : Nat → Int32} (h : St d b0 ρ t n s) (hd : b + 173 ≤ b0 ∨ b0 + 173 ≤ b) (hB : ∀ j, j < 8 → SB d (b + 5 + 21 * j)) : ok (f_X3_copyFrom d b b0) (fun d' => Fr b d d' ∧ St d' b ρ t n s) := by
  obtain ⟨g1, g2, g3, g4, g5, g6, g7, g8⟩ := id h
  have hs8 := g1.2.2.1.2
  have hn16 := g1.2.1.2
  have h3b : bl (d b0 3) := by
    rw [g2.2.2.2.1]
    rcases g1.2.2.2.1 with e | e
    · exact Or.inl e
    · exact Or.inr e.1
  unfold f_X3_copyFrom
  simp only [↓x_put]
  rw [x_putz (by simp (disch := omega) only [x_un]; exact h3b)]
  try simp only [↓x_put, ↓x_cpy]
  rw [x_cpyz (fun i hi => by simp (disch := omega) only [x_un, x_cou]; exact g7 i hi)]
  generalize hm : z_cpd _ (b0 + 3) (b + 3) 16 = d1
  have F1 : ∀ a, (a < b ∨ b + 4 ≤ a) → d1 a = d a := fun a ha => by
    rw [← hm]
    simp (disch := omega) only [x_uf, x_cof]
  have S1 : ∀ k, k ≤ 5 → d1 b k = d b0 k := fun k hk => by
    rw [← hm]
    obtain rfl | rfl | rfl | rfl | rfl | rfl : k = 0 ∨ k = 1 ∨ k = 2 ∨ k = 3 ∨ k = 4 ∨ k = 5 := by omega
    all_goals simp (disch := omega) only [x_un, x_cou, x_ue]
  have A1 : ∀ r, r < 16 → d1 (b + 1) r = d (b0 + 1) r ∧ d1 (b + 2) r = d (b0 + 2) r ∧ d1 (b + 3) r = d (b0 + 3) r := fun r hr => by
    rw [← hm]
    simp (disch := omega) only [x_un, x_cou, x_ue, x_cin, and_self]
  clear hm
  have e2 : d1 b 2 = nI s := by rw [S1 2 (by omega), g2.2.2.1, g1.2.2.1.1]
  refine zl2 (f_X3_copyFrom_L95_b b b0 _) (fun _ => rfl) (fun m x2 e => ∃ i, m + i = s ∧ x2 = nI i ∧ (∀ a, (a < b + 5 ∨ b + 5 + 21 * i ≤ a) → e a = d1 a) ∧ ∀ j, j < i → ∀ a k, CK a k → e (b + 5 + 21 * j + a) k = d (b0 + 5 + 21 * j + a) k) ?_ s z_N _ _ ⟨0, by omega, rfl, fun _ _ => rfl, fun j hj => by omega⟩ (ltz (by omega))
  rintro R m x2 e ⟨i, hm, rfl, f1, f2⟩ ih
  unfold f_X3_copyFrom_L95_b
  have e2' : e b 2 = nI s := by rw [f1 _ (by omega), e2]
  by_cases hi : i = s
  · subst hi
    simp (disch := omega) only [↓x_let, ↓x_nam, ↓x_put, ↓x_bX, ↓x_ob, ↓x_ald, ↓x_aldL, ↓x_ast, ↓x_astL, ↓x_at0, ↓x_at_0, ↓x_mk0, ↓x_at, ↓x_atL, ↓x_at_, ↓x_at_L, ↓x_mk, ↓x_mkL, ↓x_aald, ↓x_w, ↓x_wi, ↓ok_s, ↓x_ifle_t, ↓x_ifle_f, ↓x_iflt_t, ↓x_iflt_f, ↓x_ifeq_t, ↓x_ifeq_f, ↓x_ifleL_t, ↓x_ifleL_f, ↓x_ifltL_t, ↓x_ifltL_f, ↓x_ifeqL_t, ↓x_ifeqL_f, ↓x_ifLle_t, ↓x_ifLle_f, ↓x_ifLlt_t, ↓x_ifLlt_f, ↓x_ifnm1, ↓x_ifb0, ↓x_ifb1, ↓x_if00, ↓x_if10, x_addL, x_Ladd, x_mulL, x_Lmul, nI_add, pk_mul, nI_pred, if_true, if_false, x_m1, n_a0, x_ue, x_un, e2']; try simp (disch := omega) only [↓x_let, ↓x_nam, ↓x_put, ↓x_bX, ↓x_ob, ↓x_ald, ↓x_aldL, ↓x_ast, ↓x_astL, ↓x_at0, ↓x_at_0, ↓x_mk0, ↓x_at, ↓x_atL, ↓x_at_, ↓x_at_L, ↓x_mk, ↓x_mkL, ↓x_aald, ↓x_w, ↓x_wi, ↓ok_s, ↓x_ifle_t, ↓x_ifle_f, ↓x_iflt_t, ↓x_iflt_f, ↓x_ifeq_t, ↓x_ifeq_f, ↓x_ifleL_t, ↓x_ifleL_f, ↓x_ifltL_t, ↓x_ifltL_f, ↓x_ifeqL_t, ↓x_ifeqL_f, ↓x_ifLle_t, ↓x_ifLle_f, ↓x_ifLlt_t, ↓x_ifLlt_f, ↓x_ifnm1, ↓x_ifb0, ↓x_ifb1, ↓x_if00, ↓x_if10, x_addL, x_Ladd, x_mulL, x_Lmul, nI_add, pk_mul, nI_pred, if_true, if_false, x_m1, n_a0, x_ue, x_un, e2']; try simp (disch := omega) only [↓x_let, ↓x_nam, ↓x_put, ↓x_bX, ↓x_ob, ↓x_ald, ↓x_aldL, ↓x_ast, ↓x_astL, ↓x_at0, ↓x_at_0, ↓x_mk0, ↓x_at, ↓x_atL, ↓x_at_, ↓x_at_L, ↓x_mk, ↓x_mkL, ↓x_aald, ↓x_w, ↓x_wi, ↓ok_s, ↓x_ifle_t, ↓x_ifle_f, ↓x_iflt_t, ↓x_iflt_f, ↓x_ifeq_t, ↓x_ifeq_f, ↓x_ifleL_t, ↓x_ifleL_f, ↓x_ifltL_t, ↓x_ifltL_f, ↓x_ifeqL_t, ↓x_ifeqL_f, ↓x_ifLle_t, ↓x_ifLle_f, ↓x_ifLlt_t, ↓x_ifLlt_f, ↓x_ifnm1, ↓x_ifb0, ↓x_ifb1, ↓x_if00, ↓x_if10, x_addL, x_Ladd, x_mulL, x_Lmul, nI_add, pk_mul, nI_pred, if_true, if_false, x_m1, n_a0, x_ue, x_un, e2']; try simp (disch := omega) only [↓x_let, ↓x_nam, ↓x_put, ↓x_bX, ↓x_ob, ↓x_ald, ↓x_aldL, ↓x_ast, ↓x_astL, ↓x_at0, ↓x_at_0, ↓x_mk0, ↓x_at, ↓x_atL, ↓x_at_, ↓x_at_L, ↓x_mk, ↓x_mkL, ↓x_aald, ↓x_w, ↓x_wi, ↓ok_s, ↓x_ifle_t, ↓x_ifle_f, ↓x_iflt_t, ↓x_iflt_f, ↓x_ifeq_t, ↓x_ifeq_f, ↓x_ifleL_t, ↓x_ifleL_f, ↓x_ifltL_t, ↓x_ifltL_f, ↓x_ifeqL_t, ↓x_ifeqL_f, ↓x_ifLle_t, ↓x_ifLle_f, ↓x_ifLlt_t, ↓x_ifLlt_f, ↓x_ifnm1, ↓x_ifb0, ↓x_ifb1, ↓x_if00, ↓x_if10, x_addL, x_Ladd, x_mulL, x_Lmul, nI_add, pk_mul, nI_pred, if_true, if_false, x_m1, n_a0, x_ue, x_un, e2']
    have D : ∀ a, a < b + 5 → e a = d1 a := fun a ha => f1 a (by omega)
    refine ⟨fun a ha => by rw [f1 _ (by omega), F1 _ (by omega)], g1, ?_, fun r hr => ?_, fun j hj => ?_, g5, fun j hj hc => ?_, fun r hr => ?_, fun j hj => ?_⟩
    · unfold SC
      rw [D _ (by omega), S1 0 (by omega), S1 1 (by omega), S1 2 (by omega), S1 3 (by omega), S1 4 (by omega), S1 5 (by omega)]
      exact g2
    · obtain ⟨i1, i2, i3, i4, i5, i6⟩ := g3 r hr
      obtain ⟨q1, q2, q3⟩ := A1 r (by omega)
      unfold RI
      rw [D _ (by omega), D _ (by omega), D _ (by omega), q1, q2, q3]
      exact ⟨i1, i2, i3, i4, i5, i6⟩
    · exact (g4 j hj).shift (f2 j hj)
    · exact (g6 j hj hc).shift (f2 j hj)
    · rw [D _ (by omega), (A1 r hr).2.2]
      exact g7 r hr
    · by_cases hji : j < i
      · have hb := g8 j hj
        have H := f2 j hji
        refine ⟨?_, fun r hr => ⟨?_, ?_⟩⟩
        · have := H 0 19 (Or.inl ⟨rfl, Or.inr ⟨by omega, by omega⟩⟩)
          rw [Nat.add_zero, Nat.add_zero] at this
          rw [this]
          exact hb.1
        · rw [H 14 r (Or.inr (Or.inr (Or.inr (Or.inr ⟨by omega, by omega, hr⟩))))]
          exact (hb.2 r hr).1
        · rw [H 20 r (Or.inr (Or.inr (Or.inr (Or.inr ⟨by omega, by omega, hr⟩))))]
          exact (hb.2 r hr).2
      · unfold SB
        rw [f1 _ (by omega), f1 _ (by omega), f1 _ (by omega), F1 _ (by omega), F1 _ (by omega), F1 _ (by omega)]
        exact hB j hj
  · have hsb : SB e (b0 + 5 + 21 * i) := by
      unfold SB
      rw [f1 _ (by omega), f1 _ (by omega), f1 _ (by omega), F1 _ (by omega), F1 _ (by omega), F1 _ (by omega)]
      exact g8 i (by omega)
    rw [e2', if_neg (nI_ge (by omega) (by omega)), x_aald _ (by omega) (by omega), x_aald _ (by omega) (by omega), ok_b]
    refine ok_m (q_X4_copy (d := e) (c := b + 5 + 21 * i) (c0 := b0 + 5 + 21 * i) (by omega) hsb) (fun e2 he2 => ?_)
    obtain ⟨c1, c2⟩ := he2
    rw [x_addL]
    refine ih (m - 1) _ _ (by omega) ⟨i + 1, by omega, rfl, fun a ha => by rw [c1 _ (by omega), f1 _ (by omega)], fun j hj a k hak => ?_⟩
    have ha21 : a < 21 := by
      rcases hak with h9 | h9 | h9 | h9 | h9 <;> omega
    by_cases hji : j = i
    · subst hji
      rw [c2 a k hak, f1 _ (by omega), F1 _ (by omega)]
    · rw [c1 _ (by omega), f2 j (by omega) a k hak]
/-- a row copied: n cells from p of a0 to q of a1 -/
theorem q_keepL {d : z_D} {o x : Nat} {K : z_D → Option (Int32 × z_D)} {Q : Int32 × z_D → Prop} (hx : x < 2) (hK : ∀ e : z_D, (∀ a, ¬ a = o + 2 → e a = d a) → (∀ k, (k < 2656 * x ∨ 2656 * x + 2656 ≤ k) → e (o + 2) k = d (o + 2) k) → (∀ k, k < 2656 → e (o + 2) (2656 * x + k) = d (o + 1) k) → ok (K e) Q) : ok (f_X9_keep_L18 o (nI x) K z_N 0 d) Q := by
  refine zl2 (f_X9_keep_L18_b o (nI x) K) (fun _ => rfl) (fun m x2 e => ∃ i, m + i = 2656 ∧ x2 = nI i ∧ (∀ a, ¬ a = o + 2 → e a = d a) ∧ (∀ k, (k < 2656 * x ∨ 2656 * x + 2656 ≤ k) → e (o + 2) k = d (o + 2) k) ∧ ∀ k, k < i → e (o + 2) (2656 * x + k) = d (o + 1) k) ?_ 2656 z_N _ _ ⟨0, by omega, rfl, fun _ _ => rfl, fun _ _ => rfl, fun k hk => by omega⟩ (ltz (by omega))
  rintro R m x2 e ⟨i, hm, rfl, f1, f2, f3⟩ ih
  unfold f_X9_keep_L18_b
  by_cases hi : i = 2656
  · rw [if_pos (show (2656 : Int32) ≤ nI i from (nI_leI (a := 2656) (by omega) (by omega)).mpr (by omega))]
    rw [hi] at f3
    exact hK e f1 f2 f3
  rw [if_neg (show ¬ (2656 : Int32) ≤ nI i from fun h => by have := (nI_leI (a := 2656) (by omega) (by omega)).mp h; omega), x_ald _ (by omega) (by omega), x_Lmul, nI_add, x_ast _ (by omega) (by omega), x_addL]
  refine ih (m - 1) _ _ (by omega) ⟨i + 1, by omega, rfl, fun a ha => by rw [u_a ha, f1 a ha], fun k hk => by rw [x_un (by omega), f2 k hk], fun k hk => ?_⟩
  by_cases hki : k = i
  · subst hki
    rw [x_ue rfl rfl, f1 _ (by omega)]
  · rw [x_un (by omega), f3 k (by omega)]
theorem q_backL {d : z_D} {o x : Nat} {K : z_D → Option (Int32 × z_D)} {Q : Int32 × z_D → Prop} (hx : x < 2) (hK : ∀ e : z_D, (∀ a, ¬ a = o + 1 → e a = d a) → (∀ k, k < 2656 → e (o + 1) k = d (o + 2) (2656 * x + k)) → ok (K e) Q) : ok (f_X9_back_L27 o (nI x) K z_N 0 d) Q := by
  refine zl2 (f_X9_back_L27_b o (nI x) K) (fun _ => rfl) (fun m x2 e => ∃ i, m + i = 2656 ∧ x2 = nI i ∧ (∀ a, ¬ a = o + 1 → e a = d a) ∧ ∀ k, k < i → e (o + 1) k = d (o + 2) (2656 * x + k)) ?_ 2656 z_N _ _ ⟨0, by omega, rfl, fun _ _ => rfl, fun k hk => by omega⟩ (ltz (by omega))
  rintro R m x2 e ⟨i, hm, rfl, f1, f3⟩ ih
  unfold f_X9_back_L27_b
  by_cases hi : i = 2656
  · rw [if_pos (show (2656 : Int32) ≤ nI i from (nI_leI (a := 2656) (by omega) (by omega)).mpr (by omega))]
    rw [hi] at f3
    exact hK e f1 f3
  rw [if_neg (show ¬ (2656 : Int32) ≤ nI i from fun h => by have := (nI_leI (a := 2656) (by omega) (by omega)).mp h; omega), x_Lmul, nI_add, x_ald _ (by omega) (by omega), x_ast _ (by omega) (by omega), x_addL]
  refine ih (m - 1) _ _ (by omega) ⟨i + 1, by omega, rfl, fun a ha => by rw [u_a ha, f1 a ha], fun k hk => ?_⟩
  by_cases hki : k = i
  · subst hki
    rw [x_ue rfl rfl, f1 _ (by omega)]
  · rw [x_un (by omega), f3 k (by omega)]
theorem q_tell30 {d : z_D} {o : Nat} {K : z_D → Option (Int32 × z_D)} {Q : Int32 × z_D → Prop} (hK : ∀ e : z_D, (∀ a, ¬ a = o + 3 → e a = d a) → (∀ k, k < 2656 → e (o + 3) k = d (o + 1) k) → ok (K e) Q) : ok (f_X9_tell_L30 o K z_N 0 d) Q := by
  refine zl2 (f_X9_tell_L30_b o K) (fun _ => rfl) (fun m x2 e => ∃ i, m + i = 2656 ∧ x2 = nI i ∧ (∀ a, ¬ a = o + 3 → e a = d a) ∧ ∀ k, k < i → e (o + 3) k = d (o + 1) k) ?_ 2656 z_N _ _ ⟨0, by omega, rfl, fun _ _ => rfl, fun k hk => by omega⟩ (ltz (by omega))
  rintro R m x2 e ⟨i, hm, rfl, f1, f3⟩ ih
  unfold f_X9_tell_L30_b
  by_cases hi : i = 2656
  · rw [if_pos (show (2656 : Int32) ≤ nI i from (nI_leI (a := 2656) (by omega) (by omega)).mpr (by omega))]
    rw [hi] at f3
    exact hK e f1 f3
  rw [if_neg (show ¬ (2656 : Int32) ≤ nI i from fun h => by have := (nI_leI (a := 2656) (by omega) (by omega)).mp h; omega), x_ald _ (by omega) (by omega), x_ast _ (by omega) (by omega), x_addL]
  refine ih (m - 1) _ _ (by omega) ⟨i + 1, by omega, rfl, fun a ha => by rw [u_a ha, f1 a ha], fun k hk => ?_⟩
  by_cases hki : k = i
  · subst hki
    rw [x_ue rfl rfl, f1 _ (by omega)]
  · rw [x_un (by omega), f3 k (by omega)]
theorem q_tell93 {d : z_D} {o : Nat} {K : z_D → Option (Int32 × z_D)} {Q : Int32 × z_D → Prop} (hK : ∀ e : z_D, (∀ a, ¬ a = o + 1 → e a = d a) → (∀ k, k < 2656 → e (o + 1) k = d (o + 3) k) → ok (K e) Q) : ok (f_X9_tell_L93 o K z_N 0 d) Q := by
  refine zl2 (f_X9_tell_L93_b o K) (fun _ => rfl) (fun m x2 e => ∃ i, m + i = 2656 ∧ x2 = nI i ∧ (∀ a, ¬ a = o + 1 → e a = d a) ∧ ∀ k, k < i → e (o + 1) k = d (o + 3) k) ?_ 2656 z_N _ _ ⟨0, by omega, rfl, fun _ _ => rfl, fun k hk => by omega⟩ (ltz (by omega))
  rintro R m x2 e ⟨i, hm, rfl, f1, f3⟩ ih
  unfold f_X9_tell_L93_b
  by_cases hi : i = 2656
  · rw [if_pos (show (2656 : Int32) ≤ nI i from (nI_leI (a := 2656) (by omega) (by omega)).mpr (by omega))]
    rw [hi] at f3
    exact hK e f1 f3
  rw [if_neg (show ¬ (2656 : Int32) ≤ nI i from fun h => by have := (nI_leI (a := 2656) (by omega) (by omega)).mp h; omega), x_ald _ (by omega) (by omega), x_ast _ (by omega) (by omega), x_addL]
  refine ih (m - 1) _ _ (by omega) ⟨i + 1, by omega, rfl, fun a ha => by rw [u_a ha, f1 a ha], fun k hk => ?_⟩
  by_cases hki : k = i
  · subst hki
    rw [x_ue rfl rfl, f1 _ (by omega)]
  · rw [x_un (by omega), f3 k (by omega)]
