/-! 79.first: total of a rider, without a stage -/
def ah (s1 s2 p1 p2 : Int32) (r x : Nat) : Bool := if s1 = s2 then (if p1 = p2 then decide (r < x) else decide (p1 < p2)) else decide (s1 < s2)
theorem ah_T2 (S P : Nat → Int32) (r x : Nat) : ah (S r) (S x) (P r) (P x) r x = T2 S P r x := rfl
theorem m_isAhead {d : z_D} {o cl r x : Nat} {less but : Int32} (hr : r < 16) (hx : x < 16) (hc : d (o + 1) 2 - d (o + 1) 3 = nI cl) (h8 : cl ≤ 8) (hp : ∀ q j, q < 16 → j < cl → ¬ rfin (d (o + 1)) (56 + 325 * j) q < 0) : f_X9_isAhead d o (nI r) (nI x) less but = some (b01 (ah (smB (ntv (d (o + 1)) r) but cl - less) (smB (ntv (d (o + 1)) x) but cl) (smB (plv (d (o + 1)) r) but cl) (smB (plv (d (o + 1)) x) but cl) r x = true)) := by
  unfold f_X9_isAhead ah
  rw [m_totalBut hr hc h8 (fun j hj => hp r j hr hj), x_ob, x_nam, m_totalBut hx hc h8 (fun j hj => hp x j hx hj), x_ob]
  generalize smB (ntv (d (o + 1)) r) but cl - less = s1
  generalize smB (ntv (d (o + 1)) x) but cl = s2
  by_cases h1 : s1 = s2
  · rw [if_pos h1, if_pos h1, m_placesBut hr hc h8 (fun j hj => hp r j hr hj), x_ob, m_placesBut hx hc h8 (fun j hj => hp x j hx hj), x_ob]
    generalize smB (plv (d (o + 1)) r) but cl = p1
    generalize smB (plv (d (o + 1)) x) but cl = p2
    by_cases h2 : p1 = p2
    · rw [if_pos h2, if_pos h2]
      by_cases h3 : x ≤ r
      · rw [if_pos ((nI_leI (by omega) (by omega)).mpr h3), b01_f (by simp; omega)]
      · rw [if_neg (fun h => h3 ((nI_leI (by omega) (by omega)).mp h)), b01_t (by simp; omega)]
    · rw [if_neg h2, if_neg h2]
      by_cases h3 : p2 ≤ p1
      · rw [if_pos h3, b01_f (by simp; exact h3)]
      · rw [if_neg h3, b01_t (by simp; exact Int32.not_le.mp h3)]
  · rw [if_neg h1, if_neg h1]
    by_cases h3 : s2 ≤ s1
    · rw [if_pos h3, b01_f (by simp; exact h3)]
    · rw [if_neg h3, b01_t (by simp; exact Int32.not_le.mp h3)]
theorem St.fpos {d : z_D} {b t n s : Nat} {ρ : Nat → Int32} (h : St d b ρ t n s) : ∀ q j, q < 16 → j < s → ¬ rfin ρ (56 + 325 * j) q < 0 := fun q j hq hj => by
  obtain ⟨f, f1, f2, -⟩ := ((h.2.2.2.1 j hj).2.2.2.2.1 q hq).1
  unfold rfin
  rw [f2]
  exact nI_pos (by omega)
/-- the list of riders by a total order -/
theorem Lon_rk {ρ : Nat → Int32} {but : Int32} {cl old n : Nat} : rkO (Pon ρ old) (Lon ρ but cl) n = rkO (Pon ρ old) (T2 (fun r => smB (ntv ρ r) but cl) (fun r => smB (plv ρ r) but cl)) n := (rkO_cong n (fun _ _ => rfl) (fun r x _ hx _ _ => lx_T2 (S := fun r => smB (ntv ρ r) but cl) (P := fun r => smB (plv ρ r) but cl) hx)).2
theorem Pon_50 {d : z_D} {b t n s r : Nat} {ρ : Nat → Int32} (h : St d b ρ t n s) (hr : r < n) : Pon ρ 50 r = true ↔ ρ (10 + 3 * r) = 1 := by
  obtain ⟨-, ⟨a, a1, a2, a3⟩, -⟩ := h.2.2.1 r hr
  unfold Pon
  rw [decide_eq_true_iff, a3]
  constructor
  · exact fun h9 => h9.1
  · exact fun h9 => ⟨h9, fun h8 => by have := (nI_ltI (by omega) (by omega)).mp h8; omega⟩
/-- the first of a sorted list is before all -/
theorem rkO_first {P : Nat → Bool} {T : Nat → Nat → Bool} (hT : STO T) {n : Nat} (h0 : 0 < fb_ct P n) : ∀ x, x < n → P x = true → x ≠ rkO P T n 0 → T (rkO P T n 0) x = true := by
  intro x hx hP hne
  obtain ⟨i, i1, i2⟩ := rkO_onto (T := T) n x hx hP
  by_cases hi : i = 0
  · subst hi
    exact absurd i2.symm hne
  · rw [← i2]
    exact rkO_srt hT n 0 i (by omega) i1
theorem j_without {d dm : z_D} {o a t n s : Nat} (h : St d (a + 1) (dm (o + 1)) t n s) (x : Int32) : ok (f_X8_without d a x) (fun v => ok (f_X9_without dm o x) (fun w => v.1 = w.1 ∧ (∀ q, ¬ (a + 348 ≤ q ∧ q ≤ a + 352) → v.2 q = d q) ∧ Fq o dm w.2)) := by
  obtain ⟨cl, cl1, cl2, cl3, cl4⟩ := h.clos
  have hs8 := h.1.2.2.1.2
  have hn16 := h.1.2.1.2
  have hcs := k_closedStage (x := x) cl2 (by omega)
  have hic := m_isClosed (d := z_up dm o 0 0) (o := o) (x := x) (by rw [u_a (by omega)]; exact cl3)
  unfold f_X8_without f_X9_without
  rw [hcs, x_ob, x_put, hic, x_ob, x_ifb0]
  by_cases hx : 0 ≤ x ∧ x ≤ nI cl - 1
  rotate_left
  · rw [if_neg hx, if_neg hx, x_nn, ok_s, ok_s]
    exact ⟨rfl, fun _ _ => rfl, Fq.t⟩
  rw [if_pos hx, if_pos hx]
  obtain ⟨j, hj, rfl⟩ := (i_rng (by omega)).mp hx
  rw [nI_clamp (by omega), x_nl (by omega), ok_b]
  have e1 : (z_up dm o 0 0) (o + 1) = dm (o + 1) := u_a (by omega)
  refine ok_m (k_rankRiders (old := 50) (but := nI j) h (q := a + 348) (by omega) cl2 (by omega) cl4) (fun d1 hd1 => ?_)
  obtain ⟨k1, k2, k3, -⟩ := hd1
  rw [Lon_rk] at k3
  have hT := T2_sto (fun r => smB (ntv (dm (o + 1)) r) (nI j) cl) (fun r => smB (plv (dm (o + 1)) r) (nI j) cl)
  generalize hTT : T2 (fun r => smB (ntv (dm (o + 1)) r) (nI j) cl) (fun r => smB (plv (dm (o + 1)) r) (nI j) cl) = T at *
  have hct := fb_ct_le (Pon (dm (o + 1)) 50) n
  have hen : f_X5_entry d1 (a + 348) 0 = some (if fb_ct (Pon (dm (o + 1)) 50) n = 0 then -1 else nI (rkO (Pon (dm (o + 1)) 50) T n 0)) := by
    unfold f_X5_entry
    rw [k2, x_w, x_ob, x_ifb0]
    by_cases h0 : fb_ct (Pon (dm (o + 1)) 50) n = 0
    · rw [if_pos h0, if_neg (fun h9 => by
        rw [h0] at h9
        exact absurd h9.2 (by decide))]
    · rw [if_neg h0, if_pos ((i_rng (by omega)).mpr ⟨0, by omega, nI_0.symm⟩), x_aldL 0 (show 0 < 16 by omega) (by omega)]
      show some (d1 (a + 348 + 1) 0) = _
      rw [k3 0 (by omega)]
  rw [hen, x_ob, ok_s]
  have hah : ∀ r y, r < 16 → y < 16 → f_X9_isAhead (z_up dm o 0 0) o (nI r) (nI y) 0 (nI j) = some (b01 (T r y = true)) := fun r y hr hy => by
    rw [m_isAhead hr hy (by rw [e1]; exact cl3) (by omega) (by rw [e1]; exact fun q j' hq hj' => h.fpos q j' hq (by omega)), Int32.sub_zero, e1, ← hTT]
    rfl
  refine zl2 (f_X9_without_L19_b _ o (nI j) _) (fun _ => rfl) (fun m x2 x3 => ∃ i, m + i = n ∧ x3 = nI i ∧ ((x2 = -1 ∧ ∀ r, r < i → ¬ Pon (dm (o + 1)) 50 r = true) ∨ ∃ b, b < i ∧ x2 = nI b ∧ Pon (dm (o + 1)) 50 b = true ∧ ∀ r, r < i → Pon (dm (o + 1)) 50 r = true → r ≠ b → T b r = true)) ?_ n z_N _ _ ⟨0, by omega, rfl, Or.inl ⟨rfl, fun r hr => by omega⟩⟩ (ltz (by omega))
  rintro R m x2 x3 ⟨i, hm, rfl, hb⟩ ih
  unfold f_X9_without_L19_b
  have en : (z_up dm o 0 0) (o + 1) 1 = nI n := by rw [e1, h.1.2.1.1]
  by_cases hi : i = n
  · subst hi
    have en2 := h.1.2.1.1
    simp (disch := omega) only [↓x_let, ↓x_nam, ↓x_put, ↓x_bX, ↓x_ob, ↓x_ald, ↓x_aldL, ↓x_ast, ↓x_astL, ↓x_at0, ↓x_at_0, ↓x_mk0, ↓x_at, ↓x_atL, ↓x_at_, ↓x_at_L, ↓x_mk, ↓x_mkL, ↓x_aald, ↓x_w, ↓x_wi, ↓ok_s, ↓x_ifle_t, ↓x_ifle_f, ↓x_iflt_t, ↓x_iflt_f, ↓x_ifeq_t, ↓x_ifeq_f, ↓x_ifleL_t, ↓x_ifleL_f, ↓x_ifltL_t, ↓x_ifltL_f, ↓x_ifeqL_t, ↓x_ifeqL_f, ↓x_ifLle_t, ↓x_ifLle_f, ↓x_ifLlt_t, ↓x_ifLlt_f, ↓x_ifnm1, ↓x_ifb0, ↓x_ifb1, ↓x_if00, ↓x_if10, x_addL, x_Ladd, x_mulL, x_Lmul, nI_add, pk_mul, nI_pred, if_true, if_false, x_m1, n_a0, x_ue, x_un, en2]; try simp (disch := omega) only [↓x_let, ↓x_nam, ↓x_put, ↓x_bX, ↓x_ob, ↓x_ald, ↓x_aldL, ↓x_ast, ↓x_astL, ↓x_at0, ↓x_at_0, ↓x_mk0, ↓x_at, ↓x_atL, ↓x_at_, ↓x_at_L, ↓x_mk, ↓x_mkL, ↓x_aald, ↓x_w, ↓x_wi, ↓ok_s, ↓x_ifle_t, ↓x_ifle_f, ↓x_iflt_t, ↓x_iflt_f, ↓x_ifeq_t, ↓x_ifeq_f, ↓x_ifleL_t, ↓x_ifleL_f, ↓x_ifltL_t, ↓x_ifltL_f, ↓x_ifeqL_t, ↓x_ifeqL_f, ↓x_ifLle_t, ↓x_ifLle_f, ↓x_ifLlt_t, ↓x_ifLlt_f, ↓x_ifnm1, ↓x_ifb0, ↓x_ifb1, ↓x_if00, ↓x_if10, x_addL, x_Ladd, x_mulL, x_Lmul, nI_add, pk_mul, nI_pred, if_true, if_false, x_m1, n_a0, x_ue, x_un, en2]; try simp (disch := omega) only [↓x_let, ↓x_nam, ↓x_put, ↓x_bX, ↓x_ob, ↓x_ald, ↓x_aldL, ↓x_ast, ↓x_astL, ↓x_at0, ↓x_at_0, ↓x_mk0, ↓x_at, ↓x_atL, ↓x_at_, ↓x_at_L, ↓x_mk, ↓x_mkL, ↓x_aald, ↓x_w, ↓x_wi, ↓ok_s, ↓x_ifle_t, ↓x_ifle_f, ↓x_iflt_t, ↓x_iflt_f, ↓x_ifeq_t, ↓x_ifeq_f, ↓x_ifleL_t, ↓x_ifleL_f, ↓x_ifltL_t, ↓x_ifltL_f, ↓x_ifeqL_t, ↓x_ifeqL_f, ↓x_ifLle_t, ↓x_ifLle_f, ↓x_ifLlt_t, ↓x_ifLlt_f, ↓x_ifnm1, ↓x_ifb0, ↓x_ifb1, ↓x_if00, ↓x_if10, x_addL, x_Ladd, x_mulL, x_Lmul, nI_add, pk_mul, nI_pred, if_true, if_false, x_m1, n_a0, x_ue, x_un, en2]; try simp (disch := omega) only [↓x_let, ↓x_nam, ↓x_put, ↓x_bX, ↓x_ob, ↓x_ald, ↓x_aldL, ↓x_ast, ↓x_astL, ↓x_at0, ↓x_at_0, ↓x_mk0, ↓x_at, ↓x_atL, ↓x_at_, ↓x_at_L, ↓x_mk, ↓x_mkL, ↓x_aald, ↓x_w, ↓x_wi, ↓ok_s, ↓x_ifle_t, ↓x_ifle_f, ↓x_iflt_t, ↓x_iflt_f, ↓x_ifeq_t, ↓x_ifeq_f, ↓x_ifleL_t, ↓x_ifleL_f, ↓x_ifltL_t, ↓x_ifltL_f, ↓x_ifeqL_t, ↓x_ifeqL_f, ↓x_ifLle_t, ↓x_ifLle_f, ↓x_ifLlt_t, ↓x_ifLlt_f, ↓x_ifnm1, ↓x_ifb0, ↓x_ifb1, ↓x_if00, ↓x_if10, x_addL, x_Ladd, x_mulL, x_Lmul, nI_add, pk_mul, nI_pred, if_true, if_false, x_m1, n_a0, x_ue, x_un, en2]
    refine ⟨?_, fun q hq => k1 q (by omega), Fq.t⟩
    rcases hb with ⟨rfl, hb⟩ | ⟨b, b1, rfl, b2, b3⟩
    · rw [if_pos (fb_ct_zero.mpr (fun k hk => by
        cases e : Pon (dm (o + 1)) 50 k with
        | false => rfl
        | true => exact absurd e (hb k hk)))]
    · have hpos : 0 < fb_ct (Pon (dm (o + 1)) 50) i := fb_ct_pos.mpr ⟨b, b1, b2⟩
      rw [if_neg (by omega)]
      refine congrArg nI ?_
      have hf := rkO_lt (Pon (dm (o + 1)) 50) T i 0 hpos
      by_cases hne : rkO (Pon (dm (o + 1)) 50) T i 0 = b
      · exact hne
      · have u1 := b3 _ hf.1 hf.2 hne
        have u2 := rkO_first hT hpos b b1 b2 (fun h9 => hne h9.symm)
        rw [hT.1 _ _ u1] at u2
        exact absurd u2 (by decide)
  have hin : i < n := by omega
  have hp50 := Pon_50 h hin
  have hth := m_isThere (d := z_up dm o 0 0) (o := o) h.tz.1 (nI i)
  have hthi : th ((z_up dm o 0 0) (o + 1)) (nI i) ↔ Pon (dm (o + 1)) 50 i = true := by
    rw [th_iff en hn16, hp50, e1]
    constructor
    · rintro ⟨r, r1, r2, r3⟩
      have := (nI_eq (by omega) (by omega)).mp r2
      subst this
      exact r3
    · intro h9
      exact ⟨i, hin, rfl, h9⟩
  rw [x_aldL 1 (show 1 < 2656 by omega) (by omega)]
  show ok (if (z_up dm o 0 0) (o + 1) 1 ≤ nI i then _ else _) _
  rw [en, if_neg (nI_ge (by omega) (by omega)), hth, x_ob, x_ifb0]
  by_cases hP : Pon (dm (o + 1)) 50 i = true
  rotate_left
  · rw [if_neg (fun h9 => hP (hthi.mp h9)), x_addL]
    refine ih (m - 1) _ _ (by omega) ⟨i + 1, by omega, rfl, ?_⟩
    rcases hb with ⟨rfl, hb⟩ | ⟨b, b1, rfl, b2, b3⟩
    · refine Or.inl ⟨rfl, fun r hr => ?_⟩
      by_cases hri : r = i
      · rw [hri]; exact hP
      · exact hb r (by omega)
    · refine Or.inr ⟨b, by omega, rfl, b2, fun r hr hPr hne => ?_⟩
      by_cases hri : r = i
      · rw [hri] at hPr; exact absurd hPr hP
      · exact b3 r (by omega) hPr hne
  rw [if_pos (hthi.mpr hP)]
  rcases hb with ⟨rfl, hb⟩ | ⟨b, b1, rfl, b2, b3⟩
  · rw [if_pos rfl, x_addL]
    refine ih (m - 1) _ _ (by omega) ⟨i + 1, by omega, rfl, Or.inr ⟨i, by omega, rfl, hP, fun r hr hPr hne => absurd hPr (hb r (by omega))⟩⟩
  · rw [if_neg (fun h9 => by rw [x_nm1 b (by omega)] at h9; exact h9), hah i b (by omega) (by omega), x_ob, x_ifb0]
    by_cases hlt : T i b = true
    · rw [if_pos hlt, x_addL]
      refine ih (m - 1) _ _ (by omega) ⟨i + 1, by omega, rfl, Or.inr ⟨i, by omega, rfl, hP, fun r hr hPr hne => ?_⟩⟩
      by_cases hrb : r = b
      · rw [hrb]; exact hlt
      · exact hT.2.1 _ _ _ hlt (b3 r (by omega) hPr hrb)
    · rw [if_neg hlt, x_addL]
      refine ih (m - 1) _ _ (by omega) ⟨i + 1, by omega, rfl, Or.inr ⟨b, by omega, rfl, b2, fun r hr hPr hne => ?_⟩⟩
      by_cases hri : r = i
      · rw [hri]
        rcases hT.2.2 i b (by omega) with h9 | h9
        · exact absurd h9 hlt
        · exact h9
      · exact b3 r (by omega) hPr hne
