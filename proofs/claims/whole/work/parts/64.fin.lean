/-! 64.fin: what is told of one rider in the open stage -/
theorem ordK_upd {fin fin' : Nat → Int32} {r m : Nat} (hr : r < m) (he : ∀ q, q < m → q ≠ r → fin' q = fin q) : ordK fin' m + (if fin r = 0 then 0 else 1) = ordK fin m + (if fin' r = 0 then 0 else 1) := by
  have h := fb_ct_upd (fun q => decide (¬ fin q = 0)) (decide (¬ fin' r = 0)) hr
  have h2 : fb_ct (fun k => if k = r then decide (¬ fin' r = 0) else decide (¬ fin k = 0)) m = ordK fin' m := by
    unfold ordK
    refine fb_ct_cong (fun k hk => ?_)
    by_cases e : k = r
    · rw [if_pos e, e]
    · rw [if_neg e, he k hk e]
  rw [h2] at h
  unfold ordK at h ⊢
  by_cases h3 : fin r = 0 <;> by_cases h4 : fin' r = 0 <;> simp [h3, h4] at h ⊢ <;> omega
theorem St.rider {d d' : z_D} {b t n L r : Nat} {ρ ρ' : Nat → Int32} (h : St d b ρ t n (L + 1)) (ho : ρ 3 = 1) (hr : r < 16)
    (H : ∀ a k, ¬ (a = b + 5 + 21 * L ∧ k = 7) → ¬ (b + 5 + 21 * L + 10 ≤ a ∧ a ≤ b + 5 + 21 * L + 14 ∧ k = r) → d' a k = d a k)
    (G : ∀ k, (k < 56 + 325 * L + 127 + 12 * r ∨ 56 + 325 * L + 131 + 12 * r < k) → ρ' k = ρ k)
    (hrd : RD d' (b + 5 + 21 * L) ρ' (56 + 325 * L) n r) (h7 : d' (b + 5 + 21 * L) 7 = nI (ordK (rfin ρ' (56 + 325 * L)) 16)) : St d' b ρ' t n (L + 1) := by
  have hL : L < 8 := by have := h.1.2.2.1.2; omega
  have hsg := h.2.2.2.1 L (by omega)
  have hop := h.2.2.2.2.1 ho
  have hsb := h.2.2.2.2.2.2.2 L hL
  have e0 : L + 1 - 1 = L := by omega
  refine h.touch ho ?_ ?_ ?_ ?_ ?_ <;> rw [e0] at *
  · intro a ha
    funext k
    exact H a k (by omega) (by omega)
  · intro k hk
    exact G k (by omega)
  · obtain ⟨⟨k, k1, k2⟩, ⟨N, N1, N2, N3⟩, ⟨e1, e2, e3⟩, ⟨M, M1, M2, M3⟩, hr9, -⟩ := hsg
    refine ⟨⟨k, k1, by rw [G _ (by omega), k2]⟩, ⟨N, N1, N2, by rw [G _ (by omega), N3]⟩, ?_, ⟨M, M1, by rw [G _ (by omega), M2], fun m hm => ?_⟩, fun q hq => ?_, h7⟩
    · rw [H _ _ (by omega) (by omega), H _ _ (by omega) (by omega), H _ _ (by omega) (by omega), G _ (by omega), G _ (by omega), G _ (by omega)]
      exact ⟨e1, e2, e3⟩
    · exact (M3 m hm).congr (Nat.le_refl _) (fun a a1 a2 => H _ _ (by omega) (by omega)) (fun k _ => H _ _ (by omega) (by omega)) (fun k k1 k2 => G _ (by omega))
    · by_cases hqr : q = r
      · subst hqr
        exact hrd
      · exact (hr9 q hq).congr (Nat.le_refl _) (fun a a1 a2 => H _ _ (by omega) (by omega)) (fun k k1 k2 => G _ (by omega))
  · intro q w hq w1 w2
    rw [G _ (by omega)]
    exact hop q w hq w1 w2
  · refine ⟨by rw [H _ _ (by omega) (by omega)]; exact hsb.1, fun q hq => ⟨?_, by rw [H _ _ (by omega) (by omega)]; exact (hsb.2 q hq).2⟩⟩
    by_cases hqr : q = r
    · subst hqr
      rw [hrd.2.2.2.2.2.2.2]
      exact hrd.2.2.2.1
    · rw [H _ _ (by omega) (by omega)]
      exact (hsb.2 q hq).1
theorem i_nat {y : Int32} {a b : Nat} (hb : b < 2 ^ 31) (h : nI a ≤ y ∧ y ≤ nI b) (ha : a < 2 ^ 31) : ∃ f, a ≤ f ∧ f ≤ b ∧ y = nI f := by
  obtain ⟨j, hj, rfl⟩ := nI_of (x := y) (fun h9 => by
    have h2 := Int32.lt_of_le_of_lt h.1 h9
    exact nI_pos ha h2)
  exact ⟨j, (nI_leI ha hj).mp h.1, (nI_leI hj hb).mp h.2, rfl⟩
theorem k_finish {d : z_D} {b t n s : Nat} {ρ : Nat → Int32} (h : St d b ρ t n s) (x y : Int32) : ok (f_X3_addFinish d b x y) (fun v => v.1 = (a_finish ρ x y).1 ∧ Fr b d v.2 ∧ St v.2 b (a_finish ρ x y).2 t n s) := by
  unfold f_X3_addFinish
  have no : ¬ (ρ 3 = 1 ∧ th ρ x ∧ (1 ≤ y ∧ y ≤ 999999) ∧ ρ (LB ρ + 127 + 12 * x.toNatClampNeg) = 0) → a_finish ρ x y = (0, ρ) := fun h => if_neg h
  have hth := k_isIn h x
  have e3 : d b 3 = ρ 3 := h.2.1.2.2.2.1
  by_cases h3 : ρ 3 = 1
  · obtain ⟨L, rfl, hL, hB, h2⟩ := h.opn h3
    have e2 : d b 2 = nI (L + 1) := by rw [h.2.1.2.2.1, h2]
    by_cases ht : th ρ x
    · obtain ⟨r, hr, rfl, hin⟩ := (th_iff h.1.2.1.1 h.1.2.1.2).mp ht
      have hn16 := h.1.2.1.2
      have hrd := (h.2.2.2.1 L (by omega)).2.2.2.2.1 r (by omega)
      obtain ⟨⟨f, f1, f2, -⟩, r2, r3, r4, r5, r6, r7, r8⟩ := hrd
      have h7 := (h.2.2.2.1 L (by omega)).2.2.2.2.2
      rw [f2] at r5
      by_cases hf : f = 0
      · by_cases hy : 1 ≤ y ∧ y ≤ 999999
        · obtain ⟨g, g1, g2, rfl⟩ := i_nat (a := 1) (b := 999999) (by omega) hy (by omega)
          have e : a_finish ρ (nI r) (nI g) = (1, upd ρ (56 + 325 * L + 127 + 12 * r) (nI g)) := by
            unfold a_finish
            rw [if_pos ⟨h3, ht, hy, by rw [hB, nI_clamp (by omega), f2, hf, nI_0]⟩, hB, nI_clamp (by omega)]
          unfold f_X4_addFinish
          simp (disch := omega) only [↓x_let, ↓x_nam, ↓x_put, ↓x_bX, ↓x_ob, ↓x_ald, ↓x_aldL, ↓x_ast, ↓x_astL, ↓x_at0, ↓x_at_0, ↓x_mk0, ↓x_at, ↓x_atL, ↓x_at_, ↓x_at_L, ↓x_mk, ↓x_mkL, ↓x_aald, ↓x_w, ↓x_wi, ↓ok_s, ↓x_ifle_t, ↓x_ifle_f, ↓x_iflt_t, ↓x_iflt_f, ↓x_ifeq_t, ↓x_ifeq_f, ↓x_ifleL_t, ↓x_ifleL_f, ↓x_ifltL_t, ↓x_ifltL_f, ↓x_ifeqL_t, ↓x_ifeqL_f, ↓x_ifLle_t, ↓x_ifLle_f, ↓x_ifLlt_t, ↓x_ifLlt_f, ↓x_ifnm1, ↓x_ifb0, ↓x_ifb1, ↓x_if00, ↓x_if10, x_addL, x_Ladd, x_mulL, x_Lmul, nI_add, pk_mul, nI_pred, if_true, if_false, x_m1, n_a0, x_ue, x_un, e2, e3, h3, hth, r5, h7, ↓if_pos ht, ↓if_pos hy]; try simp (disch := omega) only [↓x_let, ↓x_nam, ↓x_put, ↓x_bX, ↓x_ob, ↓x_ald, ↓x_aldL, ↓x_ast, ↓x_astL, ↓x_at0, ↓x_at_0, ↓x_mk0, ↓x_at, ↓x_atL, ↓x_at_, ↓x_at_L, ↓x_mk, ↓x_mkL, ↓x_aald, ↓x_w, ↓x_wi, ↓ok_s, ↓x_ifle_t, ↓x_ifle_f, ↓x_iflt_t, ↓x_iflt_f, ↓x_ifeq_t, ↓x_ifeq_f, ↓x_ifleL_t, ↓x_ifleL_f, ↓x_ifltL_t, ↓x_ifltL_f, ↓x_ifeqL_t, ↓x_ifeqL_f, ↓x_ifLle_t, ↓x_ifLle_f, ↓x_ifLlt_t, ↓x_ifLlt_f, ↓x_ifnm1, ↓x_ifb0, ↓x_ifb1, ↓x_if00, ↓x_if10, x_addL, x_Ladd, x_mulL, x_Lmul, nI_add, pk_mul, nI_pred, if_true, if_false, x_m1, n_a0, x_ue, x_un, e2, e3, h3, hth, r5, h7, ↓if_pos ht, ↓if_pos hy]; try simp (disch := omega) only [↓x_let, ↓x_nam, ↓x_put, ↓x_bX, ↓x_ob, ↓x_ald, ↓x_aldL, ↓x_ast, ↓x_astL, ↓x_at0, ↓x_at_0, ↓x_mk0, ↓x_at, ↓x_atL, ↓x_at_, ↓x_at_L, ↓x_mk, ↓x_mkL, ↓x_aald, ↓x_w, ↓x_wi, ↓ok_s, ↓x_ifle_t, ↓x_ifle_f, ↓x_iflt_t, ↓x_iflt_f, ↓x_ifeq_t, ↓x_ifeq_f, ↓x_ifleL_t, ↓x_ifleL_f, ↓x_ifltL_t, ↓x_ifltL_f, ↓x_ifeqL_t, ↓x_ifeqL_f, ↓x_ifLle_t, ↓x_ifLle_f, ↓x_ifLlt_t, ↓x_ifLlt_f, ↓x_ifnm1, ↓x_ifb0, ↓x_ifb1, ↓x_if00, ↓x_if10, x_addL, x_Ladd, x_mulL, x_Lmul, nI_add, pk_mul, nI_pred, if_true, if_false, x_m1, n_a0, x_ue, x_un, e2, e3, h3, hth, r5, h7, ↓if_pos ht, ↓if_pos hy]; try simp (disch := omega) only [↓x_let, ↓x_nam, ↓x_put, ↓x_bX, ↓x_ob, ↓x_ald, ↓x_aldL, ↓x_ast, ↓x_astL, ↓x_at0, ↓x_at_0, ↓x_mk0, ↓x_at, ↓x_atL, ↓x_at_, ↓x_at_L, ↓x_mk, ↓x_mkL, ↓x_aald, ↓x_w, ↓x_wi, ↓ok_s, ↓x_ifle_t, ↓x_ifle_f, ↓x_iflt_t, ↓x_iflt_f, ↓x_ifeq_t, ↓x_ifeq_f, ↓x_ifleL_t, ↓x_ifleL_f, ↓x_ifltL_t, ↓x_ifltL_f, ↓x_ifeqL_t, ↓x_ifeqL_f, ↓x_ifLle_t, ↓x_ifLle_f, ↓x_ifLlt_t, ↓x_ifLlt_f, ↓x_ifnm1, ↓x_ifb0, ↓x_ifb1, ↓x_if00, ↓x_if10, x_addL, x_Ladd, x_mulL, x_Lmul, nI_add, pk_mul, nI_pred, if_true, if_false, x_m1, n_a0, x_ue, x_un, e2, e3, h3, hth, r5, h7, ↓if_pos ht, ↓if_pos hy]
          rw [e]
          show _ ∧ Fr _ _ _ ∧ St _ _ (upd _ _ _) _ _ _
          refine ⟨rfl, ?_, ?_⟩
          · refine Fr.up (Fr.up Fr.rf ?_ ?_) ?_ ?_ <;> omega
          · refine h.rider h3 (show r < 16 by omega) (fun a k a1 a2 => ?_) (fun k hk => pk_un (by omega)) ?_ ?_
            · rw [u_n (by omega), u_n (by omega)]
            · refine ⟨⟨g, by omega, pk_us, fun h9 => by omega⟩, ?_, ?_, ?_, ?_, ?_, ?_, ?_⟩
              · rw [pk_un (by omega), pk_un (by omega), u_n (by omega), u_n (by omega)]; exact r2
              · rw [pk_un (by omega)]; exact r3
              · rw [pk_un (by omega)]; exact r4
              · rw [u_n (by omega), u_s, pk_us]
              · rw [u_n (by omega), u_n (by omega), pk_un (by omega)]; exact r6
              · rw [u_n (by omega), u_n (by omega), pk_un (by omega)]; exact r7
              · rw [u_n (by omega), u_n (by omega), pk_un (by omega)]; exact r8
            · rw [u_s]
              have ho := ordK_upd (fin := rfin ρ (56 + 325 * L)) (fin' := rfin (upd ρ (56 + 325 * L + 127 + 12 * r) (nI g)) (56 + 325 * L)) (show r < 16 by omega) (fun q hq hqr => pk_un (by omega))
              have o1 : rfin ρ (56 + 325 * L) r = 0 := by unfold rfin; rw [f2, hf, nI_0]
              have o2 : ¬ rfin (upd ρ (56 + 325 * L + 127 + 12 * r) (nI g)) (56 + 325 * L) r = 0 := by unfold rfin; rw [pk_us]; exact nI_ne0 (by omega) (by omega)
              rw [if_pos o1, if_neg o2] at ho
              exact congrArg nI (by omega)
        · unfold f_X4_addFinish
          simp (disch := omega) only [↓x_let, ↓x_nam, ↓x_put, ↓x_bX, ↓x_ob, ↓x_ald, ↓x_aldL, ↓x_ast, ↓x_astL, ↓x_at0, ↓x_at_0, ↓x_mk0, ↓x_at, ↓x_atL, ↓x_at_, ↓x_at_L, ↓x_mk, ↓x_mkL, ↓x_aald, ↓x_w, ↓x_wi, ↓ok_s, ↓x_ifle_t, ↓x_ifle_f, ↓x_iflt_t, ↓x_iflt_f, ↓x_ifeq_t, ↓x_ifeq_f, ↓x_ifleL_t, ↓x_ifleL_f, ↓x_ifltL_t, ↓x_ifltL_f, ↓x_ifeqL_t, ↓x_ifeqL_f, ↓x_ifLle_t, ↓x_ifLle_f, ↓x_ifLlt_t, ↓x_ifLlt_f, ↓x_ifnm1, ↓x_ifb0, ↓x_ifb1, ↓x_if00, ↓x_if10, x_addL, x_Ladd, x_mulL, x_Lmul, nI_add, pk_mul, nI_pred, if_true, if_false, x_m1, n_a0, x_ue, x_un, e2, e3, h3, hth, r5, h7, ↓if_pos ht, ↓if_neg hy]; try simp (disch := omega) only [↓x_let, ↓x_nam, ↓x_put, ↓x_bX, ↓x_ob, ↓x_ald, ↓x_aldL, ↓x_ast, ↓x_astL, ↓x_at0, ↓x_at_0, ↓x_mk0, ↓x_at, ↓x_atL, ↓x_at_, ↓x_at_L, ↓x_mk, ↓x_mkL, ↓x_aald, ↓x_w, ↓x_wi, ↓ok_s, ↓x_ifle_t, ↓x_ifle_f, ↓x_iflt_t, ↓x_iflt_f, ↓x_ifeq_t, ↓x_ifeq_f, ↓x_ifleL_t, ↓x_ifleL_f, ↓x_ifltL_t, ↓x_ifltL_f, ↓x_ifeqL_t, ↓x_ifeqL_f, ↓x_ifLle_t, ↓x_ifLle_f, ↓x_ifLlt_t, ↓x_ifLlt_f, ↓x_ifnm1, ↓x_ifb0, ↓x_ifb1, ↓x_if00, ↓x_if10, x_addL, x_Ladd, x_mulL, x_Lmul, nI_add, pk_mul, nI_pred, if_true, if_false, x_m1, n_a0, x_ue, x_un, e2, e3, h3, hth, r5, h7, ↓if_pos ht, ↓if_neg hy]; try simp (disch := omega) only [↓x_let, ↓x_nam, ↓x_put, ↓x_bX, ↓x_ob, ↓x_ald, ↓x_aldL, ↓x_ast, ↓x_astL, ↓x_at0, ↓x_at_0, ↓x_mk0, ↓x_at, ↓x_atL, ↓x_at_, ↓x_at_L, ↓x_mk, ↓x_mkL, ↓x_aald, ↓x_w, ↓x_wi, ↓ok_s, ↓x_ifle_t, ↓x_ifle_f, ↓x_iflt_t, ↓x_iflt_f, ↓x_ifeq_t, ↓x_ifeq_f, ↓x_ifleL_t, ↓x_ifleL_f, ↓x_ifltL_t, ↓x_ifltL_f, ↓x_ifeqL_t, ↓x_ifeqL_f, ↓x_ifLle_t, ↓x_ifLle_f, ↓x_ifLlt_t, ↓x_ifLlt_f, ↓x_ifnm1, ↓x_ifb0, ↓x_ifb1, ↓x_if00, ↓x_if10, x_addL, x_Ladd, x_mulL, x_Lmul, nI_add, pk_mul, nI_pred, if_true, if_false, x_m1, n_a0, x_ue, x_un, e2, e3, h3, hth, r5, h7, ↓if_pos ht, ↓if_neg hy]; try simp (disch := omega) only [↓x_let, ↓x_nam, ↓x_put, ↓x_bX, ↓x_ob, ↓x_ald, ↓x_aldL, ↓x_ast, ↓x_astL, ↓x_at0, ↓x_at_0, ↓x_mk0, ↓x_at, ↓x_atL, ↓x_at_, ↓x_at_L, ↓x_mk, ↓x_mkL, ↓x_aald, ↓x_w, ↓x_wi, ↓ok_s, ↓x_ifle_t, ↓x_ifle_f, ↓x_iflt_t, ↓x_iflt_f, ↓x_ifeq_t, ↓x_ifeq_f, ↓x_ifleL_t, ↓x_ifleL_f, ↓x_ifltL_t, ↓x_ifltL_f, ↓x_ifeqL_t, ↓x_ifeqL_f, ↓x_ifLle_t, ↓x_ifLle_f, ↓x_ifLlt_t, ↓x_ifLlt_f, ↓x_ifnm1, ↓x_ifb0, ↓x_ifb1, ↓x_if00, ↓x_if10, x_addL, x_Ladd, x_mulL, x_Lmul, nI_add, pk_mul, nI_pred, if_true, if_false, x_m1, n_a0, x_ue, x_un, e2, e3, h3, hth, r5, h7, ↓if_pos ht, ↓if_neg hy]
          rw [no (fun h9 => hy h9.2.2.1)]
          exact ⟨rfl, Fr.rf, h⟩
      · unfold f_X4_addFinish
        simp (disch := omega) only [↓x_let, ↓x_nam, ↓x_put, ↓x_bX, ↓x_ob, ↓x_ald, ↓x_aldL, ↓x_ast, ↓x_astL, ↓x_at0, ↓x_at_0, ↓x_mk0, ↓x_at, ↓x_atL, ↓x_at_, ↓x_at_L, ↓x_mk, ↓x_mkL, ↓x_aald, ↓x_w, ↓x_wi, ↓ok_s, ↓x_ifle_t, ↓x_ifle_f, ↓x_iflt_t, ↓x_iflt_f, ↓x_ifeq_t, ↓x_ifeq_f, ↓x_ifleL_t, ↓x_ifleL_f, ↓x_ifltL_t, ↓x_ifltL_f, ↓x_ifeqL_t, ↓x_ifeqL_f, ↓x_ifLle_t, ↓x_ifLle_f, ↓x_ifLlt_t, ↓x_ifLlt_f, ↓x_ifnm1, ↓x_ifb0, ↓x_ifb1, ↓x_if00, ↓x_if10, x_addL, x_Ladd, x_mulL, x_Lmul, nI_add, pk_mul, nI_pred, if_true, if_false, x_m1, n_a0, x_ue, x_un, e2, e3, h3, hth, r5, h7, ↓if_pos ht]; try simp (disch := omega) only [↓x_let, ↓x_nam, ↓x_put, ↓x_bX, ↓x_ob, ↓x_ald, ↓x_aldL, ↓x_ast, ↓x_astL, ↓x_at0, ↓x_at_0, ↓x_mk0, ↓x_at, ↓x_atL, ↓x_at_, ↓x_at_L, ↓x_mk, ↓x_mkL, ↓x_aald, ↓x_w, ↓x_wi, ↓ok_s, ↓x_ifle_t, ↓x_ifle_f, ↓x_iflt_t, ↓x_iflt_f, ↓x_ifeq_t, ↓x_ifeq_f, ↓x_ifleL_t, ↓x_ifleL_f, ↓x_ifltL_t, ↓x_ifltL_f, ↓x_ifeqL_t, ↓x_ifeqL_f, ↓x_ifLle_t, ↓x_ifLle_f, ↓x_ifLlt_t, ↓x_ifLlt_f, ↓x_ifnm1, ↓x_ifb0, ↓x_ifb1, ↓x_if00, ↓x_if10, x_addL, x_Ladd, x_mulL, x_Lmul, nI_add, pk_mul, nI_pred, if_true, if_false, x_m1, n_a0, x_ue, x_un, e2, e3, h3, hth, r5, h7, ↓if_pos ht]; try simp (disch := omega) only [↓x_let, ↓x_nam, ↓x_put, ↓x_bX, ↓x_ob, ↓x_ald, ↓x_aldL, ↓x_ast, ↓x_astL, ↓x_at0, ↓x_at_0, ↓x_mk0, ↓x_at, ↓x_atL, ↓x_at_, ↓x_at_L, ↓x_mk, ↓x_mkL, ↓x_aald, ↓x_w, ↓x_wi, ↓ok_s, ↓x_ifle_t, ↓x_ifle_f, ↓x_iflt_t, ↓x_iflt_f, ↓x_ifeq_t, ↓x_ifeq_f, ↓x_ifleL_t, ↓x_ifleL_f, ↓x_ifltL_t, ↓x_ifltL_f, ↓x_ifeqL_t, ↓x_ifeqL_f, ↓x_ifLle_t, ↓x_ifLle_f, ↓x_ifLlt_t, ↓x_ifLlt_f, ↓x_ifnm1, ↓x_ifb0, ↓x_ifb1, ↓x_if00, ↓x_if10, x_addL, x_Ladd, x_mulL, x_Lmul, nI_add, pk_mul, nI_pred, if_true, if_false, x_m1, n_a0, x_ue, x_un, e2, e3, h3, hth, r5, h7, ↓if_pos ht]; try simp (disch := omega) only [↓x_let, ↓x_nam, ↓x_put, ↓x_bX, ↓x_ob, ↓x_ald, ↓x_aldL, ↓x_ast, ↓x_astL, ↓x_at0, ↓x_at_0, ↓x_mk0, ↓x_at, ↓x_atL, ↓x_at_, ↓x_at_L, ↓x_mk, ↓x_mkL, ↓x_aald, ↓x_w, ↓x_wi, ↓ok_s, ↓x_ifle_t, ↓x_ifle_f, ↓x_iflt_t, ↓x_iflt_f, ↓x_ifeq_t, ↓x_ifeq_f, ↓x_ifleL_t, ↓x_ifleL_f, ↓x_ifltL_t, ↓x_ifltL_f, ↓x_ifeqL_t, ↓x_ifeqL_f, ↓x_ifLle_t, ↓x_ifLle_f, ↓x_ifLlt_t, ↓x_ifLlt_f, ↓x_ifnm1, ↓x_ifb0, ↓x_ifb1, ↓x_if00, ↓x_if10, x_addL, x_Ladd, x_mulL, x_Lmul, nI_add, pk_mul, nI_pred, if_true, if_false, x_m1, n_a0, x_ue, x_un, e2, e3, h3, hth, r5, h7, ↓if_pos ht]
        rw [no (fun h9 => by
          rw [hB, nI_clamp (by omega), f2] at h9
          exact hf (nI_eq0 (by omega) h9.2.2.2))]
        exact ⟨rfl, Fr.rf, h⟩
    · simp (disch := omega) only [↓x_let, ↓x_nam, ↓x_put, ↓x_bX, ↓x_ob, ↓x_ald, ↓x_aldL, ↓x_ast, ↓x_astL, ↓x_at0, ↓x_at_0, ↓x_mk0, ↓x_at, ↓x_atL, ↓x_at_, ↓x_at_L, ↓x_mk, ↓x_mkL, ↓x_aald, ↓x_w, ↓x_wi, ↓ok_s, ↓x_ifle_t, ↓x_ifle_f, ↓x_iflt_t, ↓x_iflt_f, ↓x_ifeq_t, ↓x_ifeq_f, ↓x_ifleL_t, ↓x_ifleL_f, ↓x_ifltL_t, ↓x_ifltL_f, ↓x_ifeqL_t, ↓x_ifeqL_f, ↓x_ifLle_t, ↓x_ifLle_f, ↓x_ifLlt_t, ↓x_ifLlt_f, ↓x_ifnm1, ↓x_ifb0, ↓x_ifb1, ↓x_if00, ↓x_if10, x_addL, x_Ladd, x_mulL, x_Lmul, nI_add, pk_mul, nI_pred, if_true, if_false, x_m1, n_a0, x_ue, x_un, e3, h3, hth, ↓if_neg ht]; try simp (disch := omega) only [↓x_let, ↓x_nam, ↓x_put, ↓x_bX, ↓x_ob, ↓x_ald, ↓x_aldL, ↓x_ast, ↓x_astL, ↓x_at0, ↓x_at_0, ↓x_mk0, ↓x_at, ↓x_atL, ↓x_at_, ↓x_at_L, ↓x_mk, ↓x_mkL, ↓x_aald, ↓x_w, ↓x_wi, ↓ok_s, ↓x_ifle_t, ↓x_ifle_f, ↓x_iflt_t, ↓x_iflt_f, ↓x_ifeq_t, ↓x_ifeq_f, ↓x_ifleL_t, ↓x_ifleL_f, ↓x_ifltL_t, ↓x_ifltL_f, ↓x_ifeqL_t, ↓x_ifeqL_f, ↓x_ifLle_t, ↓x_ifLle_f, ↓x_ifLlt_t, ↓x_ifLlt_f, ↓x_ifnm1, ↓x_ifb0, ↓x_ifb1, ↓x_if00, ↓x_if10, x_addL, x_Ladd, x_mulL, x_Lmul, nI_add, pk_mul, nI_pred, if_true, if_false, x_m1, n_a0, x_ue, x_un, e3, h3, hth, ↓if_neg ht]; try simp (disch := omega) only [↓x_let, ↓x_nam, ↓x_put, ↓x_bX, ↓x_ob, ↓x_ald, ↓x_aldL, ↓x_ast, ↓x_astL, ↓x_at0, ↓x_at_0, ↓x_mk0, ↓x_at, ↓x_atL, ↓x_at_, ↓x_at_L, ↓x_mk, ↓x_mkL, ↓x_aald, ↓x_w, ↓x_wi, ↓ok_s, ↓x_ifle_t, ↓x_ifle_f, ↓x_iflt_t, ↓x_iflt_f, ↓x_ifeq_t, ↓x_ifeq_f, ↓x_ifleL_t, ↓x_ifleL_f, ↓x_ifltL_t, ↓x_ifltL_f, ↓x_ifeqL_t, ↓x_ifeqL_f, ↓x_ifLle_t, ↓x_ifLle_f, ↓x_ifLlt_t, ↓x_ifLlt_f, ↓x_ifnm1, ↓x_ifb0, ↓x_ifb1, ↓x_if00, ↓x_if10, x_addL, x_Ladd, x_mulL, x_Lmul, nI_add, pk_mul, nI_pred, if_true, if_false, x_m1, n_a0, x_ue, x_un, e3, h3, hth, ↓if_neg ht]; try simp (disch := omega) only [↓x_let, ↓x_nam, ↓x_put, ↓x_bX, ↓x_ob, ↓x_ald, ↓x_aldL, ↓x_ast, ↓x_astL, ↓x_at0, ↓x_at_0, ↓x_mk0, ↓x_at, ↓x_atL, ↓x_at_, ↓x_at_L, ↓x_mk, ↓x_mkL, ↓x_aald, ↓x_w, ↓x_wi, ↓ok_s, ↓x_ifle_t, ↓x_ifle_f, ↓x_iflt_t, ↓x_iflt_f, ↓x_ifeq_t, ↓x_ifeq_f, ↓x_ifleL_t, ↓x_ifleL_f, ↓x_ifltL_t, ↓x_ifltL_f, ↓x_ifeqL_t, ↓x_ifeqL_f, ↓x_ifLle_t, ↓x_ifLle_f, ↓x_ifLlt_t, ↓x_ifLlt_f, ↓x_ifnm1, ↓x_ifb0, ↓x_ifb1, ↓x_if00, ↓x_if10, x_addL, x_Ladd, x_mulL, x_Lmul, nI_add, pk_mul, nI_pred, if_true, if_false, x_m1, n_a0, x_ue, x_un, e3, h3, hth, ↓if_neg ht]
      rw [no (fun h9 => ht h9.2.1)]
      exact ⟨rfl, Fr.rf, h⟩
  · simp (disch := omega) only [↓x_let, ↓x_nam, ↓x_put, ↓x_bX, ↓x_ob, ↓x_ald, ↓x_aldL, ↓x_ast, ↓x_astL, ↓x_at0, ↓x_at_0, ↓x_mk0, ↓x_at, ↓x_atL, ↓x_at_, ↓x_at_L, ↓x_mk, ↓x_mkL, ↓x_aald, ↓x_w, ↓x_wi, ↓ok_s, ↓x_ifle_t, ↓x_ifle_f, ↓x_iflt_t, ↓x_iflt_f, ↓x_ifeq_t, ↓x_ifeq_f, ↓x_ifleL_t, ↓x_ifleL_f, ↓x_ifltL_t, ↓x_ifltL_f, ↓x_ifeqL_t, ↓x_ifeqL_f, ↓x_ifLle_t, ↓x_ifLle_f, ↓x_ifLlt_t, ↓x_ifLlt_f, ↓x_ifnm1, ↓x_ifb0, ↓x_ifb1, ↓x_if00, ↓x_if10, x_addL, x_Ladd, x_mulL, x_Lmul, nI_add, pk_mul, nI_pred, if_true, if_false, x_m1, n_a0, x_ue, x_un, e3, h.clo h3]; try simp (disch := omega) only [↓x_let, ↓x_nam, ↓x_put, ↓x_bX, ↓x_ob, ↓x_ald, ↓x_aldL, ↓x_ast, ↓x_astL, ↓x_at0, ↓x_at_0, ↓x_mk0, ↓x_at, ↓x_atL, ↓x_at_, ↓x_at_L, ↓x_mk, ↓x_mkL, ↓x_aald, ↓x_w, ↓x_wi, ↓ok_s, ↓x_ifle_t, ↓x_ifle_f, ↓x_iflt_t, ↓x_iflt_f, ↓x_ifeq_t, ↓x_ifeq_f, ↓x_ifleL_t, ↓x_ifleL_f, ↓x_ifltL_t, ↓x_ifltL_f, ↓x_ifeqL_t, ↓x_ifeqL_f, ↓x_ifLle_t, ↓x_ifLle_f, ↓x_ifLlt_t, ↓x_ifLlt_f, ↓x_ifnm1, ↓x_ifb0, ↓x_ifb1, ↓x_if00, ↓x_if10, x_addL, x_Ladd, x_mulL, x_Lmul, nI_add, pk_mul, nI_pred, if_true, if_false, x_m1, n_a0, x_ue, x_un, e3, h.clo h3]; try simp (disch := omega) only [↓x_let, ↓x_nam, ↓x_put, ↓x_bX, ↓x_ob, ↓x_ald, ↓x_aldL, ↓x_ast, ↓x_astL, ↓x_at0, ↓x_at_0, ↓x_mk0, ↓x_at, ↓x_atL, ↓x_at_, ↓x_at_L, ↓x_mk, ↓x_mkL, ↓x_aald, ↓x_w, ↓x_wi, ↓ok_s, ↓x_ifle_t, ↓x_ifle_f, ↓x_iflt_t, ↓x_iflt_f, ↓x_ifeq_t, ↓x_ifeq_f, ↓x_ifleL_t, ↓x_ifleL_f, ↓x_ifltL_t, ↓x_ifltL_f, ↓x_ifeqL_t, ↓x_ifeqL_f, ↓x_ifLle_t, ↓x_ifLle_f, ↓x_ifLlt_t, ↓x_ifLlt_f, ↓x_ifnm1, ↓x_ifb0, ↓x_ifb1, ↓x_if00, ↓x_if10, x_addL, x_Ladd, x_mulL, x_Lmul, nI_add, pk_mul, nI_pred, if_true, if_false, x_m1, n_a0, x_ue, x_un, e3, h.clo h3]; try simp (disch := omega) only [↓x_let, ↓x_nam, ↓x_put, ↓x_bX, ↓x_ob, ↓x_ald, ↓x_aldL, ↓x_ast, ↓x_astL, ↓x_at0, ↓x_at_0, ↓x_mk0, ↓x_at, ↓x_atL, ↓x_at_, ↓x_at_L, ↓x_mk, ↓x_mkL, ↓x_aald, ↓x_w, ↓x_wi, ↓ok_s, ↓x_ifle_t, ↓x_ifle_f, ↓x_iflt_t, ↓x_iflt_f, ↓x_ifeq_t, ↓x_ifeq_f, ↓x_ifleL_t, ↓x_ifleL_f, ↓x_ifltL_t, ↓x_ifltL_f, ↓x_ifeqL_t, ↓x_ifeqL_f, ↓x_ifLle_t, ↓x_ifLle_f, ↓x_ifLlt_t, ↓x_ifLlt_f, ↓x_ifnm1, ↓x_ifb0, ↓x_ifb1, ↓x_if00, ↓x_if10, x_addL, x_Ladd, x_mulL, x_Lmul, nI_add, pk_mul, nI_pred, if_true, if_false, x_m1, n_a0, x_ue, x_un, e3, h.clo h3]
    rw [no (fun h9 => h3 h9.1)]
    exact ⟨rfl, Fr.rf, h⟩
