/-! 6b.quit2: class and model quit alike -/
theorem kpt_cong {f g : Nat → Int32} {x : Int32} {q : Nat} (h : ∀ k, k < q → f k = g k) : ∀ i, i ≤ q → fb_ct (kpt f x) i = fb_ct (kpt g x) i := fun i hi => fb_ct_cong (fun k hk => by unfold kpt; rw [h k (by omega)])
theorem j_quit {d dm : z_D} {o b t n s : Nat} (h : St d b (dm (o + 1)) t n s) (x : Int32) : ok (f_X3_dropRider d b x) (fun v => ok (f_X9_quits dm o x) (fun w => v.1 = w.1 ∧ bl v.1 ∧ Fr b d v.2 ∧ (∀ a, ¬ a = o + 1 → w.2 a = dm a) ∧ St v.2 b (w.2 (o + 1)) t n s)) := by
  have hm := m_quit h x
  have hth := k_isIn h x
  have e3 : d b 3 = dm (o + 1) 3 := h.2.1.2.2.2.1
  have zero : ¬ (dm (o + 1) 3 = 1 ∧ th (dm (o + 1)) x) → ok (f_X9_quits dm o x) (fun w => (0 : Int32) = w.1 ∧ bl 0 ∧ Fr b d d ∧ (∀ a, ¬ a = o + 1 → w.2 a = dm a) ∧ St d b (w.2 (o + 1)) t n s) := by
    intro hn
    refine ok_m hm (fun w hw => ?_)
    rcases hw with ⟨-, rfl⟩ | ⟨hw, -⟩
    · exact ⟨rfl, Or.inl rfl, Fr.rf, fun _ _ => rfl, h⟩
    · exact absurd hw hn
  unfold f_X3_dropRider
  by_cases h3 : dm (o + 1) 3 = 1
  · obtain ⟨L, rfl, hL, hB, h2⟩ := h.opn h3
    have e2 : d b 2 = nI (L + 1) := by rw [h.2.1.2.2.1, h2]
    by_cases ht : th (dm (o + 1)) x
    · obtain ⟨r, hr, rfl, hin⟩ := (th_iff h.1.2.1.1 h.1.2.1.2).mp ht
      have hn16 := h.1.2.1.2
      have h60 := id h
      obtain ⟨s1, s2, ⟨c0, c1, c2⟩, ⟨M, M1, M2, M3⟩, s5, s6⟩ := h.2.2.2.1 L (by omega)
      rw [nI_clamp (by omega), show L + 1 - 1 = L by omega, M2, nI_clamp (by omega)] at hm
      simp (disch := omega) only [↓x_let, ↓x_nam, ↓x_put, ↓x_bX, ↓x_ob, ↓x_ald, ↓x_aldL, ↓x_ast, ↓x_astL, ↓x_at0, ↓x_at_0, ↓x_mk0, ↓x_at, ↓x_atL, ↓x_at_, ↓x_at_L, ↓x_mk, ↓x_mkL, ↓x_aald, ↓x_w, ↓x_wi, ↓ok_s, ↓x_ifle_t, ↓x_ifle_f, ↓x_iflt_t, ↓x_iflt_f, ↓x_ifeq_t, ↓x_ifeq_f, ↓x_ifleL_t, ↓x_ifleL_f, ↓x_ifltL_t, ↓x_ifltL_f, ↓x_ifeqL_t, ↓x_ifeqL_f, ↓x_ifLle_t, ↓x_ifLle_f, ↓x_ifLlt_t, ↓x_ifLlt_f, ↓x_ifnm1, ↓x_ifb0, ↓x_ifb1, ↓x_if00, ↓x_if10, x_addL, x_Ladd, x_mulL, x_Lmul, nI_add, pk_mul, nI_pred, if_true, if_false, x_m1, n_a0, x_ue, x_un, e2, e3, h3, hth, ↓if_pos ht]; try simp (disch := omega) only [↓x_let, ↓x_nam, ↓x_put, ↓x_bX, ↓x_ob, ↓x_ald, ↓x_aldL, ↓x_ast, ↓x_astL, ↓x_at0, ↓x_at_0, ↓x_mk0, ↓x_at, ↓x_atL, ↓x_at_, ↓x_at_L, ↓x_mk, ↓x_mkL, ↓x_aald, ↓x_w, ↓x_wi, ↓ok_s, ↓x_ifle_t, ↓x_ifle_f, ↓x_iflt_t, ↓x_iflt_f, ↓x_ifeq_t, ↓x_ifeq_f, ↓x_ifleL_t, ↓x_ifleL_f, ↓x_ifltL_t, ↓x_ifltL_f, ↓x_ifeqL_t, ↓x_ifeqL_f, ↓x_ifLle_t, ↓x_ifLle_f, ↓x_ifLlt_t, ↓x_ifLlt_f, ↓x_ifnm1, ↓x_ifb0, ↓x_ifb1, ↓x_if00, ↓x_if10, x_addL, x_Ladd, x_mulL, x_Lmul, nI_add, pk_mul, nI_pred, if_true, if_false, x_m1, n_a0, x_ue, x_un, e2, e3, h3, hth, ↓if_pos ht]; try simp (disch := omega) only [↓x_let, ↓x_nam, ↓x_put, ↓x_bX, ↓x_ob, ↓x_ald, ↓x_aldL, ↓x_ast, ↓x_astL, ↓x_at0, ↓x_at_0, ↓x_mk0, ↓x_at, ↓x_atL, ↓x_at_, ↓x_at_L, ↓x_mk, ↓x_mkL, ↓x_aald, ↓x_w, ↓x_wi, ↓ok_s, ↓x_ifle_t, ↓x_ifle_f, ↓x_iflt_t, ↓x_iflt_f, ↓x_ifeq_t, ↓x_ifeq_f, ↓x_ifleL_t, ↓x_ifleL_f, ↓x_ifltL_t, ↓x_ifltL_f, ↓x_ifeqL_t, ↓x_ifeqL_f, ↓x_ifLle_t, ↓x_ifLle_f, ↓x_ifLlt_t, ↓x_ifLlt_f, ↓x_ifnm1, ↓x_ifb0, ↓x_ifb1, ↓x_if00, ↓x_if10, x_addL, x_Ladd, x_mulL, x_Lmul, nI_add, pk_mul, nI_pred, if_true, if_false, x_m1, n_a0, x_ue, x_un, e2, e3, h3, hth, ↓if_pos ht]; try simp (disch := omega) only [↓x_let, ↓x_nam, ↓x_put, ↓x_bX, ↓x_ob, ↓x_ald, ↓x_aldL, ↓x_ast, ↓x_astL, ↓x_at0, ↓x_at_0, ↓x_mk0, ↓x_at, ↓x_atL, ↓x_at_, ↓x_at_L, ↓x_mk, ↓x_mkL, ↓x_aald, ↓x_w, ↓x_wi, ↓ok_s, ↓x_ifle_t, ↓x_ifle_f, ↓x_iflt_t, ↓x_iflt_f, ↓x_ifeq_t, ↓x_ifeq_f, ↓x_ifleL_t, ↓x_ifleL_f, ↓x_ifltL_t, ↓x_ifltL_f, ↓x_ifeqL_t, ↓x_ifeqL_f, ↓x_ifLle_t, ↓x_ifLle_f, ↓x_ifLlt_t, ↓x_ifLlt_f, ↓x_ifnm1, ↓x_ifb0, ↓x_ifb1, ↓x_if00, ↓x_if10, x_addL, x_Ladd, x_mulL, x_Lmul, nI_add, pk_mul, nI_pred, if_true, if_false, x_m1, n_a0, x_ue, x_un, e2, e3, h3, hth, ↓if_pos ht]
      rw [ok_b]
      refine ok_m (q_X4_forget (d := d) (c := b + 5 + 21 * L) (M := M) (r := r) (by omega) M1 (by rw [c2, M2]) (fun m hm9 => by
        obtain ⟨-, -, ⟨q, q1, q2, -⟩, -, -, n6⟩ := M3 m hm9
        exact ⟨q, q1, by rw [n6, q2]⟩)) (fun d1 hF => ?_)
      obtain ⟨f1, ⟨f10, f11, f12, f13, f14⟩, f7, f5⟩ := hF
      have e00 : (0 : Int32) &&& 1 = 0 := by decide
      simp (disch := omega) only [↓x_let, ↓x_nam, ↓x_put, ↓x_bX, ↓x_ob, ↓x_ald, ↓x_aldL, ↓x_ast, ↓x_astL, ↓x_at0, ↓x_at_0, ↓x_mk0, ↓x_at, ↓x_atL, ↓x_at_, ↓x_at_L, ↓x_mk, ↓x_mkL, ↓x_aald, ↓x_w, ↓x_wi, ↓ok_s, ↓x_ifle_t, ↓x_ifle_f, ↓x_iflt_t, ↓x_iflt_f, ↓x_ifeq_t, ↓x_ifeq_f, ↓x_ifleL_t, ↓x_ifleL_f, ↓x_ifltL_t, ↓x_ifltL_f, ↓x_ifeqL_t, ↓x_ifeqL_f, ↓x_ifLle_t, ↓x_ifLle_f, ↓x_ifLlt_t, ↓x_ifLlt_f, ↓x_ifnm1, ↓x_ifb0, ↓x_ifb1, ↓x_if00, ↓x_if10, x_addL, x_Ladd, x_mulL, x_Lmul, nI_add, pk_mul, nI_pred, if_true, if_false, x_m1, n_a0, x_ue, x_un, e00]; try simp (disch := omega) only [↓x_let, ↓x_nam, ↓x_put, ↓x_bX, ↓x_ob, ↓x_ald, ↓x_aldL, ↓x_ast, ↓x_astL, ↓x_at0, ↓x_at_0, ↓x_mk0, ↓x_at, ↓x_atL, ↓x_at_, ↓x_at_L, ↓x_mk, ↓x_mkL, ↓x_aald, ↓x_w, ↓x_wi, ↓ok_s, ↓x_ifle_t, ↓x_ifle_f, ↓x_iflt_t, ↓x_iflt_f, ↓x_ifeq_t, ↓x_ifeq_f, ↓x_ifleL_t, ↓x_ifleL_f, ↓x_ifltL_t, ↓x_ifltL_f, ↓x_ifeqL_t, ↓x_ifeqL_f, ↓x_ifLle_t, ↓x_ifLle_f, ↓x_ifLlt_t, ↓x_ifLlt_f, ↓x_ifnm1, ↓x_ifb0, ↓x_ifb1, ↓x_if00, ↓x_if10, x_addL, x_Ladd, x_mulL, x_Lmul, nI_add, pk_mul, nI_pred, if_true, if_false, x_m1, n_a0, x_ue, x_un, e00]; try simp (disch := omega) only [↓x_let, ↓x_nam, ↓x_put, ↓x_bX, ↓x_ob, ↓x_ald, ↓x_aldL, ↓x_ast, ↓x_astL, ↓x_at0, ↓x_at_0, ↓x_mk0, ↓x_at, ↓x_atL, ↓x_at_, ↓x_at_L, ↓x_mk, ↓x_mkL, ↓x_aald, ↓x_w, ↓x_wi, ↓ok_s, ↓x_ifle_t, ↓x_ifle_f, ↓x_iflt_t, ↓x_iflt_f, ↓x_ifeq_t, ↓x_ifeq_f, ↓x_ifleL_t, ↓x_ifleL_f, ↓x_ifltL_t, ↓x_ifltL_f, ↓x_ifeqL_t, ↓x_ifeqL_f, ↓x_ifLle_t, ↓x_ifLle_f, ↓x_ifLlt_t, ↓x_ifLlt_f, ↓x_ifnm1, ↓x_ifb0, ↓x_ifb1, ↓x_if00, ↓x_if10, x_addL, x_Ladd, x_mulL, x_Lmul, nI_add, pk_mul, nI_pred, if_true, if_false, x_m1, n_a0, x_ue, x_un, e00]; try simp (disch := omega) only [↓x_let, ↓x_nam, ↓x_put, ↓x_bX, ↓x_ob, ↓x_ald, ↓x_aldL, ↓x_ast, ↓x_astL, ↓x_at0, ↓x_at_0, ↓x_mk0, ↓x_at, ↓x_atL, ↓x_at_, ↓x_at_L, ↓x_mk, ↓x_mkL, ↓x_aald, ↓x_w, ↓x_wi, ↓ok_s, ↓x_ifle_t, ↓x_ifle_f, ↓x_iflt_t, ↓x_iflt_f, ↓x_ifeq_t, ↓x_ifeq_f, ↓x_ifleL_t, ↓x_ifleL_f, ↓x_ifltL_t, ↓x_ifltL_f, ↓x_ifeqL_t, ↓x_ifeqL_f, ↓x_ifLle_t, ↓x_ifLle_f, ↓x_ifLlt_t, ↓x_ifLlt_f, ↓x_ifnm1, ↓x_ifb0, ↓x_ifb1, ↓x_if00, ↓x_if10, x_addL, x_Ladd, x_mulL, x_Lmul, nI_add, pk_mul, nI_pred, if_true, if_false, x_m1, n_a0, x_ue, x_un, e00]
      refine ok_m hm (fun w hw => ?_)
      rcases hw with ⟨hw, -⟩ | ⟨-, hw1, d2, ⟨g1, g2⟩, g3, g4, g5⟩
      · exact absurd ⟨h3, ht⟩ hw
      have G : ∀ k, k < 56 ∨ 56 + 325 * L + 325 ≤ k ∨ (56 + 325 * L ≤ k ∧ k < 69 + 325 * L) ∨ 183 + 325 * L ≤ k → k ≠ 10 + 3 * r → (k < 183 + 325 * L + 12 * r ∨ 195 + 325 * L + 12 * r ≤ k) → w.2 (o + 1) k = dm (o + 1) k := fun k k1 k2 k3 => by rw [g1 _ _ (by omega), g3 _ _ (by omega)]
      have G2 : ∀ k, (k < 69 + 325 * L ∨ 183 + 325 * L ≤ k) → k ≠ 10 + 3 * r → (k < 183 + 325 * L + 12 * r ∨ 195 + 325 * L + 12 * r ≤ k) → w.2 (o + 1) k = dm (o + 1) k := fun k k1 k2 k3 => by rw [g1 _ _ (by omega), g3 _ _ (by omega)]
      have Gr : ∀ w', w' < 12 → w.2 (o + 1) (183 + 325 * L + 12 * r + w') = if w' = 1 then -1 else 0 := fun w' hw' => by rw [g1 _ _ (by omega)]; exact g5 w' hw'
      have Gin : w.2 (o + 1) (10 + 3 * r) = 0 := by rw [g1 _ _ (by omega)]; exact g4
      have r0 := Gr 0 (by omega)
      have r1 := Gr 1 (by omega)
      have r3 := Gr 3 (by omega)
      have r4 := Gr 4 (by omega)
      rw [if_neg (by omega)] at r0 r3 r4
      rw [if_pos rfl] at r1
      refine ⟨by rw [hw1], Or.inr rfl, ?_, ?_, ?_⟩
      · intro a ha
        rw [u_a (by omega)]
        funext k
        exact f1 _ _ (by omega) (by omega) (by omega) (by omega)
      · intro a ha
        funext k
        rw [g1 _ _ (by omega), g3 _ _ (by omega)]
      · obtain ⟨a1, a2, a3, a4, a5, a6, a7, a8⟩ := h60
        have hop := a5 h3
        rw [show L + 1 - 1 = L by omega] at hop
        have D : ∀ a k, a < b + 5 + 21 * L ∨ b + 5 + 21 * L + 21 ≤ a → ¬ (a = b + 3 ∧ k = r) → z_up d1 (b + 3) r 0 a k = d a k := fun a k k1 k2 => by rw [x_un (by omega), f1 _ _ (by omega) (by omega) (by omega) (by omega)]
        refine ⟨?_, ?_, fun q hq => ?_, fun j hj => ?_, fun _ => ?_, fun j hj hc => ?_, fun q hq => ?_, fun j hj => ?_⟩
        · unfold R_cnt
          rw [G2 0 (by omega) (by omega) (by omega), G2 1 (by omega) (by omega) (by omega), G2 2 (by omega) (by omega) (by omega), G2 3 (by omega) (by omega) (by omega), G2 4 (by omega) (by omega) (by omega), G2 5 (by omega) (by omega) (by omega)]
          exact a1
        · unfold SC
          rw [D _ _ (by omega) (by omega), D _ _ (by omega) (by omega), D _ _ (by omega) (by omega), D _ _ (by omega) (by omega), D _ _ (by omega) (by omega), D _ _ (by omega) (by omega), G2 0 (by omega) (by omega) (by omega), G2 1 (by omega) (by omega) (by omega), G2 2 (by omega) (by omega) (by omega), G2 3 (by omega) (by omega) (by omega), G2 4 (by omega) (by omega) (by omega), G2 5 (by omega) (by omega) (by omega)]
          exact a2
        · have hri := a3 q hq
          by_cases hqr : q = r
          · subst hqr
            obtain ⟨i1, i2, i3, i4, i5, i6⟩ := hri
            unfold RI
            rw [Gin, x_ue rfl rfl, D _ _ (by omega) (by omega), D _ _ (by omega) (by omega), G2 _ (by omega) (by omega) (by omega), G2 (9 + 3 * q) (by omega) (by omega) (by omega)]
            exact ⟨i1, i2, Or.inl rfl, i4, i5, rfl⟩
          · unfold RI
            rw [D _ _ (by omega) (by omega), D _ _ (by omega) (by omega), D _ _ (by omega) (by omega), G2 _ (by omega) (by omega) (by omega), G2 (9 + 3 * q) (by omega) (by omega) (by omega), G2 (10 + 3 * q) (by omega) (by omega) (by omega)]
            exact hri
        · by_cases hjL : j = L
          · subst hjL
            have C : ∀ a k, b + 5 + 21 * j ≤ a → a < b + 5 + 21 * j + 21 → z_up d1 (b + 3) r 0 a k = d1 a k := fun a k k1 k2 => x_un (by omega)
            refine ⟨?_, ?_, ?_, ⟨M, M1, by rw [G2 _ (by omega) (by omega) (by omega), M2], fun m hm9 => ?_⟩, fun q hq => ?_, ?_⟩
            · rw [G2 _ (by omega) (by omega) (by omega)]; exact s1
            · rw [G2 _ (by omega) (by omega) (by omega)]; exact s2
            · rw [C _ _ (by omega) (by omega), C _ _ (by omega) (by omega), C _ _ (by omega) (by omega), f1 _ _ (by omega) (by omega) (by omega) (by omega), f1 _ _ (by omega) (by omega) (by omega) (by omega), f1 _ _ (by omega) (by omega) (by omega) (by omega), G2 _ (by omega) (by omega) (by omega), G2 _ (by omega) (by omega) (by omega), G2 _ (by omega) (by omega) (by omega)]
              exact ⟨c0, c1, c2⟩
            · obtain ⟨n1, n2, ⟨q, q1, q2, q3, q4⟩, n4, n5, n6⟩ := M3 m hm9
              obtain ⟨v1, v2, v3⟩ := g2 m hm9
              have dd : ∀ k, 69 + 325 * j ≤ k → k < 183 + 325 * j → d2 (o + 1) k = dm (o + 1) k := fun k k1 k2 => g3 _ _ (by omega)
              obtain ⟨u1, u2⟩ := v3 q q1 (by rw [dd _ (by omega) (by omega), ← q2, show 69 + 325 * j + 19 * m + 2 = 56 + 325 * j + 15 + 19 * m by omega])
              obtain ⟨y1, y2⟩ := f5 m q hm9 q1 (by rw [n6, q2])
              have hcc := kpt_cong (f := fun k => d (b + 5 + 21 * j + 5) (16 * m + k)) (g := fun k => d2 (o + 1) (69 + 325 * j + 19 * m + (3 + k))) (x := nI r) (q := q) (fun k hk => by
                obtain ⟨y, z1, z2, z3⟩ := q3 k hk
                show d (b + 5 + 21 * j + 5) (16 * m + k) = d2 (o + 1) (69 + 325 * j + 19 * m + (3 + k))
                rw [dd _ (by omega) (by omega), z3, ← z2, show 69 + 325 * j + 19 * m + (3 + k) = 56 + 325 * j + 16 + 19 * m + k by omega])
              have hle := fb_ct_le (kpt (fun k => d2 (o + 1) (69 + 325 * j + 19 * m + (3 + k))) (nI r)) q
              have kth : ∀ k, k < fb_ct (kpt (fun k => d2 (o + 1) (69 + 325 * j + 19 * m + (3 + k))) (nI r)) q → ∃ i y, i < q ∧ fb_ct (kpt (fun k => d2 (o + 1) (69 + 325 * j + 19 * m + (3 + k))) (nI r)) i = k ∧ y < n ∧ dm (o + 1) (56 + 325 * j + 16 + 19 * m + i) = nI y ∧ w.2 (o + 1) (56 + 325 * j + 16 + 19 * m + k) = nI y ∧ d1 (b + 5 + 21 * j + 5) (16 * m + k) = nI y := by
                intro k hk
                obtain ⟨i, i1, i2, i3⟩ := fb_ct_kth hk
                obtain ⟨y, z1, z2, z3⟩ := q3 i i1
                have hk9 : d2 (o + 1) (69 + 325 * j + 19 * m + (3 + i)) = nI y := by
                  rw [dd _ (by omega) (by omega), ← z2, show 69 + 325 * j + 19 * m + (3 + i) = 56 + 325 * j + 16 + 19 * m + i by omega]
                have hne : ¬ d2 (o + 1) (69 + 325 * j + 19 * m + (3 + i)) = nI r := of_decide_eq_true i2
                refine ⟨i, y, i1, i3, z1, z2, ?_, ?_⟩
                · have := u2 i i1 hne
                  rw [i3, hk9] at this
                  rw [← this, show 69 + 325 * j + 19 * m + (3 + k) = 56 + 325 * j + 16 + 19 * m + k by omega]
                · have := y2 i i1 (by rw [z3]; rw [hk9] at hne; exact hne)
                  rw [hcc i (by omega), i3, z3] at this
                  exact this
              refine ⟨?_, ?_, ⟨fb_ct (kpt (fun k => d2 (o + 1) (69 + 325 * j + 19 * m + (3 + k))) (nI r)) q, by omega, ?_, fun k hk => ?_, fun i j' hij hj' => ?_⟩, ?_, ?_, ?_⟩
              · rw [show 56 + 325 * j + 13 + 19 * m = 69 + 325 * j + 19 * m by omega] at n1 ⊢
                rw [v1, dd _ (by omega) (by omega)]
                exact n1
              · rw [show 56 + 325 * j + 14 + 19 * m = 69 + 325 * j + 19 * m + 1 by omega] at n2 ⊢
                rw [v2, dd _ (by omega) (by omega)]
                exact n2
              · rw [show 56 + 325 * j + 15 + 19 * m = 69 + 325 * j + 19 * m + 2 by omega, u1]
              · obtain ⟨i, y, i1, i2, z1, z2, z3, z4⟩ := kth k hk
                exact ⟨y, z1, z3, by rw [C _ _ (by omega) (by omega)]; exact z4⟩
              · obtain ⟨i1, y1', p1, p2, p3, p4, p5, p6⟩ := kth i (by omega)
                obtain ⟨i2, y2', p1', p2', p3', p4', p5', p6'⟩ := kth j' hj'
                rw [p5, p5']
                intro h9
                have hii : i1 = i2 := by
                  rcases Nat.lt_trichotomy i1 i2 with h8 | h8 | h8
                  · exact absurd (by rw [p4, p4']; exact h9) (q4 i1 i2 h8 p1')
                  · exact h8
                  · exact absurd (by rw [p4, p4']; exact h9.symm) (q4 i2 i1 h8 p1)
                subst hii
                omega
              · rw [C _ _ (by omega) (by omega), f1 _ _ (by omega) (by omega) (by omega) (by omega), n4, show 56 + 325 * j + 13 + 19 * m = 69 + 325 * j + 19 * m by omega, v1, dd _ (by omega) (by omega)]
              · rw [C _ _ (by omega) (by omega), f1 _ _ (by omega) (by omega) (by omega) (by omega), n5, show 56 + 325 * j + 14 + 19 * m = 69 + 325 * j + 19 * m + 1 by omega, v2, dd _ (by omega) (by omega)]
              · rw [C _ _ (by omega) (by omega), y1, show 56 + 325 * j + 15 + 19 * m = 69 + 325 * j + 19 * m + 2 by omega, u1, hcc q (Nat.le_refl q)]
            · by_cases hqr : q = r
              · subst hqr
                refine ⟨⟨0, by omega, ?_, fun _ => rfl⟩, Or.inl ?_, ⟨0, by omega, ?_⟩, Or.inl ?_, ?_, ?_, ?_, ?_⟩
                · rw [show 56 + 325 * j + 127 + 12 * q = 183 + 325 * j + 12 * q + 0 by omega, r0, nI_0]
                · rw [show 56 + 325 * j + 128 + 12 * q = 183 + 325 * j + 12 * q + 1 by omega, r1]
                · rw [show 56 + 325 * j + 130 + 12 * q = 183 + 325 * j + 12 * q + 3 by omega, r3, nI_0]
                · rw [show 56 + 325 * j + 131 + 12 * q = 183 + 325 * j + 12 * q + 4 by omega, r4]
                · rw [C _ _ (by omega) (by omega), f10, show 56 + 325 * j + 127 + 12 * q = 183 + 325 * j + 12 * q + 0 by omega, r0]
                · rw [C _ _ (by omega) (by omega), f11, show 56 + 325 * j + 128 + 12 * q = 183 + 325 * j + 12 * q + 1 by omega, r1]
                · rw [C _ _ (by omega) (by omega), f13, show 56 + 325 * j + 130 + 12 * q = 183 + 325 * j + 12 * q + 3 by omega, r3]
                · rw [C _ _ (by omega) (by omega), f14, show 56 + 325 * j + 131 + 12 * q = 183 + 325 * j + 12 * q + 4 by omega, r4]
              · exact (s5 q hq).congr (Nat.le_refl _) (fun a a1 a2 => by rw [C _ _ (by omega) (by omega), f1 _ _ (by omega) (by omega) (by omega) (by omega)]) (fun k k1 k2 => G2 _ (by omega) (by omega) (by omega))
            · rw [C _ _ (by omega) (by omega), f7, s6]
              have ho := ordK_upd (fin := rfin (dm (o + 1)) (56 + 325 * j)) (fin' := rfin (w.2 (o + 1)) (56 + 325 * j)) (show r < 16 by omega) (fun q hq hqr => G2 _ (by omega) (by omega) (by omega))
              have o2 : rfin (w.2 (o + 1)) (56 + 325 * j) r = 0 := by
                unfold rfin
                rw [show 56 + 325 * j + 127 + 12 * r = 183 + 325 * j + 12 * r + 0 by omega, r0]
              have o3 : d (b + 5 + 21 * j + 10) r = rfin (dm (o + 1)) (56 + 325 * j) r := (s5 r (by omega)).2.2.2.2.1
              rw [if_pos o2] at ho
              rw [o3]
              by_cases h0 : rfin (dm (o + 1)) (56 + 325 * j) r = 0
              · rw [if_pos h0] at ho ⊢
                exact congrArg nI (by omega)
              · rw [if_neg h0] at ho ⊢
                rw [← show ordK (rfin (w.2 (o + 1)) (56 + 325 * j)) 16 + 1 = ordK (rfin (dm (o + 1)) (56 + 325 * j)) 16 by omega, nI_pred]
          · exact (a4 j hj).congr (Nat.le_refl _) (fun a x1 x2 => by funext k; exact D _ _ (by omega) (by omega)) (fun k k1 k2 => G2 _ (by omega) (by omega) (by omega))
        · rw [show L + 1 - 1 = L by omega]
          intro q w' hq w1 w2
          by_cases hqr : q = r
          · subst hqr
            have := Gr w' w2
            rw [if_neg (by omega)] at this
            rw [← this, show 56 + 325 * L + 127 + 12 * q + w' = 183 + 325 * L + 12 * q + w' by omega]
          · rw [G2 _ (by omega) (by omega) (by omega)]
            exact hop q w' hq w1 w2
        · have hj2 := hc (by rw [G2 3 (by omega) (by omega) (by omega)]; exact h3)
          exact (a6 j hj (fun _ => hj2)).congr (fun a x1 x2 => by funext k; exact D _ _ (by omega) (by omega)) (fun k k1 k2 => G2 _ (by omega) (by omega) (by omega))
        · by_cases hqr : q = r
          · subst hqr
            rw [x_ue rfl rfl]
            exact Or.inl rfl
          · rw [D _ _ (by omega) (by omega)]
            exact a7 q hq
        · have hb := a8 j hj
          by_cases hjL : j = L
          · subst hjL
            refine ⟨by rw [x_un (by omega), f1 _ _ (by omega) (by omega) (by omega) (by omega)]; exact hb.1, fun q hq => ⟨?_, by rw [x_un (by omega), f1 _ _ (by omega) (by omega) (by omega) (by omega)]; exact (hb.2 q hq).2⟩⟩
            by_cases hqr : q = r
            · subst hqr
              rw [x_un (by omega), f14]
              exact Or.inl rfl
            · rw [x_un (by omega), f1 _ _ (by omega) (by omega) (by omega) (by omega)]
              exact (hb.2 q hq).1
          · refine ⟨by rw [D _ _ (by omega) (by omega)]; exact hb.1, fun q hq => ?_⟩
            rw [D _ _ (by omega) (by omega), D _ _ (by omega) (by omega)]
            exact hb.2 q hq
    · simp (disch := omega) only [↓x_let, ↓x_nam, ↓x_put, ↓x_bX, ↓x_ob, ↓x_ald, ↓x_aldL, ↓x_ast, ↓x_astL, ↓x_at0, ↓x_at_0, ↓x_mk0, ↓x_at, ↓x_atL, ↓x_at_, ↓x_at_L, ↓x_mk, ↓x_mkL, ↓x_aald, ↓x_w, ↓x_wi, ↓ok_s, ↓x_ifle_t, ↓x_ifle_f, ↓x_iflt_t, ↓x_iflt_f, ↓x_ifeq_t, ↓x_ifeq_f, ↓x_ifleL_t, ↓x_ifleL_f, ↓x_ifltL_t, ↓x_ifltL_f, ↓x_ifeqL_t, ↓x_ifeqL_f, ↓x_ifLle_t, ↓x_ifLle_f, ↓x_ifLlt_t, ↓x_ifLlt_f, ↓x_ifnm1, ↓x_ifb0, ↓x_ifb1, ↓x_if00, ↓x_if10, x_addL, x_Ladd, x_mulL, x_Lmul, nI_add, pk_mul, nI_pred, if_true, if_false, x_m1, n_a0, x_ue, x_un, e3, h3, hth, ↓if_neg ht]; try simp (disch := omega) only [↓x_let, ↓x_nam, ↓x_put, ↓x_bX, ↓x_ob, ↓x_ald, ↓x_aldL, ↓x_ast, ↓x_astL, ↓x_at0, ↓x_at_0, ↓x_mk0, ↓x_at, ↓x_atL, ↓x_at_, ↓x_at_L, ↓x_mk, ↓x_mkL, ↓x_aald, ↓x_w, ↓x_wi, ↓ok_s, ↓x_ifle_t, ↓x_ifle_f, ↓x_iflt_t, ↓x_iflt_f, ↓x_ifeq_t, ↓x_ifeq_f, ↓x_ifleL_t, ↓x_ifleL_f, ↓x_ifltL_t, ↓x_ifltL_f, ↓x_ifeqL_t, ↓x_ifeqL_f, ↓x_ifLle_t, ↓x_ifLle_f, ↓x_ifLlt_t, ↓x_ifLlt_f, ↓x_ifnm1, ↓x_ifb0, ↓x_ifb1, ↓x_if00, ↓x_if10, x_addL, x_Ladd, x_mulL, x_Lmul, nI_add, pk_mul, nI_pred, if_true, if_false, x_m1, n_a0, x_ue, x_un, e3, h3, hth, ↓if_neg ht]; try simp (disch := omega) only [↓x_let, ↓x_nam, ↓x_put, ↓x_bX, ↓x_ob, ↓x_ald, ↓x_aldL, ↓x_ast, ↓x_astL, ↓x_at0, ↓x_at_0, ↓x_mk0, ↓x_at, ↓x_atL, ↓x_at_, ↓x_at_L, ↓x_mk, ↓x_mkL, ↓x_aald, ↓x_w, ↓x_wi, ↓ok_s, ↓x_ifle_t, ↓x_ifle_f, ↓x_iflt_t, ↓x_iflt_f, ↓x_ifeq_t, ↓x_ifeq_f, ↓x_ifleL_t, ↓x_ifleL_f, ↓x_ifltL_t, ↓x_ifltL_f, ↓x_ifeqL_t, ↓x_ifeqL_f, ↓x_ifLle_t, ↓x_ifLle_f, ↓x_ifLlt_t, ↓x_ifLlt_f, ↓x_ifnm1, ↓x_ifb0, ↓x_ifb1, ↓x_if00, ↓x_if10, x_addL, x_Ladd, x_mulL, x_Lmul, nI_add, pk_mul, nI_pred, if_true, if_false, x_m1, n_a0, x_ue, x_un, e3, h3, hth, ↓if_neg ht]; try simp (disch := omega) only [↓x_let, ↓x_nam, ↓x_put, ↓x_bX, ↓x_ob, ↓x_ald, ↓x_aldL, ↓x_ast, ↓x_astL, ↓x_at0, ↓x_at_0, ↓x_mk0, ↓x_at, ↓x_atL, ↓x_at_, ↓x_at_L, ↓x_mk, ↓x_mkL, ↓x_aald, ↓x_w, ↓x_wi, ↓ok_s, ↓x_ifle_t, ↓x_ifle_f, ↓x_iflt_t, ↓x_iflt_f, ↓x_ifeq_t, ↓x_ifeq_f, ↓x_ifleL_t, ↓x_ifleL_f, ↓x_ifltL_t, ↓x_ifltL_f, ↓x_ifeqL_t, ↓x_ifeqL_f, ↓x_ifLle_t, ↓x_ifLle_f, ↓x_ifLlt_t, ↓x_ifLlt_f, ↓x_ifnm1, ↓x_ifb0, ↓x_ifb1, ↓x_if00, ↓x_if10, x_addL, x_Ladd, x_mulL, x_Lmul, nI_add, pk_mul, nI_pred, if_true, if_false, x_m1, n_a0, x_ue, x_un, e3, h3, hth, ↓if_neg ht]
      exact zero (fun h9 => ht h9.2)
  · simp (disch := omega) only [↓x_let, ↓x_nam, ↓x_put, ↓x_bX, ↓x_ob, ↓x_ald, ↓x_aldL, ↓x_ast, ↓x_astL, ↓x_at0, ↓x_at_0, ↓x_mk0, ↓x_at, ↓x_atL, ↓x_at_, ↓x_at_L, ↓x_mk, ↓x_mkL, ↓x_aald, ↓x_w, ↓x_wi, ↓ok_s, ↓x_ifle_t, ↓x_ifle_f, ↓x_iflt_t, ↓x_iflt_f, ↓x_ifeq_t, ↓x_ifeq_f, ↓x_ifleL_t, ↓x_ifleL_f, ↓x_ifltL_t, ↓x_ifltL_f, ↓x_ifeqL_t, ↓x_ifeqL_f, ↓x_ifLle_t, ↓x_ifLle_f, ↓x_ifLlt_t, ↓x_ifLlt_f, ↓x_ifnm1, ↓x_ifb0, ↓x_ifb1, ↓x_if00, ↓x_if10, x_addL, x_Ladd, x_mulL, x_Lmul, nI_add, pk_mul, nI_pred, if_true, if_false, x_m1, n_a0, x_ue, x_un, e3, h.clo h3]; try simp (disch := omega) only [↓x_let, ↓x_nam, ↓x_put, ↓x_bX, ↓x_ob, ↓x_ald, ↓x_aldL, ↓x_ast, ↓x_astL, ↓x_at0, ↓x_at_0, ↓x_mk0, ↓x_at, ↓x_atL, ↓x_at_, ↓x_at_L, ↓x_mk, ↓x_mkL, ↓x_aald, ↓x_w, ↓x_wi, ↓ok_s, ↓x_ifle_t, ↓x_ifle_f, ↓x_iflt_t, ↓x_iflt_f, ↓x_ifeq_t, ↓x_ifeq_f, ↓x_ifleL_t, ↓x_ifleL_f, ↓x_ifltL_t, ↓x_ifltL_f, ↓x_ifeqL_t, ↓x_ifeqL_f, ↓x_ifLle_t, ↓x_ifLle_f, ↓x_ifLlt_t, ↓x_ifLlt_f, ↓x_ifnm1, ↓x_ifb0, ↓x_ifb1, ↓x_if00, ↓x_if10, x_addL, x_Ladd, x_mulL, x_Lmul, nI_add, pk_mul, nI_pred, if_true, if_false, x_m1, n_a0, x_ue, x_un, e3, h.clo h3]; try simp (disch := omega) only [↓x_let, ↓x_nam, ↓x_put, ↓x_bX, ↓x_ob, ↓x_ald, ↓x_aldL, ↓x_ast, ↓x_astL, ↓x_at0, ↓x_at_0, ↓x_mk0, ↓x_at, ↓x_atL, ↓x_at_, ↓x_at_L, ↓x_mk, ↓x_mkL, ↓x_aald, ↓x_w, ↓x_wi, ↓ok_s, ↓x_ifle_t, ↓x_ifle_f, ↓x_iflt_t, ↓x_iflt_f, ↓x_ifeq_t, ↓x_ifeq_f, ↓x_ifleL_t, ↓x_ifleL_f, ↓x_ifltL_t, ↓x_ifltL_f, ↓x_ifeqL_t, ↓x_ifeqL_f, ↓x_ifLle_t, ↓x_ifLle_f, ↓x_ifLlt_t, ↓x_ifLlt_f, ↓x_ifnm1, ↓x_ifb0, ↓x_ifb1, ↓x_if00, ↓x_if10, x_addL, x_Ladd, x_mulL, x_Lmul, nI_add, pk_mul, nI_pred, if_true, if_false, x_m1, n_a0, x_ue, x_un, e3, h.clo h3]; try simp (disch := omega) only [↓x_let, ↓x_nam, ↓x_put, ↓x_bX, ↓x_ob, ↓x_ald, ↓x_aldL, ↓x_ast, ↓x_astL, ↓x_at0, ↓x_at_0, ↓x_mk0, ↓x_at, ↓x_atL, ↓x_at_, ↓x_at_L, ↓x_mk, ↓x_mkL, ↓x_aald, ↓x_w, ↓x_wi, ↓ok_s, ↓x_ifle_t, ↓x_ifle_f, ↓x_iflt_t, ↓x_iflt_f, ↓x_ifeq_t, ↓x_ifeq_f, ↓x_ifleL_t, ↓x_ifleL_f, ↓x_ifltL_t, ↓x_ifltL_f, ↓x_ifeqL_t, ↓x_ifeqL_f, ↓x_ifLle_t, ↓x_ifLle_f, ↓x_ifLlt_t, ↓x_ifLlt_f, ↓x_ifnm1, ↓x_ifb0, ↓x_ifb1, ↓x_if00, ↓x_if10, x_addL, x_Ladd, x_mulL, x_Lmul, nI_add, pk_mul, nI_pred, if_true, if_false, x_m1, n_a0, x_ue, x_un, e3, h.clo h3]
    exact zero (fun h9 => h3 h9.1)
