/-! 7o.needs: how much one needs -/
theorem ah_key (s1 s2 p1 p2 : Int32) (x y : Nat) : ah s1 s2 p1 p2 x y = true ↔ (s1.toInt < s2.toInt ∨ s1.toInt = s2.toInt ∧ (p1.toInt < p2.toInt ∨ p1.toInt = p2.toInt ∧ x < y)) := by
  unfold ah
  by_cases h1 : s1 = s2
  · rw [if_pos h1]
    have e1 : s1.toInt = s2.toInt := by rw [h1]
    by_cases h2 : p1 = p2
    · rw [if_pos h2, decide_eq_true_iff]
      have e2 : p1.toInt = p2.toInt := by rw [h2]
      omega
    · rw [if_neg h2, decide_eq_true_iff, fa_lt]
      have e2 : ¬ p1.toInt = p2.toInt := fun h => h2 ((fa_eq _ _).mpr h)
      omega
  · rw [if_neg h1, decide_eq_true_iff, fa_lt]
    have e1 : ¬ s1.toInt = s2.toInt := fun h => h1 ((fa_eq _ _).mpr h)
    omega
def byI (s p : Nat → Int) (r o : Nat) : Int := if 0 ≤ s r - s o ∧ ¬ (p r < p o ∨ p r = p o ∧ r < o) then s r - s o + 1 else s r - s o
theorem byI_y {s p : Nat → Int} {r o : Nat} (h : 0 ≤ s r - s o ∧ ¬ (p r < p o ∨ p r = p o ∧ r < o)) : byI s p r o = s r - s o + 1 := if_pos h
theorem byI_n {s p : Nat → Int} {r o : Nat} (h : ¬ (0 ≤ s r - s o ∧ ¬ (p r < p o ∨ p r = p o ∧ r < o))) : byI s p r o = s r - s o := if_neg h
theorem needs_max {n r f : Nat} {s p : Nat → Int} {On : Nat → Prop} {M : Int} (hr : r < n) (hon : On r) (hf : f < n) (hfo : On f) (hfirst : ∀ o, o < n → On o → o ≠ f → (s f < s o ∨ s f = s o ∧ (p f < p o ∨ p f = p o ∧ f < o))) (h0 : 0 ≤ M) (hub : ∀ o, o < n → On o → o ≠ r → byI s p r o ≤ M) (hex : M = 0 ∨ ∃ o, o < n ∧ On o ∧ o ≠ r ∧ byI s p r o = M) : M = if f = r then 0 else byI s p r f := by
  by_cases h : f = r
  · subst h
    rw [if_pos rfl]
    rcases hex with h1 | ⟨o, o1, o2, o3, o4⟩
    · exact h1
    · have := hfirst o o1 o2 o3
      unfold byI at o4
      split at o4 <;> omega
  · rw [if_neg h]
    have a := hub f hf hfo h
    have b := hfirst r hr hon (fun h9 => h h9.symm)
    have hv : 0 ≤ byI s p r f := by
      unfold byI
      split <;> omega
    rcases hex with h1 | ⟨o, o1, o2, o3, o4⟩
    · omega
    · by_cases hof : o = f
      · subst hof
        omega
      · have c := hfirst o o1 o2 hof
        have hle : byI s p r o ≤ byI s p r f := by
          unfold byI
          split <;> split <;> omega
        omega
theorem smB_b {g : Nat → Int32} {but : Int32} : ∀ cl : Nat, cl ≤ 8 → (∀ j, j < cl → -1000 ≤ (g j).toInt ∧ (g j).toInt ≤ 200000) → -1000 * (cl : Int) ≤ (smB g but cl).toInt ∧ (smB g but cl).toInt ≤ 200000 * (cl : Int)
  | 0, _, _ => by
    show -1000 * ((0 : Nat) : Int) ≤ (0 : Int32).toInt ∧ (0 : Int32).toInt ≤ 200000 * ((0 : Nat) : Int)
    decide
  | j + 1, h8, h => by
    obtain ⟨a, b⟩ := smB_b (g := g) (but := but) j (by omega) (fun i hi => h i (by omega))
    obtain ⟨c, e⟩ := h j (by omega)
    unfold smB
    by_cases hb : nI j = but
    · rw [if_pos hb]
      omega
    · rw [if_neg hb, fb_addI (by omega) (by omega)]
      omega
theorem ntv_b {d : z_D} {c n j r : Nat} {ρ : Nat → Int32} (hr : r < 16) (sg : SG d c ρ (56 + 325 * j) n) (cc : CL d c ρ (56 + 325 * j)) : -1000 ≤ (ntv ρ r j).toInt ∧ (ntv ρ r j).toInt ≤ 200000 := by
  obtain ⟨L, L1, L2⟩ := cc.2.2.2.1
  obtain ⟨-, ⟨t, t1, t2⟩, -, -, ⟨b, b1, b2⟩, -⟩ := cc.2.2.2.2.2 r hr
  obtain ⟨-, -, ⟨u, u1, u2⟩, -⟩ := sg.2.2.2.2.1 r hr
  unfold ntv
  by_cases h0 : rfin ρ (56 + 325 * j) r = 0
  · rw [if_pos h0, L2, nI_toInt (by omega)]
    omega
  · rw [if_neg h0, t2, u2, b2]
    have e1 := nI_toInt (n := t) (by omega)
    have e2 := nI_toInt (n := u) (by omega)
    have e3 := nI_toInt (n := b) (by omega)
    have e4 : (nI t + nI u).toInt = (t : Int) + (u : Int) := by rw [fb_addI (by omega) (by omega), e1, e2]
    rw [fb_subI (by omega) (by omega), e4, e3]
    omega
theorem k_lacking {d : z_D} {q k r : Nat} {p : Nat → Nat} {S P : Nat → Int32} (hr : r < 16) (hk : k ≤ 16) (h0 : 0 < k) (h4 : d q 4 = nI k) (ho : d (q + 1) 0 = nI (p 0)) (hp : p 0 < 16) (s1 : d (q + 2) r = S r) (s2 : d (q + 2) (p 0) = S (p 0)) (p1 : d (q + 3) r = P r) (p2 : d (q + 3) (p 0) = P (p 0)) (b1 : -10000 ≤ (S r).toInt ∧ (S r).toInt ≤ 2000000) (b2 : -10000 ≤ (S (p 0)).toInt ∧ (S (p 0)).toInt ≤ 2000000) (hge : (S (p 0)).toInt ≤ (S r).toInt) :
    ok (f_X5_lacking d q (nI r)) (fun v => v.toInt = if p 0 = r then 0 else byI (fun x => (S x).toInt) (fun x => (P x).toInt) r (p 0)) := by
  have hen : f_X5_entry d q 0 = some (nI (p 0)) := by
    unfold f_X5_entry
    rw [h4, x_w, x_ob, x_ifb0, if_pos ((i_rng (by omega)).mpr ⟨0, by omega, nI_0.symm⟩), x_aldL 0 (show 0 < 16 by omega) (by omega)]
    show some (d (q + 1) 0) = _
    rw [ho]
  generalize p 0 = f at *
  unfold f_X5_lacking
  rw [hen, x_ob, if_neg (fun h9 => by rw [x_nm1 f (by omega)] at h9; exact h9)]
  by_cases hf : f = r
  · rw [if_pos (by rw [hf]), ok_s, if_pos hf]
    rfl
  rw [if_neg (fun h9 => hf ((nI_eq (by omega) (by omega)).mp h9)), if_neg hf]
  have e1 : (S r - S f).toInt = (S r).toInt - (S f).toInt := fb_subI (by omega) (by omega)
  have o1 : (1 : Int32).toInt = 1 := rfl
  have e2 : (S r - S f + 1).toInt = (S r).toInt - (S f).toInt + 1 := by rw [fb_addI (by omega) (by omega), e1, o1]
  by_cases c1 : P r < P f
  · have c1' := (fa_lt _ _).mp c1
    simp (disch := omega) only [↓x_let, ↓x_nam, ↓x_put, ↓x_bX, ↓x_ob, ↓x_ald, ↓x_aldL, ↓x_ast, ↓x_astL, ↓x_at0, ↓x_at_0, ↓x_mk0, ↓x_at, ↓x_atL, ↓x_at_, ↓x_at_L, ↓x_mk, ↓x_mkL, ↓x_aald, ↓x_w, ↓x_wi, ↓ok_s, ↓x_ifle_t, ↓x_ifle_f, ↓x_iflt_t, ↓x_iflt_f, ↓x_ifeq_t, ↓x_ifeq_f, ↓x_ifleL_t, ↓x_ifleL_f, ↓x_ifltL_t, ↓x_ifltL_f, ↓x_ifeqL_t, ↓x_ifeqL_f, ↓x_ifLle_t, ↓x_ifLle_f, ↓x_ifLlt_t, ↓x_ifLlt_f, ↓x_ifnm1, ↓x_ifb0, ↓x_ifb1, ↓x_if00, ↓x_if10, x_addL, x_Ladd, x_mulL, x_Lmul, nI_add, pk_mul, nI_pred, if_true, if_false, x_m1, n_a0, x_ue, x_un, s1, s2, p1, p2, ↓if_pos c1]; try simp (disch := omega) only [↓x_let, ↓x_nam, ↓x_put, ↓x_bX, ↓x_ob, ↓x_ald, ↓x_aldL, ↓x_ast, ↓x_astL, ↓x_at0, ↓x_at_0, ↓x_mk0, ↓x_at, ↓x_atL, ↓x_at_, ↓x_at_L, ↓x_mk, ↓x_mkL, ↓x_aald, ↓x_w, ↓x_wi, ↓ok_s, ↓x_ifle_t, ↓x_ifle_f, ↓x_iflt_t, ↓x_iflt_f, ↓x_ifeq_t, ↓x_ifeq_f, ↓x_ifleL_t, ↓x_ifleL_f, ↓x_ifltL_t, ↓x_ifltL_f, ↓x_ifeqL_t, ↓x_ifeqL_f, ↓x_ifLle_t, ↓x_ifLle_f, ↓x_ifLlt_t, ↓x_ifLlt_f, ↓x_ifnm1, ↓x_ifb0, ↓x_ifb1, ↓x_if00, ↓x_if10, x_addL, x_Ladd, x_mulL, x_Lmul, nI_add, pk_mul, nI_pred, if_true, if_false, x_m1, n_a0, x_ue, x_un, s1, s2, p1, p2, ↓if_pos c1]; try simp (disch := omega) only [↓x_let, ↓x_nam, ↓x_put, ↓x_bX, ↓x_ob, ↓x_ald, ↓x_aldL, ↓x_ast, ↓x_astL, ↓x_at0, ↓x_at_0, ↓x_mk0, ↓x_at, ↓x_atL, ↓x_at_, ↓x_at_L, ↓x_mk, ↓x_mkL, ↓x_aald, ↓x_w, ↓x_wi, ↓ok_s, ↓x_ifle_t, ↓x_ifle_f, ↓x_iflt_t, ↓x_iflt_f, ↓x_ifeq_t, ↓x_ifeq_f, ↓x_ifleL_t, ↓x_ifleL_f, ↓x_ifltL_t, ↓x_ifltL_f, ↓x_ifeqL_t, ↓x_ifeqL_f, ↓x_ifLle_t, ↓x_ifLle_f, ↓x_ifLlt_t, ↓x_ifLlt_f, ↓x_ifnm1, ↓x_ifb0, ↓x_ifb1, ↓x_if00, ↓x_if10, x_addL, x_Ladd, x_mulL, x_Lmul, nI_add, pk_mul, nI_pred, if_true, if_false, x_m1, n_a0, x_ue, x_un, s1, s2, p1, p2, ↓if_pos c1]; try simp (disch := omega) only [↓x_let, ↓x_nam, ↓x_put, ↓x_bX, ↓x_ob, ↓x_ald, ↓x_aldL, ↓x_ast, ↓x_astL, ↓x_at0, ↓x_at_0, ↓x_mk0, ↓x_at, ↓x_atL, ↓x_at_, ↓x_at_L, ↓x_mk, ↓x_mkL, ↓x_aald, ↓x_w, ↓x_wi, ↓ok_s, ↓x_ifle_t, ↓x_ifle_f, ↓x_iflt_t, ↓x_iflt_f, ↓x_ifeq_t, ↓x_ifeq_f, ↓x_ifleL_t, ↓x_ifleL_f, ↓x_ifltL_t, ↓x_ifltL_f, ↓x_ifeqL_t, ↓x_ifeqL_f, ↓x_ifLle_t, ↓x_ifLle_f, ↓x_ifLlt_t, ↓x_ifLlt_f, ↓x_ifnm1, ↓x_ifb0, ↓x_ifb1, ↓x_if00, ↓x_if10, x_addL, x_Ladd, x_mulL, x_Lmul, nI_add, pk_mul, nI_pred, if_true, if_false, x_m1, n_a0, x_ue, x_un, s1, s2, p1, p2, ↓if_pos c1]
    rw [e1, byI_n (fun h9 => h9.2 (Or.inl c1'))]
  have c1' := mt (fa_lt _ _).mpr c1
  by_cases c2 : P r = P f
  · have c2' := (fa_eq _ _).mp c2
    by_cases c3 : f ≤ r
    · simp (disch := omega) only [↓x_let, ↓x_nam, ↓x_put, ↓x_bX, ↓x_ob, ↓x_ald, ↓x_aldL, ↓x_ast, ↓x_astL, ↓x_at0, ↓x_at_0, ↓x_mk0, ↓x_at, ↓x_atL, ↓x_at_, ↓x_at_L, ↓x_mk, ↓x_mkL, ↓x_aald, ↓x_w, ↓x_wi, ↓ok_s, ↓x_ifle_t, ↓x_ifle_f, ↓x_iflt_t, ↓x_iflt_f, ↓x_ifeq_t, ↓x_ifeq_f, ↓x_ifleL_t, ↓x_ifleL_f, ↓x_ifltL_t, ↓x_ifltL_f, ↓x_ifeqL_t, ↓x_ifeqL_f, ↓x_ifLle_t, ↓x_ifLle_f, ↓x_ifLlt_t, ↓x_ifLlt_f, ↓x_ifnm1, ↓x_ifb0, ↓x_ifb1, ↓x_if00, ↓x_if10, x_addL, x_Ladd, x_mulL, x_Lmul, nI_add, pk_mul, nI_pred, if_true, if_false, x_m1, n_a0, x_ue, x_un, s1, s2, p1, p2, ↓if_neg c1, ↓if_pos c2]; try simp (disch := omega) only [↓x_let, ↓x_nam, ↓x_put, ↓x_bX, ↓x_ob, ↓x_ald, ↓x_aldL, ↓x_ast, ↓x_astL, ↓x_at0, ↓x_at_0, ↓x_mk0, ↓x_at, ↓x_atL, ↓x_at_, ↓x_at_L, ↓x_mk, ↓x_mkL, ↓x_aald, ↓x_w, ↓x_wi, ↓ok_s, ↓x_ifle_t, ↓x_ifle_f, ↓x_iflt_t, ↓x_iflt_f, ↓x_ifeq_t, ↓x_ifeq_f, ↓x_ifleL_t, ↓x_ifleL_f, ↓x_ifltL_t, ↓x_ifltL_f, ↓x_ifeqL_t, ↓x_ifeqL_f, ↓x_ifLle_t, ↓x_ifLle_f, ↓x_ifLlt_t, ↓x_ifLlt_f, ↓x_ifnm1, ↓x_ifb0, ↓x_ifb1, ↓x_if00, ↓x_if10, x_addL, x_Ladd, x_mulL, x_Lmul, nI_add, pk_mul, nI_pred, if_true, if_false, x_m1, n_a0, x_ue, x_un, s1, s2, p1, p2, ↓if_neg c1, ↓if_pos c2]; try simp (disch := omega) only [↓x_let, ↓x_nam, ↓x_put, ↓x_bX, ↓x_ob, ↓x_ald, ↓x_aldL, ↓x_ast, ↓x_astL, ↓x_at0, ↓x_at_0, ↓x_mk0, ↓x_at, ↓x_atL, ↓x_at_, ↓x_at_L, ↓x_mk, ↓x_mkL, ↓x_aald, ↓x_w, ↓x_wi, ↓ok_s, ↓x_ifle_t, ↓x_ifle_f, ↓x_iflt_t, ↓x_iflt_f, ↓x_ifeq_t, ↓x_ifeq_f, ↓x_ifleL_t, ↓x_ifleL_f, ↓x_ifltL_t, ↓x_ifltL_f, ↓x_ifeqL_t, ↓x_ifeqL_f, ↓x_ifLle_t, ↓x_ifLle_f, ↓x_ifLlt_t, ↓x_ifLlt_f, ↓x_ifnm1, ↓x_ifb0, ↓x_ifb1, ↓x_if00, ↓x_if10, x_addL, x_Ladd, x_mulL, x_Lmul, nI_add, pk_mul, nI_pred, if_true, if_false, x_m1, n_a0, x_ue, x_un, s1, s2, p1, p2, ↓if_neg c1, ↓if_pos c2]; try simp (disch := omega) only [↓x_let, ↓x_nam, ↓x_put, ↓x_bX, ↓x_ob, ↓x_ald, ↓x_aldL, ↓x_ast, ↓x_astL, ↓x_at0, ↓x_at_0, ↓x_mk0, ↓x_at, ↓x_atL, ↓x_at_, ↓x_at_L, ↓x_mk, ↓x_mkL, ↓x_aald, ↓x_w, ↓x_wi, ↓ok_s, ↓x_ifle_t, ↓x_ifle_f, ↓x_iflt_t, ↓x_iflt_f, ↓x_ifeq_t, ↓x_ifeq_f, ↓x_ifleL_t, ↓x_ifleL_f, ↓x_ifltL_t, ↓x_ifltL_f, ↓x_ifeqL_t, ↓x_ifeqL_f, ↓x_ifLle_t, ↓x_ifLle_f, ↓x_ifLlt_t, ↓x_ifLlt_f, ↓x_ifnm1, ↓x_ifb0, ↓x_ifb1, ↓x_if00, ↓x_if10, x_addL, x_Ladd, x_mulL, x_Lmul, nI_add, pk_mul, nI_pred, if_true, if_false, x_m1, n_a0, x_ue, x_un, s1, s2, p1, p2, ↓if_neg c1, ↓if_pos c2]
      rw [e2, byI_y ⟨by omega, by omega⟩]
    · simp (disch := omega) only [↓x_let, ↓x_nam, ↓x_put, ↓x_bX, ↓x_ob, ↓x_ald, ↓x_aldL, ↓x_ast, ↓x_astL, ↓x_at0, ↓x_at_0, ↓x_mk0, ↓x_at, ↓x_atL, ↓x_at_, ↓x_at_L, ↓x_mk, ↓x_mkL, ↓x_aald, ↓x_w, ↓x_wi, ↓ok_s, ↓x_ifle_t, ↓x_ifle_f, ↓x_iflt_t, ↓x_iflt_f, ↓x_ifeq_t, ↓x_ifeq_f, ↓x_ifleL_t, ↓x_ifleL_f, ↓x_ifltL_t, ↓x_ifltL_f, ↓x_ifeqL_t, ↓x_ifeqL_f, ↓x_ifLle_t, ↓x_ifLle_f, ↓x_ifLlt_t, ↓x_ifLlt_f, ↓x_ifnm1, ↓x_ifb0, ↓x_ifb1, ↓x_if00, ↓x_if10, x_addL, x_Ladd, x_mulL, x_Lmul, nI_add, pk_mul, nI_pred, if_true, if_false, x_m1, n_a0, x_ue, x_un, s1, s2, p1, p2, ↓if_neg c1, ↓if_pos c2]; try simp (disch := omega) only [↓x_let, ↓x_nam, ↓x_put, ↓x_bX, ↓x_ob, ↓x_ald, ↓x_aldL, ↓x_ast, ↓x_astL, ↓x_at0, ↓x_at_0, ↓x_mk0, ↓x_at, ↓x_atL, ↓x_at_, ↓x_at_L, ↓x_mk, ↓x_mkL, ↓x_aald, ↓x_w, ↓x_wi, ↓ok_s, ↓x_ifle_t, ↓x_ifle_f, ↓x_iflt_t, ↓x_iflt_f, ↓x_ifeq_t, ↓x_ifeq_f, ↓x_ifleL_t, ↓x_ifleL_f, ↓x_ifltL_t, ↓x_ifltL_f, ↓x_ifeqL_t, ↓x_ifeqL_f, ↓x_ifLle_t, ↓x_ifLle_f, ↓x_ifLlt_t, ↓x_ifLlt_f, ↓x_ifnm1, ↓x_ifb0, ↓x_ifb1, ↓x_if00, ↓x_if10, x_addL, x_Ladd, x_mulL, x_Lmul, nI_add, pk_mul, nI_pred, if_true, if_false, x_m1, n_a0, x_ue, x_un, s1, s2, p1, p2, ↓if_neg c1, ↓if_pos c2]; try simp (disch := omega) only [↓x_let, ↓x_nam, ↓x_put, ↓x_bX, ↓x_ob, ↓x_ald, ↓x_aldL, ↓x_ast, ↓x_astL, ↓x_at0, ↓x_at_0, ↓x_mk0, ↓x_at, ↓x_atL, ↓x_at_, ↓x_at_L, ↓x_mk, ↓x_mkL, ↓x_aald, ↓x_w, ↓x_wi, ↓ok_s, ↓x_ifle_t, ↓x_ifle_f, ↓x_iflt_t, ↓x_iflt_f, ↓x_ifeq_t, ↓x_ifeq_f, ↓x_ifleL_t, ↓x_ifleL_f, ↓x_ifltL_t, ↓x_ifltL_f, ↓x_ifeqL_t, ↓x_ifeqL_f, ↓x_ifLle_t, ↓x_ifLle_f, ↓x_ifLlt_t, ↓x_ifLlt_f, ↓x_ifnm1, ↓x_ifb0, ↓x_ifb1, ↓x_if00, ↓x_if10, x_addL, x_Ladd, x_mulL, x_Lmul, nI_add, pk_mul, nI_pred, if_true, if_false, x_m1, n_a0, x_ue, x_un, s1, s2, p1, p2, ↓if_neg c1, ↓if_pos c2]; try simp (disch := omega) only [↓x_let, ↓x_nam, ↓x_put, ↓x_bX, ↓x_ob, ↓x_ald, ↓x_aldL, ↓x_ast, ↓x_astL, ↓x_at0, ↓x_at_0, ↓x_mk0, ↓x_at, ↓x_atL, ↓x_at_, ↓x_at_L, ↓x_mk, ↓x_mkL, ↓x_aald, ↓x_w, ↓x_wi, ↓ok_s, ↓x_ifle_t, ↓x_ifle_f, ↓x_iflt_t, ↓x_iflt_f, ↓x_ifeq_t, ↓x_ifeq_f, ↓x_ifleL_t, ↓x_ifleL_f, ↓x_ifltL_t, ↓x_ifltL_f, ↓x_ifeqL_t, ↓x_ifeqL_f, ↓x_ifLle_t, ↓x_ifLle_f, ↓x_ifLlt_t, ↓x_ifLlt_f, ↓x_ifnm1, ↓x_ifb0, ↓x_ifb1, ↓x_if00, ↓x_if10, x_addL, x_Ladd, x_mulL, x_Lmul, nI_add, pk_mul, nI_pred, if_true, if_false, x_m1, n_a0, x_ue, x_un, s1, s2, p1, p2, ↓if_neg c1, ↓if_pos c2]
      rw [e1, byI_n (by omega)]
  · have c2' : ¬ (P r).toInt = (P f).toInt := fun h9 => c2 ((fa_eq _ _).mpr h9)
    simp (disch := omega) only [↓x_let, ↓x_nam, ↓x_put, ↓x_bX, ↓x_ob, ↓x_ald, ↓x_aldL, ↓x_ast, ↓x_astL, ↓x_at0, ↓x_at_0, ↓x_mk0, ↓x_at, ↓x_atL, ↓x_at_, ↓x_at_L, ↓x_mk, ↓x_mkL, ↓x_aald, ↓x_w, ↓x_wi, ↓ok_s, ↓x_ifle_t, ↓x_ifle_f, ↓x_iflt_t, ↓x_iflt_f, ↓x_ifeq_t, ↓x_ifeq_f, ↓x_ifleL_t, ↓x_ifleL_f, ↓x_ifltL_t, ↓x_ifltL_f, ↓x_ifeqL_t, ↓x_ifeqL_f, ↓x_ifLle_t, ↓x_ifLle_f, ↓x_ifLlt_t, ↓x_ifLlt_f, ↓x_ifnm1, ↓x_ifb0, ↓x_ifb1, ↓x_if00, ↓x_if10, x_addL, x_Ladd, x_mulL, x_Lmul, nI_add, pk_mul, nI_pred, if_true, if_false, x_m1, n_a0, x_ue, x_un, s1, s2, p1, p2, ↓if_neg c1, ↓if_neg c2]; try simp (disch := omega) only [↓x_let, ↓x_nam, ↓x_put, ↓x_bX, ↓x_ob, ↓x_ald, ↓x_aldL, ↓x_ast, ↓x_astL, ↓x_at0, ↓x_at_0, ↓x_mk0, ↓x_at, ↓x_atL, ↓x_at_, ↓x_at_L, ↓x_mk, ↓x_mkL, ↓x_aald, ↓x_w, ↓x_wi, ↓ok_s, ↓x_ifle_t, ↓x_ifle_f, ↓x_iflt_t, ↓x_iflt_f, ↓x_ifeq_t, ↓x_ifeq_f, ↓x_ifleL_t, ↓x_ifleL_f, ↓x_ifltL_t, ↓x_ifltL_f, ↓x_ifeqL_t, ↓x_ifeqL_f, ↓x_ifLle_t, ↓x_ifLle_f, ↓x_ifLlt_t, ↓x_ifLlt_f, ↓x_ifnm1, ↓x_ifb0, ↓x_ifb1, ↓x_if00, ↓x_if10, x_addL, x_Ladd, x_mulL, x_Lmul, nI_add, pk_mul, nI_pred, if_true, if_false, x_m1, n_a0, x_ue, x_un, s1, s2, p1, p2, ↓if_neg c1, ↓if_neg c2]; try simp (disch := omega) only [↓x_let, ↓x_nam, ↓x_put, ↓x_bX, ↓x_ob, ↓x_ald, ↓x_aldL, ↓x_ast, ↓x_astL, ↓x_at0, ↓x_at_0, ↓x_mk0, ↓x_at, ↓x_atL, ↓x_at_, ↓x_at_L, ↓x_mk, ↓x_mkL, ↓x_aald, ↓x_w, ↓x_wi, ↓ok_s, ↓x_ifle_t, ↓x_ifle_f, ↓x_iflt_t, ↓x_iflt_f, ↓x_ifeq_t, ↓x_ifeq_f, ↓x_ifleL_t, ↓x_ifleL_f, ↓x_ifltL_t, ↓x_ifltL_f, ↓x_ifeqL_t, ↓x_ifeqL_f, ↓x_ifLle_t, ↓x_ifLle_f, ↓x_ifLlt_t, ↓x_ifLlt_f, ↓x_ifnm1, ↓x_ifb0, ↓x_ifb1, ↓x_if00, ↓x_if10, x_addL, x_Ladd, x_mulL, x_Lmul, nI_add, pk_mul, nI_pred, if_true, if_false, x_m1, n_a0, x_ue, x_un, s1, s2, p1, p2, ↓if_neg c1, ↓if_neg c2]; try simp (disch := omega) only [↓x_let, ↓x_nam, ↓x_put, ↓x_bX, ↓x_ob, ↓x_ald, ↓x_aldL, ↓x_ast, ↓x_astL, ↓x_at0, ↓x_at_0, ↓x_mk0, ↓x_at, ↓x_atL, ↓x_at_, ↓x_at_L, ↓x_mk, ↓x_mkL, ↓x_aald, ↓x_w, ↓x_wi, ↓ok_s, ↓x_ifle_t, ↓x_ifle_f, ↓x_iflt_t, ↓x_iflt_f, ↓x_ifeq_t, ↓x_ifeq_f, ↓x_ifleL_t, ↓x_ifleL_f, ↓x_ifltL_t, ↓x_ifltL_f, ↓x_ifeqL_t, ↓x_ifeqL_f, ↓x_ifLle_t, ↓x_ifLle_f, ↓x_ifLlt_t, ↓x_ifLlt_f, ↓x_ifnm1, ↓x_ifb0, ↓x_ifb1, ↓x_if00, ↓x_if10, x_addL, x_Ladd, x_mulL, x_Lmul, nI_add, pk_mul, nI_pred, if_true, if_false, x_m1, n_a0, x_ue, x_un, s1, s2, p1, p2, ↓if_neg c1, ↓if_neg c2]
    rw [e2, byI_y ⟨by omega, by omega⟩]
theorem j_needs {d dm : z_D} {o a t n s : Nat} (h : St d (a + 1) (dm (o + 1)) t n s) (x : Int32) : ok (f_X8_needs d a x) (fun v => ok (f_X9_needs dm o x) (fun w => v.1 = w.1 ∧ (∀ q, ¬ (a + 348 ≤ q ∧ q ≤ a + 352) → v.2 q = d q) ∧ Fq o dm w.2)) := by
  obtain ⟨cl, cl1, cl2, cl3, cl4⟩ := h.clos
  have hs8 := h.1.2.2.1.2
  have hn16 := h.1.2.1.2
  have h' := h.tz
  have e1 : (z_up dm o 0 0) (o + 1) = dm (o + 1) := u_a (by omega)
  have cl3' : (z_up dm o 0 0) (o + 1) 2 - (z_up dm o 0 0) (o + 1) 3 = nI cl := by rw [e1]; exact cl3
  unfold f_X8_needs f_X9_needs
  rw [x_put, k_isIn h, m_isThere h'.1, x_ob, x_ob, x_ifb0, x_ifb0, e1]
  by_cases hx : th (dm (o + 1)) x
  rotate_left
  · rw [if_neg hx, if_neg hx, ok_s, ok_s]
    exact ⟨rfl, fun _ _ => rfl, Fq.t⟩
  rw [if_pos hx, if_pos hx, cl2, x_ob, q_closedMany, cl3', x_ob]
  by_cases h0 : cl = 0
  · rw [if_pos (show nI cl = 0 by rw [h0, nI_0]), if_pos (show nI cl = 0 by rw [h0, nI_0]), ok_s, ok_s]
    exact ⟨rfl, fun _ _ => rfl, Fq.t⟩
  rw [if_neg (nI_ne0 (by omega) (by omega)), if_neg (nI_ne0 (by omega) (by omega))]
  obtain ⟨r, hr, rfl, hrin⟩ := (th_iff h.1.2.1.1 hn16).mp hx
  rw [ok_b]
  refine ok_m (k_rankRiders (old := 50) (but := -1) h (q := a + 348) (by omega) cl2 (by omega) cl4) (fun d1 hd1 => ?_)
  obtain ⟨k1, k2, k3, k4⟩ := hd1
  rw [Lon_rk] at k3
  have hT := T2_sto (fun r => smB (ntv (dm (o + 1)) r) (-1) cl) (fun r => smB (plv (dm (o + 1)) r) (-1) cl)
  have hct := fb_ct_le (Pon (dm (o + 1)) 50) n
  have hPr : Pon (dm (o + 1)) 50 r = true := (Pon_50 h hr).mpr hrin
  have hpos : 0 < fb_ct (Pon (dm (o + 1)) 50) n := fb_ct_pos.mpr ⟨r, hr, hPr⟩
  have htot : ∀ q, q < 16 → f_X9_totalBut (z_up dm o 0 0) o (nI q) (-1) = some (smB (ntv (dm (o + 1)) q) (-1) cl) := fun q hq => by
    rw [m_totalBut hq cl3' (by omega) (by rw [e1]; exact fun j hj => h.fpos q j hq (by omega)), e1]
  have hah : ∀ q y less, q < 16 → y < 16 → f_X9_isAhead (z_up dm o 0 0) o (nI q) (nI y) less (-1) = some (b01 (ah (smB (ntv (dm (o + 1)) q) (-1) cl - less) (smB (ntv (dm (o + 1)) y) (-1) cl) (smB (plv (dm (o + 1)) q) (-1) cl) (smB (plv (dm (o + 1)) y) (-1) cl) q y = true)) := fun q y less hq hy => by
    rw [m_isAhead hq hy cl3' (by omega) (by rw [e1]; exact fun q j' hq hj' => h.fpos q j' hq (by omega)), e1]
  have hbd : ∀ q, q < 16 → -10000 ≤ (smB (ntv (dm (o + 1)) q) (-1) cl).toInt ∧ (smB (ntv (dm (o + 1)) q) (-1) cl).toInt ≤ 2000000 := fun q hq => by
    have := smB_b (g := ntv (dm (o + 1)) q) (but := -1) cl (by omega) (fun j hj => ntv_b hq (cl4 j hj).1 (cl4 j hj).2)
    omega
  have hfst : ∀ y, y < n → Pon (dm (o + 1)) 50 y = true → y ≠ rkO (Pon (dm (o + 1)) 50) (T2 (fun r => smB (ntv (dm (o + 1)) r) (-1) cl) (fun r => smB (plv (dm (o + 1)) r) (-1) cl)) n 0 → T2 (fun r => smB (ntv (dm (o + 1)) r) (-1) cl) (fun r => smB (plv (dm (o + 1)) r) (-1) cl) (rkO (Pon (dm (o + 1)) 50) (T2 (fun r => smB (ntv (dm (o + 1)) r) (-1) cl) (fun r => smB (plv (dm (o + 1)) r) (-1) cl)) n 0) y = true := fun y h1 h2 h3 => rkO_first hT hpos y h1 h2 h3
  have hf := rkO_lt (Pon (dm (o + 1)) 50) (T2 (fun r => smB (ntv (dm (o + 1)) r) (-1) cl) (fun r => smB (plv (dm (o + 1)) r) (-1) cl)) n 0 hpos
  have k30 := k3 0 hpos
  have hkey : ∀ y z, T2 (fun r => smB (ntv (dm (o + 1)) r) (-1) cl) (fun r => smB (plv (dm (o + 1)) r) (-1) cl) y z = true ↔ _ := fun y z => ah_key (smB (ntv (dm (o + 1)) y) (-1) cl) (smB (ntv (dm (o + 1)) z) (-1) cl) (smB (plv (dm (o + 1)) y) (-1) cl) (smB (plv (dm (o + 1)) z) (-1) cl) y z
  generalize hO : rkO (Pon (dm (o + 1)) 50) (T2 (fun r => smB (ntv (dm (o + 1)) r) (-1) cl) (fun r => smB (plv (dm (o + 1)) r) (-1) cl)) n 0 = f at *
  have hge : (smB (ntv (dm (o + 1)) f) (-1) cl).toInt ≤ (smB (ntv (dm (o + 1)) r) (-1) cl).toInt := by
    by_cases hrf : r = f
    · rw [hrf]
      exact Int.le_refl _
    · have := (hkey f r).mp (hfst r hr hPr hrf)
      omega
  rw [ok_b]
  refine ok_m (k_lacking (d := d1) (q := a + 348) (k := fb_ct (Pon (dm (o + 1)) 50) n) (r := r) (p := fun _ => f) (S := fun r => smB (ntv (dm (o + 1)) r) (-1) cl) (P := fun r => smB (plv (dm (o + 1)) r) (-1) cl) (by omega) (by omega) hpos k2 k30 (by omega) (k4 r hr hPr).1 (k4 f hf.1 hf.2).1 (k4 r hr hPr).2 (k4 f hf.1 hf.2).2 (hbd r (by omega)) (hbd f (by omega)) hge) (fun v hv => ?_)
  rw [ok_s]
  generalize hs : (fun x => (smB (ntv (dm (o + 1)) x) (-1) cl).toInt) = sI at *
  generalize hp : (fun x => (smB (plv (dm (o + 1)) x) (-1) cl).toInt) = pI at *
  have es : ∀ q, (smB (ntv (dm (o + 1)) q) (-1) cl).toInt = sI q := fun q => by rw [← hs]
  have ep : ∀ q, (smB (plv (dm (o + 1)) q) (-1) cl).toInt = pI q := fun q => by rw [← hp]
  have en : (z_up dm o 0 0) (o + 1) 1 = nI n := by rw [e1, h.1.2.1.1]
  have hbr := hbd r (by omega)
  rw [es] at hbr
  refine zl2 (f_X9_needs_L26_b _ o (nI r) _) (fun _ => rfl) (fun m x2 x3 => ∃ i, m + i = n ∧ x3 = nI i ∧ 0 ≤ x2.toInt ∧ (∀ y, y < i → Pon (dm (o + 1)) 50 y = true → y ≠ r → byI sI pI r y ≤ x2.toInt) ∧ (x2.toInt = 0 ∨ ∃ y, y < i ∧ Pon (dm (o + 1)) 50 y = true ∧ y ≠ r ∧ byI sI pI r y = x2.toInt)) ?_ n z_N _ _ ⟨0, by omega, rfl, by decide, fun y hy => by omega, Or.inl rfl⟩ (ltz (by omega))
  rintro R m x2 x3 ⟨i, hm, rfl, g0, g1, g2⟩ ih
  unfold f_X9_needs_L26_b
  rw [x_aldL 1 (show 1 < 2656 by omega) (by omega)]
  show ok (if (z_up dm o 0 0) (o + 1) 1 ≤ nI i then _ else _) _
  rw [en]
  by_cases hi : i = n
  · subst hi
    rw [if_pos ((nI_leI (by omega) (by omega)).mpr (Nat.le_refl _)), ok_s]
    refine ⟨?_, fun q hq => k1 q (by omega), Fq.t⟩
    show v = x2
    rw [fa_eq, hv]
    refine (needs_max (On := fun y => Pon (dm (o + 1)) 50 y = true) hr hPr hf.1 hf.2 (fun y y1 y2 y3 => ?_) g0 g1 g2).symm
    have := (hkey f y).mp (hfst y y1 y2 y3)
    rw [es, es, ep, ep] at this
    exact this
  have hin : i < n := by omega
  rw [if_neg (nI_ge (by omega) (by omega))]
  have skip : (i = r ∨ ¬ Pon (dm (o + 1)) 50 i = true) → ok (R x2 (nI (i + 1))) (fun w => (v, d1).1 = w.1 ∧ (∀ q, ¬ (a + 348 ≤ q ∧ q ≤ a + 352) → (v, d1).2 q = d q) ∧ Fq o dm w.2) := fun hsk => by
    refine ih (m - 1) _ _ (by omega) ⟨i + 1, by omega, rfl, g0, fun y y1 y2 y3 => ?_, ?_⟩
    · refine g1 y ?_ y2 y3
      rcases Nat.lt_or_ge y i with h9 | h9
      · exact h9
      · have : y = i := by omega
        subst this
        rcases hsk with h9 | h9
        · exact absurd h9 y3
        · exact absurd y2 h9
    · rcases g2 with h9 | ⟨y, y1, y2⟩
      · exact Or.inl h9
      · exact Or.inr ⟨y, by omega, y2⟩
  by_cases hir : i = r
  · rw [if_pos (by rw [hir]), x_addL]
    exact skip (Or.inl hir)
  rw [if_neg (fun h9 => hir ((nI_eq (by omega) (by omega)).mp h9))]
  have hp50 := Pon_50 h hin
  have hth := m_isThere (d := z_up dm o 0 0) (o := o) h.tz.1 (nI i)
  have hthi : th ((z_up dm o 0 0) (o + 1)) (nI i) ↔ Pon (dm (o + 1)) 50 i = true := by
    rw [th_iff en hn16, hp50, e1]
    constructor
    · rintro ⟨r, r1, r2, r3⟩
      have := (nI_eq (by omega) (by omega)).mp r2
      subst this
      exact r3
    · intro h9
      exact ⟨i, hin, rfl, h9⟩
  rw [hth, x_ob, x_ifb0]
  by_cases hP : Pon (dm (o + 1)) 50 i = true
  rotate_left
  · rw [if_neg (fun h9 => hP (hthi.mp h9)), x_addL]
    exact skip (Or.inr hP)
  rw [if_pos (hthi.mpr hP), htot r (by omega), x_ob, htot i (by omega), x_ob, x_nam]
  have fin : ∀ u : Int32, u.toInt = byI sI pI r i → ok (if u ≤ x2 then R x2 (nI (i + 1)) else R u (nI (i + 1))) (fun w => (v, d1).1 = w.1 ∧ (∀ q, ¬ (a + 348 ≤ q ∧ q ≤ a + 352) → (v, d1).2 q = d q) ∧ Fq o dm w.2) := fun u hu => by
    by_cases hle : u ≤ x2
    · rw [if_pos hle]
      have hle' := (fa_le _ _).mp hle
      refine ih (m - 1) _ _ (by omega) ⟨i + 1, by omega, rfl, g0, fun y y1 y2 y3 => ?_, ?_⟩
      · by_cases hyi : y = i
        · rw [hyi, ← hu]
          exact hle'
        · exact g1 y (by omega) y2 y3
      · rcases g2 with h9 | ⟨y, y1, y2⟩
        · exact Or.inl h9
        · exact Or.inr ⟨y, by omega, y2⟩
    · rw [if_neg hle]
      have hle' := (fa_lt _ _).mp (fa_of_nle hle)
      refine ih (m - 1) _ _ (by omega) ⟨i + 1, by omega, rfl, by omega, fun y y1 y2 y3 => ?_, Or.inr ⟨i, by omega, hP, hir, hu.symm⟩⟩
      by_cases hyi : y = i
      · rw [hyi, ← hu]
        exact Int.le_refl _
      · have := g1 y (by omega) y2 y3
        omega
  have hbi := hbd i (by omega)
  rw [es] at hbi
  have ahr := hah r i
  have c1 : ∀ A B C D : Int32, A - (A - B) = B := fun A B _ _ => by
    rw [Int32.sub_eq_add_neg A (A - B), Int32.neg_sub, Int32.add_comm, Int32.sub_add_cancel]
  generalize hSr : smB (ntv (dm (o + 1)) r) (-1) cl = Sr at *
  generalize hSi : smB (ntv (dm (o + 1)) i) (-1) cl = Si at *
  generalize hQr : smB (plv (dm (o + 1)) r) (-1) cl = Qr at *
  generalize hQi : smB (plv (dm (o + 1)) i) (-1) cl = Qi at *
  have t1 : Sr.toInt = sI r := by rw [← es, hSr]
  have t2 : Si.toInt = sI i := by rw [← es, hSi]
  have t3 : Qr.toInt = pI r := by rw [← ep, hQr]
  have t4 : Qi.toInt = pI i := by rw [← ep, hQi]
  have e9 : (Sr - Si).toInt = sI r - sI i := by rw [fb_subI (by omega) (by omega), t1, t2]
  have o1 : (1 : Int32).toInt = 1 := rfl
  have o0 : (0 : Int32).toInt = 0 := rfl
  have e8 : (Sr - Si + 1).toInt = sI r - sI i + 1 := by rw [fb_addI (by omega) (by omega), e9, o1]
  have a2 := ahr (Sr - Si) (by omega) (by omega)
  have a0 := ahr 0 (by omega) (by omega)
  rw [c1 _ _ 0 0] at a2
  rw [Int32.sub_zero] at a0
  have k2' := ah_key Si Si Qr Qi r i
  have k0' := ah_key Sr Si Qr Qi r i
  rw [t3, t4] at k2' k0'
  rw [t1, t2] at k0'
  by_cases b1 : Sr - Si ≤ 0
  · have b1' := (fa_le _ _).mp b1
    rw [e9, o0] at b1'
    by_cases b2 : Sr - Si = 0
    · have b2' := (fa_eq _ _).mp b2
      rw [e9, o0] at b2'
      by_cases b3 : ah Sr Si Qr Qi r i = true
      · have b3' := k0'.mp b3
        rw [b01_t b3] at a0
        simp (disch := omega) only [↓x_let, ↓x_nam, ↓x_put, ↓x_bX, ↓x_ob, ↓x_ald, ↓x_aldL, ↓x_ast, ↓x_astL, ↓x_at0, ↓x_at_0, ↓x_mk0, ↓x_at, ↓x_atL, ↓x_at_, ↓x_at_L, ↓x_mk, ↓x_mkL, ↓x_aald, ↓x_w, ↓x_wi, ↓ok_s, ↓x_ifle_t, ↓x_ifle_f, ↓x_iflt_t, ↓x_iflt_f, ↓x_ifeq_t, ↓x_ifeq_f, ↓x_ifleL_t, ↓x_ifleL_f, ↓x_ifltL_t, ↓x_ifltL_f, ↓x_ifeqL_t, ↓x_ifeqL_f, ↓x_ifLle_t, ↓x_ifLle_f, ↓x_ifLlt_t, ↓x_ifLlt_f, ↓x_ifnm1, ↓x_ifb0, ↓x_ifb1, ↓x_if00, ↓x_if10, x_addL, x_Ladd, x_mulL, x_Lmul, nI_add, pk_mul, nI_pred, if_true, if_false, x_m1, n_a0, x_ue, x_un, ↓if_pos b1, ↓if_pos b2, a0]; try simp (disch := omega) only [↓x_let, ↓x_nam, ↓x_put, ↓x_bX, ↓x_ob, ↓x_ald, ↓x_aldL, ↓x_ast, ↓x_astL, ↓x_at0, ↓x_at_0, ↓x_mk0, ↓x_at, ↓x_atL, ↓x_at_, ↓x_at_L, ↓x_mk, ↓x_mkL, ↓x_aald, ↓x_w, ↓x_wi, ↓ok_s, ↓x_ifle_t, ↓x_ifle_f, ↓x_iflt_t, ↓x_iflt_f, ↓x_ifeq_t, ↓x_ifeq_f, ↓x_ifleL_t, ↓x_ifleL_f, ↓x_ifltL_t, ↓x_ifltL_f, ↓x_ifeqL_t, ↓x_ifeqL_f, ↓x_ifLle_t, ↓x_ifLle_f, ↓x_ifLlt_t, ↓x_ifLlt_f, ↓x_ifnm1, ↓x_ifb0, ↓x_ifb1, ↓x_if00, ↓x_if10, x_addL, x_Ladd, x_mulL, x_Lmul, nI_add, pk_mul, nI_pred, if_true, if_false, x_m1, n_a0, x_ue, x_un, ↓if_pos b1, ↓if_pos b2, a0]; try simp (disch := omega) only [↓x_let, ↓x_nam, ↓x_put, ↓x_bX, ↓x_ob, ↓x_ald, ↓x_aldL, ↓x_ast, ↓x_astL, ↓x_at0, ↓x_at_0, ↓x_mk0, ↓x_at, ↓x_atL, ↓x_at_, ↓x_at_L, ↓x_mk, ↓x_mkL, ↓x_aald, ↓x_w, ↓x_wi, ↓ok_s, ↓x_ifle_t, ↓x_ifle_f, ↓x_iflt_t, ↓x_iflt_f, ↓x_ifeq_t, ↓x_ifeq_f, ↓x_ifleL_t, ↓x_ifleL_f, ↓x_ifltL_t, ↓x_ifltL_f, ↓x_ifeqL_t, ↓x_ifeqL_f, ↓x_ifLle_t, ↓x_ifLle_f, ↓x_ifLlt_t, ↓x_ifLlt_f, ↓x_ifnm1, ↓x_ifb0, ↓x_ifb1, ↓x_if00, ↓x_if10, x_addL, x_Ladd, x_mulL, x_Lmul, nI_add, pk_mul, nI_pred, if_true, if_false, x_m1, n_a0, x_ue, x_un, ↓if_pos b1, ↓if_pos b2, a0]; try simp (disch := omega) only [↓x_let, ↓x_nam, ↓x_put, ↓x_bX, ↓x_ob, ↓x_ald, ↓x_aldL, ↓x_ast, ↓x_astL, ↓x_at0, ↓x_at_0, ↓x_mk0, ↓x_at, ↓x_atL, ↓x_at_, ↓x_at_L, ↓x_mk, ↓x_mkL, ↓x_aald, ↓x_w, ↓x_wi, ↓ok_s, ↓x_ifle_t, ↓x_ifle_f, ↓x_iflt_t, ↓x_iflt_f, ↓x_ifeq_t, ↓x_ifeq_f, ↓x_ifleL_t, ↓x_ifleL_f, ↓x_ifltL_t, ↓x_ifltL_f, ↓x_ifeqL_t, ↓x_ifeqL_f, ↓x_ifLle_t, ↓x_ifLle_f, ↓x_ifLlt_t, ↓x_ifLlt_f, ↓x_ifnm1, ↓x_ifb0, ↓x_ifb1, ↓x_if00, ↓x_if10, x_addL, x_Ladd, x_mulL, x_Lmul, nI_add, pk_mul, nI_pred, if_true, if_false, x_m1, n_a0, x_ue, x_un, ↓if_pos b1, ↓if_pos b2, a0]
        exact fin _ (by rw [e9, byI_n (by omega)])
      · have b3' := mt k0'.mpr b3
        rw [b01_f b3] at a0
        simp (disch := omega) only [↓x_let, ↓x_nam, ↓x_put, ↓x_bX, ↓x_ob, ↓x_ald, ↓x_aldL, ↓x_ast, ↓x_astL, ↓x_at0, ↓x_at_0, ↓x_mk0, ↓x_at, ↓x_atL, ↓x_at_, ↓x_at_L, ↓x_mk, ↓x_mkL, ↓x_aald, ↓x_w, ↓x_wi, ↓ok_s, ↓x_ifle_t, ↓x_ifle_f, ↓x_iflt_t, ↓x_iflt_f, ↓x_ifeq_t, ↓x_ifeq_f, ↓x_ifleL_t, ↓x_ifleL_f, ↓x_ifltL_t, ↓x_ifltL_f, ↓x_ifeqL_t, ↓x_ifeqL_f, ↓x_ifLle_t, ↓x_ifLle_f, ↓x_ifLlt_t, ↓x_ifLlt_f, ↓x_ifnm1, ↓x_ifb0, ↓x_ifb1, ↓x_if00, ↓x_if10, x_addL, x_Ladd, x_mulL, x_Lmul, nI_add, pk_mul, nI_pred, if_true, if_false, x_m1, n_a0, x_ue, x_un, ↓if_pos b1, ↓if_pos b2, a0]; try simp (disch := omega) only [↓x_let, ↓x_nam, ↓x_put, ↓x_bX, ↓x_ob, ↓x_ald, ↓x_aldL, ↓x_ast, ↓x_astL, ↓x_at0, ↓x_at_0, ↓x_mk0, ↓x_at, ↓x_atL, ↓x_at_, ↓x_at_L, ↓x_mk, ↓x_mkL, ↓x_aald, ↓x_w, ↓x_wi, ↓ok_s, ↓x_ifle_t, ↓x_ifle_f, ↓x_iflt_t, ↓x_iflt_f, ↓x_ifeq_t, ↓x_ifeq_f, ↓x_ifleL_t, ↓x_ifleL_f, ↓x_ifltL_t, ↓x_ifltL_f, ↓x_ifeqL_t, ↓x_ifeqL_f, ↓x_ifLle_t, ↓x_ifLle_f, ↓x_ifLlt_t, ↓x_ifLlt_f, ↓x_ifnm1, ↓x_ifb0, ↓x_ifb1, ↓x_if00, ↓x_if10, x_addL, x_Ladd, x_mulL, x_Lmul, nI_add, pk_mul, nI_pred, if_true, if_false, x_m1, n_a0, x_ue, x_un, ↓if_pos b1, ↓if_pos b2, a0]; try simp (disch := omega) only [↓x_let, ↓x_nam, ↓x_put, ↓x_bX, ↓x_ob, ↓x_ald, ↓x_aldL, ↓x_ast, ↓x_astL, ↓x_at0, ↓x_at_0, ↓x_mk0, ↓x_at, ↓x_atL, ↓x_at_, ↓x_at_L, ↓x_mk, ↓x_mkL, ↓x_aald, ↓x_w, ↓x_wi, ↓ok_s, ↓x_ifle_t, ↓x_ifle_f, ↓x_iflt_t, ↓x_iflt_f, ↓x_ifeq_t, ↓x_ifeq_f, ↓x_ifleL_t, ↓x_ifleL_f, ↓x_ifltL_t, ↓x_ifltL_f, ↓x_ifeqL_t, ↓x_ifeqL_f, ↓x_ifLle_t, ↓x_ifLle_f, ↓x_ifLlt_t, ↓x_ifLlt_f, ↓x_ifnm1, ↓x_ifb0, ↓x_ifb1, ↓x_if00, ↓x_if10, x_addL, x_Ladd, x_mulL, x_Lmul, nI_add, pk_mul, nI_pred, if_true, if_false, x_m1, n_a0, x_ue, x_un, ↓if_pos b1, ↓if_pos b2, a0]; try simp (disch := omega) only [↓x_let, ↓x_nam, ↓x_put, ↓x_bX, ↓x_ob, ↓x_ald, ↓x_aldL, ↓x_ast, ↓x_astL, ↓x_at0, ↓x_at_0, ↓x_mk0, ↓x_at, ↓x_atL, ↓x_at_, ↓x_at_L, ↓x_mk, ↓x_mkL, ↓x_aald, ↓x_w, ↓x_wi, ↓ok_s, ↓x_ifle_t, ↓x_ifle_f, ↓x_iflt_t, ↓x_iflt_f, ↓x_ifeq_t, ↓x_ifeq_f, ↓x_ifleL_t, ↓x_ifleL_f, ↓x_ifltL_t, ↓x_ifltL_f, ↓x_ifeqL_t, ↓x_ifeqL_f, ↓x_ifLle_t, ↓x_ifLle_f, ↓x_ifLlt_t, ↓x_ifLlt_f, ↓x_ifnm1, ↓x_ifb0, ↓x_ifb1, ↓x_if00, ↓x_if10, x_addL, x_Ladd, x_mulL, x_Lmul, nI_add, pk_mul, nI_pred, if_true, if_false, x_m1, n_a0, x_ue, x_un, ↓if_pos b1, ↓if_pos b2, a0]
        exact fin _ (by rw [e8, byI_y ⟨by omega, by omega⟩])
    · have b2' : ¬ sI r - sI i = 0 := fun h9 => b2 ((fa_eq _ _).mpr (by rw [e9, o0]; exact h9))
      simp (disch := omega) only [↓x_let, ↓x_nam, ↓x_put, ↓x_bX, ↓x_ob, ↓x_ald, ↓x_aldL, ↓x_ast, ↓x_astL, ↓x_at0, ↓x_at_0, ↓x_mk0, ↓x_at, ↓x_atL, ↓x_at_, ↓x_at_L, ↓x_mk, ↓x_mkL, ↓x_aald, ↓x_w, ↓x_wi, ↓ok_s, ↓x_ifle_t, ↓x_ifle_f, ↓x_iflt_t, ↓x_iflt_f, ↓x_ifeq_t, ↓x_ifeq_f, ↓x_ifleL_t, ↓x_ifleL_f, ↓x_ifltL_t, ↓x_ifltL_f, ↓x_ifeqL_t, ↓x_ifeqL_f, ↓x_ifLle_t, ↓x_ifLle_f, ↓x_ifLlt_t, ↓x_ifLlt_f, ↓x_ifnm1, ↓x_ifb0, ↓x_ifb1, ↓x_if00, ↓x_if10, x_addL, x_Ladd, x_mulL, x_Lmul, nI_add, pk_mul, nI_pred, if_true, if_false, x_m1, n_a0, x_ue, x_un, ↓if_pos b1, ↓if_neg b2]; try simp (disch := omega) only [↓x_let, ↓x_nam, ↓x_put, ↓x_bX, ↓x_ob, ↓x_ald, ↓x_aldL, ↓x_ast, ↓x_astL, ↓x_at0, ↓x_at_0, ↓x_mk0, ↓x_at, ↓x_atL, ↓x_at_, ↓x_at_L, ↓x_mk, ↓x_mkL, ↓x_aald, ↓x_w, ↓x_wi, ↓ok_s, ↓x_ifle_t, ↓x_ifle_f, ↓x_iflt_t, ↓x_iflt_f, ↓x_ifeq_t, ↓x_ifeq_f, ↓x_ifleL_t, ↓x_ifleL_f, ↓x_ifltL_t, ↓x_ifltL_f, ↓x_ifeqL_t, ↓x_ifeqL_f, ↓x_ifLle_t, ↓x_ifLle_f, ↓x_ifLlt_t, ↓x_ifLlt_f, ↓x_ifnm1, ↓x_ifb0, ↓x_ifb1, ↓x_if00, ↓x_if10, x_addL, x_Ladd, x_mulL, x_Lmul, nI_add, pk_mul, nI_pred, if_true, if_false, x_m1, n_a0, x_ue, x_un, ↓if_pos b1, ↓if_neg b2]; try simp (disch := omega) only [↓x_let, ↓x_nam, ↓x_put, ↓x_bX, ↓x_ob, ↓x_ald, ↓x_aldL, ↓x_ast, ↓x_astL, ↓x_at0, ↓x_at_0, ↓x_mk0, ↓x_at, ↓x_atL, ↓x_at_, ↓x_at_L, ↓x_mk, ↓x_mkL, ↓x_aald, ↓x_w, ↓x_wi, ↓ok_s, ↓x_ifle_t, ↓x_ifle_f, ↓x_iflt_t, ↓x_iflt_f, ↓x_ifeq_t, ↓x_ifeq_f, ↓x_ifleL_t, ↓x_ifleL_f, ↓x_ifltL_t, ↓x_ifltL_f, ↓x_ifeqL_t, ↓x_ifeqL_f, ↓x_ifLle_t, ↓x_ifLle_f, ↓x_ifLlt_t, ↓x_ifLlt_f, ↓x_ifnm1, ↓x_ifb0, ↓x_ifb1, ↓x_if00, ↓x_if10, x_addL, x_Ladd, x_mulL, x_Lmul, nI_add, pk_mul, nI_pred, if_true, if_false, x_m1, n_a0, x_ue, x_un, ↓if_pos b1, ↓if_neg b2]; try simp (disch := omega) only [↓x_let, ↓x_nam, ↓x_put, ↓x_bX, ↓x_ob, ↓x_ald, ↓x_aldL, ↓x_ast, ↓x_astL, ↓x_at0, ↓x_at_0, ↓x_mk0, ↓x_at, ↓x_atL, ↓x_at_, ↓x_at_L, ↓x_mk, ↓x_mkL, ↓x_aald, ↓x_w, ↓x_wi, ↓ok_s, ↓x_ifle_t, ↓x_ifle_f, ↓x_iflt_t, ↓x_iflt_f, ↓x_ifeq_t, ↓x_ifeq_f, ↓x_ifleL_t, ↓x_ifleL_f, ↓x_ifltL_t, ↓x_ifltL_f, ↓x_ifeqL_t, ↓x_ifeqL_f, ↓x_ifLle_t, ↓x_ifLle_f, ↓x_ifLlt_t, ↓x_ifLlt_f, ↓x_ifnm1, ↓x_ifb0, ↓x_ifb1, ↓x_if00, ↓x_if10, x_addL, x_Ladd, x_mulL, x_Lmul, nI_add, pk_mul, nI_pred, if_true, if_false, x_m1, n_a0, x_ue, x_un, ↓if_pos b1, ↓if_neg b2]
      exact fin _ (by rw [e9, byI_n (by omega)])
  · have b1' : ¬ sI r - sI i ≤ 0 := fun h9 => b1 ((fa_le _ _).mpr (by rw [e9, o0]; exact h9))
    have b2 : ¬ Sr - Si = 0 := fun h9 => b1 (by rw [h9]; decide)
    by_cases b3 : ah Si Si Qr Qi r i = true
    · have b3' := k2'.mp b3
      rw [b01_t b3] at a2
      simp (disch := omega) only [↓x_let, ↓x_nam, ↓x_put, ↓x_bX, ↓x_ob, ↓x_ald, ↓x_aldL, ↓x_ast, ↓x_astL, ↓x_at0, ↓x_at_0, ↓x_mk0, ↓x_at, ↓x_atL, ↓x_at_, ↓x_at_L, ↓x_mk, ↓x_mkL, ↓x_aald, ↓x_w, ↓x_wi, ↓ok_s, ↓x_ifle_t, ↓x_ifle_f, ↓x_iflt_t, ↓x_iflt_f, ↓x_ifeq_t, ↓x_ifeq_f, ↓x_ifleL_t, ↓x_ifleL_f, ↓x_ifltL_t, ↓x_ifltL_f, ↓x_ifeqL_t, ↓x_ifeqL_f, ↓x_ifLle_t, ↓x_ifLle_f, ↓x_ifLlt_t, ↓x_ifLlt_f, ↓x_ifnm1, ↓x_ifb0, ↓x_ifb1, ↓x_if00, ↓x_if10, x_addL, x_Ladd, x_mulL, x_Lmul, nI_add, pk_mul, nI_pred, if_true, if_false, x_m1, n_a0, x_ue, x_un, ↓if_neg b1, ↓if_neg b2, a2]; try simp (disch := omega) only [↓x_let, ↓x_nam, ↓x_put, ↓x_bX, ↓x_ob, ↓x_ald, ↓x_aldL, ↓x_ast, ↓x_astL, ↓x_at0, ↓x_at_0, ↓x_mk0, ↓x_at, ↓x_atL, ↓x_at_, ↓x_at_L, ↓x_mk, ↓x_mkL, ↓x_aald, ↓x_w, ↓x_wi, ↓ok_s, ↓x_ifle_t, ↓x_ifle_f, ↓x_iflt_t, ↓x_iflt_f, ↓x_ifeq_t, ↓x_ifeq_f, ↓x_ifleL_t, ↓x_ifleL_f, ↓x_ifltL_t, ↓x_ifltL_f, ↓x_ifeqL_t, ↓x_ifeqL_f, ↓x_ifLle_t, ↓x_ifLle_f, ↓x_ifLlt_t, ↓x_ifLlt_f, ↓x_ifnm1, ↓x_ifb0, ↓x_ifb1, ↓x_if00, ↓x_if10, x_addL, x_Ladd, x_mulL, x_Lmul, nI_add, pk_mul, nI_pred, if_true, if_false, x_m1, n_a0, x_ue, x_un, ↓if_neg b1, ↓if_neg b2, a2]; try simp (disch := omega) only [↓x_let, ↓x_nam, ↓x_put, ↓x_bX, ↓x_ob, ↓x_ald, ↓x_aldL, ↓x_ast, ↓x_astL, ↓x_at0, ↓x_at_0, ↓x_mk0, ↓x_at, ↓x_atL, ↓x_at_, ↓x_at_L, ↓x_mk, ↓x_mkL, ↓x_aald, ↓x_w, ↓x_wi, ↓ok_s, ↓x_ifle_t, ↓x_ifle_f, ↓x_iflt_t, ↓x_iflt_f, ↓x_ifeq_t, ↓x_ifeq_f, ↓x_ifleL_t, ↓x_ifleL_f, ↓x_ifltL_t, ↓x_ifltL_f, ↓x_ifeqL_t, ↓x_ifeqL_f, ↓x_ifLle_t, ↓x_ifLle_f, ↓x_ifLlt_t, ↓x_ifLlt_f, ↓x_ifnm1, ↓x_ifb0, ↓x_ifb1, ↓x_if00, ↓x_if10, x_addL, x_Ladd, x_mulL, x_Lmul, nI_add, pk_mul, nI_pred, if_true, if_false, x_m1, n_a0, x_ue, x_un, ↓if_neg b1, ↓if_neg b2, a2]; try simp (disch := omega) only [↓x_let, ↓x_nam, ↓x_put, ↓x_bX, ↓x_ob, ↓x_ald, ↓x_aldL, ↓x_ast, ↓x_astL, ↓x_at0, ↓x_at_0, ↓x_mk0, ↓x_at, ↓x_atL, ↓x_at_, ↓x_at_L, ↓x_mk, ↓x_mkL, ↓x_aald, ↓x_w, ↓x_wi, ↓ok_s, ↓x_ifle_t, ↓x_ifle_f, ↓x_iflt_t, ↓x_iflt_f, ↓x_ifeq_t, ↓x_ifeq_f, ↓x_ifleL_t, ↓x_ifleL_f, ↓x_ifltL_t, ↓x_ifltL_f, ↓x_ifeqL_t, ↓x_ifeqL_f, ↓x_ifLle_t, ↓x_ifLle_f, ↓x_ifLlt_t, ↓x_ifLlt_f, ↓x_ifnm1, ↓x_ifb0, ↓x_ifb1, ↓x_if00, ↓x_if10, x_addL, x_Ladd, x_mulL, x_Lmul, nI_add, pk_mul, nI_pred, if_true, if_false, x_m1, n_a0, x_ue, x_un, ↓if_neg b1, ↓if_neg b2, a2]
      exact fin _ (by rw [e9, byI_n (by omega)])
    · have b3' := mt k2'.mpr b3
      rw [b01_f b3] at a2
      simp (disch := omega) only [↓x_let, ↓x_nam, ↓x_put, ↓x_bX, ↓x_ob, ↓x_ald, ↓x_aldL, ↓x_ast, ↓x_astL, ↓x_at0, ↓x_at_0, ↓x_mk0, ↓x_at, ↓x_atL, ↓x_at_, ↓x_at_L, ↓x_mk, ↓x_mkL, ↓x_aald, ↓x_w, ↓x_wi, ↓ok_s, ↓x_ifle_t, ↓x_ifle_f, ↓x_iflt_t, ↓x_iflt_f, ↓x_ifeq_t, ↓x_ifeq_f, ↓x_ifleL_t, ↓x_ifleL_f, ↓x_ifltL_t, ↓x_ifltL_f, ↓x_ifeqL_t, ↓x_ifeqL_f, ↓x_ifLle_t, ↓x_ifLle_f, ↓x_ifLlt_t, ↓x_ifLlt_f, ↓x_ifnm1, ↓x_ifb0, ↓x_ifb1, ↓x_if00, ↓x_if10, x_addL, x_Ladd, x_mulL, x_Lmul, nI_add, pk_mul, nI_pred, if_true, if_false, x_m1, n_a0, x_ue, x_un, ↓if_neg b1, ↓if_neg b2, a2]; try simp (disch := omega) only [↓x_let, ↓x_nam, ↓x_put, ↓x_bX, ↓x_ob, ↓x_ald, ↓x_aldL, ↓x_ast, ↓x_astL, ↓x_at0, ↓x_at_0, ↓x_mk0, ↓x_at, ↓x_atL, ↓x_at_, ↓x_at_L, ↓x_mk, ↓x_mkL, ↓x_aald, ↓x_w, ↓x_wi, ↓ok_s, ↓x_ifle_t, ↓x_ifle_f, ↓x_iflt_t, ↓x_iflt_f, ↓x_ifeq_t, ↓x_ifeq_f, ↓x_ifleL_t, ↓x_ifleL_f, ↓x_ifltL_t, ↓x_ifltL_f, ↓x_ifeqL_t, ↓x_ifeqL_f, ↓x_ifLle_t, ↓x_ifLle_f, ↓x_ifLlt_t, ↓x_ifLlt_f, ↓x_ifnm1, ↓x_ifb0, ↓x_ifb1, ↓x_if00, ↓x_if10, x_addL, x_Ladd, x_mulL, x_Lmul, nI_add, pk_mul, nI_pred, if_true, if_false, x_m1, n_a0, x_ue, x_un, ↓if_neg b1, ↓if_neg b2, a2]; try simp (disch := omega) only [↓x_let, ↓x_nam, ↓x_put, ↓x_bX, ↓x_ob, ↓x_ald, ↓x_aldL, ↓x_ast, ↓x_astL, ↓x_at0, ↓x_at_0, ↓x_mk0, ↓x_at, ↓x_atL, ↓x_at_, ↓x_at_L, ↓x_mk, ↓x_mkL, ↓x_aald, ↓x_w, ↓x_wi, ↓ok_s, ↓x_ifle_t, ↓x_ifle_f, ↓x_iflt_t, ↓x_iflt_f, ↓x_ifeq_t, ↓x_ifeq_f, ↓x_ifleL_t, ↓x_ifleL_f, ↓x_ifltL_t, ↓x_ifltL_f, ↓x_ifeqL_t, ↓x_ifeqL_f, ↓x_ifLle_t, ↓x_ifLle_f, ↓x_ifLlt_t, ↓x_ifLlt_f, ↓x_ifnm1, ↓x_ifb0, ↓x_ifb1, ↓x_if00, ↓x_if10, x_addL, x_Ladd, x_mulL, x_Lmul, nI_add, pk_mul, nI_pred, if_true, if_false, x_m1, n_a0, x_ue, x_un, ↓if_neg b1, ↓if_neg b2, a2]; try simp (disch := omega) only [↓x_let, ↓x_nam, ↓x_put, ↓x_bX, ↓x_ob, ↓x_ald, ↓x_aldL, ↓x_ast, ↓x_astL, ↓x_at0, ↓x_at_0, ↓x_mk0, ↓x_at, ↓x_atL, ↓x_at_, ↓x_at_L, ↓x_mk, ↓x_mkL, ↓x_aald, ↓x_w, ↓x_wi, ↓ok_s, ↓x_ifle_t, ↓x_ifle_f, ↓x_iflt_t, ↓x_iflt_f, ↓x_ifeq_t, ↓x_ifeq_f, ↓x_ifleL_t, ↓x_ifleL_f, ↓x_ifltL_t, ↓x_ifltL_f, ↓x_ifeqL_t, ↓x_ifeqL_f, ↓x_ifLle_t, ↓x_ifLle_f, ↓x_ifLlt_t, ↓x_ifLlt_f, ↓x_ifnm1, ↓x_ifb0, ↓x_ifb1, ↓x_if00, ↓x_if10, x_addL, x_Ladd, x_mulL, x_Lmul, nI_add, pk_mul, nI_pred, if_true, if_false, x_m1, n_a0, x_ue, x_un, ↓if_neg b1, ↓if_neg b2, a2]
      exact fin _ (by rw [e8, byI_y ⟨by omega, by omega⟩])
