/-! 63.ops: what calls do to a row, and that class and model do it: counts, rules, what is told of a rider -/
abbrev th (ρ : Nat → Int32) (x : Int32) : Prop := (0 ≤ x ∧ x ≤ ρ 1 - 1) ∧ ρ (10 + 3 * x.toNatClampNeg) = 1
def LB (ρ : Nat → Int32) : Nat := 56 + 325 * ((ρ 2).toNatClampNeg - 1)
def setR (d : z_D) (a : Nat) (ρ : Nat → Int32) : z_D := fun a' => if a' = a then ρ else d a'
theorem setR_s (d : z_D) (a : Nat) (ρ : Nat → Int32) : setR d a ρ a = ρ := if_pos rfl
theorem setR_n {d : z_D} {a a' : Nat} {ρ : Nat → Int32} (h : ¬ a' = a) : setR d a ρ a' = d a' := if_neg h
theorem setR_i {d : z_D} {a : Nat} {ρ : Nat → Int32} (h : d a = ρ) : setR d a ρ = d := by
  funext a'
  by_cases e : a' = a
  · rw [e, setR_s, h]
  · rw [setR_n e]
theorem up_set (d : z_D) (a k : Nat) (v : Int32) : z_up d a k v = setR d a (upd (d a) k v) := by
  funext a' k'
  unfold z_up setR upd
  by_cases e : a' = a
  · subst e
    by_cases e2 : k' = k <;> simp [e2]
  · simp [e]
theorem setR_2 (d : z_D) (a : Nat) (ρ ρ' : Nat → Int32) : setR (setR d a ρ) a ρ' = setR d a ρ' := by
  funext a'
  by_cases e : a' = a
  · rw [e, setR_s, setR_s]
  · rw [setR_n e, setR_n e, setR_n e]
theorem th_iff {ρ : Nat → Int32} {x : Int32} {n : Nat} (h1 : ρ 1 = nI n) (hn : n ≤ 16) : th ρ x ↔ ∃ r, r < n ∧ x = nI r ∧ ρ (10 + 3 * r) = 1 := by
  unfold th
  rw [h1, i_rng (by omega)]
  constructor
  · rintro ⟨⟨r, hr, rfl⟩, h⟩
    rw [nI_clamp (by omega)] at h
    exact ⟨r, hr, rfl, h⟩
  · rintro ⟨r, hr, rfl, h⟩
    rw [nI_clamp (by omega)]
    exact ⟨⟨r, hr, rfl⟩, h⟩
theorem k_isIn {d : z_D} {b t n s : Nat} {ρ : Nat → Int32} (h : St d b ρ t n s) (x : Int32) : f_X3_isIn d b x = some (b01 (th ρ x)) := by
  have hn := h.1.2.1
  have e1 : d b 1 = nI n := by rw [h.2.1.2.1, hn.1]
  have hiff : c_thr d b n x ↔ th ρ x := by
    rw [th_iff hn.1 hn.2]
    unfold c_thr
    constructor
    · rintro ⟨r, hr, rfl, h2⟩
      have hri := h.2.2.1 r hr
      refine ⟨r, hr, rfl, ?_⟩
      rw [hri.2.2.2.2.2] at h2
      exact hri.2.2.1.resolve_left h2
    · rintro ⟨r, hr, rfl, h2⟩
      have hri := h.2.2.1 r hr
      refine ⟨r, hr, rfl, ?_⟩
      rw [hri.2.2.2.2.2, h2]
      decide
  by_cases ht : th ρ x
  · rw [q_isIn_t hn.2 e1 (hiff.mpr ht), b01_t ht]
  · rw [q_isIn_f hn.2 e1 (fun h9 => ht (hiff.mp h9)), b01_f ht]
theorem m_isThere {d : z_D} {o t n s : Nat} (h : R_cnt (d (o + 1)) t n s) (x : Int32) : f_X9_isThere d o x = some (b01 (th (d (o + 1)) x)) := by
  have hn := h.2.1
  have hiff : m_thr d o n x ↔ th (d (o + 1)) x := by
    rw [th_iff hn.1 hn.2]
    rfl
  by_cases ht : th (d (o + 1)) x
  · rw [q_isThere_t hn.2 hn.1 (hiff.mpr ht), b01_t ht]
  · rw [q_isThere_f hn.2 hn.1 (fun h9 => ht (hiff.mp h9)), b01_f ht]
theorem m_isOpen {d : z_D} {o : Nat} : f_X9_isOpen d o = some (b01 (d (o + 1) 3 = 1)) := q_isOpen
/-- the open stage -/
theorem St.opn {d : z_D} {b t n s : Nat} {ρ : Nat → Int32} (h : St d b ρ t n s) (ho : ρ 3 = 1) : ∃ L, s = L + 1 ∧ L < 8 ∧ LB ρ = 56 + 325 * L ∧ ρ 2 = nI (L + 1) := by
  have hs := h.1.2.2.1
  have hs0 : 0 < s := by
    rcases h.1.2.2.2.1 with e | e
    · rw [e] at ho; exact absurd ho (by decide)
    · exact e.2
  refine ⟨s - 1, by omega, by omega, ?_, ?_⟩
  · unfold LB
    rw [hs.1, nI_clamp (by omega)]
  · rw [hs.1]
    congr 1
    omega
theorem St.clo {d : z_D} {b t n s : Nat} {ρ : Nat → Int32} (h : St d b ρ t n s) (ho : ¬ ρ 3 = 1) : ρ 3 = 0 := by
  rcases h.1.2.2.2.1 with e | e
  · exact e
  · exact absurd e.1 ho
theorem nI_eq0 {f : Nat} (h : f < 2 ^ 31) (e : nI f = 0) : f = 0 := by
  rw [← nI_0] at e
  exact (nI_eq h (by omega)).mp e
/-! a finish -/
def a_finish (ρ : Nat → Int32) (x y : Int32) : Int32 × (Nat → Int32) :=
  if ρ 3 = 1 ∧ th ρ x ∧ (1 ≤ y ∧ y ≤ 999999) ∧ ρ (LB ρ + 127 + 12 * x.toNatClampNeg) = 0 then (1, upd ρ (LB ρ + 127 + 12 * x.toNatClampNeg) y) else (0, ρ)
theorem m_finish {d dc : z_D} {o b t n s : Nat} (h : St dc b (d (o + 1)) t n s) (x y : Int32) : f_X9_finishes_ d o x y = some ((a_finish (d (o + 1)) x y).1, setR d (o + 1) (a_finish (d (o + 1)) x y).2) := by
  unfold f_X9_finishes_
  have no : ¬ (d (o + 1) 3 = 1 ∧ th (d (o + 1)) x ∧ (1 ≤ y ∧ y ≤ 999999) ∧ d (o + 1) (LB (d (o + 1)) + 127 + 12 * x.toNatClampNeg) = 0) → a_finish (d (o + 1)) x y = (0, d (o + 1)) := fun h => if_neg h
  have hth := m_isThere h.1 x
  by_cases h3 : d (o + 1) 3 = 1
  · obtain ⟨L, rfl, hL, hB, h2⟩ := h.opn h3
    have hla : f_X9_latest d o = some (nI L) := by rw [q_latest, h2, nI_pred]
    by_cases ht : th (d (o + 1)) x
    · obtain ⟨r, hr, rfl, hin⟩ := (th_iff h.1.2.1.1 h.1.2.1.2).mp ht
      have hn16 := h.1.2.1.2
      by_cases hy : 1 ≤ y ∧ y ≤ 999999
      · obtain ⟨f, f1, f2, -⟩ := ((h.2.2.2.1 L (by omega)).2.2.2.2.1 r (by omega)).1
        have hhf := q_hasFinish (d := d) (o := o) hL (show r < 16 by omega)
        by_cases hf : f = 0
        · have e : a_finish (d (o + 1)) (nI r) y = (1, upd (d (o + 1)) (183 + 325 * L + 12 * r) y) := by
            unfold a_finish
            rw [if_pos ⟨h3, ht, hy, by rw [hB, nI_clamp (by omega), f2, hf, nI_0]⟩, hB, nI_clamp (by omega)]
            congr 2
            omega
          rw [if_pos (by rw [show 183 + 325 * L + 12 * r = 56 + 325 * L + 127 + 12 * r by omega, f2, hf, nI_0]; decide)] at hhf
          simp (disch := omega) only [↓x_let, ↓x_nam, ↓x_put, ↓x_bX, ↓x_ob, ↓x_ald, ↓x_aldL, ↓x_ast, ↓x_astL, ↓x_at0, ↓x_at_0, ↓x_mk0, ↓x_at, ↓x_atL, ↓x_at_, ↓x_at_L, ↓x_mk, ↓x_mkL, ↓x_aald, ↓x_w, ↓x_wi, ↓ok_s, ↓x_ifle_t, ↓x_ifle_f, ↓x_iflt_t, ↓x_iflt_f, ↓x_ifeq_t, ↓x_ifeq_f, ↓x_ifleL_t, ↓x_ifleL_f, ↓x_ifltL_t, ↓x_ifltL_f, ↓x_ifeqL_t, ↓x_ifeqL_f, ↓x_ifLle_t, ↓x_ifLle_f, ↓x_ifLlt_t, ↓x_ifLlt_f, ↓x_ifnm1, ↓x_ifb0, ↓x_ifb1, ↓x_if00, ↓x_if10, x_addL, x_Ladd, x_mulL, x_Lmul, nI_add, pk_mul, x_subL, x_m1, n_a0, x_ue, x_un, m_isOpen, hth, hla, hhf, ↓if_pos h3, ↓if_pos ht, ↓if_pos hy]; try simp (disch := omega) only [↓x_let, ↓x_nam, ↓x_put, ↓x_bX, ↓x_ob, ↓x_ald, ↓x_aldL, ↓x_ast, ↓x_astL, ↓x_at0, ↓x_at_0, ↓x_mk0, ↓x_at, ↓x_atL, ↓x_at_, ↓x_at_L, ↓x_mk, ↓x_mkL, ↓x_aald, ↓x_w, ↓x_wi, ↓ok_s, ↓x_ifle_t, ↓x_ifle_f, ↓x_iflt_t, ↓x_iflt_f, ↓x_ifeq_t, ↓x_ifeq_f, ↓x_ifleL_t, ↓x_ifleL_f, ↓x_ifltL_t, ↓x_ifltL_f, ↓x_ifeqL_t, ↓x_ifeqL_f, ↓x_ifLle_t, ↓x_ifLle_f, ↓x_ifLlt_t, ↓x_ifLlt_f, ↓x_ifnm1, ↓x_ifb0, ↓x_ifb1, ↓x_if00, ↓x_if10, x_addL, x_Ladd, x_mulL, x_Lmul, nI_add, pk_mul, x_subL, x_m1, n_a0, x_ue, x_un, m_isOpen, hth, hla, hhf, ↓if_pos h3, ↓if_pos ht, ↓if_pos hy]; try simp (disch := omega) only [↓x_let, ↓x_nam, ↓x_put, ↓x_bX, ↓x_ob, ↓x_ald, ↓x_aldL, ↓x_ast, ↓x_astL, ↓x_at0, ↓x_at_0, ↓x_mk0, ↓x_at, ↓x_atL, ↓x_at_, ↓x_at_L, ↓x_mk, ↓x_mkL, ↓x_aald, ↓x_w, ↓x_wi, ↓ok_s, ↓x_ifle_t, ↓x_ifle_f, ↓x_iflt_t, ↓x_iflt_f, ↓x_ifeq_t, ↓x_ifeq_f, ↓x_ifleL_t, ↓x_ifleL_f, ↓x_ifltL_t, ↓x_ifltL_f, ↓x_ifeqL_t, ↓x_ifeqL_f, ↓x_ifLle_t, ↓x_ifLle_f, ↓x_ifLlt_t, ↓x_ifLlt_f, ↓x_ifnm1, ↓x_ifb0, ↓x_ifb1, ↓x_if00, ↓x_if10, x_addL, x_Ladd, x_mulL, x_Lmul, nI_add, pk_mul, x_subL, x_m1, n_a0, x_ue, x_un, m_isOpen, hth, hla, hhf, ↓if_pos h3, ↓if_pos ht, ↓if_pos hy]
          rw [e, up_set]
        · rw [if_neg (by rw [show 183 + 325 * L + 12 * r = 56 + 325 * L + 127 + 12 * r by omega, f2]; exact nI_nle (by omega) (by omega))] at hhf
          simp (disch := omega) only [↓x_let, ↓x_nam, ↓x_put, ↓x_bX, ↓x_ob, ↓x_ald, ↓x_aldL, ↓x_ast, ↓x_astL, ↓x_at0, ↓x_at_0, ↓x_mk0, ↓x_at, ↓x_atL, ↓x_at_, ↓x_at_L, ↓x_mk, ↓x_mkL, ↓x_aald, ↓x_w, ↓x_wi, ↓ok_s, ↓x_ifle_t, ↓x_ifle_f, ↓x_iflt_t, ↓x_iflt_f, ↓x_ifeq_t, ↓x_ifeq_f, ↓x_ifleL_t, ↓x_ifleL_f, ↓x_ifltL_t, ↓x_ifltL_f, ↓x_ifeqL_t, ↓x_ifeqL_f, ↓x_ifLle_t, ↓x_ifLle_f, ↓x_ifLlt_t, ↓x_ifLlt_f, ↓x_ifnm1, ↓x_ifb0, ↓x_ifb1, ↓x_if00, ↓x_if10, x_addL, x_Ladd, x_mulL, x_Lmul, nI_add, pk_mul, x_subL, x_m1, n_a0, x_ue, x_un, m_isOpen, hth, hla, hhf, ↓if_pos h3, ↓if_pos ht, ↓if_pos hy]; try simp (disch := omega) only [↓x_let, ↓x_nam, ↓x_put, ↓x_bX, ↓x_ob, ↓x_ald, ↓x_aldL, ↓x_ast, ↓x_astL, ↓x_at0, ↓x_at_0, ↓x_mk0, ↓x_at, ↓x_atL, ↓x_at_, ↓x_at_L, ↓x_mk, ↓x_mkL, ↓x_aald, ↓x_w, ↓x_wi, ↓ok_s, ↓x_ifle_t, ↓x_ifle_f, ↓x_iflt_t, ↓x_iflt_f, ↓x_ifeq_t, ↓x_ifeq_f, ↓x_ifleL_t, ↓x_ifleL_f, ↓x_ifltL_t, ↓x_ifltL_f, ↓x_ifeqL_t, ↓x_ifeqL_f, ↓x_ifLle_t, ↓x_ifLle_f, ↓x_ifLlt_t, ↓x_ifLlt_f, ↓x_ifnm1, ↓x_ifb0, ↓x_ifb1, ↓x_if00, ↓x_if10, x_addL, x_Ladd, x_mulL, x_Lmul, nI_add, pk_mul, x_subL, x_m1, n_a0, x_ue, x_un, m_isOpen, hth, hla, hhf, ↓if_pos h3, ↓if_pos ht, ↓if_pos hy]; try simp (disch := omega) only [↓x_let, ↓x_nam, ↓x_put, ↓x_bX, ↓x_ob, ↓x_ald, ↓x_aldL, ↓x_ast, ↓x_astL, ↓x_at0, ↓x_at_0, ↓x_mk0, ↓x_at, ↓x_atL, ↓x_at_, ↓x_at_L, ↓x_mk, ↓x_mkL, ↓x_aald, ↓x_w, ↓x_wi, ↓ok_s, ↓x_ifle_t, ↓x_ifle_f, ↓x_iflt_t, ↓x_iflt_f, ↓x_ifeq_t, ↓x_ifeq_f, ↓x_ifleL_t, ↓x_ifleL_f, ↓x_ifltL_t, ↓x_ifltL_f, ↓x_ifeqL_t, ↓x_ifeqL_f, ↓x_ifLle_t, ↓x_ifLle_f, ↓x_ifLlt_t, ↓x_ifLlt_f, ↓x_ifnm1, ↓x_ifb0, ↓x_ifb1, ↓x_if00, ↓x_if10, x_addL, x_Ladd, x_mulL, x_Lmul, nI_add, pk_mul, x_subL, x_m1, n_a0, x_ue, x_un, m_isOpen, hth, hla, hhf, ↓if_pos h3, ↓if_pos ht, ↓if_pos hy]
          rw [no (fun h9 => by
            rw [hB, nI_clamp (by omega), f2] at h9
            exact hf (nI_eq0 (by omega) h9.2.2.2)), setR_i rfl]
      · simp (disch := omega) only [↓x_let, ↓x_nam, ↓x_put, ↓x_bX, ↓x_ob, ↓x_ald, ↓x_aldL, ↓x_ast, ↓x_astL, ↓x_at0, ↓x_at_0, ↓x_mk0, ↓x_at, ↓x_atL, ↓x_at_, ↓x_at_L, ↓x_mk, ↓x_mkL, ↓x_aald, ↓x_w, ↓x_wi, ↓ok_s, ↓x_ifle_t, ↓x_ifle_f, ↓x_iflt_t, ↓x_iflt_f, ↓x_ifeq_t, ↓x_ifeq_f, ↓x_ifleL_t, ↓x_ifleL_f, ↓x_ifltL_t, ↓x_ifltL_f, ↓x_ifeqL_t, ↓x_ifeqL_f, ↓x_ifLle_t, ↓x_ifLle_f, ↓x_ifLlt_t, ↓x_ifLlt_f, ↓x_ifnm1, ↓x_ifb0, ↓x_ifb1, ↓x_if00, ↓x_if10, x_addL, x_Ladd, x_mulL, x_Lmul, nI_add, pk_mul, x_subL, x_m1, n_a0, x_ue, x_un, m_isOpen, hth, hla, ↓if_pos h3, ↓if_pos ht, ↓if_neg hy]; try simp (disch := omega) only [↓x_let, ↓x_nam, ↓x_put, ↓x_bX, ↓x_ob, ↓x_ald, ↓x_aldL, ↓x_ast, ↓x_astL, ↓x_at0, ↓x_at_0, ↓x_mk0, ↓x_at, ↓x_atL, ↓x_at_, ↓x_at_L, ↓x_mk, ↓x_mkL, ↓x_aald, ↓x_w, ↓x_wi, ↓ok_s, ↓x_ifle_t, ↓x_ifle_f, ↓x_iflt_t, ↓x_iflt_f, ↓x_ifeq_t, ↓x_ifeq_f, ↓x_ifleL_t, ↓x_ifleL_f, ↓x_ifltL_t, ↓x_ifltL_f, ↓x_ifeqL_t, ↓x_ifeqL_f, ↓x_ifLle_t, ↓x_ifLle_f, ↓x_ifLlt_t, ↓x_ifLlt_f, ↓x_ifnm1, ↓x_ifb0, ↓x_ifb1, ↓x_if00, ↓x_if10, x_addL, x_Ladd, x_mulL, x_Lmul, nI_add, pk_mul, x_subL, x_m1, n_a0, x_ue, x_un, m_isOpen, hth, hla, ↓if_pos h3, ↓if_pos ht, ↓if_neg hy]; try simp (disch := omega) only [↓x_let, ↓x_nam, ↓x_put, ↓x_bX, ↓x_ob, ↓x_ald, ↓x_aldL, ↓x_ast, ↓x_astL, ↓x_at0, ↓x_at_0, ↓x_mk0, ↓x_at, ↓x_atL, ↓x_at_, ↓x_at_L, ↓x_mk, ↓x_mkL, ↓x_aald, ↓x_w, ↓x_wi, ↓ok_s, ↓x_ifle_t, ↓x_ifle_f, ↓x_iflt_t, ↓x_iflt_f, ↓x_ifeq_t, ↓x_ifeq_f, ↓x_ifleL_t, ↓x_ifleL_f, ↓x_ifltL_t, ↓x_ifltL_f, ↓x_ifeqL_t, ↓x_ifeqL_f, ↓x_ifLle_t, ↓x_ifLle_f, ↓x_ifLlt_t, ↓x_ifLlt_f, ↓x_ifnm1, ↓x_ifb0, ↓x_ifb1, ↓x_if00, ↓x_if10, x_addL, x_Ladd, x_mulL, x_Lmul, nI_add, pk_mul, x_subL, x_m1, n_a0, x_ue, x_un, m_isOpen, hth, hla, ↓if_pos h3, ↓if_pos ht, ↓if_neg hy]
        rw [no (fun h9 => hy h9.2.2.1), setR_i rfl]
    · simp (disch := omega) only [↓x_let, ↓x_nam, ↓x_put, ↓x_bX, ↓x_ob, ↓x_ald, ↓x_aldL, ↓x_ast, ↓x_astL, ↓x_at0, ↓x_at_0, ↓x_mk0, ↓x_at, ↓x_atL, ↓x_at_, ↓x_at_L, ↓x_mk, ↓x_mkL, ↓x_aald, ↓x_w, ↓x_wi, ↓ok_s, ↓x_ifle_t, ↓x_ifle_f, ↓x_iflt_t, ↓x_iflt_f, ↓x_ifeq_t, ↓x_ifeq_f, ↓x_ifleL_t, ↓x_ifleL_f, ↓x_ifltL_t, ↓x_ifltL_f, ↓x_ifeqL_t, ↓x_ifeqL_f, ↓x_ifLle_t, ↓x_ifLle_f, ↓x_ifLlt_t, ↓x_ifLlt_f, ↓x_ifnm1, ↓x_ifb0, ↓x_ifb1, ↓x_if00, ↓x_if10, x_addL, x_Ladd, x_mulL, x_Lmul, nI_add, pk_mul, x_subL, x_m1, n_a0, x_ue, x_un, m_isOpen, hth, ↓if_pos h3, ↓if_neg ht]; try simp (disch := omega) only [↓x_let, ↓x_nam, ↓x_put, ↓x_bX, ↓x_ob, ↓x_ald, ↓x_aldL, ↓x_ast, ↓x_astL, ↓x_at0, ↓x_at_0, ↓x_mk0, ↓x_at, ↓x_atL, ↓x_at_, ↓x_at_L, ↓x_mk, ↓x_mkL, ↓x_aald, ↓x_w, ↓x_wi, ↓ok_s, ↓x_ifle_t, ↓x_ifle_f, ↓x_iflt_t, ↓x_iflt_f, ↓x_ifeq_t, ↓x_ifeq_f, ↓x_ifleL_t, ↓x_ifleL_f, ↓x_ifltL_t, ↓x_ifltL_f, ↓x_ifeqL_t, ↓x_ifeqL_f, ↓x_ifLle_t, ↓x_ifLle_f, ↓x_ifLlt_t, ↓x_ifLlt_f, ↓x_ifnm1, ↓x_ifb0, ↓x_ifb1, ↓x_if00, ↓x_if10, x_addL, x_Ladd, x_mulL, x_Lmul, nI_add, pk_mul, x_subL, x_m1, n_a0, x_ue, x_un, m_isOpen, hth, ↓if_pos h3, ↓if_neg ht]; try simp (disch := omega) only [↓x_let, ↓x_nam, ↓x_put, ↓x_bX, ↓x_ob, ↓x_ald, ↓x_aldL, ↓x_ast, ↓x_astL, ↓x_at0, ↓x_at_0, ↓x_mk0, ↓x_at, ↓x_atL, ↓x_at_, ↓x_at_L, ↓x_mk, ↓x_mkL, ↓x_aald, ↓x_w, ↓x_wi, ↓ok_s, ↓x_ifle_t, ↓x_ifle_f, ↓x_iflt_t, ↓x_iflt_f, ↓x_ifeq_t, ↓x_ifeq_f, ↓x_ifleL_t, ↓x_ifleL_f, ↓x_ifltL_t, ↓x_ifltL_f, ↓x_ifeqL_t, ↓x_ifeqL_f, ↓x_ifLle_t, ↓x_ifLle_f, ↓x_ifLlt_t, ↓x_ifLlt_f, ↓x_ifnm1, ↓x_ifb0, ↓x_ifb1, ↓x_if00, ↓x_if10, x_addL, x_Ladd, x_mulL, x_Lmul, nI_add, pk_mul, x_subL, x_m1, n_a0, x_ue, x_un, m_isOpen, hth, ↓if_pos h3, ↓if_neg ht]
      rw [no (fun h9 => ht h9.2.1), setR_i rfl]
  · simp (disch := omega) only [↓x_let, ↓x_nam, ↓x_put, ↓x_bX, ↓x_ob, ↓x_ald, ↓x_aldL, ↓x_ast, ↓x_astL, ↓x_at0, ↓x_at_0, ↓x_mk0, ↓x_at, ↓x_atL, ↓x_at_, ↓x_at_L, ↓x_mk, ↓x_mkL, ↓x_aald, ↓x_w, ↓x_wi, ↓ok_s, ↓x_ifle_t, ↓x_ifle_f, ↓x_iflt_t, ↓x_iflt_f, ↓x_ifeq_t, ↓x_ifeq_f, ↓x_ifleL_t, ↓x_ifleL_f, ↓x_ifltL_t, ↓x_ifltL_f, ↓x_ifeqL_t, ↓x_ifeqL_f, ↓x_ifLle_t, ↓x_ifLle_f, ↓x_ifLlt_t, ↓x_ifLlt_f, ↓x_ifnm1, ↓x_ifb0, ↓x_ifb1, ↓x_if00, ↓x_if10, x_addL, x_Ladd, x_mulL, x_Lmul, nI_add, pk_mul, x_subL, x_m1, n_a0, x_ue, x_un, m_isOpen, ↓if_neg h3]; try simp (disch := omega) only [↓x_let, ↓x_nam, ↓x_put, ↓x_bX, ↓x_ob, ↓x_ald, ↓x_aldL, ↓x_ast, ↓x_astL, ↓x_at0, ↓x_at_0, ↓x_mk0, ↓x_at, ↓x_atL, ↓x_at_, ↓x_at_L, ↓x_mk, ↓x_mkL, ↓x_aald, ↓x_w, ↓x_wi, ↓ok_s, ↓x_ifle_t, ↓x_ifle_f, ↓x_iflt_t, ↓x_iflt_f, ↓x_ifeq_t, ↓x_ifeq_f, ↓x_ifleL_t, ↓x_ifleL_f, ↓x_ifltL_t, ↓x_ifltL_f, ↓x_ifeqL_t, ↓x_ifeqL_f, ↓x_ifLle_t, ↓x_ifLle_f, ↓x_ifLlt_t, ↓x_ifLlt_f, ↓x_ifnm1, ↓x_ifb0, ↓x_ifb1, ↓x_if00, ↓x_if10, x_addL, x_Ladd, x_mulL, x_Lmul, nI_add, pk_mul, x_subL, x_m1, n_a0, x_ue, x_un, m_isOpen, ↓if_neg h3]; try simp (disch := omega) only [↓x_let, ↓x_nam, ↓x_put, ↓x_bX, ↓x_ob, ↓x_ald, ↓x_aldL, ↓x_ast, ↓x_astL, ↓x_at0, ↓x_at_0, ↓x_mk0, ↓x_at, ↓x_atL, ↓x_at_, ↓x_at_L, ↓x_mk, ↓x_mkL, ↓x_aald, ↓x_w, ↓x_wi, ↓ok_s, ↓x_ifle_t, ↓x_ifle_f, ↓x_iflt_t, ↓x_iflt_f, ↓x_ifeq_t, ↓x_ifeq_f, ↓x_ifleL_t, ↓x_ifleL_f, ↓x_ifltL_t, ↓x_ifltL_f, ↓x_ifeqL_t, ↓x_ifeqL_f, ↓x_ifLle_t, ↓x_ifLle_f, ↓x_ifLlt_t, ↓x_ifLlt_f, ↓x_ifnm1, ↓x_ifb0, ↓x_ifb1, ↓x_if00, ↓x_if10, x_addL, x_Ladd, x_mulL, x_Lmul, nI_add, pk_mul, x_subL, x_m1, n_a0, x_ue, x_un, m_isOpen, ↓if_neg h3]
    rw [no (fun h9 => h3 h9.1), setR_i rfl]
