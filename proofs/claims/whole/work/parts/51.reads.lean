/-! 51.reads: who is there, how many -/
theorem i_rng {x : Int32} {n : Nat} (hn : n < 2 ^ 31) : (0 ≤ x ∧ x ≤ nI n - 1) ↔ ∃ r, r < n ∧ x = nI r := by
  constructor
  · rintro ⟨h1, h2⟩
    obtain ⟨j, hj, rfl⟩ := nI_of (i_nlt.mpr h1)
    cases n with
    | zero =>
      exfalso
      have h3 : nI 0 - 1 = (-1 : Int32) := by decide
      rw [h3] at h2
      have h4 : (-1 : Int32) < nI j := fa_trans (show (-1 : Int32) < 0 by decide) h1
      exact i_nle.mpr h4 h2
    | succ m =>
      rw [nI_pred] at h2
      exact ⟨j, Nat.lt_succ_of_le ((nI_leI hj (by omega)).mp h2), rfl⟩
  · rintro ⟨r, hr, rfl⟩
    refine ⟨nI_pos' (by omega), ?_⟩
    cases n with
    | zero => exact absurd hr (Nat.not_lt_zero r)
    | succ m =>
      rw [nI_pred]
      exact nI_le (by omega) (by omega)
theorem z_bool_b {α : Type} {p : Prop} [Decidable p] {r : Option α} : z_bool (b01 p) r = r := if_pos b01_b
theorem q_isRider {d : z_D} {o n : Nat} (x : Int32) (h1 : d (o + 1) 1 = nI n) : f_X9_isRider d o x = some (b01 (0 ≤ x ∧ x ≤ nI n - 1)) := by
  unfold f_X9_isRider
  rw [q_aldl 1 1 rfl (by omega) (by omega), h1, q_X9_isIn, o_b, z_bool_b]
/-- a rider that is there, by the model -/
def m_thr (d : z_D) (o n : Nat) (x : Int32) : Prop := ∃ r, r < n ∧ x = nI r ∧ d (o + 1) (10 + 3 * r) = 1
theorem q_isThere_t {d : z_D} {o n : Nat} {x : Int32} (hn : n ≤ 16) (h1 : d (o + 1) 1 = nI n) (h : m_thr d o n x) : f_X9_isThere d o x = some 1 := by
  obtain ⟨r, hr, rfl, h2⟩ := h
  unfold f_X9_isThere
  rw [q_isRider _ h1, b01_t ((i_rng (by omega)).mpr ⟨r, hr, rfl⟩)]
  rw [o_b, if_neg (by decide), q_aldl _ (10 + 3 * r) (by rw [q_r3, fa_lit 2, nI_add]; congr 1; omega) (by omega) (by omega), h2]
  rfl
theorem q_isThere_f {d : z_D} {o n : Nat} {x : Int32} (hn : n ≤ 16) (h1 : d (o + 1) 1 = nI n) (h : ¬ m_thr d o n x) : f_X9_isThere d o x = some 0 := by
  unfold f_X9_isThere
  rw [q_isRider _ h1]
  by_cases hr : 0 ≤ x ∧ x ≤ nI n - 1
  · rw [b01_t hr]
    obtain ⟨r, hr2, rfl⟩ := (i_rng (by omega)).mp hr
    rw [o_b, if_neg (by decide), q_aldl _ (10 + 3 * r) (by rw [q_r3, fa_lit 2, nI_add]; congr 1; omega) (by omega) (by omega), if_neg (fun h9 => h ⟨r, hr2, rfl, h9⟩)]
  · rw [b01_f hr]
    rfl
theorem q_isOpen {d : z_D} {o : Nat} : f_X9_isOpen d o = some (if d (o + 1) 3 = 1 then 1 else 0) := by
  unfold f_X9_isOpen
  rw [q_aldl 3 3 rfl (by omega) (by omega)]
  by_cases h : d (o + 1) 3 = 1
  · rw [if_pos h, if_pos h]
  · rw [if_neg h, if_neg h]
theorem q_latest {d : z_D} {o : Nat} : f_X9_latest d o = some (d (o + 1) 2 - 1) := by
  unfold f_X9_latest
  rw [q_aldl 2 2 rfl (by omega) (by omega)]
theorem q_closedMany {d : z_D} {o : Nat} : f_X9_closedMany d o = some (d (o + 1) 2 - d (o + 1) 3) := by
  unfold f_X9_closedMany
  rw [q_aldl 2 2 rfl (by omega) (by omega), q_aldl 3 3 rfl (by omega) (by omega)]
theorem q_hasFinish {d : z_D} {o s r : Nat} (hs : s < 8) (hr : r < 16) : f_X9_hasFinish d o (nI s) (nI r) = some (if d (o + 1) (183 + 325 * s + 12 * r) ≤ 0 then 0 else 1) := by
  unfold f_X9_hasFinish
  rw [show f_X9_at_ (nI s) (nI r) 0 = _ from q_at_ s r 0, o_b, q_ald (by omega) (by omega)]
  show (if d (o + 1) (183 + 325 * s + 12 * r) ≤ 0 then some 0 else some 1) = _
  by_cases h : d (o + 1) (183 + 325 * s + 12 * r) ≤ 0
  · rw [if_pos h, if_pos h]
  · rw [if_neg h, if_neg h]
/-- how many of the first n -/
theorem q_finishes {d : z_D} {o n s : Nat} (hn : n ≤ 16) (hs : s < 8) (h1 : d (o + 1) 1 = nI n) : f_X9_finishes d o (nI s) = some (nI (fb_ct (fun r => decide (¬ d (o + 1) (183 + 325 * s + 12 * r) ≤ 0)) n)) := by
  unfold f_X9_finishes
  have key : ∀ (m i f c : Nat), i + m = n → m < f → c = fb_ct (fun r => decide (¬ d (o + 1) (183 + 325 * s + 12 * r) ≤ 0)) i → f_X9_finishes_L4 d o (nI s) (fun v5 => some v5) f (nI c) (nI i) = some (nI (fb_ct (fun r => decide (¬ d (o + 1) (183 + 325 * s + 12 * r) ≤ 0)) n)) := by
    intro m
    induction m with
    | zero =>
      intro i f c hi hf hc
      obtain ⟨f, rfl⟩ : ∃ g, f = g + 1 := ⟨f - 1, by omega⟩
      show f_X9_finishes_L4_b d o (nI s) _ _ (nI c) (nI i) = _
      unfold f_X9_finishes_L4_b
      rw [q_aldl 1 1 rfl (by omega) (by omega), h1, if_pos (nI_le (by omega) (by omega)), hc, show i = n by omega]
    | succ m ih =>
      intro i f c hi hf hc
      obtain ⟨f, rfl⟩ : ∃ g, f = g + 1 := ⟨f - 1, by omega⟩
      show f_X9_finishes_L4_b d o (nI s) _ _ (nI c) (nI i) = _
      unfold f_X9_finishes_L4_b
      rw [q_aldl 1 1 rfl (by omega) (by omega), h1, if_neg (nI_ge (by omega) (by omega)), q_hasFinish hs (by omega), o_b]
      by_cases h : d (o + 1) (183 + 325 * s + 12 * i) ≤ 0
      · rw [if_pos h, if_pos rfl]
        show f_X9_finishes_L4 d o (nI s) _ f (nI c + nI 0) (nI i + nI 1) = _
        rw [nI_add, nI_add]
        refine ih (i + 1) f (c + 0) (by omega) (by omega) ?_
        rw [fb_ct_succ, hc]
        simp [h]
      · rw [if_neg h, if_neg (by decide)]
        show f_X9_finishes_L4 d o (nI s) _ f (nI c + nI 1) (nI i + nI 1) = _
        rw [nI_add, nI_add]
        refine ih (i + 1) f (c + 1) (by omega) (by omega) ?_
        rw [fb_ct_succ, hc]
        simp [h]
  exact key n 0 z_N 0 (by omega) (by show n < 6000; omega) rfl
theorem q_there {d : z_D} {o n : Nat} (hn : n ≤ 16) (h1 : d (o + 1) 1 = nI n) : f_X9_there d o = some (nI (fb_ct (fun r => decide (d (o + 1) (10 + 3 * r) = 1)) n)) := by
  unfold f_X9_there
  have key : ∀ (m i f c : Nat), i + m = n → m < f → c = fb_ct (fun r => decide (d (o + 1) (10 + 3 * r) = 1)) i → f_X9_there_L4 d o (fun v5 => some v5) f (nI c) (nI i) = some (nI (fb_ct (fun r => decide (d (o + 1) (10 + 3 * r) = 1)) n)) := by
    intro m
    induction m with
    | zero =>
      intro i f c hi hf hc
      obtain ⟨f, rfl⟩ : ∃ g, f = g + 1 := ⟨f - 1, by omega⟩
      show f_X9_there_L4_b d o _ _ (nI c) (nI i) = _
      unfold f_X9_there_L4_b
      rw [q_aldl 1 1 rfl (by omega) (by omega), h1, if_pos (nI_le (by omega) (by omega)), hc, show i = n by omega]
    | succ m ih =>
      intro i f c hi hf hc
      obtain ⟨f, rfl⟩ : ∃ g, f = g + 1 := ⟨f - 1, by omega⟩
      show f_X9_there_L4_b d o _ _ (nI c) (nI i) = _
      unfold f_X9_there_L4_b
      rw [q_aldl 1 1 rfl (by omega) (by omega), h1, if_neg (nI_ge (by omega) (by omega))]
      by_cases h : d (o + 1) (10 + 3 * i) = 1
      · rw [q_isThere_t hn h1 ⟨i, by omega, rfl, h⟩, o_b, if_neg (by decide)]
        show f_X9_there_L4 d o _ f (nI c + nI 1) (nI i + nI 1) = _
        rw [nI_add, nI_add]
        refine ih (i + 1) f (c + 1) (by omega) (by omega) ?_
        rw [fb_ct_succ, hc]
        simp [h]
      · have h9 : ¬ m_thr d o n (nI i) := by
          rintro ⟨r, hr, e, h8⟩
          have e2 : i = r := (nI_eq (by omega) (by omega)).mp e
          rw [← e2] at h8
          exact h h8
        rw [q_isThere_f hn h1 h9, o_b, if_pos rfl]
        show f_X9_there_L4 d o _ f (nI c + nI 0) (nI i + nI 1) = _
        rw [nI_add, nI_add]
        refine ih (i + 1) f (c + 0) (by omega) (by omega) ?_
        rw [fb_ct_succ, hc]
        simp [h]
  exact key n 0 z_N 0 (by omega) (by show n < 6000; omega) rfl
/-- the class's race -/
def c_thr (d : z_D) (b n : Nat) (x : Int32) : Prop := ∃ r, r < n ∧ x = nI r ∧ ¬ d (b + 3) r = 0
theorem q_hasRider {d : z_D} {b n : Nat} (x : Int32) (h1 : d b 1 = nI n) : f_X3_hasRider d b x = some (b01 (0 ≤ x ∧ x ≤ nI n - 1)) := by
  unfold f_X3_hasRider
  rw [h1, q_X8_within, o_b, z_bool_b]
theorem q_isIn_t {d : z_D} {b n : Nat} {x : Int32} (hn : n ≤ 16) (h1 : d b 1 = nI n) (h : c_thr d b n x) : f_X3_isIn d b x = some 1 := by
  obtain ⟨r, hr, rfl, h2⟩ := h
  unfold f_X3_isIn
  rw [q_hasRider _ h1, b01_t ((i_rng (by omega)).mpr ⟨r, hr, rfl⟩), o_b, if_neg (by decide), q_ald (by omega) (by omega), if_neg h2]
theorem q_isIn_f {d : z_D} {b n : Nat} {x : Int32} (hn : n ≤ 16) (h1 : d b 1 = nI n) (h : ¬ c_thr d b n x) : f_X3_isIn d b x = some 0 := by
  unfold f_X3_isIn
  rw [q_hasRider _ h1]
  by_cases hr : 0 ≤ x ∧ x ≤ nI n - 1
  · rw [b01_t hr]
    obtain ⟨r, hr2, rfl⟩ := (i_rng (by omega)).mp hr
    rw [o_b, if_neg (by decide), q_ald (by omega) (by omega)]
    by_cases h9 : d (b + 3) r = 0
    · rw [if_pos h9]
    · exact absurd ⟨r, hr2, rfl, h9⟩ h
  · rw [b01_f hr]
    rfl
theorem q_countIn {d : z_D} {b n : Nat} (hn : n ≤ 16) (h1 : d b 1 = nI n) : f_X3_countIn d b = some (nI (fb_ct (fun r => decide (¬ d (b + 3) r = 0)) n)) := by
  unfold f_X3_countIn
  have key : ∀ (m i f c : Nat), i + m = n → m < f → c = fb_ct (fun r => decide (¬ d (b + 3) r = 0)) i → f_X3_countIn_L4 d b (fun v5 => some v5) f (nI c) (nI i) = some (nI (fb_ct (fun r => decide (¬ d (b + 3) r = 0)) n)) := by
    intro m
    induction m with
    | zero =>
      intro i f c hi hf hc
      obtain ⟨f, rfl⟩ : ∃ g, f = g + 1 := ⟨f - 1, by omega⟩
      show f_X3_countIn_L4_b d b _ _ (nI c) (nI i) = _
      unfold f_X3_countIn_L4_b
      rw [h1, if_pos (nI_le (by omega) (by omega)), hc, show i = n by omega]
    | succ m ih =>
      intro i f c hi hf hc
      obtain ⟨f, rfl⟩ : ∃ g, f = g + 1 := ⟨f - 1, by omega⟩
      show f_X3_countIn_L4_b d b _ _ (nI c) (nI i) = _
      unfold f_X3_countIn_L4_b
      rw [h1, if_neg (nI_ge (by omega) (by omega)), q_ald (by omega) (by omega)]
      by_cases h : d (b + 3) i = 0
      · rw [if_pos h]
        show f_X3_countIn_L4 d b _ f (nI c) (nI i + nI 1) = _
        rw [nI_add]
        refine ih (i + 1) f c (by omega) (by omega) ?_
        rw [fb_ct_succ, hc]
        simp [h]
      · rw [if_neg h]
        show f_X3_countIn_L4 d b _ f (nI c + nI 1) (nI i + nI 1) = _
        rw [nI_add, nI_add]
        refine ih (i + 1) f (c + 1) (by omega) (by omega) ?_
        rw [fb_ct_succ, hc]
        simp [h]
  exact key n 0 z_N 0 (by omega) (by show n < 6000; omega) rfl
