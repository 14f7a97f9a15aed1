/-! 80.lexp: runs of bytes, words, numbers -/
def rn (P : Int32 → Bool) (B : Nat → Int32) (L : Nat) : Nat → Nat → Nat
  | 0, p => p
  | k + 1, p => if p < L ∧ P (B p) = true then rn P B L k (p + 1) else p
def rU (P : Int32 → Bool) (B : Nat → Int32) (L p : Nat) : Nat := rn P B L (L - p) p
theorem rU_s {P : Int32 → Bool} {B : Nat → Int32} {L p : Nat} (h : p < L) (hp : P (B p) = true) : rU P B L p = rU P B L (p + 1) := by
  unfold rU
  obtain ⟨k, hk⟩ : ∃ k, L - p = k + 1 := ⟨L - p - 1, by omega⟩
  rw [hk, show L - (p + 1) = k by omega, rn, if_pos ⟨h, hp⟩]
theorem rU_x {P : Int32 → Bool} {B : Nat → Int32} {L p : Nat} (h : ¬ (p < L ∧ P (B p) = true)) : rU P B L p = p := by
  unfold rU
  cases L - p with
  | zero => rfl
  | succ k => rw [rn, if_neg h]
theorem rU_i {P : Int32 → Bool} {B : Nat → Int32} {L : Nat} : ∀ m p, L - p = m → p ≤ rU P B L p ∧ (p ≤ L → rU P B L p ≤ L) ∧ (∀ i, p ≤ i → i < rU P B L p → i < L ∧ P (B i) = true) ∧ ¬ (rU P B L p < L ∧ P (B (rU P B L p)) = true) := by
  intro m
  induction m with
  | zero =>
    intro p hp
    have hx : ¬ (p < L ∧ P (B p) = true) := fun h => by omega
    rw [rU_x hx]
    exact ⟨Nat.le_refl _, fun h => h, fun i h1 h2 => by omega, hx⟩
  | succ m ih =>
    intro p hp
    by_cases h : p < L ∧ P (B p) = true
    · obtain ⟨i1, i2, i3, i4⟩ := ih (p + 1) (by omega)
      rw [rU_s h.1 h.2]
      refine ⟨by omega, fun _ => i2 (by omega), fun i h1 h2 => ?_, i4⟩
      by_cases hi : i = p
      · rw [hi]; exact h
      · exact i3 i (by omega) h2
    · rw [rU_x h]
      exact ⟨Nat.le_refl _, fun h => h, fun i h1 h2 => by omega, h⟩
/-- the kind of a byte -/
def kd (x : Int32) : Nat := if x = 32 ∨ x = 10 then 4 else if 97 ≤ x ∧ x ≤ 122 then 1 else if 48 ≤ x ∧ x ≤ 57 then 2 else if x = 59 then 3 else 5
def kA (B : Nat → Int32) (L p : Nat) : Nat := if p < L then kd (B p) else 0
theorem kd_b (x : Int32) : 1 ≤ kd x ∧ kd x ≤ 5 := by
  unfold kd
  split
  · omega
  · split
    · omega
    · split
      · omega
      · split <;> omega
theorem kA_5 (B : Nat → Int32) (L p : Nat) : kA B L p ≤ 5 := by
  unfold kA
  have := kd_b (B p)
  split <;> omega
theorem kA_in {B : Nat → Int32} {L p : Nat} (h : p < L) : kA B L p = kd (B p) := if_pos h
theorem kA_out {B : Nat → Int32} {L p : Nat} (h : ¬ p < L) : kA B L p = 0 := if_neg h
theorem kA_z {B : Nat → Int32} {L p : Nat} : kA B L p = 0 ↔ ¬ p < L := by
  constructor
  · intro h h2
    rw [kA_in h2] at h
    have := kd_b (B p)
    omega
  · exact kA_out
theorem kd_4 {x : Int32} : kd x = 4 ↔ (x = 32 ∨ x = 10) := by
  unfold kd
  constructor
  · intro h
    split at h
    · assumption
    · split at h
      · omega
      · split at h
        · omega
        · split at h <;> omega
  · intro h
    rw [if_pos h]
theorem kd_1 {x : Int32} : kd x = 1 ↔ (97 ≤ x ∧ x ≤ 122) := by
  unfold kd
  constructor
  · intro h
    split at h
    · omega
    · split at h
      · assumption
      · split at h
        · omega
        · split at h <;> omega
  · intro h
    rw [if_neg (fun h9 => by
      rcases h9 with rfl | rfl
      · exact absurd h.1 (by decide)
      · exact absurd h.1 (by decide)), if_pos h]
theorem kd_2 {x : Int32} : kd x = 2 ↔ (48 ≤ x ∧ x ≤ 57) := by
  unfold kd
  constructor
  · intro h
    split at h
    · omega
    · split at h
      · omega
      · split at h
        · assumption
        · split at h <;> omega
  · intro h
    rw [if_neg (fun h9 => by
      rcases h9 with rfl | rfl
      · exact absurd h.1 (by decide)
      · exact absurd h.1 (by decide)), if_neg (fun h9 => absurd (Int32.le_trans h9.1 h.2) (by decide)), if_pos h]
theorem kd_3 {x : Int32} : kd x = 3 ↔ x = 59 := by
  unfold kd
  constructor
  · intro h
    split at h
    · omega
    · split at h
      · omega
      · split at h
        · omega
        · split at h
          · assumption
          · omega
  · rintro rfl
    decide
def rk (k : Nat) (B : Nat → Int32) (L p : Nat) : Nat := rU (fun x => decide (kd x = k)) B L p
theorem rk_s {k : Nat} {B : Nat → Int32} {L p : Nat} (h0 : 0 < k) (h : kA B L p = k) : rk k B L p = rk k B L (p + 1) := by
  have hL : p < L := by
    by_cases h9 : p < L
    · exact h9
    · rw [kA_out h9] at h
      omega
  rw [kA_in hL] at h
  exact rU_s hL (decide_eq_true h)
theorem rk_x {k : Nat} {B : Nat → Int32} {L p : Nat} (h : ¬ kA B L p = k) : rk k B L p = p := rU_x (fun h9 => h (by rw [kA_in h9.1]; exact of_decide_eq_true h9.2))
theorem rk_i {k : Nat} {B : Nat → Int32} {L p : Nat} (h0 : 0 < k) : p ≤ rk k B L p ∧ (p ≤ L → rk k B L p ≤ L) ∧ (∀ i, p ≤ i → i < rk k B L p → i < L ∧ kd (B i) = k) ∧ ¬ kA B L (rk k B L p) = k := by
  obtain ⟨i1, i2, i3, i4⟩ := rU_i (P := fun x => decide (kd x = k)) (B := B) (L := L) (L - p) p rfl
  refine ⟨i1, i2, fun i h1 h2 => ⟨(i3 i h1 h2).1, of_decide_eq_true (i3 i h1 h2).2⟩, fun h9 => ?_⟩
  by_cases hl : rk k B L p < L
  · rw [kA_in hl] at h9
    exact i4 ⟨hl, decide_eq_true h9⟩
  · rw [kA_out hl] at h9
    omega
/-- behind what begins at q, and what it is -/
def nx (B : Nat → Int32) (L q : Nat) : Nat := if kA B L q = 3 then q + 1 else if kA B L q = 1 ∨ kA B L q = 2 then rk (kA B L q) B L q else q
def tk (B : Nat → Int32) (L q : Nat) : Nat := if kA B L q = 2 ∧ 6 < nx B L q - q then 5 else kA B L q
theorem nx_3 {B : Nat → Int32} {L q : Nat} (h : kA B L q = 3) : nx B L q = q + 1 := if_pos h
theorem nx_1 {B : Nat → Int32} {L q : Nat} (h : kA B L q = 1) : nx B L q = rk 1 B L q := by
  unfold nx
  rw [if_neg (by omega), if_pos (Or.inl h), h]
theorem nx_2 {B : Nat → Int32} {L q : Nat} (h : kA B L q = 2) : nx B L q = rk 2 B L q := by
  unfold nx
  rw [if_neg (by omega), if_pos (Or.inr h), h]
theorem nx_0 {B : Nat → Int32} {L q : Nat} (h : ¬ kA B L q = 3) (h1 : ¬ kA B L q = 1) (h2 : ¬ kA B L q = 2) : nx B L q = q := by
  unfold nx
  rw [if_neg h, if_neg (fun h9 => by omega)]
theorem tk_y {B : Nat → Int32} {L q : Nat} (h : kA B L q = 2) (h6 : 6 < nx B L q - q) : tk B L q = 5 := if_pos ⟨h, h6⟩
theorem tk_n {B : Nat → Int32} {L q : Nat} (h : ¬ (kA B L q = 2 ∧ 6 < nx B L q - q)) : tk B L q = kA B L q := if_neg h
theorem nx_le {B : Nat → Int32} {L q : Nat} (hq : q ≤ L) : q ≤ nx B L q ∧ nx B L q ≤ L := by
  unfold nx
  split
  · rename_i h
    have : q < L := by
      by_cases h9 : q < L
      · exact h9
      · rw [kA_out h9] at h
        omega
    omega
  · split
    · rename_i h
      have := rk_i (k := kA B L q) (B := B) (L := L) (p := q) (by omega)
      exact ⟨this.1, this.2.1 hq⟩
    · omega
theorem tk_2 {B : Nat → Int32} {L q : Nat} : tk B L q = 2 ↔ (1 ≤ rk 2 B L q - q ∧ rk 2 B L q - q ≤ 6) := by
  by_cases h : kA B L q = 2
  · have hn := nx_2 h
    have hs : q < rk 2 B L q := by
      rw [rk_s (by omega) h]
      have := rk_i (k := 2) (B := B) (L := L) (p := q + 1) (by omega)
      omega
    unfold tk
    rw [hn]
    split <;> omega
  · rw [rk_x h, tk_n (fun h9 => h h9.1)]
    omega
theorem tk_1 {B : Nat → Int32} {L q : Nat} : tk B L q = 1 ↔ kA B L q = 1 := by
  unfold tk
  split <;> omega
theorem tk_3 {B : Nat → Int32} {L q : Nat} : tk B L q = 3 ↔ kA B L q = 3 := by
  unfold tk
  split <;> omega
theorem tk_0 {B : Nat → Int32} {L q : Nat} : tk B L q = 0 ↔ kA B L q = 0 := by
  unfold tk
  split <;> omega
theorem tk_5 (B : Nat → Int32) (L q : Nat) : tk B L q ≤ 5 := by
  have := kA_5 B L q
  unfold tk
  split <;> omega
/-! words -/
def wN (f : Nat → Nat) : Nat → Nat
  | 0 => 0
  | k + 1 => 27 * wN f k + f k
theorem wN_inj : ∀ (k l : Nat) (f g : Nat → Nat), (∀ i, i < k → 1 ≤ f i ∧ f i ≤ 26) → (∀ i, i < l → 1 ≤ g i ∧ g i ≤ 26) → wN f k = wN g l → k = l ∧ ∀ i, i < k → f i = g i
  | 0, 0, _, _, _, _, _ => ⟨rfl, fun i hi => by omega⟩
  | 0, l + 1, f, g, _, hg, h => by
    have := hg l (by omega)
    have e : wN g (l + 1) = 27 * wN g l + g l := rfl
    have e0 : wN f 0 = 0 := rfl
    omega
  | k + 1, 0, f, g, hf, _, h => by
    have := hf k (by omega)
    have e : wN f (k + 1) = 27 * wN f k + f k := rfl
    have e0 : wN g 0 = 0 := rfl
    omega
  | k + 1, l + 1, f, g, hf, hg, h => by
    have a := hf k (by omega)
    have b := hg l (by omega)
    have e : wN f (k + 1) = 27 * wN f k + f k := rfl
    have e' : wN g (l + 1) = 27 * wN g l + g l := rfl
    obtain ⟨h1, h2⟩ := wN_inj k l f g (fun i hi => hf i (by omega)) (fun i hi => hg i (by omega)) (by omega)
    subst h1
    refine ⟨rfl, fun i hi => ?_⟩
    by_cases hk : i = k
    · subst hk
      omega
    · exact h2 i (by omega)
theorem wN_lt {f : Nat → Nat} : ∀ k, (∀ i, i < k → f i ≤ 26) → wN f k < 27 ^ k
  | 0, _ => Nat.zero_lt_one
  | k + 1, h => by
    have a := wN_lt k (fun i hi => h i (by omega))
    have b := h k (by omega)
    show 27 * wN f k + f k < 27 ^ (k + 1)
    rw [Nat.pow_succ]
    omega
def wl (w : Nat) : Nat := z_len.getD w 0
def wg (w i : Nat) : Nat := ((z_byt.getD w []).getD i 0).toNatClampNeg - 96
theorem wz_all : ∀ w, w < 20 → 1 ≤ wl w ∧ wl w ≤ 7 ∧ ∀ i, i < wl w → z_chr w (nI i) = nI (96 + wg w i) ∧ 1 ≤ wg w i ∧ wg w i ≤ 26 := by decide +kernel
def mW (f : Nat → Nat) (k : Nat) : Nat := if k ≤ 7 then wN f k else 0
def lg (B : Nat → Int32) (q i : Nat) : Nat := (B (q + i)).toNatClampNeg - 96
theorem lg_e {B : Nat → Int32} {q i : Nat} (h : kd (B (q + i)) = 1) : B (q + i) = nI (96 + lg B q i) ∧ 1 ≤ lg B q i ∧ lg B q i ≤ 26 := by
  obtain ⟨f, f1, f2, f3⟩ := i_nat (a := 97) (b := 122) (by omega) (kd_1.mp h) (by omega)
  unfold lg
  rw [f3, nI_clamp (by omega)]
  exact ⟨congrArg nI (by omega), by omega, by omega⟩
/-- whether the word w lies at q -/
def isW (B : Nat → Int32) (L q w : Nat) : Prop := kA B L q = 1 ∧ rk 1 B L q - q = wl w ∧ ∀ i, i < wl w → B (q + i) = z_chr w (nI i)
def wv (B : Nat → Int32) (L q : Nat) : Nat := mW (lg B q) (rk 1 B L q - q)
theorem wv_lt {B : Nat → Int32} {L q : Nat} : wv B L q < 2 ^ 63 := by
  unfold wv mW
  split
  · rename_i h
    have := wN_lt (f := lg B q) (rk 1 B L q - q) (fun i hi => (lg_e ((rk_i (k := 1) (B := B) (L := L) (p := q) (by omega)).2.2.1 (q + i) (by omega) (by omega)).2).2.2)
    have h2 : 27 ^ (rk 1 B L q - q) ≤ 27 ^ 7 := Nat.pow_le_pow_right (by omega) h
    omega
  · omega
theorem w_key {f g : Nat → Nat} {n : Nat} (h : ∀ k, k < n → f k = g k) : ∀ k, k ≤ n → wN f k = wN g k
  | 0, _ => Eq.trans rfl rfl
  | k + 1, hk => by
    show 27 * wN f k + f k = 27 * wN g k + g k
    rw [w_key h k (by omega), h k (by omega)]
theorem w_if1 {B : Nat → Int32} {L q w n : Nat} {g : Nat → Nat} (z1 : 1 ≤ n) (z2 : n ≤ 7) (z3 : ∀ i, i < n → z_chr w (nI i) = nI (96 + g i) ∧ 1 ≤ g i ∧ g i ≤ 26) (h : wv B L q = wN g n) : kA B L q = 1 ∧ rk 1 B L q - q = n ∧ ∀ i, i < n → B (q + i) = z_chr w (nI i) := by
  have hr := rk_i (k := 1) (B := B) (L := L) (p := q) (by omega)
  have hf : ∀ i, i < rk 1 B L q - q → B (q + i) = nI (96 + lg B q i) ∧ 1 ≤ lg B q i ∧ lg B q i ≤ 26 := fun i hi => lg_e (hr.2.2.1 (q + i) (by omega) (by omega)).2
  unfold wv mW at h
  by_cases h7 : rk 1 B L q - q ≤ 7
  · rw [if_pos h7] at h
    obtain ⟨e1, e2⟩ := wN_inj _ _ _ _ (fun i hi => (hf i hi).2) (fun i hi => (z3 i hi).2) h
    refine ⟨?_, e1, fun i hi => ?_⟩
    · by_cases h9 : kA B L q = 1
      · exact h9
      · rw [rk_x h9] at e1
        omega
    · have a := (hf i (by omega)).1
      have b := (z3 i hi).1
      rw [e2 i (by omega)] at a
      exact a.trans b.symm
  · rw [if_neg h7] at h
    obtain ⟨k, hk⟩ : ∃ k, n = k + 1 := ⟨n - 1, by omega⟩
    subst hk
    have e : wN g (k + 1) = 27 * wN g k + g k := rfl
    have := (z3 k (by omega)).2
    omega
theorem w_if2 {B : Nat → Int32} {L q w n : Nat} {g : Nat → Nat} (z2 : n ≤ 7) (z3 : ∀ i, i < n → z_chr w (nI i) = nI (96 + g i) ∧ 1 ≤ g i ∧ g i ≤ 26) (h2 : rk 1 B L q - q = n) (h3 : ∀ i, i < n → B (q + i) = z_chr w (nI i)) : wv B L q = wN g n := by
  have hr := rk_i (k := 1) (B := B) (L := L) (p := q) (by omega)
  have hf : ∀ i, i < rk 1 B L q - q → B (q + i) = nI (96 + lg B q i) ∧ 1 ≤ lg B q i ∧ lg B q i ≤ 26 := fun i hi => lg_e (hr.2.2.1 (q + i) (by omega) (by omega)).2
  unfold wv mW
  rw [if_pos (by omega), h2]
  refine w_key (n := n) (fun k hk => ?_) n (Nat.le_refl _)
  have a := (hf k (by omega)).1
  have b := (hf k (by omega)).2
  have c := z3 k hk
  have e : nI (96 + lg B q k) = nI (96 + g k) := a.symm.trans ((h3 k hk).trans c.1)
  have := (nI_eq (by omega) (by omega)).mp e
  omega
theorem w_iff {B : Nat → Int32} {L q w : Nat} (hw : w < 20) : wv B L q = wN (wg w) (wl w) ↔ isW B L q w := by
  obtain ⟨z1, z2, z3⟩ := wz_all w hw
  exact ⟨fun h => w_if1 z1 z2 z3 h, fun h => w_if2 z2 z3 h.2.1 h.2.2⟩
/-! numbers -/
def dg (B : Nat → Int32) (q i : Nat) : Nat := (B (q + i)).toNatClampNeg - 48
theorem dg_e {B : Nat → Int32} {q i : Nat} (h : kd (B (q + i)) = 2) : B (q + i) = nI (48 + dg B q i) ∧ dg B q i ≤ 9 := by
  obtain ⟨f, f1, f2, f3⟩ := i_nat (a := 48) (b := 57) (by omega) (kd_2.mp h) (by omega)
  unfold dg
  rw [f3, nI_clamp (by omega)]
  exact ⟨congrArg nI (by omega), by omega⟩
def iN (f : Nat → Nat) : Nat → Nat
  | 0 => 0
  | k + 1 => iN f k * 10 + f k
theorem iN_lt {f : Nat → Nat} : ∀ k, (∀ i, i < k → f i ≤ 9) → iN f k < 10 ^ k
  | 0, _ => Nat.zero_lt_one
  | k + 1, h => by
    have a := iN_lt k (fun i hi => h i (by omega))
    have b := h k (by omega)
    show iN f k * 10 + f k < 10 ^ (k + 1)
    rw [Nat.pow_succ]
    omega
theorem iN_6 {f : Nat → Nat} {k : Nat} (h6 : k ≤ 6) (h : ∀ i, i < k → f i ≤ 9) : iN f k ≤ 999999 := by
  have a := iN_lt k h
  have b : 10 ^ k ≤ 10 ^ 6 := Nat.pow_le_pow_right (by omega) h6
  omega
def nv (B : Nat → Int32) (L q : Nat) : Nat := iN (dg B q) (min (rk 2 B L q - q) 6)
theorem nv_lt {B : Nat → Int32} {L q : Nat} : nv B L q ≤ 999999 := iN_6 (by omega) (fun i hi => (dg_e ((rk_i (k := 2) (B := B) (L := L) (p := q) (by omega)).2.2.1 (q + i) (by omega) (by omega)).2).2)
