/-! 6d.times: times, best, speed, limit by class and model -/
def tmv (g : Nat → Option Nat) (raw : Nat → Int32) (r : Nat) : Int32 := chC g raw 16 r (raw r)
def bsF (T : Nat → Int32) (p : Nat → Nat) : Nat → Int32
  | 0 => 1000000
  | k + 1 => mnI (bsF T p k) (T (p k))
theorem q_takeTimes {d : z_D} {c F kd : Nat} {z : Int32} {p : Nat → Nat} (hF : F ≤ 16) (h7 : d c 7 = nI F) (ho : ∀ j, j < F → d (c + 15) j = nI (p j)) (hb : ∀ j, j < F → p j < 16) (hi : ∀ i j, i < F → j < F → p i = p j → i = j) (hk : d (c + 1) 0 = nI kd) (hk3 : kd ≤ 3) (hw : ∀ r, r < 16 → ¬ d (c + 11) r = -1 → d (c + 12) r = -1 ∨ ∃ q, q < 16 ∧ d (c + 12) r = nI q) {T : Nat → Int32} (hT : tmv (chg kd (d (c + 11)) z (d (c + 12)) (d (c + 10))) (d (c + 18)) = T) :
    ok (f_X4_takeTimes d c z) (fun d' => (∀ a, ¬ a = c → ¬ a = c + 19 → d' a = d a) ∧ (∀ k, ¬ k = 15 → d' c k = d c k) ∧ d' c 15 = bsF T p F ∧ ∀ j, j < F → d' (c + 19) (p j) = T (p j)) := by
  unfold f_X4_takeTimes
  simp (disch := omega) only [↓x_let, ↓x_nam, ↓x_put, ↓x_bX, ↓x_ob, ↓x_ald, ↓x_aldL, ↓x_ast, ↓x_astL, ↓x_at0, ↓x_at_0, ↓x_mk0, ↓x_at, ↓x_atL, ↓x_at_, ↓x_at_L, ↓x_mk, ↓x_mkL, ↓x_aald, ↓x_w, ↓x_wi, ↓ok_s, ↓x_ifle_t, ↓x_ifle_f, ↓x_iflt_t, ↓x_iflt_f, ↓x_ifeq_t, ↓x_ifeq_f, ↓x_ifleL_t, ↓x_ifleL_f, ↓x_ifltL_t, ↓x_ifltL_f, ↓x_ifeqL_t, ↓x_ifeqL_f, ↓x_ifLle_t, ↓x_ifLle_f, ↓x_ifLlt_t, ↓x_ifLlt_f, ↓x_ifnm1, ↓x_ifb0, ↓x_ifb1, ↓x_if00, ↓x_if10, x_addL, x_Ladd, x_mulL, x_Lmul, nI_add, pk_mul, nI_pred, if_true, if_false, x_m1, n_a0, x_ue, x_un]
  refine zl2 (f_X4_takeTimes_L8_b c z _) (fun _ => rfl) (fun m x2 e => ∃ i, m + i = F ∧ x2 = nI i ∧ (∀ a, ¬ a = c → ¬ a = c + 19 → e a = d a) ∧ (∀ k, ¬ k = 15 → e c k = d c k) ∧ e c 15 = bsF T p i ∧ ∀ j, j < i → e (c + 19) (p j) = T (p j)) ?_ F z_N _ _ ⟨0, by omega, rfl, fun a a1 _ => u_a a1, fun k hk => u_k hk, u_s _ _ _ _, fun j hj => by omega⟩ (ltz (by omega))
  rintro R m x2 e ⟨i, hm, rfl, g1, g2, g3, g4⟩ ih
  unfold f_X4_takeTimes_L8_b
  have e7 : e c 7 = nI F := by rw [g2 7 (by omega), h7]
  have e1 : e (c + 1) = d (c + 1) := g1 _ (by omega) (by omega)
  have e10 : e (c + 10) = d (c + 10) := g1 _ (by omega) (by omega)
  have e11 : e (c + 11) = d (c + 11) := g1 _ (by omega) (by omega)
  have e12 : e (c + 12) = d (c + 12) := g1 _ (by omega) (by omega)
  have e15 : e (c + 15) = d (c + 15) := g1 _ (by omega) (by omega)
  have e18 : e (c + 18) = d (c + 18) := g1 _ (by omega) (by omega)
  by_cases hiF : i = F
  · subst hiF
    simp (disch := omega) only [↓x_let, ↓x_nam, ↓x_put, ↓x_bX, ↓x_ob, ↓x_ald, ↓x_aldL, ↓x_ast, ↓x_astL, ↓x_at0, ↓x_at_0, ↓x_mk0, ↓x_at, ↓x_atL, ↓x_at_, ↓x_at_L, ↓x_mk, ↓x_mkL, ↓x_aald, ↓x_w, ↓x_wi, ↓ok_s, ↓x_ifle_t, ↓x_ifle_f, ↓x_iflt_t, ↓x_iflt_f, ↓x_ifeq_t, ↓x_ifeq_f, ↓x_ifleL_t, ↓x_ifleL_f, ↓x_ifltL_t, ↓x_ifltL_f, ↓x_ifeqL_t, ↓x_ifeqL_f, ↓x_ifLle_t, ↓x_ifLle_f, ↓x_ifLlt_t, ↓x_ifLlt_f, ↓x_ifnm1, ↓x_ifb0, ↓x_ifb1, ↓x_if00, ↓x_if10, x_addL, x_Ladd, x_mulL, x_Lmul, nI_add, pk_mul, nI_pred, if_true, if_false, x_m1, n_a0, x_ue, x_un, e7]; try simp (disch := omega) only [↓x_let, ↓x_nam, ↓x_put, ↓x_bX, ↓x_ob, ↓x_ald, ↓x_aldL, ↓x_ast, ↓x_astL, ↓x_at0, ↓x_at_0, ↓x_mk0, ↓x_at, ↓x_atL, ↓x_at_, ↓x_at_L, ↓x_mk, ↓x_mkL, ↓x_aald, ↓x_w, ↓x_wi, ↓ok_s, ↓x_ifle_t, ↓x_ifle_f, ↓x_iflt_t, ↓x_iflt_f, ↓x_ifeq_t, ↓x_ifeq_f, ↓x_ifleL_t, ↓x_ifleL_f, ↓x_ifltL_t, ↓x_ifltL_f, ↓x_ifeqL_t, ↓x_ifeqL_f, ↓x_ifLle_t, ↓x_ifLle_f, ↓x_ifLlt_t, ↓x_ifLlt_f, ↓x_ifnm1, ↓x_ifb0, ↓x_ifb1, ↓x_if00, ↓x_if10, x_addL, x_Ladd, x_mulL, x_Lmul, nI_add, pk_mul, nI_pred, if_true, if_false, x_m1, n_a0, x_ue, x_un, e7]; try simp (disch := omega) only [↓x_let, ↓x_nam, ↓x_put, ↓x_bX, ↓x_ob, ↓x_ald, ↓x_aldL, ↓x_ast, ↓x_astL, ↓x_at0, ↓x_at_0, ↓x_mk0, ↓x_at, ↓x_atL, ↓x_at_, ↓x_at_L, ↓x_mk, ↓x_mkL, ↓x_aald, ↓x_w, ↓x_wi, ↓ok_s, ↓x_ifle_t, ↓x_ifle_f, ↓x_iflt_t, ↓x_iflt_f, ↓x_ifeq_t, ↓x_ifeq_f, ↓x_ifleL_t, ↓x_ifleL_f, ↓x_ifltL_t, ↓x_ifltL_f, ↓x_ifeqL_t, ↓x_ifeqL_f, ↓x_ifLle_t, ↓x_ifLle_f, ↓x_ifLlt_t, ↓x_ifLlt_f, ↓x_ifnm1, ↓x_ifb0, ↓x_ifb1, ↓x_if00, ↓x_if10, x_addL, x_Ladd, x_mulL, x_Lmul, nI_add, pk_mul, nI_pred, if_true, if_false, x_m1, n_a0, x_ue, x_un, e7]; try simp (disch := omega) only [↓x_let, ↓x_nam, ↓x_put, ↓x_bX, ↓x_ob, ↓x_ald, ↓x_aldL, ↓x_ast, ↓x_astL, ↓x_at0, ↓x_at_0, ↓x_mk0, ↓x_at, ↓x_atL, ↓x_at_, ↓x_at_L, ↓x_mk, ↓x_mkL, ↓x_aald, ↓x_w, ↓x_wi, ↓ok_s, ↓x_ifle_t, ↓x_ifle_f, ↓x_iflt_t, ↓x_iflt_f, ↓x_ifeq_t, ↓x_ifeq_f, ↓x_ifleL_t, ↓x_ifleL_f, ↓x_ifltL_t, ↓x_ifltL_f, ↓x_ifeqL_t, ↓x_ifeqL_f, ↓x_ifLle_t, ↓x_ifLle_f, ↓x_ifLlt_t, ↓x_ifLlt_f, ↓x_ifnm1, ↓x_ifb0, ↓x_ifb1, ↓x_if00, ↓x_if10, x_addL, x_Ladd, x_mulL, x_Lmul, nI_add, pk_mul, nI_pred, if_true, if_false, x_m1, n_a0, x_ue, x_un, e7]
    exact ⟨g1, g2, g3, g4⟩
  · have hiF2 : i < F := by omega
    have bi := hb i hiF2
    have eo : e (c + 15) i = nI (p i) := by rw [e15, ho i hiF2]
    have hlr := q_leastRaw (d := e) (c := c) (r := p i) (kd := kd) (z := z) bi (by rw [e1, hk]) hk3 (by rw [e11, e12]; exact hw)
    rw [e10, e11, e12, e18] at hlr
    have hlr2 : f_X4_leastRaw e c (nI (p i)) z = some (T (p i)) := by rw [hlr, ← hT]; rfl
    simp (disch := omega) only [↓x_let, ↓x_nam, ↓x_put, ↓x_bX, ↓x_ob, ↓x_ald, ↓x_aldL, ↓x_ast, ↓x_astL, ↓x_at0, ↓x_at_0, ↓x_mk0, ↓x_at, ↓x_atL, ↓x_at_, ↓x_at_L, ↓x_mk, ↓x_mkL, ↓x_aald, ↓x_w, ↓x_wi, ↓ok_s, ↓x_ifle_t, ↓x_ifle_f, ↓x_iflt_t, ↓x_iflt_f, ↓x_ifeq_t, ↓x_ifeq_f, ↓x_ifleL_t, ↓x_ifleL_f, ↓x_ifltL_t, ↓x_ifltL_f, ↓x_ifeqL_t, ↓x_ifeqL_f, ↓x_ifLle_t, ↓x_ifLle_f, ↓x_ifLlt_t, ↓x_ifLlt_f, ↓x_ifnm1, ↓x_ifb0, ↓x_ifb1, ↓x_if00, ↓x_if10, x_addL, x_Ladd, x_mulL, x_Lmul, nI_add, pk_mul, nI_pred, if_true, if_false, x_m1, n_a0, x_ue, x_un, e7, eo, hlr2, g3]; try simp (disch := omega) only [↓x_let, ↓x_nam, ↓x_put, ↓x_bX, ↓x_ob, ↓x_ald, ↓x_aldL, ↓x_ast, ↓x_astL, ↓x_at0, ↓x_at_0, ↓x_mk0, ↓x_at, ↓x_atL, ↓x_at_, ↓x_at_L, ↓x_mk, ↓x_mkL, ↓x_aald, ↓x_w, ↓x_wi, ↓ok_s, ↓x_ifle_t, ↓x_ifle_f, ↓x_iflt_t, ↓x_iflt_f, ↓x_ifeq_t, ↓x_ifeq_f, ↓x_ifleL_t, ↓x_ifleL_f, ↓x_ifltL_t, ↓x_ifltL_f, ↓x_ifeqL_t, ↓x_ifeqL_f, ↓x_ifLle_t, ↓x_ifLle_f, ↓x_ifLlt_t, ↓x_ifLlt_f, ↓x_ifnm1, ↓x_ifb0, ↓x_ifb1, ↓x_if00, ↓x_if10, x_addL, x_Ladd, x_mulL, x_Lmul, nI_add, pk_mul, nI_pred, if_true, if_false, x_m1, n_a0, x_ue, x_un, e7, eo, hlr2, g3]; try simp (disch := omega) only [↓x_let, ↓x_nam, ↓x_put, ↓x_bX, ↓x_ob, ↓x_ald, ↓x_aldL, ↓x_ast, ↓x_astL, ↓x_at0, ↓x_at_0, ↓x_mk0, ↓x_at, ↓x_atL, ↓x_at_, ↓x_at_L, ↓x_mk, ↓x_mkL, ↓x_aald, ↓x_w, ↓x_wi, ↓ok_s, ↓x_ifle_t, ↓x_ifle_f, ↓x_iflt_t, ↓x_iflt_f, ↓x_ifeq_t, ↓x_ifeq_f, ↓x_ifleL_t, ↓x_ifleL_f, ↓x_ifltL_t, ↓x_ifltL_f, ↓x_ifeqL_t, ↓x_ifeqL_f, ↓x_ifLle_t, ↓x_ifLle_f, ↓x_ifLlt_t, ↓x_ifLlt_f, ↓x_ifnm1, ↓x_ifb0, ↓x_ifb1, ↓x_if00, ↓x_if10, x_addL, x_Ladd, x_mulL, x_Lmul, nI_add, pk_mul, nI_pred, if_true, if_false, x_m1, n_a0, x_ue, x_un, e7, eo, hlr2, g3]; try simp (disch := omega) only [↓x_let, ↓x_nam, ↓x_put, ↓x_bX, ↓x_ob, ↓x_ald, ↓x_aldL, ↓x_ast, ↓x_astL, ↓x_at0, ↓x_at_0, ↓x_mk0, ↓x_at, ↓x_atL, ↓x_at_, ↓x_at_L, ↓x_mk, ↓x_mkL, ↓x_aald, ↓x_w, ↓x_wi, ↓ok_s, ↓x_ifle_t, ↓x_ifle_f, ↓x_iflt_t, ↓x_iflt_f, ↓x_ifeq_t, ↓x_ifeq_f, ↓x_ifleL_t, ↓x_ifleL_f, ↓x_ifltL_t, ↓x_ifltL_f, ↓x_ifeqL_t, ↓x_ifeqL_f, ↓x_ifLle_t, ↓x_ifLle_f, ↓x_ifLlt_t, ↓x_ifLlt_f, ↓x_ifnm1, ↓x_ifb0, ↓x_ifb1, ↓x_if00, ↓x_if10, x_addL, x_Ladd, x_mulL, x_Lmul, nI_add, pk_mul, nI_pred, if_true, if_false, x_m1, n_a0, x_ue, x_un, e7, eo, hlr2, g3]
    refine ih (m - 1) _ _ (by omega) ⟨i + 1, by omega, rfl, fun a a1 a2 => by rw [u_a a1, u_a a2, g1 a a1 a2], fun k hk => by rw [u_k hk, x_un (by omega), g2 k hk], ?_, fun j hj => ?_⟩
    · rw [u_s]
      rfl
    · by_cases hji : j = i
      · subst hji
        rw [x_un (by omega), x_ue rfl rfl]
      · have hne : p j ≠ p i := fun h => hji (hi j i (by omega) (by omega) h)
        rw [x_un (by omega), x_un (by omega), g4 j (by omega)]
/-- speed, steps, limit -/
def spN (N b : Nat) : Nat := N * 3600 / (if b = 0 then 1 else b)
def stN (S : Nat) : Nat := if S ≤ 38 then 0 else if (S - 38) / 2 ≤ 10 then (S - 38) / 2 else 10
def huN (k : Nat) : Nat := if k = 0 then 7 else if k = 1 then 10 else if k = 2 then 15 else 30
def lmN (b k S : Nat) : Nat := b + b * (huN k + stN S) / 100
theorem stN_le (S : Nat) : stN S ≤ 10 := by
  unfold stN
  split
  · omega
  · split <;> omega
theorem huN_le (k : Nat) : huN k ≤ 30 := by
  unfold huN
  split
  · omega
  · split
    · omega
    · split <;> omega
theorem spN_le {N b : Nat} (hN : N ≤ 300) : spN N b ≤ 1080000 := by
  unfold spN
  have := Nat.div_le_self (N * 3600) (if b = 0 then 1 else b)
  omega
theorem lmN_le {b k S : Nat} (hb : b ≤ 99999) : lmN b k S ≤ 140000 := by
  unfold lmN
  have h1 := stN_le S
  have h2 := huN_le k
  have h3 : b * (huN k + stN S) ≤ 99999 * 40 := Nat.mul_le_mul hb (by omega)
  omega
theorem stp_lo : ∀ S, S < 38 → (if (nI S - 38) / 2 < 0 then (0 : Int32) else (nI S - 38) / 2) = 0 := by decide +kernel
theorem stp_hi {S : Nat} (h : 38 ≤ S) (hS : S ≤ 1080000) : (nI S - 38) / 2 = nI ((S - 38) / 2) := by
  rw [show (38 : Int32) = nI 38 from rfl, pk_sub h, show (2 : Int32) = nI 2 from rfl, pk_div (by omega) (by omega) (by omega)]
theorem stp_c {S : Nat} (hS : S ≤ 1080000) : (if (10 : Int32) < (if (nI S - 38) / 2 < 0 then (0 : Int32) else (nI S - 38) / 2) then (10 : Int32) else (if (nI S - 38) / 2 < 0 then (0 : Int32) else (nI S - 38) / 2)) = nI (stN S) := by
  unfold stN
  by_cases h : S < 38
  · rw [stp_lo S h, if_neg (by decide), if_pos (by omega), nI_0]
  · rw [stp_hi (by omega) hS]
    rw [if_neg (show ¬ nI ((S - 38) / 2) < 0 from nI_pos (by omega))]
    by_cases h8 : S = 38
    · subst h8
      decide +kernel
    · rw [if_neg (show ¬ S ≤ 38 by omega)]
      by_cases h9 : (S - 38) / 2 ≤ 10
      · rw [if_pos h9, if_neg (show ¬ (10 : Int32) < nI ((S - 38) / 2) from fun h => by have := (nI_ltI (a := 10) (by omega) (by omega)).mp h; omega)]
      · rw [if_neg h9, if_pos (show (10 : Int32) < nI ((S - 38) / 2) from (nI_ltI (a := 10) (by omega) (by omega)).mpr (by omega))]
        rfl
theorem x_div {α : Type} {K : Int32 → Option α} (a b : Nat) (ha : a < 2 ^ 31) (h0 : 0 < b) (hb : b < 2 ^ 31) : z_div (nI a) (nI b) K = K (nI (a / b)) := by
  unfold z_div
  rw [if_neg (nI_ne0 h0 hb), pk_div ha h0 hb]
theorem hu_tab : ∀ k, k ≤ 3 → ([7, 10, 15, 30] : List Int32).getD k 0 = nI (huN k) := by decide +kernel
theorem x_tab {α : Type} {L : List Int32} {K : Int32 → Option α} (i : Nat) (h : i < L.length) (hN : L.length < 2 ^ 31) : z_tab L (nI i) K = K (L.getD i 0) := q_tab h hN
theorem lm_c {b k S : Nat} (hb : b ≤ 99999) : nI b + nI b * (nI (huN k) + nI (stN S)) / 100 = nI (lmN b k S) := by
  have h1 := stN_le S
  have h2 := huN_le k
  have h3 : b * (huN k + stN S) ≤ 99999 * 40 := Nat.mul_le_mul hb (by omega)
  rw [nI_add, pk_mul, show (100 : Int32) = nI 100 from rfl, pk_div (by omega) (by omega) (by omega), nI_add]
  rfl
theorem lm_c2 {b k S : Nat} (hb : b ≤ 99999) : nI b + nI (b * (huN k + stN S)) / 100 = nI (lmN b k S) := by
  rw [← lm_c hb, nI_add, pk_mul]
theorem q_judge {d : z_D} {c F kd N b : Nat} {lt : Nat → Bool} (hF : F ≤ 16) (h7 : d c 7 = nI F) (hk : d (c + 1) 0 = nI kd) (hk3 : kd ≤ 3) (hN : d (c + 1) 1 = nI N) (hN3 : N ≤ 300) (hb : d c 15 = nI b) (hb9 : b ≤ 99999)
    (hlt : ∀ r, r < 16 → lt r = decide (¬ d (c + 10) r = 0 ∧ ¬ d (c + 19) r ≤ nI (lmN b kd (spN N b)) ∧ d (c + 14) r = 0)) :
    ok (f_X4_judge d c) (fun d' => (∀ a, ¬ a = c → ¬ a = c + 20 → d' a = d a) ∧ (∀ k, k < 16 ∨ 19 < k → d' c k = d c k) ∧ d' c 16 = nI (spN N b) ∧ d' c 17 = nI (lmN b kd (spN N b)) ∧ d' c 18 = nI (fb_ct lt 16) ∧ d' c 19 = (if fb_ct lt 16 * 5 ≤ F then 0 else 1) ∧ ∀ r, r < 16 → d' (c + 20) r = b01 (lt r = true)) := by
  have hsp := spN_le (N := N) (b := b) hN3
  have hlm := lmN_le (b := b) (k := kd) (S := spN N b) hb9
  unfold f_X4_judge
  have ev : (if (nI b : Int32) < 1 then (1 : Int32) else nI b) = nI (if b = 0 then 1 else b) := by
    by_cases h0 : b = 0
    · rw [if_pos h0, if_pos (show nI b < 1 from by rw [h0]; decide)]
      rfl
    · rw [if_neg h0, if_neg (show ¬ nI b < 1 from fun h => by have := (nI_ltI (b := 1) (by omega) (by omega)).mp h; omega)]
  have h1 : 0 < (if b = 0 then 1 else b) := by split <;> omega
  have h2 : (if b = 0 then 1 else b) < 2 ^ 31 := by split <;> omega
  have hst := stp_c hsp
  have hlmc := lm_c2 (b := b) (k := kd) (S := spN N b) hb9
  have hsp2 : N * 3600 / (if b = 0 then 1 else b) = spN N b := rfl
  have htb : ∀ {α : Type} (K : Int32 → Option α), z_tab [7, 10, 15, 30] (nI kd) K = K (nI (huN kd)) := fun K => by rw [x_tab (L := [7, 10, 15, 30]) kd (show kd < 4 by omega) (show 4 < 2 ^ 31 by omega), hu_tab kd hk3]
  rw [hN, hb, ev, show (3600 : Int32) = nI 3600 from rfl, pk_mul, x_div _ _ (by omega) h1 h2, hsp2]
  simp (disch := omega) only [↓x_let, ↓x_nam, ↓x_put, ↓x_bX, ↓x_ob, ↓x_ald, ↓x_aldL, ↓x_ast, ↓x_astL, ↓x_at0, ↓x_at_0, ↓x_mk0, ↓x_at, ↓x_atL, ↓x_at_, ↓x_at_L, ↓x_mk, ↓x_mkL, ↓x_aald, ↓x_w, ↓x_wi, ↓ok_s, ↓x_ifle_t, ↓x_ifle_f, ↓x_iflt_t, ↓x_iflt_f, ↓x_ifeq_t, ↓x_ifeq_f, ↓x_ifleL_t, ↓x_ifleL_f, ↓x_ifltL_t, ↓x_ifltL_f, ↓x_ifeqL_t, ↓x_ifeqL_f, ↓x_ifLle_t, ↓x_ifLle_f, ↓x_ifLlt_t, ↓x_ifLlt_f, ↓x_ifnm1, ↓x_ifb0, ↓x_ifb1, ↓x_if00, ↓x_if10, x_addL, x_Ladd, x_mulL, x_Lmul, nI_add, pk_mul, nI_pred, if_true, if_false, x_m1, n_a0, x_ue, x_un, hk, hb, hst, htb, hlmc]; try simp (disch := omega) only [↓x_let, ↓x_nam, ↓x_put, ↓x_bX, ↓x_ob, ↓x_ald, ↓x_aldL, ↓x_ast, ↓x_astL, ↓x_at0, ↓x_at_0, ↓x_mk0, ↓x_at, ↓x_atL, ↓x_at_, ↓x_at_L, ↓x_mk, ↓x_mkL, ↓x_aald, ↓x_w, ↓x_wi, ↓ok_s, ↓x_ifle_t, ↓x_ifle_f, ↓x_iflt_t, ↓x_iflt_f, ↓x_ifeq_t, ↓x_ifeq_f, ↓x_ifleL_t, ↓x_ifleL_f, ↓x_ifltL_t, ↓x_ifltL_f, ↓x_ifeqL_t, ↓x_ifeqL_f, ↓x_ifLle_t, ↓x_ifLle_f, ↓x_ifLlt_t, ↓x_ifLlt_f, ↓x_ifnm1, ↓x_ifb0, ↓x_ifb1, ↓x_if00, ↓x_if10, x_addL, x_Ladd, x_mulL, x_Lmul, nI_add, pk_mul, nI_pred, if_true, if_false, x_m1, n_a0, x_ue, x_un, hk, hb, hst, htb, hlmc]; try simp (disch := omega) only [↓x_let, ↓x_nam, ↓x_put, ↓x_bX, ↓x_ob, ↓x_ald, ↓x_aldL, ↓x_ast, ↓x_astL, ↓x_at0, ↓x_at_0, ↓x_mk0, ↓x_at, ↓x_atL, ↓x_at_, ↓x_at_L, ↓x_mk, ↓x_mkL, ↓x_aald, ↓x_w, ↓x_wi, ↓ok_s, ↓x_ifle_t, ↓x_ifle_f, ↓x_iflt_t, ↓x_iflt_f, ↓x_ifeq_t, ↓x_ifeq_f, ↓x_ifleL_t, ↓x_ifleL_f, ↓x_ifltL_t, ↓x_ifltL_f, ↓x_ifeqL_t, ↓x_ifeqL_f, ↓x_ifLle_t, ↓x_ifLle_f, ↓x_ifLlt_t, ↓x_ifLlt_f, ↓x_ifnm1, ↓x_ifb0, ↓x_ifb1, ↓x_if00, ↓x_if10, x_addL, x_Ladd, x_mulL, x_Lmul, nI_add, pk_mul, nI_pred, if_true, if_false, x_m1, n_a0, x_ue, x_un, hk, hb, hst, htb, hlmc]; try simp (disch := omega) only [↓x_let, ↓x_nam, ↓x_put, ↓x_bX, ↓x_ob, ↓x_ald, ↓x_aldL, ↓x_ast, ↓x_astL, ↓x_at0, ↓x_at_0, ↓x_mk0, ↓x_at, ↓x_atL, ↓x_at_, ↓x_at_L, ↓x_mk, ↓x_mkL, ↓x_aald, ↓x_w, ↓x_wi, ↓ok_s, ↓x_ifle_t, ↓x_ifle_f, ↓x_iflt_t, ↓x_iflt_f, ↓x_ifeq_t, ↓x_ifeq_f, ↓x_ifleL_t, ↓x_ifleL_f, ↓x_ifltL_t, ↓x_ifltL_f, ↓x_ifeqL_t, ↓x_ifeqL_f, ↓x_ifLle_t, ↓x_ifLle_f, ↓x_ifLlt_t, ↓x_ifLlt_f, ↓x_ifnm1, ↓x_ifb0, ↓x_ifb1, ↓x_if00, ↓x_if10, x_addL, x_Ladd, x_mulL, x_Lmul, nI_add, pk_mul, nI_pred, if_true, if_false, x_m1, n_a0, x_ue, x_un, hk, hb, hst, htb, hlmc]
  have fin : ∀ e : z_D, (∀ a, ¬ a = c → ¬ a = c + 20 → e a = d a) → (∀ k, k < 16 ∨ 19 < k → e c k = d c k) → e c 16 = nI (spN N b) → e c 17 = nI (lmN b kd (spN N b)) → e c 18 = nI (fb_ct lt 16) → (∀ r, r < 16 → e (c + 20) r = b01 (lt r = true)) → ok (if (e c 18 * 5) ≤ (e c 7) then z_put e c 19 0 (fun d14 => some d14) else z_put e c 19 1 (fun d15 => some d15)) (fun d' => (∀ a, ¬ a = c → ¬ a = c + 20 → d' a = d a) ∧ (∀ k, k < 16 ∨ 19 < k → d' c k = d c k) ∧ d' c 16 = nI (spN N b) ∧ d' c 17 = nI (lmN b kd (spN N b)) ∧ d' c 18 = nI (fb_ct lt 16) ∧ d' c 19 = (if fb_ct lt 16 * 5 ≤ F then 0 else 1) ∧ ∀ r, r < 16 → d' (c + 20) r = b01 (lt r = true)) := by
    intro e g1 g2 g3 g4 g5 g6
    have hc := fb_ct_le lt 16
    rw [g5, g2 7 (by omega), h7, x_mulL]
    by_cases h5 : fb_ct lt 16 * 5 ≤ F
    · rw [if_pos ((nI_leI (by omega) (by omega)).mpr h5), if_pos h5, x_put, ok_s]
      exact ⟨fun a a1 a2 => by rw [u_a a1, g1 a a1 a2], fun k hk => by rw [x_un (by omega), g2 k hk], by rw [x_un (by omega), g3], by rw [x_un (by omega), g4], by rw [x_un (by omega), g5], u_s _ _ _ _, fun r hr => by rw [x_un (by omega), g6 r hr]⟩
    · rw [if_neg (fun h => h5 ((nI_leI (by omega) (by omega)).mp h)), if_neg h5, x_put, ok_s]
      exact ⟨fun a a1 a2 => by rw [u_a a1, g1 a a1 a2], fun k hk => by rw [x_un (by omega), g2 k hk], by rw [x_un (by omega), g3], by rw [x_un (by omega), g4], by rw [x_un (by omega), g5], u_s _ _ _ _, fun r hr => by rw [x_un (by omega), g6 r hr]⟩
  refine zl2 (f_X4_judge_L80_b c _) (fun _ => rfl) (fun m x2 e => ∃ i, m + i = 16 ∧ x2 = nI i ∧ (∀ a, ¬ a = c → ¬ a = c + 20 → e a = d a) ∧ (∀ k, k < 16 ∨ 19 < k → e c k = d c k) ∧ e c 16 = nI (spN N b) ∧ e c 17 = nI (lmN b kd (spN N b)) ∧ e c 18 = nI (fb_ct lt i) ∧ ∀ r, r < i → e (c + 20) r = b01 (lt r = true)) ?_ 16 z_N _ _ ⟨0, by omega, rfl, fun a a1 _ => by rw [u_a a1, u_a a1, u_a a1], fun k hk => by rw [x_un (by omega), x_un (by omega), x_un (by omega)], by rw [x_un (by omega), x_un (by omega), x_ue rfl rfl], by rw [x_un (by omega), x_ue rfl rfl], by rw [x_ue rfl rfl]; exact nI_0.symm, fun r hr => by omega⟩ (ltz (by omega))
  rintro R m x2 e ⟨i, hm, rfl, g1, g2, g3, g4, g5, g6⟩ ih
  unfold f_X4_judge_L80_b
  by_cases hi : i = 16
  · subst hi
    rw [if_pos (show (16 : Int32) ≤ nI 16 by decide)]
    exact fin e g1 g2 g3 g4 g5 g6
  · have e10 : e (c + 10) i = d (c + 10) i := by rw [g1 _ (by omega) (by omega)]
    have e19 : e (c + 19) i = d (c + 19) i := by rw [g1 _ (by omega) (by omega)]
    have e14 : e (c + 14) i = d (c + 14) i := by rw [g1 _ (by omega) (by omega)]
    have l0 := hlt i (by omega)
    have a11 : (1 : Int32) &&& 1 = 1 := by decide
    have a01 : (0 : Int32) &&& 1 = 0 := by decide
    have no : lt i = false → ok (R (nI (i + 1)) (z_up e (c + 20) i 0)) (fun d' => (∀ a, ¬ a = c → ¬ a = c + 20 → d' a = d a) ∧ (∀ k, k < 16 ∨ 19 < k → d' c k = d c k) ∧ d' c 16 = nI (spN N b) ∧ d' c 17 = nI (lmN b kd (spN N b)) ∧ d' c 18 = nI (fb_ct lt 16) ∧ d' c 19 = (if fb_ct lt 16 * 5 ≤ F then 0 else 1) ∧ ∀ r, r < 16 → d' (c + 20) r = b01 (lt r = true)) := by
      intro hl
      refine ih (m - 1) _ _ (by omega) ⟨i + 1, by omega, rfl, fun a a1 a2 => by rw [u_a a2, g1 a a1 a2], fun k hk => by rw [x_un (by omega), g2 k hk], by rw [x_un (by omega), g3], by rw [x_un (by omega), g4], ?_, fun r hr => ?_⟩
      · rw [x_un (by omega), g5, fb_ct_succ, hl]
        rfl
      · by_cases hri : r = i
        · subst hri
          rw [x_ue rfl rfl, hl]
          rfl
        · rw [x_un (by omega), g6 r (by omega)]
    by_cases q1 : d (c + 10) i = 0
    · simp (disch := omega) only [↓x_let, ↓x_nam, ↓x_put, ↓x_bX, ↓x_ob, ↓x_ald, ↓x_aldL, ↓x_ast, ↓x_astL, ↓x_at0, ↓x_at_0, ↓x_mk0, ↓x_at, ↓x_atL, ↓x_at_, ↓x_at_L, ↓x_mk, ↓x_mkL, ↓x_aald, ↓x_w, ↓x_wi, ↓ok_s, ↓x_ifle_t, ↓x_ifle_f, ↓x_iflt_t, ↓x_iflt_f, ↓x_ifeq_t, ↓x_ifeq_f, ↓x_ifleL_t, ↓x_ifleL_f, ↓x_ifltL_t, ↓x_ifltL_f, ↓x_ifeqL_t, ↓x_ifeqL_f, ↓x_ifLle_t, ↓x_ifLle_f, ↓x_ifLlt_t, ↓x_ifLlt_f, ↓x_ifnm1, ↓x_ifb0, ↓x_ifb1, ↓x_if00, ↓x_if10, x_addL, x_Ladd, x_mulL, x_Lmul, nI_add, pk_mul, nI_pred, if_true, if_false, x_m1, n_a0, x_ue, x_un, e10, ↓if_pos q1, a01]; try simp (disch := omega) only [↓x_let, ↓x_nam, ↓x_put, ↓x_bX, ↓x_ob, ↓x_ald, ↓x_aldL, ↓x_ast, ↓x_astL, ↓x_at0, ↓x_at_0, ↓x_mk0, ↓x_at, ↓x_atL, ↓x_at_, ↓x_at_L, ↓x_mk, ↓x_mkL, ↓x_aald, ↓x_w, ↓x_wi, ↓ok_s, ↓x_ifle_t, ↓x_ifle_f, ↓x_iflt_t, ↓x_iflt_f, ↓x_ifeq_t, ↓x_ifeq_f, ↓x_ifleL_t, ↓x_ifleL_f, ↓x_ifltL_t, ↓x_ifltL_f, ↓x_ifeqL_t, ↓x_ifeqL_f, ↓x_ifLle_t, ↓x_ifLle_f, ↓x_ifLlt_t, ↓x_ifLlt_f, ↓x_ifnm1, ↓x_ifb0, ↓x_ifb1, ↓x_if00, ↓x_if10, x_addL, x_Ladd, x_mulL, x_Lmul, nI_add, pk_mul, nI_pred, if_true, if_false, x_m1, n_a0, x_ue, x_un, e10, ↓if_pos q1, a01]; try simp (disch := omega) only [↓x_let, ↓x_nam, ↓x_put, ↓x_bX, ↓x_ob, ↓x_ald, ↓x_aldL, ↓x_ast, ↓x_astL, ↓x_at0, ↓x_at_0, ↓x_mk0, ↓x_at, ↓x_atL, ↓x_at_, ↓x_at_L, ↓x_mk, ↓x_mkL, ↓x_aald, ↓x_w, ↓x_wi, ↓ok_s, ↓x_ifle_t, ↓x_ifle_f, ↓x_iflt_t, ↓x_iflt_f, ↓x_ifeq_t, ↓x_ifeq_f, ↓x_ifleL_t, ↓x_ifleL_f, ↓x_ifltL_t, ↓x_ifltL_f, ↓x_ifeqL_t, ↓x_ifeqL_f, ↓x_ifLle_t, ↓x_ifLle_f, ↓x_ifLlt_t, ↓x_ifLlt_f, ↓x_ifnm1, ↓x_ifb0, ↓x_ifb1, ↓x_if00, ↓x_if10, x_addL, x_Ladd, x_mulL, x_Lmul, nI_add, pk_mul, nI_pred, if_true, if_false, x_m1, n_a0, x_ue, x_un, e10, ↓if_pos q1, a01]; try simp (disch := omega) only [↓x_let, ↓x_nam, ↓x_put, ↓x_bX, ↓x_ob, ↓x_ald, ↓x_aldL, ↓x_ast, ↓x_astL, ↓x_at0, ↓x_at_0, ↓x_mk0, ↓x_at, ↓x_atL, ↓x_at_, ↓x_at_L, ↓x_mk, ↓x_mkL, ↓x_aald, ↓x_w, ↓x_wi, ↓ok_s, ↓x_ifle_t, ↓x_ifle_f, ↓x_iflt_t, ↓x_iflt_f, ↓x_ifeq_t, ↓x_ifeq_f, ↓x_ifleL_t, ↓x_ifleL_f, ↓x_ifltL_t, ↓x_ifltL_f, ↓x_ifeqL_t, ↓x_ifeqL_f, ↓x_ifLle_t, ↓x_ifLle_f, ↓x_ifLlt_t, ↓x_ifLlt_f, ↓x_ifnm1, ↓x_ifb0, ↓x_ifb1, ↓x_if00, ↓x_if10, x_addL, x_Ladd, x_mulL, x_Lmul, nI_add, pk_mul, nI_pred, if_true, if_false, x_m1, n_a0, x_ue, x_un, e10, ↓if_pos q1, a01]
      exact no (by rw [l0]; exact decide_eq_false (fun h => h.1 q1))
    · by_cases q2 : d (c + 19) i ≤ nI (lmN b kd (spN N b))
      · simp (disch := omega) only [↓x_let, ↓x_nam, ↓x_put, ↓x_bX, ↓x_ob, ↓x_ald, ↓x_aldL, ↓x_ast, ↓x_astL, ↓x_at0, ↓x_at_0, ↓x_mk0, ↓x_at, ↓x_atL, ↓x_at_, ↓x_at_L, ↓x_mk, ↓x_mkL, ↓x_aald, ↓x_w, ↓x_wi, ↓ok_s, ↓x_ifle_t, ↓x_ifle_f, ↓x_iflt_t, ↓x_iflt_f, ↓x_ifeq_t, ↓x_ifeq_f, ↓x_ifleL_t, ↓x_ifleL_f, ↓x_ifltL_t, ↓x_ifltL_f, ↓x_ifeqL_t, ↓x_ifeqL_f, ↓x_ifLle_t, ↓x_ifLle_f, ↓x_ifLlt_t, ↓x_ifLlt_f, ↓x_ifnm1, ↓x_ifb0, ↓x_ifb1, ↓x_if00, ↓x_if10, x_addL, x_Ladd, x_mulL, x_Lmul, nI_add, pk_mul, nI_pred, if_true, if_false, x_m1, n_a0, x_ue, x_un, e10, e19, g4, ↓if_neg q1, ↓if_pos q2, a01]; try simp (disch := omega) only [↓x_let, ↓x_nam, ↓x_put, ↓x_bX, ↓x_ob, ↓x_ald, ↓x_aldL, ↓x_ast, ↓x_astL, ↓x_at0, ↓x_at_0, ↓x_mk0, ↓x_at, ↓x_atL, ↓x_at_, ↓x_at_L, ↓x_mk, ↓x_mkL, ↓x_aald, ↓x_w, ↓x_wi, ↓ok_s, ↓x_ifle_t, ↓x_ifle_f, ↓x_iflt_t, ↓x_iflt_f, ↓x_ifeq_t, ↓x_ifeq_f, ↓x_ifleL_t, ↓x_ifleL_f, ↓x_ifltL_t, ↓x_ifltL_f, ↓x_ifeqL_t, ↓x_ifeqL_f, ↓x_ifLle_t, ↓x_ifLle_f, ↓x_ifLlt_t, ↓x_ifLlt_f, ↓x_ifnm1, ↓x_ifb0, ↓x_ifb1, ↓x_if00, ↓x_if10, x_addL, x_Ladd, x_mulL, x_Lmul, nI_add, pk_mul, nI_pred, if_true, if_false, x_m1, n_a0, x_ue, x_un, e10, e19, g4, ↓if_neg q1, ↓if_pos q2, a01]; try simp (disch := omega) only [↓x_let, ↓x_nam, ↓x_put, ↓x_bX, ↓x_ob, ↓x_ald, ↓x_aldL, ↓x_ast, ↓x_astL, ↓x_at0, ↓x_at_0, ↓x_mk0, ↓x_at, ↓x_atL, ↓x_at_, ↓x_at_L, ↓x_mk, ↓x_mkL, ↓x_aald, ↓x_w, ↓x_wi, ↓ok_s, ↓x_ifle_t, ↓x_ifle_f, ↓x_iflt_t, ↓x_iflt_f, ↓x_ifeq_t, ↓x_ifeq_f, ↓x_ifleL_t, ↓x_ifleL_f, ↓x_ifltL_t, ↓x_ifltL_f, ↓x_ifeqL_t, ↓x_ifeqL_f, ↓x_ifLle_t, ↓x_ifLle_f, ↓x_ifLlt_t, ↓x_ifLlt_f, ↓x_ifnm1, ↓x_ifb0, ↓x_ifb1, ↓x_if00, ↓x_if10, x_addL, x_Ladd, x_mulL, x_Lmul, nI_add, pk_mul, nI_pred, if_true, if_false, x_m1, n_a0, x_ue, x_un, e10, e19, g4, ↓if_neg q1, ↓if_pos q2, a01]; try simp (disch := omega) only [↓x_let, ↓x_nam, ↓x_put, ↓x_bX, ↓x_ob, ↓x_ald, ↓x_aldL, ↓x_ast, ↓x_astL, ↓x_at0, ↓x_at_0, ↓x_mk0, ↓x_at, ↓x_atL, ↓x_at_, ↓x_at_L, ↓x_mk, ↓x_mkL, ↓x_aald, ↓x_w, ↓x_wi, ↓ok_s, ↓x_ifle_t, ↓x_ifle_f, ↓x_iflt_t, ↓x_iflt_f, ↓x_ifeq_t, ↓x_ifeq_f, ↓x_ifleL_t, ↓x_ifleL_f, ↓x_ifltL_t, ↓x_ifltL_f, ↓x_ifeqL_t, ↓x_ifeqL_f, ↓x_ifLle_t, ↓x_ifLle_f, ↓x_ifLlt_t, ↓x_ifLlt_f, ↓x_ifnm1, ↓x_ifb0, ↓x_ifb1, ↓x_if00, ↓x_if10, x_addL, x_Ladd, x_mulL, x_Lmul, nI_add, pk_mul, nI_pred, if_true, if_false, x_m1, n_a0, x_ue, x_un, e10, e19, g4, ↓if_neg q1, ↓if_pos q2, a01]
        exact no (by rw [l0]; exact decide_eq_false (fun h => h.2.1 q2))
      · by_cases q3 : d (c + 14) i = 0
        · have hl : lt i = true := by rw [l0]; exact decide_eq_true ⟨q1, q2, q3⟩
          simp (disch := omega) only [↓x_let, ↓x_nam, ↓x_put, ↓x_bX, ↓x_ob, ↓x_ald, ↓x_aldL, ↓x_ast, ↓x_astL, ↓x_at0, ↓x_at_0, ↓x_mk0, ↓x_at, ↓x_atL, ↓x_at_, ↓x_at_L, ↓x_mk, ↓x_mkL, ↓x_aald, ↓x_w, ↓x_wi, ↓ok_s, ↓x_ifle_t, ↓x_ifle_f, ↓x_iflt_t, ↓x_iflt_f, ↓x_ifeq_t, ↓x_ifeq_f, ↓x_ifleL_t, ↓x_ifleL_f, ↓x_ifltL_t, ↓x_ifltL_f, ↓x_ifeqL_t, ↓x_ifeqL_f, ↓x_ifLle_t, ↓x_ifLle_f, ↓x_ifLlt_t, ↓x_ifLlt_f, ↓x_ifnm1, ↓x_ifb0, ↓x_ifb1, ↓x_if00, ↓x_if10, x_addL, x_Ladd, x_mulL, x_Lmul, nI_add, pk_mul, nI_pred, if_true, if_false, x_m1, n_a0, x_ue, x_un, e10, e19, e14, g4, g5, ↓if_neg q1, ↓if_neg q2, ↓if_pos q3, a11]; try simp (disch := omega) only [↓x_let, ↓x_nam, ↓x_put, ↓x_bX, ↓x_ob, ↓x_ald, ↓x_aldL, ↓x_ast, ↓x_astL, ↓x_at0, ↓x_at_0, ↓x_mk0, ↓x_at, ↓x_atL, ↓x_at_, ↓x_at_L, ↓x_mk, ↓x_mkL, ↓x_aald, ↓x_w, ↓x_wi, ↓ok_s, ↓x_ifle_t, ↓x_ifle_f, ↓x_iflt_t, ↓x_iflt_f, ↓x_ifeq_t, ↓x_ifeq_f, ↓x_ifleL_t, ↓x_ifleL_f, ↓x_ifltL_t, ↓x_ifltL_f, ↓x_ifeqL_t, ↓x_ifeqL_f, ↓x_ifLle_t, ↓x_ifLle_f, ↓x_ifLlt_t, ↓x_ifLlt_f, ↓x_ifnm1, ↓x_ifb0, ↓x_ifb1, ↓x_if00, ↓x_if10, x_addL, x_Ladd, x_mulL, x_Lmul, nI_add, pk_mul, nI_pred, if_true, if_false, x_m1, n_a0, x_ue, x_un, e10, e19, e14, g4, g5, ↓if_neg q1, ↓if_neg q2, ↓if_pos q3, a11]; try simp (disch := omega) only [↓x_let, ↓x_nam, ↓x_put, ↓x_bX, ↓x_ob, ↓x_ald, ↓x_aldL, ↓x_ast, ↓x_astL, ↓x_at0, ↓x_at_0, ↓x_mk0, ↓x_at, ↓x_atL, ↓x_at_, ↓x_at_L, ↓x_mk, ↓x_mkL, ↓x_aald, ↓x_w, ↓x_wi, ↓ok_s, ↓x_ifle_t, ↓x_ifle_f, ↓x_iflt_t, ↓x_iflt_f, ↓x_ifeq_t, ↓x_ifeq_f, ↓x_ifleL_t, ↓x_ifleL_f, ↓x_ifltL_t, ↓x_ifltL_f, ↓x_ifeqL_t, ↓x_ifeqL_f, ↓x_ifLle_t, ↓x_ifLle_f, ↓x_ifLlt_t, ↓x_ifLlt_f, ↓x_ifnm1, ↓x_ifb0, ↓x_ifb1, ↓x_if00, ↓x_if10, x_addL, x_Ladd, x_mulL, x_Lmul, nI_add, pk_mul, nI_pred, if_true, if_false, x_m1, n_a0, x_ue, x_un, e10, e19, e14, g4, g5, ↓if_neg q1, ↓if_neg q2, ↓if_pos q3, a11]; try simp (disch := omega) only [↓x_let, ↓x_nam, ↓x_put, ↓x_bX, ↓x_ob, ↓x_ald, ↓x_aldL, ↓x_ast, ↓x_astL, ↓x_at0, ↓x_at_0, ↓x_mk0, ↓x_at, ↓x_atL, ↓x_at_, ↓x_at_L, ↓x_mk, ↓x_mkL, ↓x_aald, ↓x_w, ↓x_wi, ↓ok_s, ↓x_ifle_t, ↓x_ifle_f, ↓x_iflt_t, ↓x_iflt_f, ↓x_ifeq_t, ↓x_ifeq_f, ↓x_ifleL_t, ↓x_ifleL_f, ↓x_ifltL_t, ↓x_ifltL_f, ↓x_ifeqL_t, ↓x_ifeqL_f, ↓x_ifLle_t, ↓x_ifLle_f, ↓x_ifLlt_t, ↓x_ifLlt_f, ↓x_ifnm1, ↓x_ifb0, ↓x_ifb1, ↓x_if00, ↓x_if10, x_addL, x_Ladd, x_mulL, x_Lmul, nI_add, pk_mul, nI_pred, if_true, if_false, x_m1, n_a0, x_ue, x_un, e10, e19, e14, g4, g5, ↓if_neg q1, ↓if_neg q2, ↓if_pos q3, a11]
          refine ih (m - 1) _ _ (by omega) ⟨i + 1, by omega, rfl, fun a a1 a2 => by rw [u_a a1, u_a a2, g1 a a1 a2], fun k hk => by rw [x_un (by omega), x_un (by omega), g2 k hk], by rw [x_un (by omega), x_un (by omega), g3], by rw [x_un (by omega), x_un (by omega), g4], ?_, fun r hr => ?_⟩
          · rw [x_ue rfl rfl, fb_ct_succ, hl]
            rfl
          · by_cases hri : r = i
            · subst hri
              rw [x_un (by omega), x_ue rfl rfl, hl]
              rfl
            · rw [x_un (by omega), x_un (by omega), g6 r (by omega)]
        · simp (disch := omega) only [↓x_let, ↓x_nam, ↓x_put, ↓x_bX, ↓x_ob, ↓x_ald, ↓x_aldL, ↓x_ast, ↓x_astL, ↓x_at0, ↓x_at_0, ↓x_mk0, ↓x_at, ↓x_atL, ↓x_at_, ↓x_at_L, ↓x_mk, ↓x_mkL, ↓x_aald, ↓x_w, ↓x_wi, ↓ok_s, ↓x_ifle_t, ↓x_ifle_f, ↓x_iflt_t, ↓x_iflt_f, ↓x_ifeq_t, ↓x_ifeq_f, ↓x_ifleL_t, ↓x_ifleL_f, ↓x_ifltL_t, ↓x_ifltL_f, ↓x_ifeqL_t, ↓x_ifeqL_f, ↓x_ifLle_t, ↓x_ifLle_f, ↓x_ifLlt_t, ↓x_ifLlt_f, ↓x_ifnm1, ↓x_ifb0, ↓x_ifb1, ↓x_if00, ↓x_if10, x_addL, x_Ladd, x_mulL, x_Lmul, nI_add, pk_mul, nI_pred, if_true, if_false, x_m1, n_a0, x_ue, x_un, e10, e19, e14, g4, ↓if_neg q1, ↓if_neg q2, ↓if_neg q3, a01]; try simp (disch := omega) only [↓x_let, ↓x_nam, ↓x_put, ↓x_bX, ↓x_ob, ↓x_ald, ↓x_aldL, ↓x_ast, ↓x_astL, ↓x_at0, ↓x_at_0, ↓x_mk0, ↓x_at, ↓x_atL, ↓x_at_, ↓x_at_L, ↓x_mk, ↓x_mkL, ↓x_aald, ↓x_w, ↓x_wi, ↓ok_s, ↓x_ifle_t, ↓x_ifle_f, ↓x_iflt_t, ↓x_iflt_f, ↓x_ifeq_t, ↓x_ifeq_f, ↓x_ifleL_t, ↓x_ifleL_f, ↓x_ifltL_t, ↓x_ifltL_f, ↓x_ifeqL_t, ↓x_ifeqL_f, ↓x_ifLle_t, ↓x_ifLle_f, ↓x_ifLlt_t, ↓x_ifLlt_f, ↓x_ifnm1, ↓x_ifb0, ↓x_ifb1, ↓x_if00, ↓x_if10, x_addL, x_Ladd, x_mulL, x_Lmul, nI_add, pk_mul, nI_pred, if_true, if_false, x_m1, n_a0, x_ue, x_un, e10, e19, e14, g4, ↓if_neg q1, ↓if_neg q2, ↓if_neg q3, a01]; try simp (disch := omega) only [↓x_let, ↓x_nam, ↓x_put, ↓x_bX, ↓x_ob, ↓x_ald, ↓x_aldL, ↓x_ast, ↓x_astL, ↓x_at0, ↓x_at_0, ↓x_mk0, ↓x_at, ↓x_atL, ↓x_at_, ↓x_at_L, ↓x_mk, ↓x_mkL, ↓x_aald, ↓x_w, ↓x_wi, ↓ok_s, ↓x_ifle_t, ↓x_ifle_f, ↓x_iflt_t, ↓x_iflt_f, ↓x_ifeq_t, ↓x_ifeq_f, ↓x_ifleL_t, ↓x_ifleL_f, ↓x_ifltL_t, ↓x_ifltL_f, ↓x_ifeqL_t, ↓x_ifeqL_f, ↓x_ifLle_t, ↓x_ifLle_f, ↓x_ifLlt_t, ↓x_ifLlt_f, ↓x_ifnm1, ↓x_ifb0, ↓x_ifb1, ↓x_if00, ↓x_if10, x_addL, x_Ladd, x_mulL, x_Lmul, nI_add, pk_mul, nI_pred, if_true, if_false, x_m1, n_a0, x_ue, x_un, e10, e19, e14, g4, ↓if_neg q1, ↓if_neg q2, ↓if_neg q3, a01]; try simp (disch := omega) only [↓x_let, ↓x_nam, ↓x_put, ↓x_bX, ↓x_ob, ↓x_ald, ↓x_aldL, ↓x_ast, ↓x_astL, ↓x_at0, ↓x_at_0, ↓x_mk0, ↓x_at, ↓x_atL, ↓x_at_, ↓x_at_L, ↓x_mk, ↓x_mkL, ↓x_aald, ↓x_w, ↓x_wi, ↓ok_s, ↓x_ifle_t, ↓x_ifle_f, ↓x_iflt_t, ↓x_iflt_f, ↓x_ifeq_t, ↓x_ifeq_f, ↓x_ifleL_t, ↓x_ifleL_f, ↓x_ifltL_t, ↓x_ifltL_f, ↓x_ifeqL_t, ↓x_ifeqL_f, ↓x_ifLle_t, ↓x_ifLle_f, ↓x_ifLlt_t, ↓x_ifLlt_f, ↓x_ifnm1, ↓x_ifb0, ↓x_ifb1, ↓x_if00, ↓x_if10, x_addL, x_Ladd, x_mulL, x_Lmul, nI_add, pk_mul, nI_pred, if_true, if_false, x_m1, n_a0, x_ue, x_un, e10, e19, e14, g4, ↓if_neg q1, ↓if_neg q2, ↓if_neg q3, a01]
          exact no (by rw [l0]; exact decide_eq_false (fun h => q3 h.2.2))
