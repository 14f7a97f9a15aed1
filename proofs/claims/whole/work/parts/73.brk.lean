/-! 73.brk: breakaways -/
def paN (m : Nat) : Nat := 40000 + 6000 * (m - 1) / m
theorem pa_c : ∀ m, m < 16 → f_X0_pace (nI (m + 1)) = some (lN (paN (m + 1))) := by decide +kernel
theorem pa_m : ∀ m, m < 16 → f_X9_metres (nI (m + 1)) = some (lN (paN (m + 1))) := by decide +kernel
theorem pa_b : ∀ m, m < 16 → 40000 ≤ paN (m + 1) ∧ paN (m + 1) ≤ 46000 := by decide +kernel
/-- metres from the end, or -1 -/
def cau (x y s k : Nat) : Int32 := if x < y ∧ x * y * s ≤ 1000 * k * (3600 * (y - x)) then nI ((1000 * k * (3600 * (y - x)) - x * y * s) / (3600 * (y - x))) else -1
theorem x_ldiv {α : Type} {K : Int64 → Option α} {a b : Nat} (ha : a < 2 ^ 63) (h0 : 0 < b) (hb : b < 2 ^ 63) : z_ldiv (lN a) (lN b) K = K (lN (a / b)) := by
  unfold z_ldiv
  rw [if_neg (show ¬ lN b = 0 by rw [show (0 : Int64) = lN 0 from rfl, pk_lEQ hb (by omega)]; omega), pk_lDiv ha h0 hb]
theorem cau_y {x y s k : Nat} (h : x < y ∧ x * y * s ≤ 1000 * k * (3600 * (y - x))) : cau x y s k = nI ((1000 * k * (3600 * (y - x)) - x * y * s) / (3600 * (y - x))) := if_pos h
theorem cau_n {x y s k : Nat} (h : ¬ (x < y ∧ x * y * s ≤ 1000 * k * (3600 * (y - x)))) : cau x y s k = -1 := if_neg h
theorem cau_run {x y s k : Nat} (hx : 40000 ≤ x ∧ x ≤ 46000) (hy : 40000 ≤ y ∧ y ≤ 46000) (hs : s ≤ 3600) (hk : k ≤ 300) (hlt : x < y) : (if 0 ≤ lg_cmp (lN (1000 * k * (3600 * (y - x))) - lN (x * y * s)) 0 then z_ldiv (lN (1000 * k * (3600 * (y - x))) - lN (x * y * s)) (lN (3600 * (y - x))) (fun v5 => some (v5.toInt32)) else (some (-1))) = some (cau x y s k) := by
  have hA : 1000 * k * (3600 * (y - x)) ≤ 300000 * 21600000 := Nat.mul_le_mul (by omega) (by omega)
  have hC : x * y * s ≤ 46000 * 46000 * 3600 := Nat.mul_le_mul (Nat.mul_le_mul hx.2 hy.2) hs
  by_cases hle : x * y * s ≤ 1000 * k * (3600 * (y - x))
  · have hge : (0 : Int32) ≤ lg_cmp (lN (1000 * k * (3600 * (y - x)) - x * y * s)) 0 := (lg_cmp_ge _ _).mpr (by
      rw [show (0 : Int64) = lN 0 from rfl, pk_lLE (by omega) (by omega)]
      omega)
    rw [cau_y ⟨hlt, hle⟩, lN_sub hle, if_pos hge]
    rw [x_ldiv (by omega) (by omega) (by omega), lN_i]
  · have hge : ¬ (0 : Int32) ≤ lg_cmp (lN (1000 * k * (3600 * (y - x))) - lN (x * y * s)) 0 := by
      rw [lg_cmp_ge, show (0 : Int64) = lN 0 from rfl, fa_le64, pk_lT (by omega), fb_subL, pk_lT (by omega), pk_lT (by omega)]
      · omega
      · rw [pk_lT (by omega), pk_lT (by omega)]; omega
      · rw [pk_lT (by omega), pk_lT (by omega)]; omega
    rw [cau_n (fun h => hle h.2), if_neg hge]
theorem k_metresLeft {a s k b : Nat} (ha : 1 ≤ a ∧ a ≤ 16) (hb : 1 ≤ b ∧ b ≤ 16) (hs : s ≤ 3600) (hk : k ≤ 300) : f_X0_metresLeft (nI a) (nI s) (nI k) (nI b) = some (cau (paN a) (paN b) s k) := by
  obtain ⟨a, rfl⟩ : ∃ q, a = q + 1 := ⟨a - 1, by omega⟩
  obtain ⟨b, rfl⟩ : ∃ q, b = q + 1 := ⟨b - 1, by omega⟩
  have pa := pa_b a (by omega)
  have pb := pa_b b (by omega)
  unfold f_X0_metresLeft
  rw [pa_c a (by omega), x_ob, pa_c b (by omega), x_ob]
  by_cases hlt : paN (a + 1) < paN (b + 1)
  · rw [if_pos ((lg_cmp_gt _ _).mpr ((pk_lLT (by omega) (by omega)).mpr hlt)), x_nam, x_nam, lN_sub (by omega), show (3600 : Int64) = lN 3600 from rfl, lN_mul, nI_l (by omega), nI_l (by omega), show (1000 : Int64) = lN 1000 from rfl, lN_mul, lN_mul, lN_mul, lN_mul, Nat.mul_comm k 1000]
    exact cau_run pa pb hs hk hlt
  · rw [if_neg (fun h => hlt ((pk_lLT (by omega) (by omega)).mp ((lg_cmp_gt _ _).mp h)))]
    rw [cau_n (fun h => hlt h.1)]
theorem m_caughtAt {a s k b : Nat} (ha : 1 ≤ a ∧ a ≤ 16) (hb : 1 ≤ b ∧ b ≤ 16) (hs : s ≤ 3600) (hk : k ≤ 300) : f_X9_caughtAt (nI a) (nI s) (nI k) (nI b) = some (cau (paN a) (paN b) s k) := by
  obtain ⟨a, rfl⟩ : ∃ q, a = q + 1 := ⟨a - 1, by omega⟩
  obtain ⟨b, rfl⟩ : ∃ q, b = q + 1 := ⟨b - 1, by omega⟩
  have pa := pa_b a (by omega)
  have pb := pa_b b (by omega)
  unfold f_X9_caughtAt
  rw [pa_m a (by omega), x_ob, pa_m b (by omega), x_ob]
  by_cases hlt : paN (a + 1) < paN (b + 1)
  · rw [if_pos ((lg_cmp_gt _ _).mpr ((pk_lLT (by omega) (by omega)).mpr hlt)), x_nam, x_nam, lN_sub (by omega), show (3600 : Int64) = lN 3600 from rfl, lN_mul, nI_l (by omega), nI_l (by omega), show (1000 : Int64) = lN 1000 from rfl, lN_mul, lN_mul, lN_mul, lN_mul]
    exact cau_run pa pb hs hk hlt
  · rw [if_neg (fun h => hlt ((pk_lLT (by omega) (by omega)).mp ((lg_cmp_gt _ _).mp h)))]
    rw [cau_n (fun h => hlt h.1)]
theorem cau_m1 {x y s k : Nat} (hx : 40000 ≤ x ∧ x ≤ 46000) (hy : 40000 ≤ y ∧ y ≤ 46000) (hk : k ≤ 300) : cau x y s k = -1 ↔ ¬ (x < y ∧ x * y * s ≤ 1000 * k * (3600 * (y - x))) := by
  unfold cau
  by_cases h : x < y ∧ x * y * s ≤ 1000 * k * (3600 * (y - x))
  · rw [if_pos h]
    have h1 : (1000 * k * (3600 * (y - x)) - x * y * s) / (3600 * (y - x)) ≤ 1000 * k := by
      refine Nat.div_le_of_le_mul ?_
      rw [Nat.mul_comm (3600 * (y - x))]
      omega
    rw [x_nm1 _ (by omega)]
    exact ⟨False.elim, fun h9 => h9 h⟩
  · rw [if_neg h]
    exact ⟨fun _ => h, fun _ => rfl⟩
theorem canBe {x y z : Int32} : f_X0_canBe x y z = some (b01 ((1 ≤ x ∧ x ≤ 16) ∧ (1 ≤ y ∧ y ≤ 300) ∧ (1 ≤ z ∧ z ≤ 16))) := by
  unfold f_X0_canBe
  rw [x_w, x_ob, x_ifb0]
  by_cases h1 : 1 ≤ x ∧ x ≤ 16
  · rw [if_pos h1, x_w, x_ob, x_ifb0]
    by_cases h2 : 1 ≤ y ∧ y ≤ 300
    · rw [if_pos h2, x_w, x_ob, x_ifb0]
      by_cases h3 : 1 ≤ z ∧ z ≤ 16
      · rw [if_pos h3, b01_t ⟨h1, h2, h3⟩]
      · rw [if_neg h3, b01_f (fun h => h3 h.2.2)]
    · rw [if_neg h2, b01_f (fun h => h2 h.2.1)]
  · rw [if_neg h1, b01_f (fun h => h1 h.1)]
theorem areR {x : Int32} : f_X9_areRiders x = some (b01 (1 ≤ x ∧ x ≤ 16)) := by
  unfold f_X9_areRiders
  rw [x_wi, x_ob, x_bl b01_b]
/-- the class's caught -/
theorem k_caught {q : Nat} (x y z w : Int32) : f_X8_caught q x y z w = some (if (1 ≤ x ∧ x ≤ 16) ∧ (1 ≤ z ∧ z ≤ 300) ∧ (1 ≤ w ∧ w ≤ 16) ∧ (0 ≤ y ∧ y ≤ 3600) then cau (paN x.toNatClampNeg) (paN w.toNatClampNeg) y.toNatClampNeg z.toNatClampNeg else -1) := by
  unfold f_X8_caught
  rw [canBe, x_ob, x_ifb0]
  by_cases h : (1 ≤ x ∧ x ≤ 16) ∧ (1 ≤ z ∧ z ≤ 300) ∧ (1 ≤ w ∧ w ≤ 16)
  · rw [if_pos h, x_w, x_ob, x_ifb0]
    by_cases hy : 0 ≤ y ∧ y ≤ 3600
    · rw [if_pos hy, if_pos ⟨h.1, h.2.1, h.2.2, hy⟩]
      obtain ⟨a, a1, a2, rfl⟩ := i_nat (a := 1) (b := 16) (by omega) h.1 (by omega)
      obtain ⟨k, k1, k2, rfl⟩ := i_nat (a := 1) (b := 300) (by omega) h.2.1 (by omega)
      obtain ⟨b, b1, b2, rfl⟩ := i_nat (a := 1) (b := 16) (by omega) h.2.2 (by omega)
      obtain ⟨s, s1, s2, rfl⟩ := i_nat (a := 0) (b := 3600) (by omega) hy (by omega)
      rw [k_metresLeft ⟨a1, a2⟩ ⟨b1, b2⟩ s2 k2, x_ob, nI_clamp (by omega), nI_clamp (by omega), nI_clamp (by omega), nI_clamp (by omega)]
    · rw [if_neg hy, if_neg (fun h9 => hy h9.2.2.2)]
  · rw [if_neg h, if_neg (fun h9 => h ⟨h9.1, h9.2.1, h9.2.2.1⟩)]
theorem j_caught {dm : z_D} {o q : Nat} (x y z w : Int32) : ok (f_X8_caught q x y z w) (fun v => ok (f_X9_caught dm o x y z w) (fun u => v = u.1 ∧ Fq o dm u.2)) := by
  rw [k_caught, ok_s]
  unfold f_X9_caught
  rw [x_put, areR, x_ob, x_ifb0]
  by_cases h1 : 1 ≤ x ∧ x ≤ 16
  rotate_left
  · rw [if_neg h1, if_neg (fun h9 => h1 h9.1), ok_s]
    exact ⟨rfl, Fq.t⟩
  rw [if_pos h1, areR, x_ob, x_ifb0]
  by_cases h2 : 1 ≤ w ∧ w ≤ 16
  rotate_left
  · rw [if_neg h2, if_neg (fun h9 => h2 h9.2.2.1), ok_s]
    exact ⟨rfl, Fq.t⟩
  rw [if_pos h2, x_wi, x_ob, x_ifb0]
  by_cases h3 : 0 ≤ y ∧ y ≤ 3600
  rotate_left
  · rw [if_neg h3, if_neg (fun h9 => h3 h9.2.2.2), ok_s]
    exact ⟨rfl, Fq.t⟩
  rw [if_pos h3, x_wi, x_ob, x_ifb0]
  by_cases h4 : 1 ≤ z ∧ z ≤ 300
  rotate_left
  · rw [if_neg h4, if_neg (fun h9 => h4 h9.2.1), ok_s]
    exact ⟨rfl, Fq.t⟩
  rw [if_pos h4, if_pos ⟨h1, h4, h2, h3⟩]
  obtain ⟨a, a1, a2, rfl⟩ := i_nat (a := 1) (b := 16) (by omega) h1 (by omega)
  obtain ⟨k, k1, k2, rfl⟩ := i_nat (a := 1) (b := 300) (by omega) h4 (by omega)
  obtain ⟨b, b1, b2, rfl⟩ := i_nat (a := 1) (b := 16) (by omega) h2 (by omega)
  obtain ⟨s, s1, s2, rfl⟩ := i_nat (a := 0) (b := 3600) (by omega) h3 (by omega)
  rw [m_caughtAt ⟨a1, a2⟩ ⟨b1, b2⟩ s2 k2, x_ob, ok_s, nI_clamp (by omega), nI_clamp (by omega), nI_clamp (by omega), nI_clamp (by omega)]
  exact ⟨rfl, Fq.t⟩
theorem k_leastAhead {a k b : Nat} (ha : 1 ≤ a ∧ a ≤ 16) (hb : 1 ≤ b ∧ b ≤ 16) (hk : k ≤ 300) : f_X0_leastAhead (nI a) (nI k) (nI b) = some (if paN a < paN b then (if 1000 * k * (3600 * (paN b - paN a)) / (paN a * paN b) + 1 ≤ 3600 then nI (1000 * k * (3600 * (paN b - paN a)) / (paN a * paN b) + 1) else -1) else 0) := by
  obtain ⟨a, rfl⟩ : ∃ q, a = q + 1 := ⟨a - 1, by omega⟩
  obtain ⟨b, rfl⟩ : ∃ q, b = q + 1 := ⟨b - 1, by omega⟩
  have pa := pa_b a (by omega)
  have pb := pa_b b (by omega)
  have hA : 1000 * k * (3600 * (paN (b + 1) - paN (a + 1))) ≤ 300000 * 21600000 := Nat.mul_le_mul (by omega) (by omega)
  have hC : paN (a + 1) * paN (b + 1) ≤ 46000 * 46000 := Nat.mul_le_mul pa.2 pb.2
  have hC0 : 40000 * 40000 ≤ paN (a + 1) * paN (b + 1) := Nat.mul_le_mul pa.1 pb.1
  have hd : 1000 * k * (3600 * (paN (b + 1) - paN (a + 1))) / (paN (a + 1) * paN (b + 1)) ≤ 1000 * k * (3600 * (paN (b + 1) - paN (a + 1))) := Nat.div_le_self _ _
  unfold f_X0_leastAhead
  rw [pa_c a (by omega), x_ob, pa_c b (by omega), x_ob]
  by_cases hlt : paN (a + 1) < paN (b + 1)
  · rw [if_pos hlt, if_pos ((lg_cmp_gt _ _).mpr ((pk_lLT (by omega) (by omega)).mpr hlt)), lN_sub (by omega), nI_l (by omega), show (1000 : Int64) = lN 1000 from rfl, show (3600 : Int64) = lN 3600 from rfl, lN_mul, lN_mul, lN_mul, lN_mul, show k * 1000 * 3600 * (paN (b + 1) - paN (a + 1)) = 1000 * k * (3600 * (paN (b + 1) - paN (a + 1))) by rw [Nat.mul_comm k 1000, Nat.mul_assoc]]
    rw [x_ldiv (by omega) (by omega) (by omega), x_nam, lN_1, lN_i]
    by_cases h36 : 1000 * k * (3600 * (paN (b + 1) - paN (a + 1))) / (paN (a + 1) * paN (b + 1)) + 1 ≤ 3600
    · rw [if_pos h36, if_neg (fun h => by
        have := (pk_lLT (by omega) (by omega)).mp ((lg_cmp_gt _ _).mp h)
        omega)]
    · rw [if_neg h36, if_pos ((lg_cmp_gt _ _).mpr ((pk_lLT (by omega) (by omega)).mpr (by omega)))]
  · rw [if_neg hlt, if_neg (fun h => hlt ((pk_lLT (by omega) (by omega)).mp ((lg_cmp_gt _ _).mp h)))]
theorem j_holds {dm : z_D} {o q : Nat} (x y z : Int32) : ok (f_X8_holds q x y z) (fun v => ok (f_X9_holds dm o x y z) (fun u => v = u.1 ∧ Fq o dm u.2)) := by
  unfold f_X8_holds f_X9_holds
  rw [canBe, x_ob, x_ifb0, x_put, areR, x_ob, x_ifb0]
  by_cases h1 : 1 ≤ x ∧ x ≤ 16
  rotate_left
  · rw [if_neg h1, if_neg (fun h9 => h1 h9.1), ok_s, ok_s]
    exact ⟨rfl, Fq.t⟩
  rw [if_pos h1, areR, x_ob, x_ifb0]
  by_cases h2 : 1 ≤ z ∧ z ≤ 16
  rotate_left
  · rw [if_neg h2, if_neg (fun h9 => h2 h9.2.2), ok_s, ok_s]
    exact ⟨rfl, Fq.t⟩
  rw [if_pos h2, x_wi, x_ob, x_ifb0]
  by_cases h4 : 1 ≤ y ∧ y ≤ 300
  rotate_left
  · rw [if_neg h4, if_neg (fun h9 => h4 h9.2.1), ok_s, ok_s]
    exact ⟨rfl, Fq.t⟩
  rw [if_pos h4, if_pos ⟨h1, h4, h2⟩]
  obtain ⟨a, a1, a2, rfl⟩ := i_nat (a := 1) (b := 16) (by omega) h1 (by omega)
  obtain ⟨k, k1, k2, rfl⟩ := i_nat (a := 1) (b := 300) (by omega) h4 (by omega)
  obtain ⟨b, b1, b2, rfl⟩ := i_nat (a := 1) (b := 16) (by omega) h2 (by omega)
  have pa : 40000 ≤ paN a ∧ paN a ≤ 46000 := by
    have := pa_b (a - 1) (by omega)
    rw [show a - 1 + 1 = a by omega] at this
    exact this
  have pb : 40000 ≤ paN b ∧ paN b ≤ 46000 := by
    have := pa_b (b - 1) (by omega)
    rw [show b - 1 + 1 = b by omega] at this
    exact this
  have hC0 : 40000 * 40000 ≤ paN a * paN b := Nat.mul_le_mul pa.1 pb.1
  have hiff : ∀ s, cau (paN a) (paN b) s k = -1 ↔ ¬ paN a < paN b ∨ 1000 * k * (3600 * (paN b - paN a)) / (paN a * paN b) + 1 ≤ s := fun s => by
    rw [cau_m1 pa pb k2]
    have hdv : paN a * paN b * s ≤ 1000 * k * (3600 * (paN b - paN a)) ↔ s ≤ 1000 * k * (3600 * (paN b - paN a)) / (paN a * paN b) := by
      rw [Nat.le_div_iff_mul_le (by omega), Nat.mul_comm s]
    rw [hdv]
    constructor
    · intro h9
      by_cases hlt : paN a < paN b
      · right
        rcases Nat.lt_or_ge (1000 * k * (3600 * (paN b - paN a)) / (paN a * paN b)) s with h8 | h8
        · omega
        · exact absurd ⟨hlt, h8⟩ h9
      · exact Or.inl hlt
    · rintro (h9 | h9) h8
      · exact h9 h8.1
      · omega
  rw [k_leastAhead ⟨a1, a2⟩ ⟨b1, b2⟩ k2, x_ob, ok_s]
  refine zl1 (f_X9_holds_L35_b _ (nI a) (nI k) (nI b) _) (fun _ => rfl) (fun m x4 => ∃ g, m + g = 3601 ∧ x4 = nI g ∧ ∀ g', g' < g → ¬ cau (paN a) (paN b) g' k = -1) ?_ 3601 z_N _ ⟨0, by omega, rfl, fun g' b => by omega⟩ (ltz (by omega))
  rintro R m x4 ⟨g, hm, rfl, hno⟩ ih
  unfold f_X9_holds_L35_b
  by_cases hg : g = 3601
  · rw [if_pos (show (3600 : Int32) < nI g by rw [hg]; decide)]
    show ok (some (-1, _)) _
    rw [ok_s]
    refine ⟨?_, Fq.t⟩
    have h0 := hno 0 (by omega)
    rw [hiff] at h0
    have hlt : paN a < paN b := by
      rcases Nat.lt_or_ge (paN a) (paN b) with h9 | h9
      · exact h9
      · exact absurd (Or.inl (by omega)) h0
    have h1 := hno 3600 (by omega)
    rw [hiff] at h1
    rw [if_pos hlt, if_neg (fun h9 => h1 (Or.inr h9))]
  rw [if_neg (show ¬ (3600 : Int32) < nI g from fun h => by have := (nI_ltI (a := 3600) (by omega) (by omega)).mp h; omega), m_caughtAt ⟨a1, a2⟩ ⟨b1, b2⟩ (by omega) k2, x_ob]
  by_cases hc : cau (paN a) (paN b) g k = -1
  · rw [if_pos hc, ok_s]
    refine ⟨?_, Fq.t⟩
    by_cases hlt : paN a < paN b
    · rw [if_pos hlt]
      rw [hiff] at hc
      have hc2 := hc.resolve_left (fun h9 => h9 hlt)
      rw [if_pos (by omega)]
      refine congrArg nI ?_
      by_cases h0 : g = 1000 * k * (3600 * (paN b - paN a)) / (paN a * paN b) + 1
      · exact h0.symm
      · have := hno (1000 * k * (3600 * (paN b - paN a)) / (paN a * paN b) + 1) (by omega)
        rw [hiff] at this
        exact absurd (Or.inr (Nat.le_refl _)) this
    · rw [if_neg hlt]
      by_cases h0 : g = 0
      · rw [h0]; rfl
      · have := hno 0 (by omega)
        rw [hiff] at this
        exact absurd (Or.inl hlt) this
  · rw [if_neg hc, x_addL]
    refine ih (m - 1) _ (by omega) ⟨g + 1, by omega, rfl, fun g' h9 => ?_⟩
    by_cases hgg : g' = g
    · rw [hgg]; exact hc
    · exact hno g' (by omega)
theorem j_chase {dm : z_D} {o q : Nat} (x y z : Int32) : ok (f_X8_chase q x y z) (fun v => ok (f_X9_chase dm o x y z) (fun u => v = u.1 ∧ Fq o dm u.2)) := by
  have cls : ∀ (P : Nat → Prop) [DecidablePred P] (v : Int32), (∀ b, 1 ≤ b → b ≤ 16 → ((if (1 ≤ x ∧ x ≤ 16) ∧ (1 ≤ z ∧ z ≤ 300) ∧ (1 ≤ nI b ∧ nI b ≤ 16) ∧ (0 ≤ y ∧ y ≤ 3600) then cau (paN x.toNatClampNeg) (paN (nI b).toNatClampNeg) y.toNatClampNeg z.toNatClampNeg else -1) = -1 ↔ ¬ P b)) → (((∀ b, 1 ≤ b → b ≤ 16 → ¬ P b) ∧ v = -1) ∨ ∃ b, 1 ≤ b ∧ b ≤ 16 ∧ P b ∧ (∀ b', 1 ≤ b' → b' < b → ¬ P b') ∧ v = nI b) → f_X8_chase q x y z = some v := by
    intro P _ v hP hv
    rw [← ok_e]
    unfold f_X8_chase
    refine zl1 (f_X8_chase_L3_b q x y z _) (fun _ => rfl) (fun m x4 => ∃ g, 1 ≤ g ∧ m + g = 17 ∧ x4 = nI g ∧ ∀ g', 1 ≤ g' → g' < g → ¬ P g') ?_ 16 z_N _ ⟨1, by omega, by omega, rfl, fun g' _ _ => by omega⟩ (ltz (by omega))
    rintro R m x4 ⟨g, g1, hm, rfl, hno⟩ ih
    unfold f_X8_chase_L3_b
    by_cases hg : g = 17
    · rw [if_pos (show (16 : Int32) < nI g by rw [hg]; decide)]
      show ok (some (-1)) _
      rw [ok_s]
      rcases hv with ⟨-, e⟩ | ⟨b, u1, u2, u3, -⟩
      · exact e.symm
      · exact absurd u3 (hno b u1 (by omega))
    rw [if_neg (show ¬ (16 : Int32) < nI g from fun h => by have := (nI_ltI (a := 16) (by omega) (by omega)).mp h; omega), k_caught, x_ob]
    by_cases hc : P g
    · rw [if_neg (fun h9 => (hP g g1 (by omega)).mp h9 hc), ok_s]
      rcases hv with ⟨u, -⟩ | ⟨b, u1, u2, u3, u4, e⟩
      · exact absurd hc (u g g1 (by omega))
      · rw [e]
        rcases Nat.lt_trichotomy g b with h9 | h9 | h9
        · exact absurd hc (u4 g g1 h9)
        · rw [h9]
        · exact absurd u3 (hno b u1 h9)
    · rw [if_pos ((hP g g1 (by omega)).mpr hc), x_addL]
      refine ih (m - 1) _ (by omega) ⟨g + 1, by omega, by omega, rfl, fun g' h8 h9 => ?_⟩
      by_cases hgg : g' = g
      · rw [hgg]; exact hc
      · exact hno g' h8 (by omega)
  unfold f_X9_chase
  rw [x_put, areR, x_ob, x_ifb0]
  by_cases h1 : 1 ≤ x ∧ x ≤ 16
  rotate_left
  · rw [cls (fun _ => False) (-1) (fun b _ _ => by rw [if_neg (fun h9 => h1 h9.1)]; exact ⟨fun _ h => h, fun _ => rfl⟩) (Or.inl ⟨fun _ _ _ h => h, rfl⟩), ok_s, if_neg h1, ok_s]
    exact ⟨rfl, Fq.t⟩
  rw [if_pos h1, x_wi, x_ob, x_ifb0]
  by_cases h3 : 0 ≤ y ∧ y ≤ 3600
  rotate_left
  · rw [cls (fun _ => False) (-1) (fun b _ _ => by rw [if_neg (fun h9 => h3 h9.2.2.2)]; exact ⟨fun _ h => h, fun _ => rfl⟩) (Or.inl ⟨fun _ _ _ h => h, rfl⟩), ok_s, if_neg h3, ok_s]
    exact ⟨rfl, Fq.t⟩
  rw [if_pos h3, x_wi, x_ob, x_ifb0]
  by_cases h4 : 1 ≤ z ∧ z ≤ 300
  rotate_left
  · rw [cls (fun _ => False) (-1) (fun b _ _ => by rw [if_neg (fun h9 => h4 h9.2.1)]; exact ⟨fun _ h => h, fun _ => rfl⟩) (Or.inl ⟨fun _ _ _ h => h, rfl⟩), ok_s, if_neg h4, ok_s]
    exact ⟨rfl, Fq.t⟩
  rw [if_pos h4]
  obtain ⟨a, a1, a2, rfl⟩ := i_nat (a := 1) (b := 16) (by omega) h1 (by omega)
  obtain ⟨k, k1, k2, rfl⟩ := i_nat (a := 1) (b := 300) (by omega) h4 (by omega)
  obtain ⟨s, s1, s2, rfl⟩ := i_nat (a := 0) (b := 3600) (by omega) h3 (by omega)
  have hP : ∀ b, 1 ≤ b → b ≤ 16 → ((if (1 ≤ nI a ∧ nI a ≤ 16) ∧ (1 ≤ nI k ∧ nI k ≤ 300) ∧ (1 ≤ nI b ∧ nI b ≤ 16) ∧ (0 ≤ nI s ∧ nI s ≤ 3600) then cau (paN (nI a).toNatClampNeg) (paN (nI b).toNatClampNeg) (nI s).toNatClampNeg (nI k).toNatClampNeg else -1) = -1 ↔ ¬ ¬ cau (paN a) (paN b) s k = -1) := fun b b1 b2 => by
    rw [if_pos ⟨h1, h4, ⟨(nI_leI (a := 1) (by omega) (by omega)).mpr b1, (nI_leI (b := 16) (by omega) (by omega)).mpr b2⟩, h3⟩, nI_clamp (by omega), nI_clamp (by omega), nI_clamp (by omega), nI_clamp (by omega), Classical.not_not]
  have hv : ∃ v, f_X8_chase q (nI a) (nI s) (nI k) = some v ∧ (((∀ b, 1 ≤ b → b ≤ 16 → ¬ ¬ cau (paN a) (paN b) s k = -1) ∧ v = -1) ∨ ∃ b, 1 ≤ b ∧ b ≤ 16 ∧ ¬ cau (paN a) (paN b) s k = -1 ∧ (∀ b', 1 ≤ b' → b' < b → ¬ ¬ cau (paN a) (paN b') s k = -1) ∧ v = nI b) := by
    by_cases hex : ∃ i, i < 16 ∧ ¬ cau (paN a) (paN (i + 1)) s k = -1
    · obtain ⟨i, i1, i2, i3⟩ := fb_first hex
      have hd : (∀ b, 1 ≤ b → b ≤ 16 → ¬ ¬ cau (paN a) (paN b) s k = -1) ∧ nI (i + 1) = -1 ∨ ∃ b, 1 ≤ b ∧ b ≤ 16 ∧ ¬ cau (paN a) (paN b) s k = -1 ∧ (∀ b', 1 ≤ b' → b' < b → ¬ ¬ cau (paN a) (paN b') s k = -1) ∧ nI (i + 1) = nI b := Or.inr ⟨i + 1, by omega, by omega, i2, fun b' u1 u2 => by
        have := i3 (b' - 1) (by omega)
        rw [show b' - 1 + 1 = b' by omega] at this
        exact this, rfl⟩
      exact ⟨nI (i + 1), cls (fun b => ¬ cau (paN a) (paN b) s k = -1) _ hP hd, hd⟩
    · have hd : (∀ b, 1 ≤ b → b ≤ 16 → ¬ ¬ cau (paN a) (paN b) s k = -1) ∧ (-1 : Int32) = -1 ∨ ∃ b, 1 ≤ b ∧ b ≤ 16 ∧ ¬ cau (paN a) (paN b) s k = -1 ∧ (∀ b', 1 ≤ b' → b' < b → ¬ ¬ cau (paN a) (paN b') s k = -1) ∧ (-1 : Int32) = nI b := Or.inl ⟨fun b u1 u2 h9 => hex ⟨b - 1, by omega, by rw [show b - 1 + 1 = b by omega]; exact h9⟩, rfl⟩
      exact ⟨-1, cls (fun b => ¬ cau (paN a) (paN b) s k = -1) _ hP hd, hd⟩
  obtain ⟨v, hv1, hv⟩ := hv
  rw [hv1, ok_s]
  refine zl1 (f_X9_chase_L39_b _ (nI a) (nI s) (nI k) _) (fun _ => rfl) (fun m x4 => ∃ g, 1 ≤ g ∧ m + g = 17 ∧ x4 = nI g ∧ ∀ g', 1 ≤ g' → g' < g → cau (paN a) (paN g') s k = -1) ?_ 16 z_N _ ⟨1, by omega, by omega, rfl, fun g' _ _ => by omega⟩ (ltz (by omega))
  rintro R m x4 ⟨g, g1, hm, rfl, hno⟩ ih
  unfold f_X9_chase_L39_b
  by_cases hg : g = 17
  · rw [if_pos (show (16 : Int32) < nI g by rw [hg]; decide)]
    show ok (some (-1, _)) _
    rw [ok_s]
    refine ⟨?_, Fq.t⟩
    rcases hv with ⟨-, e⟩ | ⟨b, u1, u2, u3, -⟩
    · exact e
    · exact absurd (hno b u1 (by omega)) u3
  rw [if_neg (show ¬ (16 : Int32) < nI g from fun h => by have := (nI_ltI (a := 16) (by omega) (by omega)).mp h; omega), m_caughtAt ⟨a1, a2⟩ ⟨g1, by omega⟩ s2 k2, x_ob]
  by_cases hc : cau (paN a) (paN g) s k = -1
  · rw [if_pos hc, x_addL]
    refine ih (m - 1) _ (by omega) ⟨g + 1, by omega, by omega, rfl, fun g' h8 h9 => ?_⟩
    by_cases hgg : g' = g
    · rw [hgg]; exact hc
    · exact hno g' h8 (by omega)
  · rw [if_neg hc, ok_s]
    refine ⟨?_, Fq.t⟩
    rcases hv with ⟨u, -⟩ | ⟨b, u1, u2, u3, u4, e⟩
    · exact absurd hc (u g g1 (by omega))
    · rw [e]
      rcases Nat.lt_trichotomy g b with h9 | h9 | h9
      · exact absurd hc (u4 g g1 h9)
      · rw [h9]
      · exact absurd (hno b u1 h9) u3
