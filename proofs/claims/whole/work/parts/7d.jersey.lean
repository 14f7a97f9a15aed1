/-! 7d.jersey: who wears what -/
theorem bt_z {S q : Nat} (hS : S < 2 ^ 16) (h : q < 16) : ((nI S >>> nI q) &&& 1 = 0) = (S.testBit q = false) := by
  have h3 : S / 2 ^ q ≤ S := Nat.div_le_self _ _
  rw [pk_shrN (by omega) (nI q) q (bt_s q h), show (1 : Int32) = nI (2 ^ 1 - 1) from rfl, pk_andN (k := 1) (by omega) (by decide), Nat.testBit_eq_decide_div_mod_eq]
  have h4 : (nI (S / 2 ^ q % 2 ^ 1) = 0) = (S / 2 ^ q % 2 ^ 1 = 0) := by
    rw [← nI_0]
    exact propext (nI_eq (by omega) (by omega))
  rw [h4]
  simp
def ffV (W : Nat) (p : Nat → Nat) (k : Nat) : Int32 := if fa_first (fun i => !W.testBit (p i)) k < k then nI (p (fa_first (fun i => !W.testBit (p i)) k)) else -1
theorem ffV_y {W : Nat} {p : Nat → Nat} {k i : Nat} (hi : i < k) (h1 : W.testBit (p i) = false) (h2 : ∀ j, j < i → W.testBit (p j) = true) : ffV W p k = nI (p i) := by
  have hf : fa_first (fun i => !W.testBit (p i)) k = i := by
    rcases Nat.lt_trichotomy (fa_first (fun i => !W.testBit (p i)) k) i with h | h | h
    · have := fa_first_yes (fun i => !W.testBit (p i)) k (by omega)
      rw [h2 _ h] at this
      exact absurd this (by decide)
    · exact h
    · have := fa_first_no (fun i => !W.testBit (p i)) k i h
      rw [h1] at this
      exact absurd this (by decide)
  unfold ffV
  rw [hf, if_pos hi]
theorem ffV_n {W : Nat} {p : Nat → Nat} {k : Nat} (h : ∀ j, j < k → W.testBit (p j) = true) : ffV W p k = -1 := by
  unfold ffV
  rw [if_neg (fun h9 => by
    have := fa_first_yes (fun i => !W.testBit (p i)) k h9
    rw [h _ h9] at this
    exact absurd this (by decide))]
theorem k_firstBut {d : z_D} {q k W : Nat} {p : Nat → Nat} (hk : k ≤ 16) (hW : W < 2 ^ 16) (h4 : d q 4 = nI k) (ho : ∀ i, i < k → d (q + 1) i = nI (p i)) (hb : ∀ i, i < k → p i < 16) : f_X5_firstBut d q (nI W) = some (ffV W p k) := by
  rw [← ok_e]
  unfold f_X5_firstBut
  refine zl1 (f_X5_firstBut_L2_b d q (nI W) _) (fun _ => rfl) (fun m x2 => ∃ i, m + i = k ∧ x2 = nI i ∧ ∀ j, j < i → W.testBit (p j) = true) ?_ k z_N _ ⟨0, by omega, rfl, fun j hj => by omega⟩ (ltz (by omega))
  rintro R m x2 ⟨i, hm, rfl, hno⟩ ih
  unfold f_X5_firstBut_L2_b
  by_cases hi : i = k
  · subst hi
    rw [h4, if_pos (Int32.le_refl _)]
    show ok (some (-1)) _
    rw [ok_s, ffV_n hno]
  have hik : i < k := by omega
  rw [h4, if_neg (nI_ge (by omega) (by omega)), x_ald _ (by omega) (by omega), ho i hik, bt_m (hb i hik)]
  by_cases ht : W.testBit (p i) = true
  · rw [if_neg (fun h9 => by
      rw [bt_z hW (hb i hik), ht] at h9
      exact absurd h9 (by decide)), x_addL]
    refine ih (m - 1) _ (by omega) ⟨i + 1, by omega, rfl, fun j hj => ?_⟩
    by_cases hji : j = i
    · rw [hji]; exact ht
    · exact hno j (by omega)
  · have hf : W.testBit (p i) = false := by
      cases e : W.testBit (p i) with
      | true => exact absurd e ht
      | false => rfl
    rw [if_pos (by rw [bt_z hW (hb i hik)]; exact hf), x_ald _ (by omega) (by omega), ho i hik, ok_s, ffV_y hik hf hno]
theorem m_firstL {d : z_D} {o k W : Nat} {p : Nat → Nat} (hk : k ≤ 16) (hW : W < 2 ^ 16) (h8 : d o 8 = nI k) (ho : ∀ i, i < k → d (o + 6) i = nI (p i)) (hb : ∀ i, i < k → p i < 16) : f_X9_firstFree_L7 d o (nI W) (fun _ => (some ((-1), d))) z_N 0 = some (ffV W p k, d) := by
  rw [← ok_e]
  refine zl1 (f_X9_firstFree_L7_b d o (nI W) _) (fun _ => rfl) (fun m x2 => ∃ i, m + i = k ∧ x2 = nI i ∧ ∀ j, j < i → W.testBit (p j) = true) ?_ k z_N _ ⟨0, by omega, rfl, fun j hj => by omega⟩ (ltz (by omega))
  rintro R m x2 ⟨i, hm, rfl, hno⟩ ih
  unfold f_X9_firstFree_L7_b
  by_cases hi : i = k
  · subst hi
    rw [h8, if_pos (Int32.le_refl _)]
    show ok (some (-1, d)) _
    rw [ok_s, ffV_n hno]
  have hik : i < k := by omega
  rw [h8, if_neg (nI_ge (by omega) (by omega)), x_ald _ (by omega) (by omega), ho i hik, bt_m (hb i hik)]
  by_cases ht : W.testBit (p i) = true
  · rw [if_neg (fun h9 => by
      rw [bt_z hW (hb i hik), ht] at h9
      exact absurd h9 (by decide)), x_addL]
    refine ih (m - 1) _ (by omega) ⟨i + 1, by omega, rfl, fun j hj => ?_⟩
    by_cases hji : j = i
    · rw [hji]; exact ht
    · exact hno j (by omega)
  · have hf : W.testBit (p i) = false := by
      cases e : W.testBit (p i) with
      | true => exact absurd e ht
      | false => rfl
    rw [if_pos (by rw [bt_z hW (hb i hik)]; exact hf), x_ald _ (by omega) (by omega), ho i hik, ok_s, ffV_y hik hf hno]
/-- how many are on a list -/
def lsK (ρ : Nat → Int32) (cl l n : Nat) : Nat := if cl = 0 then 0 else fb_ct (Pls ρ cl l) n
def lsF (ρ : Nat → Int32) (cl n W l : Nat) : Int32 := ffV W (rkO (Pls ρ cl l) (Tls ρ cl l) n) (lsK ρ cl l n)
def jyS (ρ : Nat → Int32) (cl n : Nat) : Nat → Nat × Int32
  | 0 => (0, -1)
  | j + 1 => (if lsF ρ cl n (jyS ρ cl n j).1 j = -1 then (jyS ρ cl n j).1 else (jyS ρ cl n j).1 ||| 2 ^ (lsF ρ cl n (jyS ρ cl n j).1 j).toNatClampNeg, lsF ρ cl n (jyS ρ cl n j).1 j)
theorem lsF_v {ρ : Nat → Int32} {cl n W l : Nat} (hn : n ≤ 16) : lsF ρ cl n W l = -1 ∨ ∃ r, r < 16 ∧ lsF ρ cl n W l = nI r := by
  unfold lsF ffV
  by_cases h : fa_first (fun i => !W.testBit (rkO (Pls ρ cl l) (Tls ρ cl l) n i)) (lsK ρ cl l n) < lsK ρ cl l n
  · rw [if_pos h]
    refine Or.inr ⟨_, ?_, rfl⟩
    have h2 : lsK ρ cl l n ≤ fb_ct (Pls ρ cl l) n := by
      unfold lsK
      split <;> omega
    have := rkO_lt (Pls ρ cl l) (Tls ρ cl l) n _ (Nat.lt_of_lt_of_le h h2)
    omega
  · rw [if_neg h]
    exact Or.inl rfl
theorem jyS_lt {ρ : Nat → Int32} {cl n : Nat} (hn : n ≤ 16) : ∀ j, (jyS ρ cl n j).1 < 2 ^ 16
  | 0 => by show (0 : Nat) < 2 ^ 16; omega
  | j + 1 => by
    have ih := jyS_lt (ρ := ρ) (cl := cl) hn j
    show (if _ then _ else _) < 2 ^ 16
    rcases lsF_v (ρ := ρ) (cl := cl) (W := (jyS ρ cl n j).1) (l := j) hn with h | ⟨r, r1, r2⟩
    · rw [if_pos h]; exact ih
    · rw [if_neg (by rw [r2, x_nm1 r (by omega)]; exact fun h => h), r2, nI_clamp (by omega)]
      exact bt_l ih r1
theorem k_list1 {d : z_D} {q b t n s cl l W : Nat} {ρ : Nat → Int32} (hl : l ≤ 3) (hW : W < 2 ^ 16) (h : St d b ρ t n s) (hq : b + 173 ≤ q) (hc : f_X3_closed d b = some (nI cl)) (h8 : cl ≤ 8) (hcl : ∀ j, j < cl → SG d (b + 5 + 21 * j) ρ (56 + 325 * j) n ∧ CL d (b + 5 + 21 * j) ρ (56 + 325 * j)) : ok (f_X5_rankList d q b (nI l)) (fun d' => (∀ a, ¬ (q ≤ a ∧ a ≤ q + 4) → d' a = d a) ∧ f_X5_firstBut d' q (nI W) = some (lsF ρ cl n W l)) := by
  have hn16 := h.1.2.1.2
  refine ok_m (k_rankList hl h hq hc h8 hcl) (fun d' hd' => ?_)
  obtain ⟨k1, k2⟩ := hd'
  refine ⟨k1, ?_⟩
  have hct := fb_ct_le (Pls ρ cl l) n
  unfold lsF lsK
  rcases k2 with ⟨h0, h4⟩ | ⟨h0, h4, h5⟩
  · rw [if_pos h0]
    exact k_firstBut (by omega) hW (by rw [h4, nI_0]) (fun i hi => by omega) (fun i hi => by omega)
  · rw [if_neg (by omega)]
    exact k_firstBut (by omega) hW h4 h5 (fun i hi => by have := rkO_lt (Pls ρ cl l) (Tls ρ cl l) n i hi; omega)
theorem m_list1 {d dc : z_D} {o b t n s cl l W : Nat} (h : St dc b (d (o + 1)) t n s) (hl : l ≤ 3) (hW : W < 2 ^ 16) (hc : d (o + 1) 2 - d (o + 1) 3 = nI cl) (hcs : cl ≤ s) : ok (f_X9_firstFree d o (nI l) (nI W)) (fun w => (∀ a, ¬ a = o → ¬ a = o + 6 → w.2 a = d a) ∧ (∀ k, ¬ k = 8 → w.2 o k = d o k) ∧ w.1 = lsF (d (o + 1)) cl n W l) := by
  have hn16 := h.1.2.1.2
  unfold f_X9_firstFree
  rw [ok_b]
  refine ok_m (m_ranks h hl hc hcs) (fun d' hd' => ?_)
  obtain ⟨k1, k2, k3⟩ := hd'
  have hct := fb_ct_le (Pls (d (o + 1)) cl l) n
  have : f_X9_firstFree_L7 d' o (nI W) (fun _ => (some ((-1), d'))) z_N 0 = some (lsF (d (o + 1)) cl n W l, d') := by
    unfold lsF lsK
    rcases k3 with ⟨h0, h4⟩ | ⟨h0, h4, h5⟩
    · rw [if_pos h0]
      exact m_firstL (by omega) hW (by rw [h4, nI_0]) (fun i hi => by omega) (fun i hi => by omega)
    · rw [if_neg (by omega)]
      exact m_firstL (by omega) hW h4 h5 (fun i hi => by have := rkO_lt (Pls (d (o + 1)) cl l) (Tls (d (o + 1)) cl l) n i hi; omega)
  rw [this, ok_s]
  exact ⟨k1, k2, rfl⟩
