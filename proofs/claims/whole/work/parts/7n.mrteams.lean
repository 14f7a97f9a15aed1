/-! 7n.mrteams: the model's list of teams; lists alike -/
theorem Ltm_i {S : Nat → Int32} {r x : Nat} : Ltm S r x = true ↔ ¬ S x ≤ S r := by
  unfold Ltm lx
  by_cases h : S r = S x
  · rw [if_pos h, h]
    simp
  · rw [if_neg h, decide_eq_true_iff]
theorem m_rt28 {d : z_D} {o k r : Nat} {p : Nat → Nat} {S : Nat → Int32} {K : Int32 → z_D → Option z_D} {Q : z_D → Prop} (hk : k < 16) (ho : ∀ i, i < k → d (o + 6) i = nI (p i))
    (hr : ∀ e : z_D, (∀ a, ¬ a = o + 6 → ¬ a = o + 7 → e a = d a) → ok (f_X9_teamTotal e o (nI r)) (fun w => w.1 = S r ∧ ∀ q, q ≠ o + 7 → w.2 q = e q))
    (hT : ∀ (e : z_D) i, (∀ a, ¬ a = o + 6 → ¬ a = o + 7 → e a = d a) → i < k → ok (f_X9_teamTotal e o (nI (p i))) (fun w => w.1 = S (p i) ∧ ∀ q, q ≠ o + 7 → w.2 q = e q))
    (hK : ∀ e : z_D, (∀ a, ¬ a = o + 6 → ¬ a = o + 7 → e a = d a) → (∀ i, e (o + 6) i = z_shf d (o + 6) (posI (Ltm S r) p k) k p (o + 6) i) → ok (K (nI (posI (Ltm S r) p k)) e) Q) :
    ok (f_X9_ranksTeams_L28 o (nI r) K z_N (nI k) d) Q := by
  refine zl2 (f_X9_ranksTeams_L28_b o (nI r) K) (fun _ => rfl) (fun m x2 e => m ≤ k ∧ x2 = nI m ∧ posI (Ltm S r) p m = posI (Ltm S r) p k ∧ (∀ a, ¬ a = o + 6 → ¬ a = o + 7 → e a = d a) ∧ ∀ i, e (o + 6) i = z_shf d (o + 6) m k p (o + 6) i) ?_ k z_N _ _ ⟨Nat.le_refl k, rfl, rfl, fun _ _ _ => rfl, fun i => by rw [z_shf_0]⟩ (ltz (by omega))
  rintro R m x2 e ⟨hm, rfl, hp, hE, h6⟩ ih
  unfold f_X9_ranksTeams_L28_b
  cases m with
  | zero =>
    rw [if_pos (show nI 0 ≤ 0 by decide)]
    have := hK e hE
    rw [← hp] at this
    exact this h6
  | succ j =>
    rw [if_neg (nI_nle (by omega) (by omega)), ok_bX]
    refine ok_m (hr e hE) (fun w hw => ?_)
    obtain ⟨w1, w2⟩ := hw
    have hE1 : ∀ a, ¬ a = o + 6 → ¬ a = o + 7 → w.2 a = d a := fun a a1 a2 => by rw [w2 a a2, hE a a1 a2]
    have e6 : w.2 (o + 6) j = nI (p j) := by
      rw [w2 _ (by omega), h6]
      unfold z_shf
      rw [if_neg (by omega), ho j (by omega)]
    rw [nI_pred, x_ald _ (by omega) (by omega), e6, ok_bX]
    refine ok_m (hT w.2 j hE1 (by omega)) (fun v hv => ?_)
    obtain ⟨v1, v2⟩ := hv
    have hE2 : ∀ a, ¬ a = o + 6 → ¬ a = o + 7 → v.2 a = d a := fun a a1 a2 => by rw [v2 a a2, hE1 a a1 a2]
    have e62 : v.2 (o + 6) j = nI (p j) := by rw [v2 _ (by omega), e6]
    have e63 : ∀ i, v.2 (o + 6) i = z_shf d (o + 6) (j + 1) k p (o + 6) i := fun i => by rw [v2 _ (by omega), w2 _ (by omega), h6]
    rw [w1, v1]
    by_cases hl : Ltm S r (p j) = true
    · rw [if_neg (Ltm_i.mp hl), x_ald _ (by omega) (by omega), e62, x_ast _ (by omega) (by omega), pk_m1]
      refine ih j _ _ (by omega) ⟨by omega, rfl, ?_, fun a a1 a2 => by rw [u_a a1, hE2 a a1 a2], fun i => ?_⟩
      · rw [← hp]
        conv => rhs; unfold posI
        rw [if_pos hl]
      · rw [← z_shf_s (show j < k by omega)]
        unfold z_up
        by_cases hi : o + 6 = o + 6 ∧ i = j + 1
        · rw [if_pos hi, if_pos hi]
        · rw [if_neg hi, if_neg hi, e63]
    · have hle : S (p j) ≤ S r := Decidable.not_not.mp (fun h9 => hl (Ltm_i.mpr h9))
      rw [if_pos hle]
      have hpj : posI (Ltm S r) p k = j + 1 := by
        rw [← hp]
        unfold posI
        rw [if_neg hl]
      have := hK v.2 hE2
      rw [hpj] at this
      exact this e63
theorem m_ranksTeams {d : z_D} {o t : Nat} {P : Nat → Bool} {S : Nat → Int32} (ht : t ≤ 6) (e0 : d (o + 1) 0 = nI t) (h8 : d o 8 = 0) (hP : ∀ (e : z_D) k, (∀ a, ¬ a = o → ¬ a = o + 6 → ¬ a = o + 7 → e a = d a) → k < t → f_X9_isTeamOn e o (nI k) = some (b01 (P k = true))) (hT : ∀ (e : z_D) k, (∀ a, ¬ a = o → ¬ a = o + 6 → ¬ a = o + 7 → e a = d a) → k < t → ok (f_X9_teamTotal e o (nI k)) (fun w => w.1 = S k ∧ ∀ q, q ≠ o + 7 → w.2 q = e q)) :
    ok (f_X9_ranksTeams d o) (fun d' => (∀ a, ¬ a = o → ¬ a = o + 6 → ¬ a = o + 7 → d' a = d a) ∧ (∀ k, ¬ k = 8 → d' o k = d o k) ∧ d' o 8 = nI (fb_ct P t) ∧ ∀ i, i < fb_ct P t → d' (o + 6) i = nI (rkO P (Ltm S) t i)) := by
  unfold f_X9_ranksTeams
  refine zl2 (f_X9_ranksTeams_L2_b o _) (fun _ => rfl) (fun m x1 e => ∃ i, m + i = t ∧ x1 = nI i ∧ (∀ a, ¬ a = o → ¬ a = o + 6 → ¬ a = o + 7 → e a = d a) ∧ (∀ k, ¬ k = 8 → e o k = d o k) ∧ e o 8 = nI (fb_ct P i) ∧ ∀ j, j < fb_ct P i → e (o + 6) j = nI (rkO P (Ltm S) i j)) ?_ t z_N _ _ ⟨0, by omega, rfl, fun _ _ _ _ => rfl, fun _ _ => rfl, by rw [h8]; exact nI_0.symm, fun j hj => absurd hj (Nat.not_lt_zero j)⟩ (ltz (by omega))
  rintro R m x1 e ⟨i, hm, rfl, g1, g2, g3, g4⟩ ih
  unfold f_X9_ranksTeams_L2_b
  have e1 : e (o + 1) 0 = nI t := by rw [g1 _ (by omega) (by omega) (by omega), e0]
  rw [x_aldL 0 (show 0 < 2656 by omega) (by omega)]
  show ok (if e (o + 1) 0 ≤ nI i then _ else _) _
  rw [e1]
  by_cases hi : i = t
  · subst hi
    rw [if_pos ((nI_leI (by omega) (by omega)).mpr (Nat.le_refl _)), ok_s]
    exact ⟨g1, g2, g3, g4⟩
  have hin : i < t := by omega
  have hon := hP e i g1 hin
  have hct := fb_ct_le P i
  by_cases hPi : P i = true
  · rw [b01_t hPi] at hon
    rw [if_neg (nI_ge (by omega) (by omega)), hon, x_ob, x_if10, x_nam, g3]
    have hb : ∀ j, j < fb_ct P i → rkO P (Ltm S) i j < i ∧ P (rkO P (Ltm S) i j) = true := fun j hj => rkO_lt P (Ltm S) i j hj
    have hfr : ∀ e2 : z_D, (∀ a, ¬ a = o + 6 → ¬ a = o + 7 → e2 a = e a) → ∀ a, ¬ a = o → ¬ a = o + 6 → ¬ a = o + 7 → e2 a = d a := fun e2 h2 a a1 a2 a3 => by rw [h2 a a2 a3, g1 a a1 a2 a3]
    refine m_rt28 (p := rkO P (Ltm S) i) (S := S) (by omega) g4 (fun e2 h2 => hT e2 i (hfr e2 h2) hin) (fun e2 j h2 hj => hT e2 _ (hfr e2 h2) (by have := hb j hj; omega)) (fun e2 h2 h6 => ?_)
    have hpos := posI_le (Ltm S i) (rkO P (Ltm S) i) (fb_ct P i)
    rw [x_ast _ (by omega) (by omega), x_put, x_addL]
    have eq8 : z_up e2 (o + 6) (posI (Ltm S i) (rkO P (Ltm S) i) (fb_ct P i)) (nI i) o 8 = nI (fb_ct P i) := by
      rw [x_un (by omega), h2 _ (by omega) (by omega), g3]
    refine ih (m - 1) _ _ (by omega) ⟨i + 1, by omega, rfl, fun a a1 a2 a3 => ?_, fun k hk => ?_, ?_, fun j hj => ?_⟩
    · rw [u_a a1, u_a a2, h2 a a2 a3, g1 a a1 a2 a3]
    · rw [u_k hk, u_a (by omega), h2 _ (by omega) (by omega), g2 k hk]
    · rw [u_s, eq8, nI_1, rkK_y hPi]
    · rw [rkK_y hPi] at hj
      rw [u_a (by omega), rkO_y hPi, ← ins_row (lt := Ltm S i) (r := i) g4 j hj]
      unfold z_up
      by_cases hx : o + 6 = o + 6 ∧ j = posI (Ltm S i) (rkO P (Ltm S) i) (fb_ct P i)
      · rw [if_pos hx, if_pos hx]
      · rw [if_neg hx, if_neg hx, h6]
  · rw [b01_f hPi] at hon
    rw [if_neg (nI_ge (by omega) (by omega)), hon, x_ob, x_if00, x_addL]
    exact ih (m - 1) _ _ (by omega) ⟨i + 1, by omega, rfl, g1, g2, by rw [rkK_n hPi]; exact g3, by rw [rkK_n hPi, rkO_n hPi]; exact g4⟩
/-- what is asked of a list -/
def enV (p : Nat → Nat) (k : Nat) (y : Int32) : Int32 := if 0 ≤ y ∧ y ≤ nI k - 1 then nI (p y.toNatClampNeg) else -1
theorem k_entry {d : z_D} {q k : Nat} {p : Nat → Nat} {y : Int32} (hk : k ≤ 16) (h4 : d q 4 = nI k) (ho : ∀ i, i < k → d (q + 1) i = nI (p i)) : f_X5_entry d q y = some (enV p k y) := by
  unfold f_X5_entry enV
  rw [h4, x_w, x_ob, x_ifb0]
  by_cases h : 0 ≤ y ∧ y ≤ nI k - 1
  · rw [if_pos h, if_pos h]
    obtain ⟨i, hi, rfl⟩ := (i_rng (by omega)).mp h
    rw [x_ald _ (by omega) (by omega), ho i hi, nI_clamp (by omega)]
  · rw [if_neg h, if_neg h]
theorem m_entry {d : z_D} {o k : Nat} {p : Nat → Nat} {y : Int32} (hk : k ≤ 16) (h4 : d o 8 = nI k) (ho : ∀ i, i < k → d (o + 6) i = nI (p i)) : ((f_X9_isIn y 0 ((d o 8) - 1)).bind fun v4 => (if v4 = 0 then (some ((-1), d)) else z_ald d (o + 6) 16 y (fun v5 => (some (v5, d))))) = some (enV p k y, d) := by
  unfold enV
  rw [h4, x_wi, x_ob, x_ifb0]
  by_cases h : 0 ≤ y ∧ y ≤ nI k - 1
  · rw [if_pos h, if_pos h]
    obtain ⟨i, hi, rfl⟩ := (i_rng (by omega)).mp h
    rw [x_ald _ (by omega) (by omega), ho i hi, nI_clamp (by omega)]
  · rw [if_neg h, if_neg h]
theorem k_list4 {d : z_D} {q b t n s cl : Nat} {ρ : Nat → Int32} {g : Nat → Nat → Nat} (h : St d b ρ t n s) (hq : b + 173 ≤ q) (hc : f_X3_closed d b = some (nI cl)) (h8 : cl ≤ 8) (hcl : ∀ j, j < cl → SG d (b + 5 + 21 * j) ρ (56 + 325 * j) n ∧ CL d (b + 5 + 21 * j) ρ (56 + 325 * j)) (hg : ∀ j r, j < cl → r < 16 → g j r ≤ 99999 ∧ ρ (56 + 325 * j + 133 + 12 * r) = nI (g j r)) :
    ok (f_X5_rankList d q b 4) (fun d' => (∀ a, ¬ (q ≤ a ∧ a ≤ q + 4) → d' a = d a) ∧ ((cl = 0 ∧ d' q 4 = 0) ∨ (0 < cl ∧ d' q 4 = nI (fb_ct (fun k => decide (3 ≤ fb_ct (tmP ρ k) n)) t) ∧ ∀ i, i < fb_ct (fun k => decide (3 ≤ fb_ct (tmP ρ k) n)) t → d' (q + 1) i = nI (rkO (fun k => decide (3 ≤ fb_ct (tmP ρ k) n)) (Ltm (fun k => smT (tsv ρ g k n) cl)) t i)))) := by
  unfold f_X5_rankList
  rw [x_put]
  have ht := h.1.1.2
  have Eb : ∀ a, b ≤ a → a < b + 173 → z_up d q 4 0 a = d a := fun a x1 x2 => u_a (by omega)
  have hc1 : f_X3_closed (z_up d q 4 0) b = some (nI cl) := by rw [St.cl_fr Eb, hc]
  rw [hc1, x_ob]
  by_cases h0 : cl = 0
  · rw [if_pos (show nI cl = 0 by rw [h0, nI_0]), ok_s]
    exact ⟨fun a ha => u_a (by omega), Or.inl ⟨h0, u_s _ _ _ _⟩⟩
  rw [if_neg (nI_ne0 (by omega) (by omega)), if_neg (by decide), if_neg (by decide), if_neg (by decide), if_neg (by decide), if_pos rfl, ok_b]
  refine ok_m (k_rankTeams (d := z_up d q 4 0) (q := q) (b := b) (t := t) (P := fun k => decide (3 ≤ fb_ct (tmP ρ k) n)) (S := fun k => smT (tsv ρ g k n) cl) ht (Or.inl hq) (by rw [Eb _ (by omega) (by omega), h.2.1.1, h.1.1.1]) (u_s _ _ _ _) (fun e k he hk => ?_) (fun e k he hk => ?_)) (fun d' hd' => ?_)
  · have E2 : ∀ a, b ≤ a → a < b + 173 → e a = d a := fun a x1 x2 => by rw [he a x1 x2, Eb a x1 x2]
    rw [k_isRankedC (h.congr E2) (by rw [St.cl_fr E2, hc]) (by omega) h8 hk]
    simp only [decide_eq_true_eq]
  · have E2 : ∀ a, b ≤ a → a < b + 173 → e a = d a := fun a x1 x2 => by rw [he a x1 x2, Eb a x1 x2]
    exact k_tsum (k := k) (h.congr E2) (by rw [St.cl_fr E2, hc]) h8 (fun i hi => ⟨(hcl i hi).1.congr (Nat.le_refl _) (fun a x1 x2 => E2 _ (by omega) (by omega)) (fun _ _ _ => rfl), (hcl i hi).2.congr (fun a x1 x2 => E2 _ (by omega) (by omega)) (fun _ _ _ => rfl)⟩) hg
  · obtain ⟨k1, k2, k3⟩ := hd'
    rw [ok_s]
    exact ⟨fun a ha => by rw [k1 a (by omega), u_a (by omega)], Or.inr ⟨by omega, k2, k3⟩⟩
theorem m_list4 {d dc : z_D} {o b t n s cl : Nat} {g : Nat → Nat → Nat} (h : St dc b (d (o + 1)) t n s) (hc : d (o + 1) 2 - d (o + 1) 3 = nI cl) (hcs : cl ≤ s) (hg : ∀ j r, j < cl → r < 16 → g j r ≤ 99999 ∧ d (o + 1) (56 + 325 * j + 133 + 12 * r) = nI (g j r)) :
    ok (f_X9_ranks d o 4) (fun d' => (∀ a, ¬ a = o → ¬ a = o + 6 → ¬ a = o + 7 → d' a = d a) ∧ (∀ k, ¬ k = 8 → d' o k = d o k) ∧ ((cl = 0 ∧ d' o 8 = 0) ∨ (0 < cl ∧ d' o 8 = nI (fb_ct (fun k => decide (3 ≤ fb_ct (tmP (d (o + 1)) k) n)) t) ∧ ∀ i, i < fb_ct (fun k => decide (3 ≤ fb_ct (tmP (d (o + 1)) k) n)) t → d' (o + 6) i = nI (rkO (fun k => decide (3 ≤ fb_ct (tmP (d (o + 1)) k) n)) (Ltm (fun k => smT (tsv (d (o + 1)) g k n) cl)) t i)))) := by
  have hs8 := h.1.2.2.1.2
  have ht := h.1.1.2
  unfold f_X9_ranks
  have e1 : (z_up d o 8 0) (o + 1) = d (o + 1) := u_a (by omega)
  rw [x_put, q_closedMany, e1, hc, x_ob]
  by_cases h0 : cl = 0
  · rw [if_pos (show nI cl = 0 by rw [h0, nI_0]), ok_s]
    exact ⟨fun a a1 _ _ => u_a a1, fun k hk => u_k hk, Or.inl ⟨h0, u_s _ _ _ _⟩⟩
  rw [if_neg (nI_ne0 (by omega) (by omega)), if_pos rfl, ok_b]
  refine ok_m (m_ranksTeams (d := z_up d o 8 0) (o := o) (t := t) (P := fun k => decide (3 ≤ fb_ct (tmP (d (o + 1)) k) n)) (S := fun k => smT (tsv (d (o + 1)) g k n) cl) ht (by rw [e1, h.1.1.1]) (u_s _ _ _ _) (fun e k he hk => ?_) (fun e k he hk => ?_)) (fun d' hd' => ?_)
  · have ee : e (o + 1) = d (o + 1) := by rw [he _ (by omega) (by omega) (by omega), e1]
    have := m_isTeamOn (d := e) (o := o) (k := k) (b := b) (s := s) (n := n) (t := t) (dc := dc) (by rw [ee]; exact h) hk
    rw [ee] at this
    rw [this]
    simp only [decide_eq_true_eq]
  · have ee : e (o + 1) = d (o + 1) := by rw [he _ (by omega) (by omega) (by omega), e1]
    have := m_tsum (d := e) (o := o) (k := k) (g := g) (b := b) (s := s) (n := n) (t := t) (dc := dc) (cl := cl) (by rw [ee]; exact h) (by rw [ee]; exact hc) hcs (by rw [ee]; exact hg)
    rw [ee] at this
    exact this
  · obtain ⟨q1, q2, q3, q4⟩ := hd'
    rw [ok_s]
    exact ⟨fun a a1 a2 a3 => by rw [q1 a a1 a2 a3, u_a a1], fun k hk => by rw [q2 k hk, u_k hk], Or.inr ⟨by omega, q3, q4⟩⟩
theorem k_list5 {d : z_D} {q b : Nat} {x cl : Int32} (hq : b + 173 ≤ q) (hc : f_X3_closed d b = some cl) (hx : ¬ (0 ≤ x ∧ x ≤ 4)) : ok (f_X5_rankList d q b x) (fun d' => (∀ a, ¬ (q ≤ a ∧ a ≤ q + 4) → d' a = d a) ∧ d' q 4 = 0) := by
  unfold f_X5_rankList
  rw [x_put]
  have hc1 : f_X3_closed (z_up d q 4 0) b = some cl := by rw [St.cl_fr (d := d) (fun a x1 x2 => u_a (by omega)), hc]
  rw [hc1, x_ob]
  have fr : (∀ a, ¬ (q ≤ a ∧ a ≤ q + 4) → (z_up d q 4 0) a = d a) ∧ (z_up d q 4 0) q 4 = 0 := ⟨fun a ha => u_a (by omega), u_s _ _ _ _⟩
  have ne : ∀ v : Int32, (0 ≤ v ∧ v ≤ 4) → ¬ x = v := fun v hv h9 => by
    subst h9
    exact hx hv
  by_cases h0 : cl = 0
  · rw [if_pos h0, ok_s]
    exact fr
  rw [if_neg h0, if_neg (ne 0 (by decide)), if_neg (ne 1 (by decide)), if_neg (ne 2 (by decide)), if_neg (ne 3 (by decide)), if_neg (ne 4 (by decide)), ok_s]
  exact fr
theorem j_list {d dm : z_D} {o a t n s : Nat} (h : St d (a + 1) (dm (o + 1)) t n s) (x y : Int32) : ok (f_X8_list d a x y) (fun v => ok (f_X9_list dm o x y) (fun w => v.1 = w.1 ∧ (∀ q, ¬ (a + 348 ≤ q ∧ q ≤ a + 352) → v.2 q = d q) ∧ Fq o dm w.2)) := by
  obtain ⟨cl, cl1, cl2, cl3, cl4⟩ := h.clos
  have hs8 := h.1.2.2.1.2
  have hn16 := h.1.2.1.2
  have ht := h.1.1.2
  have e1 : (z_up dm o 0 0) (o + 1) = dm (o + 1) := u_a (by omega)
  unfold f_X8_list f_X9_list
  rw [x_put, x_wi, x_ob, x_ifb0]
  by_cases hx : 0 ≤ x ∧ x ≤ 4
  rotate_left
  · rw [if_neg hx, ok_b]
    refine ok_m (k_list5 (q := a + 348) (by omega) cl2 hx) (fun d1 hd1 => ?_)
    obtain ⟨k1, k2⟩ := hd1
    rw [k_entry (k := 0) (p := fun _ => 0) (by omega) (by rw [k2, nI_0]) (fun i hi => by omega), x_ob, ok_s, ok_s]
    refine ⟨?_, fun q hq => k1 q (by omega), Fq.t⟩
    show enV (fun _ => 0) 0 y = -1
    unfold enV
    rw [if_neg (fun h9 => absurd (Int32.le_trans h9.1 h9.2) (by decide))]
  rw [if_pos hx]
  obtain ⟨l, -, hl, rfl⟩ := i_nat (a := 0) (b := 4) (by omega) hx (by omega)
  by_cases hl4 : l = 4
  · subst hl4
    obtain ⟨g, hg⟩ := St.tms (t := t) (s := s) cl4
    rw [ok_b]
    refine ok_m (k_list4 (g := g) h (q := a + 348) (by omega) cl2 (by omega) cl4 hg) (fun d1 hd1 => ?_)
    rw [ok_b]
    obtain ⟨k1, k2⟩ := hd1
    have hm := m_list4 (d := z_up dm o 0 0) (g := g) h.tz (by rw [e1]; exact cl3) cl1 (by rw [e1]; exact hg)
    rw [e1] at hm
    have hct := fb_ct_le (fun k => decide (3 ≤ fb_ct (tmP (dm (o + 1)) k) n)) t
    have fin : ∀ (w : z_D) (p : Nat → Nat) (k : Nat), k ≤ 16 → d1 (a + 348) 4 = nI k → (∀ i, i < k → d1 (a + 348 + 1) i = nI (p i)) → w o 8 = nI k → (∀ i, i < k → w (o + 6) i = nI (p i)) → (∀ a, ¬ a = o → ¬ a = o + 6 → ¬ a = o + 7 → w a = (z_up dm o 0 0) a) → (∀ k, ¬ k = 8 → w o k = (z_up dm o 0 0) o k) → ok ((f_X5_entry d1 (a + 348) y)) (fun x => ok (some (x, d1)) (fun v => ok ((f_X9_isIn y 0 ((w o 8) - 1)).bind fun v4 => (if v4 = 0 then (some ((-1), w)) else z_ald w (o + 6) 16 y (fun v5 => (some (v5, w))))) (fun w => v.1 = w.1 ∧ (∀ q, ¬ (a + 348 ≤ q ∧ q ≤ a + 352) → v.2 q = d q) ∧ Fq o dm w.2))) := fun w p k hk a1 a2 a3 a4 a5 a6 => by
      rw [k_entry hk a1 a2, m_entry hk a3 a4, ok_s, ok_s, ok_s]
      exact ⟨rfl, fun q hq => k1 q (by omega), fun a b1 _ b3 b4 => (a5 a b1 b3 b4).trans (u_a b1), fun k b1 _ b3 => (a6 k b3).trans (u_k b1)⟩
    obtain ⟨w, w0, w1, w2, w3⟩ := hm
    show ok (f_X5_entry d1 (a + 348) y) (fun x => ok (some (x, d1)) (fun v => ok ((f_X9_ranks (z_up dm o 0 0) o 4).bind _) _))
    rw [w0, x_ob]
    rcases k2 with ⟨h0, h4⟩ | ⟨h0, h4, h5⟩
    · rcases w3 with ⟨-, h4'⟩ | ⟨h0', -⟩
      · exact fin w (fun _ => 0) 0 (by omega) (by rw [h4, nI_0]) (fun i hi => by omega) (by rw [h4', nI_0]) (fun i hi => by omega) w1 w2
      · omega
    · rcases w3 with ⟨h0', -⟩ | ⟨-, h4', h5'⟩
      · omega
      · exact fin w _ _ (by omega) h4 h5 h4' h5' w1 w2
  · have hl3 : l ≤ 3 := by omega
    rw [ok_b]
    refine ok_m (k_rankList hl3 h (q := a + 348) (by omega) cl2 (by omega) cl4) (fun d1 hd1 => ?_)
    rw [ok_b]
    obtain ⟨k1, k2⟩ := hd1
    have hm := m_ranks (d := z_up dm o 0 0) h.tz hl3 (by rw [e1]; exact cl3) cl1
    rw [e1] at hm
    have hct := fb_ct_le (Pls (dm (o + 1)) cl l) n
    have fin : ∀ (w : z_D) (p : Nat → Nat) (k : Nat), k ≤ 16 → d1 (a + 348) 4 = nI k → (∀ i, i < k → d1 (a + 348 + 1) i = nI (p i)) → w o 8 = nI k → (∀ i, i < k → w (o + 6) i = nI (p i)) → (∀ a, ¬ a = o → ¬ a = o + 6 → w a = (z_up dm o 0 0) a) → (∀ k, ¬ k = 8 → w o k = (z_up dm o 0 0) o k) → ok ((f_X5_entry d1 (a + 348) y)) (fun x => ok (some (x, d1)) (fun v => ok ((f_X9_isIn y 0 ((w o 8) - 1)).bind fun v4 => (if v4 = 0 then (some ((-1), w)) else z_ald w (o + 6) 16 y (fun v5 => (some (v5, w))))) (fun w => v.1 = w.1 ∧ (∀ q, ¬ (a + 348 ≤ q ∧ q ≤ a + 352) → v.2 q = d q) ∧ Fq o dm w.2))) := fun w p k hk a1 a2 a3 a4 a5 a6 => by
      rw [k_entry hk a1 a2, m_entry hk a3 a4, ok_s, ok_s, ok_s]
      exact ⟨rfl, fun q hq => k1 q (by omega), fun a b1 _ b3 _ => (a5 a b1 b3).trans (u_a b1), fun k b1 _ b3 => (a6 k b3).trans (u_k b1)⟩
    obtain ⟨w, w0, w1, w2, w3⟩ := hm
    rw [w0, x_ob]
    rcases k2 with ⟨h0, h4⟩ | ⟨h0, h4, h5⟩
    · rcases w3 with ⟨-, h4'⟩ | ⟨h0', -⟩
      · exact fin w (fun _ => 0) 0 (by omega) (by rw [h4, nI_0]) (fun i hi => by omega) (by rw [h4', nI_0]) (fun i hi => by omega) w1 w2
      · omega
    · rcases w3 with ⟨h0', -⟩ | ⟨-, h4', h5'⟩
      · omega
      · exact fin w _ _ (by omega) h4 h5 h4' h5' w1 w2
