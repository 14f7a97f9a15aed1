/-! 7e.jjersey: jerseys alike -/
theorem jyS_step {ρ : Nat → Int32} {cl n j : Nat} : jyS ρ cl n (j + 1) = (if lsF ρ cl n (jyS ρ cl n j).1 j = -1 then (jyS ρ cl n j).1 else (jyS ρ cl n j).1 ||| 2 ^ (lsF ρ cl n (jyS ρ cl n j).1 j).toNatClampNeg, lsF ρ cl n (jyS ρ cl n j).1 j) := rfl
theorem k_wearer {d : z_D} {q b t n s cl l : Nat} {ρ : Nat → Int32} (hl : l ≤ 3) (h : St d b ρ t n s) (hq : b + 173 ≤ q) (hc : f_X3_closed d b = some (nI cl)) (h8 : cl ≤ 8) (hcl : ∀ j, j < cl → SG d (b + 5 + 21 * j) ρ (56 + 325 * j) n ∧ CL d (b + 5 + 21 * j) ρ (56 + 325 * j)) : ok (f_X5_wearer d q b (nI l)) (fun v => v.1 = (jyS ρ cl n (l + 1)).2 ∧ ∀ a, ¬ (q ≤ a ∧ a ≤ q + 4) → v.2 a = d a) := by
  have hn16 := h.1.2.1.2
  unfold f_X5_wearer
  refine zl4 (f_X5_wearer_L8_b q b (nI l) _) (fun _ => rfl) (fun m x3 x4 x5 e => ∃ j, m + j = l + 1 ∧ x5 = nI j ∧ x3 = nI (jyS ρ cl n j).1 ∧ x4 = (jyS ρ cl n j).2 ∧ ∀ a, ¬ (q ≤ a ∧ a ≤ q + 4) → e a = d a) ?_ (l + 1) z_N _ _ _ _ ⟨0, by omega, rfl, rfl, rfl, fun _ _ => rfl⟩ (ltz (by omega))
  rintro R m x3 x4 x5 e ⟨j, hm, rfl, rfl, rfl, f1⟩ ih
  unfold f_X5_wearer_L8_b
  by_cases hj : j = l + 1
  · rw [if_pos (show nI l < nI j from (nI_ltI (by omega) (by omega)).mpr (by omega))]
    show ok (some (_, e)) _
    rw [ok_s, hj]
    exact ⟨rfl, f1⟩
  rw [if_neg (show ¬ nI l < nI j from fun h9 => by have := (nI_ltI (by omega) (by omega)).mp h9; omega), ok_b]
  have Eb : ∀ a, b ≤ a → a < b + 173 → e a = d a := fun a x1 x2 => f1 a (by omega)
  refine ok_m (k_list1 (l := j) (W := (jyS ρ cl n j).1) (by omega) (jyS_lt hn16 j) (h.congr Eb) hq (by rw [St.cl_fr Eb, hc]) h8 (fun i hi => ⟨(hcl i hi).1.congr (Nat.le_refl _) (fun a x1 x2 => Eb _ (by omega) (by omega)) (fun _ _ _ => rfl), (hcl i hi).2.congr (fun a x1 x2 => Eb _ (by omega) (by omega)) (fun _ _ _ => rfl)⟩)) (fun d' hd' => ?_)
  obtain ⟨k1, k2⟩ := hd'
  rw [k2, x_ob]
  have fr : ∀ a, ¬ (q ≤ a ∧ a ≤ q + 4) → d' a = d a := fun a ha => by rw [k1 a ha, f1 a ha]
  rcases lsF_v (ρ := ρ) (cl := cl) (W := (jyS ρ cl n j).1) (l := j) hn16 with hv | ⟨r, r1, r2⟩
  · rw [if_pos hv, x_addL]
    exact ih (m - 1) _ _ _ _ (by omega) ⟨j + 1, by omega, rfl, by rw [jyS_step]; show _ = nI (if _ then _ else _); rw [if_pos hv], rfl, fr⟩
  · rw [if_neg (by rw [r2, x_nm1 r (by omega)]; exact fun h9 => h9), x_nam, x_addL]
    refine ih (m - 1) _ _ _ _ (by omega) ⟨j + 1, by omega, rfl, ?_, rfl, fr⟩
    rw [jyS_step]
    show _ = nI (if _ then _ else _)
    rw [if_neg (by rw [r2, x_nm1 r (by omega)]; exact fun h9 => h9), r2, nI_clamp (by omega), bt_m r1, bt_1 r1, bt_o]
theorem m_wearer {d dc : z_D} {o b t n s cl l : Nat} (h : St dc b (d (o + 1)) t n s) (hl : l ≤ 3) (hc : d (o + 1) 2 - d (o + 1) 3 = nI cl) (hcs : cl ≤ s) : ok (f_X9_jersey_L35 o (nI l) (fun v8 d7 => some (v8, d7)) z_N 0 (-1) 0 d) (fun w => w.1 = (jyS (d (o + 1)) cl n (l + 1)).2 ∧ (∀ a, ¬ a = o → ¬ a = o + 6 → w.2 a = d a) ∧ ∀ k, ¬ k = 8 → w.2 o k = d o k) := by
  have hn16 := h.1.2.1.2
  refine zl4 (f_X9_jersey_L35_b o (nI l) _) (fun _ => rfl) (fun m x3 x4 x5 e => ∃ j, m + j = l + 1 ∧ x5 = nI j ∧ x3 = nI (jyS (d (o + 1)) cl n j).1 ∧ x4 = (jyS (d (o + 1)) cl n j).2 ∧ (∀ a, ¬ a = o → ¬ a = o + 6 → e a = d a) ∧ ∀ k, ¬ k = 8 → e o k = d o k) ?_ (l + 1) z_N _ _ _ _ ⟨0, by omega, rfl, rfl, rfl, fun _ _ _ => rfl, fun _ _ => rfl⟩ (ltz (by omega))
  rintro R m x3 x4 x5 e ⟨j, hm, rfl, rfl, rfl, f1, f2⟩ ih
  unfold f_X9_jersey_L35_b
  by_cases hj : j = l + 1
  · rw [if_pos (show nI l < nI j from (nI_ltI (by omega) (by omega)).mpr (by omega))]
    show ok (some (_, e)) _
    rw [ok_s, hj]
    exact ⟨rfl, f1, f2⟩
  rw [if_neg (show ¬ nI l < nI j from fun h9 => by have := (nI_ltI (by omega) (by omega)).mp h9; omega), ok_bX]
  have ee : e (o + 1) = d (o + 1) := f1 _ (by omega) (by omega)
  refine ok_m (m_list1 (d := e) (o := o) (l := j) (W := (jyS (d (o + 1)) cl n j).1) (cl := cl) (by rw [ee]; exact h) (by omega) (jyS_lt hn16 j) (by rw [ee]; exact hc) hcs) (fun w hw => ?_)
  obtain ⟨k1, k2, k3⟩ := hw
  rw [ee] at k3
  rw [k3]
  have fr : ∀ a, ¬ a = o → ¬ a = o + 6 → w.2 a = d a := fun a a1 a2 => by rw [k1 a a1 a2, f1 a a1 a2]
  have fr2 : ∀ k, ¬ k = 8 → w.2 o k = d o k := fun k hk => by rw [k2 k hk, f2 k hk]
  rcases lsF_v (ρ := d (o + 1)) (cl := cl) (W := (jyS (d (o + 1)) cl n j).1) (l := j) hn16 with hv | ⟨r, r1, r2⟩
  · rw [if_pos hv, x_nam, x_addL]
    refine ih (m - 1) _ _ _ _ (by omega) ⟨j + 1, by omega, rfl, ?_, rfl, fr, fr2⟩
    rw [jyS_step]
    show _ = nI (if _ then _ else _)
    rw [if_pos hv, show (0 : Int32) = nI 0 from nI_0.symm, fa_or, Nat.or_zero]
  · rw [if_neg (by rw [r2, x_nm1 r (by omega)]; exact fun h9 => h9), x_nam, x_addL]
    refine ih (m - 1) _ _ _ _ (by omega) ⟨j + 1, by omega, rfl, ?_, rfl, fr, fr2⟩
    rw [jyS_step]
    show _ = nI (if _ then _ else _)
    rw [if_neg (by rw [r2, x_nm1 r (by omega)]; exact fun h9 => h9), r2, nI_clamp (by omega), bt_m r1, bt_1 r1, bt_o]
theorem k_entry0 {d : z_D} {q k : Nat} {p : Nat → Nat} (hk : k ≤ 16) (h4 : d q 4 = nI k) (ho : ∀ i, i < k → d (q + 1) i = nI (p i)) : f_X5_entry d q 0 = some (ffV 0 p k) := by
  unfold f_X5_entry
  rw [h4, x_w, x_ob, x_ifb0]
  by_cases h0 : k = 0
  · rw [if_neg (fun h9 => by rw [h0] at h9; exact absurd h9.2 (by decide)), ffV_n (fun j hj => by omega)]
  · rw [if_pos ((i_rng (by omega)).mpr ⟨0, by omega, nI_0.symm⟩), x_aldL 0 (show 0 < 16 by omega) (by omega), ffV_y (i := 0) (by omega) (by simp) (fun j hj => by omega)]
    show some (d (q + 1) 0) = _
    rw [ho 0 (by omega)]
theorem j_jersey {d dm : z_D} {o a t n s : Nat} (h : St d (a + 1) (dm (o + 1)) t n s) (x y : Int32) : ok (f_X8_jersey d a x y) (fun v => ok (f_X9_jersey dm o x y) (fun w => v.1 = w.1 ∧ (∀ q, ¬ (a + 348 ≤ q ∧ q ≤ a + 352) → v.2 q = d q) ∧ Fq o dm w.2)) := by
  obtain ⟨cl, cl1, cl2, cl3, cl4⟩ := h.clos
  have hs8 := h.1.2.2.1.2
  have hn16 := h.1.2.1.2
  have e1 : (z_up dm o 0 0) (o + 1) = dm (o + 1) := u_a (by omega)
  have fq : ∀ w : z_D, (∀ a, ¬ a = o → ¬ a = o + 6 → w a = (z_up dm o 0 0) a) → (∀ k, ¬ k = 8 → w o k = (z_up dm o 0 0) o k) → Fq o dm w := fun w h1 h2 => ⟨fun a a1 _ a3 _ => by rw [h1 a a1 a3, u_a a1], fun k k1 _ k3 => by rw [h2 k k3, u_k k1]⟩
  unfold f_X8_jersey f_X9_jersey
  rw [x_w, x_ob, x_ifb0, x_put, x_wi, x_ob, x_ifb0]
  by_cases hx : 0 ≤ x ∧ x ≤ 3
  rotate_left
  · rw [if_neg hx, if_neg hx, ok_s, ok_s]
    exact ⟨rfl, fun _ _ => rfl, Fq.t⟩
  rw [if_pos hx, if_pos hx]
  obtain ⟨l, -, hl, rfl⟩ := i_nat (a := 0) (b := 3) (by omega) hx (by omega)
  by_cases hy : y = 0
  · rw [if_pos hy, if_pos hy, ok_bX]
    refine ok_m (k_wearer hl h (q := a + 348) (by omega) cl2 (by omega) cl4) (fun v hv => ?_)
    rw [ok_s]
    refine ok_m (m_wearer (d := z_up dm o 0 0) h.tz hl (by rw [e1]; exact cl3) cl1) (fun w hw => ?_)
    obtain ⟨w1, w2, w3⟩ := hw
    rw [e1] at w1
    exact ⟨by rw [hv.1, w1], hv.2, fq _ w2 w3⟩
  · rw [if_neg hy, if_neg hy, ok_b]
    refine ok_m (k_rankList hl h (q := a + 348) (by omega) cl2 (by omega) cl4) (fun d1 hd1 => ?_)
    obtain ⟨k1, k2⟩ := hd1
    have hct := fb_ct_le (Pls (dm (o + 1)) cl l) n
    have hen : f_X5_entry d1 (a + 348) 0 = some (lsF (dm (o + 1)) cl n 0 l) := by
      unfold lsF lsK
      rcases k2 with ⟨h0, h4⟩ | ⟨h0, h4, h5⟩
      · rw [if_pos h0]
        exact k_entry0 (by omega) (by rw [h4, nI_0]) (fun i hi => by omega)
      · rw [if_neg (by omega)]
        exact k_entry0 (by omega) h4 h5
    rw [hen, x_ob, ok_s, ok_bX]
    refine ok_m (m_list1 (d := z_up dm o 0 0) (l := l) (W := 0) h.tz hl (by omega) (by rw [e1]; exact cl3) cl1) (fun w hw => ?_)
    obtain ⟨w1, w2, w3⟩ := hw
    rw [e1] at w3
    rw [ok_s]
    exact ⟨w3.symm, fun q hq => k1 q (by omega), fq _ w1 w2⟩
