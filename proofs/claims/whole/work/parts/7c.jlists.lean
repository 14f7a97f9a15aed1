/-! 7c.jlists: both lay the same list of riders -/
theorem m_ranks {d dc : z_D} {o b t n s cl l : Nat} (h : St dc b (d (o + 1)) t n s) (hl : l ≤ 3) (hc : d (o + 1) 2 - d (o + 1) 3 = nI cl) (hcs : cl ≤ s) : ok (f_X9_ranks d o (nI l)) (fun d' => (∀ a, ¬ a = o → ¬ a = o + 6 → d' a = d a) ∧ (∀ k, ¬ k = 8 → d' o k = d o k) ∧ ((cl = 0 ∧ d' o 8 = 0) ∨ (0 < cl ∧ d' o 8 = nI (fb_ct (Pls (d (o + 1)) cl l) n) ∧ ∀ i, i < fb_ct (Pls (d (o + 1)) cl l) n → d' (o + 6) i = nI (rkO (Pls (d (o + 1)) cl l) (Tls (d (o + 1)) cl l) n i)))) := by
  have hs8 := h.1.2.2.1.2
  have hn16 := h.1.2.1.2
  unfold f_X9_ranks
  have e1 : (z_up d o 8 0) (o + 1) = d (o + 1) := u_a (by omega)
  rw [x_put, q_closedMany, e1, hc, x_ob]
  by_cases h0 : cl = 0
  · rw [if_pos (show nI cl = 0 by rw [h0, nI_0]), ok_s]
    exact ⟨fun a a1 _ => u_a a1, fun k hk => u_k hk, Or.inl ⟨h0, u_s _ _ _ _⟩⟩
  rw [if_neg (nI_ne0 (by omega) (by omega)), if_neg (show ¬ nI l = 4 from fun h9 => by have := (nI_eq (b := 4) (by omega) (by omega)).mp h9; omega)]
  refine ok_m (q_ranks25 (d := z_up d o 8 0) (o := o) (n := n) (x1 := nI l) (P := Pls (d (o + 1)) cl l) (lt := Tls (d (o + 1)) cl l) hn16 (by rw [e1, h.1.2.1.1]) (u_s _ _ _ _) (fun r e hr he => ?_) (fun r x e hr hx _ _ he => ?_)) (fun d' hd' => ?_)
  · have ee : e (o + 1) = d (o + 1) := by rw [he _ (by omega) (by omega), e1]
    have := m_isOn (d := e) (o := o) (l := l) (r := r) (cl := cl) (by rw [ee]; exact h) hl hr (by rw [ee]; exact hc) (by omega)
    rw [ee] at this
    exact this
  · have ee : e (o + 1) = d (o + 1) := by rw [he _ (by omega) (by omega), e1]
    have := m_isBefore (d := e) (o := o) (l := l) (r := r) (x := x) (cl := cl) (by rw [ee]; exact h) hl (by omega) (by omega) (by rw [ee]; exact hc) hcs
    rw [ee] at this
    exact this
  · obtain ⟨q1, q2, q3, q4⟩ := hd'
    exact ⟨fun a a1 a2 => by rw [q1 a a1 a2, u_a a1], fun k hk => by rw [q2 k hk, u_k hk], Or.inr ⟨by omega, q3, q4⟩⟩
set_option maxHeartbeats 4000000 in
theorem k_rankList {d : z_D} {q b t n s cl l : Nat} {ρ : Nat → Int32} (hl : l ≤ 3) (h : St d b ρ t n s) (hq : b + 173 ≤ q) (hc : f_X3_closed d b = some (nI cl)) (h8 : cl ≤ 8) (hcl : ∀ j, j < cl → SG d (b + 5 + 21 * j) ρ (56 + 325 * j) n ∧ CL d (b + 5 + 21 * j) ρ (56 + 325 * j)) :
    ok (f_X5_rankList d q b (nI l)) (fun d' => (∀ a, ¬ (q ≤ a ∧ a ≤ q + 4) → d' a = d a) ∧ ((cl = 0 ∧ d' q 4 = 0) ∨ (0 < cl ∧ d' q 4 = nI (fb_ct (Pls ρ cl l) n) ∧ ∀ i, i < fb_ct (Pls ρ cl l) n → d' (q + 1) i = nI (rkO (Pls ρ cl l) (Tls ρ cl l) n i)))) := by
  unfold f_X5_rankList
  rw [x_put]
  have hn16 := h.1.2.1.2
  have Eb : ∀ a, b ≤ a → a < b + 173 → z_up d q 4 0 a = d a := fun a x1 x2 => u_a (by omega)
  have hc1 : f_X3_closed (z_up d q 4 0) b = some (nI cl) := by rw [St.cl_fr Eb, hc]
  have h1 : St (z_up d q 4 0) b ρ t n s := h.congr Eb
  have hcl1 : ∀ j, j < cl → SG (z_up d q 4 0) (b + 5 + 21 * j) ρ (56 + 325 * j) n ∧ CL (z_up d q 4 0) (b + 5 + 21 * j) ρ (56 + 325 * j) := fun j hj => ⟨(hcl j hj).1.congr (Nat.le_refl _) (fun a x1 x2 => Eb _ (by omega) (by omega)) (fun _ _ _ => rfl), (hcl j hj).2.congr (fun a x1 x2 => Eb _ (by omega) (by omega)) (fun _ _ _ => rfl)⟩
  rw [hc1, x_ob]
  by_cases h0 : cl = 0
  · rw [if_pos (show nI cl = 0 by rw [h0, nI_0]), ok_s]
    exact ⟨fun a ha => u_a (by omega), Or.inl ⟨h0, u_s _ _ _ _⟩⟩
  rw [if_neg (nI_ne0 (by omega) (by omega))]
  have gen : ∀ old, (∀ r, r < n → Pls ρ cl l r = Pon ρ old r) → (Tls ρ cl l = T2 (fun r => smB (ntv ρ r) (-1) cl) (fun r => smB (plv ρ r) (-1) cl)) → ok ((f_X5_rankRiders (z_up d q 4 0) q b (-1) (nI old)).bind fun d3 => some d3) (fun d' => (∀ a, ¬ (q ≤ a ∧ a ≤ q + 4) → d' a = d a) ∧ ((cl = 0 ∧ d' q 4 = 0) ∨ (0 < cl ∧ d' q 4 = nI (fb_ct (Pls ρ cl l) n) ∧ ∀ i, i < fb_ct (Pls ρ cl l) n → d' (q + 1) i = nI (rkO (Pls ρ cl l) (Tls ρ cl l) n i)))) := by
    intro old hP hT
    rw [ok_b]
    refine ok_m (k_rankRiders (old := old) (but := -1) h1 (Or.inl hq) hc1 h8 hcl1) (fun d1 hd1 => ?_)
    obtain ⟨k1, k2, k3, -⟩ := hd1
    rw [Lon_rk] at k3
    have hco := rkO_cong (P := Pls ρ cl l) (P' := Pon ρ old) (lt := Tls ρ cl l) (lt' := Tls ρ cl l) n hP (fun _ _ _ _ _ _ => rfl)
    rw [ok_s, hco.1, hco.2, hT]
    exact ⟨fun a ha => by rw [k1 a (by omega), u_a (by omega)], Or.inr ⟨by omega, k2, k3⟩⟩
  have wor : ∀ w, (3 ≤ w ∧ w ≤ 6) → (∀ r, r < n → Pls ρ cl l r = (Pon ρ 50 r && decide (1 ≤ gtv ρ (gwt w) r cl))) → (Tls ρ cl l = T3 (fun r => gtv ρ (gwt w) r cl) (T2 (fun r => smB (ntv ρ r) (-1) cl) (fun r => smB (plv ρ r) (-1) cl))) → ok ((f_X5_rankWorthy (z_up d q 4 0) q b (nI w)).bind fun d3 => some d3) (fun d' => (∀ a, ¬ (q ≤ a ∧ a ≤ q + 4) → d' a = d a) ∧ ((cl = 0 ∧ d' q 4 = 0) ∨ (0 < cl ∧ d' q 4 = nI (fb_ct (Pls ρ cl l) n) ∧ ∀ i, i < fb_ct (Pls ρ cl l) n → d' (q + 1) i = nI (rkO (Pls ρ cl l) (Tls ρ cl l) n i)))) := by
    intro w hw hP hT
    rw [ok_b]
    refine ok_m (k_rankWorthy (w := w) hw h1 (Or.inl hq) hc1 h8 hcl1) (fun d1 hd1 => ?_)
    obtain ⟨k1, k, o, k2, k3, k4, k5, k6⟩ := hd1
    rw [ok_s]
    rw [← hT] at k5
    have hST := Tls_sto ρ cl l
    obtain ⟨u1, u2⟩ := srt_one hST k5 (rkO_srt (P := Pls ρ cl l) hST n) (fun i hi => by
      obtain ⟨x1, x2, x3⟩ := (k6 (o i)).mp ⟨i, hi, rfl⟩
      exact rkO_onto n (o i) x1 (by rw [hP _ x1, x2, Bool.true_and]; exact decide_eq_true x3)) (fun j hj => by
      obtain ⟨x1, x2⟩ := rkO_lt (Pls ρ cl l) (Tls ρ cl l) n j hj
      rw [hP _ x1, Bool.and_eq_true] at x2
      exact (k6 _).mpr ⟨x1, x2.1, of_decide_eq_true x2.2⟩)
    rw [← u1]
    exact ⟨fun a ha => by rw [k1 a ha, u_a (by omega)], Or.inr ⟨by omega, k3, fun i hi => by rw [k4 i hi, u2 i hi]⟩⟩
  by_cases l0 : l = 0
  · rw [if_pos (show nI l = 0 by rw [l0, nI_0])]
    exact gen 50 (fun r _ => by unfold Pls; rw [if_pos l0]) (by unfold Tls; rw [if_neg (by omega), if_neg (by omega)])
  rw [if_neg (nI_ne0 (by omega) (by omega))]
  by_cases l1 : l = 1
  · rw [if_pos (show nI l = 1 by rw [l1]; rfl)]
    exact wor 3 (by omega) (fun r _ => by unfold Pls; rw [if_neg l0, if_neg (by omega), if_pos l1]; rfl) (by unfold Tls; rw [if_pos l1]; rfl)
  rw [if_neg (show ¬ nI l = 1 from fun h9 => l1 ((nI_eq (b := 1) (by omega) (by omega)).mp h9))]
  by_cases l2 : l = 2
  · rw [if_pos (show nI l = 2 by rw [l2]; rfl)]
    exact wor 4 (by omega) (fun r _ => by unfold Pls; rw [if_neg l0, if_neg (by omega), if_neg l1]; rfl) (by unfold Tls; rw [if_neg l1, if_pos l2]; rfl)
  rw [if_neg (show ¬ nI l = 2 from fun h9 => l2 ((nI_eq (b := 2) (by omega) (by omega)).mp h9)), if_pos (show nI l = 3 by rw [show l = 3 by omega]; rfl)]
  exact gen 25 (fun r _ => by unfold Pls; rw [if_neg l0, if_pos (by omega)]) (by unfold Tls; rw [if_neg l1, if_neg l2])
