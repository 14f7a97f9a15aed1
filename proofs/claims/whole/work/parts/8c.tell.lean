/-! 8c.tell: a text told -/
theorem k_hasMore {d : z_D} {c L q : Nat} {B : Nat → Int32} (h : TK d c B L q) (h5 : d c 5 = 0) : f_X6_hasMore d c = some (b01 (q < L)) := by
  have hk := tk_5 B L q
  unfold f_X6_hasMore
  rw [if_pos h5, h.2.2.2.1]
  by_cases h2 : q < L
  · rw [if_neg (show ¬ nI (tk B L q) = 0 from fun h9 => by
      have := (nI_eq (b := 0) (by omega) (by omega)).mp h9
      exact kA_z.mp (tk_0.mp this) h2), b01_t h2]
  · rw [if_pos (show nI (tk B L q) = 0 by rw [tk_0.mpr (kA_z.mpr h2), nI_0]), b01_f h2]
theorem k_hasMore0 {d : z_D} {c : Nat} (h5 : ¬ d c 5 = 0) : f_X6_hasMore d c = some 0 := by
  unfold f_X6_hasMore
  rw [if_neg h5]
theorem tL20u (a : Nat) (K : Int32 → z_D → Option (Int32 × z_D)) (f : Nat) : f_X8_tell_L20 a K (f + 1) = f_X8_tell_L20_b a K (f_X8_tell_L20 a K f) := rfl
theorem tL57u (o : Nat) (K : Int32 → z_D → Option (Int32 × z_D)) (f : Nat) : f_X9_tell_L57 o K (f + 1) = f_X9_tell_L57_b o K (f_X9_tell_L57 o K f) := rfl
def TE (a o : Nat) (d dm d' dm' : z_D) : Prop := (∃ t n s, St d' (a + 1) (dm' (o + 1)) t n s) ∧ d' (a + 353) 1 = 0 ∧ d' (a + 353) 5 = dm' o 15 ∧ (∀ x, (x < a + 1 ∨ a + 174 ≤ x) → ¬ x = a + 353 → d' x = d x) ∧ (∀ x, ¬ x = o → ¬ x = o + 1 → ¬ x = o + 5 → ¬ x = o + 9 → dm' x = dm x) ∧ dm' o 11 = dm o 11
theorem TE.pre {a o : Nat} {d dm d1 dm1 d' dm' : z_D} (h : TE a o d1 dm1 d' dm') (f1 : Fk (a + 1) (a + 353) d d1) (f2 : Fw o dm dm1) : TE a o d dm d' dm' := by
  obtain ⟨g1, g2, g3, g4, g5, g6⟩ := h
  exact ⟨g1, g2, g3, fun x x1 x2 => by rw [g4 x x1 x2, f1.1 x (by omega) x2], fun x x1 x2 x3 x4 => by rw [g5 x x1 x2 x3 x4, f2.1 x x1 x2 x3 x4], by rw [g6, f2.2 11 (by omega) (by omega) (by omega) (by omega) (by omega)]⟩
set_option maxHeartbeats 4000000 in
theorem lp_tell {a o L t0 n0 s0 : Nat} {ρ0 : Nat → Int32} : ∀ (m fc fm : Nat) (d dm : z_D) (p i : Nat), L - p ≤ m → m + 2 < fc → m + 2 < fm → i ≤ p → SX d (a + 353) dm o L → p ≤ L → dm o 13 = nI p → TK d (a + 353) (dm (o + 8)) L (rk 4 (dm (o + 8)) L p) → d (a + 353) 5 = 0 → dm o 15 = 0 → (∃ t n s, St d (a + 1) (dm (o + 1)) t n s) → St d (a + 174) ρ0 t0 n0 s0 → (∀ k, k < 2656 → dm (o + 3) k = ρ0 k) →
    ok (f_X8_tell_L20 a (fun v9 d8 => z_put d8 (a + 353) 1 0 (fun d10 => (if (d10 (a + 353) 5) = 0 then (some (v9, d10)) else ((f_X3_copyFrom d10 (a + 1) (a + 174)).bind fun d11 => (some ((-1), d11)))))) fc (nI i) d) (fun v => ok (f_X9_tell_L57 o (fun v13 d12 => (if (d12 o 15) = 0 then (some (v13, d12)) else (f_X9_tell_L93 o (fun d16 => (some ((-1), d16))) z_N 0 d12))) fm (nI i) dm) (fun w => v.1 = w.1 ∧ TE a o d dm v.2 w.2)) := by
  intro m
  induction m using Nat.strongRecOn with
  | _ m ih =>
    intro fc fm d dm p i hm hfc hfm hip hs p1 p3 h1 h2 h3 st sta hbe
    obtain ⟨gc, rfl⟩ : ∃ g, fc = g + 1 := ⟨fc - 1, by omega⟩
    obtain ⟨gm, rfl⟩ : ∃ g, fm = g + 1 := ⟨fm - 1, by omega⟩
    obtain ⟨s1, s2, s3, s4, s5⟩ := id hs
    have hqL := h1.1
    have hr := rk_i (k := 4) (B := dm (o + 8)) (L := L) (p := p) (by omega)
    obtain ⟨u, eu, u1, u2, u3⟩ := m_here (d := dm) (o := o) s1 s5 p3 p1
    generalize hq : rk 4 (dm (o + 8)) L p = q at *
    rw [tL20u, tL57u]
    unfold f_X8_tell_L20_b f_X9_tell_L57_b
    rw [if_pos h3, eu, x_bX, k_hasMore h1 h2, x_ob, x_ifb0, u3]
    have u15 : u.2 o 15 = 0 := by rw [u1 _ _ (by omega), h3]
    have eu1 : u.2 (o + 1) = dm (o + 1) := by
      funext k
      exact u1 _ _ (by omega)
    have eu8 : u.2 (o + 8) = dm (o + 8) := by
      funext k
      exact u1 _ _ (by omega)
    have eu3 : u.2 (o + 3) = dm (o + 3) := by
      funext k
      exact u1 _ _ (by omega)
    by_cases hql : q < L
    rotate_left
    · have ex : ok ((fun v9 d8 => z_put d8 (a + 353) 1 0 (fun d10 => (if (d10 (a + 353) 5) = 0 then (some (v9, d10)) else ((f_X3_copyFrom d10 (a + 1) (a + 174)).bind fun d11 => (some ((-1), d11)))))) (nI i) d) (fun v => ok ((fun v13 d12 => (if (d12 o 15) = 0 then (some (v13, d12)) else (f_X9_tell_L93 o (fun d16 => (some ((-1), d16))) z_N 0 d12))) (nI i) u.2) (fun w => v.1 = w.1 ∧ TE a o d dm v.2 w.2)) := by
        dsimp only
        rw [x_put, u_k (by omega), if_pos h2, ok_s, if_pos u15, ok_s]
        obtain ⟨t, n, s, hst⟩ := st
        refine ⟨rfl, ⟨t, n, s, ?_⟩, u_s _ _ _ _, ?_, fun x x1 x2 => u_a x2, fun x x1 x2 x3 x4 => ?_, u1 _ _ (by omega)⟩
        · show St (z_up d (a + 353) 1 0) (a + 1) (u.2 (o + 1)) t n s
          rw [eu1]
          exact hst.congr (fun x x1 x2 => u_a (by omega))
        · show z_up d (a + 353) 1 0 (a + 353) 5 = u.2 o 15
          rw [u_k (by omega), h2, u15]
        · show u.2 x = dm x
          funext k
          exact u1 _ _ (by omega)
      rw [if_neg hql, if_neg hql, if_pos rfl]
      by_cases h6 : (600 : Int32) ≤ nI i
      · rw [if_pos h6]
        exact ex
      · rw [if_neg h6]
        exact ex
    rw [if_pos hql, if_pos hql, if_neg (show ¬ (600 : Int32) ≤ nI i from fun h9 => by
      have := (nI_leI (a := 600) (by omega) (by omega)).mp h9
      omega), if_neg (a255 (s2 q (by omega))).2.2, x_nam, h1.2.2.1, ok_bX]
    have su := hs.w u1.fl.w
    obtain ⟨t, n, s, hst⟩ := st
    refine ok_m (j_statement (d := d) (dm := u.2) (b := a + 1) (c := a + 353) (o := o) (L := L) (q := q) (p := q) (t := t) (n := n) (s := s) (by omega) su (by rw [eu8]; exact h1) h2 u15 hqL u2 (by rw [eu8]; exact rk_x h1.2.1) (by rw [eu1]; exact hst)) (fun v hv => ?_)
    rw [ok_b]
    refine ok_m hv (fun d7 hd7 => ?_)
    obtain ⟨dm1, en1, f1, g1, hps⟩ := hd7
    rw [en1, x_ob, x_addL]
    have fw : Fw o dm dm1 := u1.fl.w.tr g1
    have sta1 : St d7 (a + 174) ρ0 t0 n0 s0 := sta.congr (fun x x1 x2 => f1.1 x (by omega) (by omega))
    have hbe1 : ∀ k, k < 2656 → dm1 (o + 3) k = ρ0 k := fun k hk => by rw [fw.1 _ (by omega) (by omega) (by omega) (by omega)]; exact hbe k hk
    rcases hps with ⟨t', n', s', q', p', a1, a2, a3, a4, a5, a6, a7, a8⟩ | ⟨l1, ρ, t', n', s', l2⟩
    · have e8 : dm1 (o + 8) = u.2 (o + 8) := g1.1 _ (by omega) (by omega) (by omega) (by omega)
      refine ok_m (ih (m - 1) (by omega) gc gm d7 dm1 p' (i + 1) (by omega) (by omega) (by omega) (by omega) ((su.k (b := a + 1) f1 (by omega)).w g1) a5 a7 (by rw [e8, a8]; exact a2) a3 a4 ⟨t', n', s', a1⟩ sta1 hbe1) (fun x hx => ok_m hx (fun w hw => ⟨hw.1, hw.2.pre f1 fw⟩))
    · have ne : ¬ dm1 o 15 = 0 := by rw [l1.2]; exact l1.1
      obtain ⟨gm', rfl⟩ : ∃ g, gm = g + 1 := ⟨gm - 1, by omega⟩
      obtain ⟨gc', rfl⟩ : ∃ g, gc = g + 1 := ⟨gc - 1, by omega⟩
      have ex : ok ((fun v9 d8 => z_put d8 (a + 353) 1 0 (fun d10 => (if (d10 (a + 353) 5) = 0 then (some (v9, d10)) else ((f_X3_copyFrom d10 (a + 1) (a + 174)).bind fun d11 => (some ((-1), d11)))))) (nI (i + 1)) d7) (fun v => ok ((fun v13 d12 => (if (d12 o 15) = 0 then (some (v13, d12)) else (f_X9_tell_L93 o (fun d16 => (some ((-1), d16))) z_N 0 d12))) (nI (i + 1)) dm1) (fun w => v.1 = w.1 ∧ TE a o d dm v.2 w.2)) := by
        dsimp only
        rw [x_put, u_k (by omega), if_neg l1.1, if_neg ne, ok_b]
        refine ok_m (k_copy (d := z_up d7 (a + 353) 1 0) (b := a + 1) (b0 := a + 174) (sta1.congr (fun x x1 x2 => u_a (by omega))) (Or.inl (by omega)) (fun j hj => ?_)) (fun d11 hd11 => ?_)
        · have := l2.2.2.2.2.2.2.2 j hj
          unfold SB at this ⊢
          rw [u_a (by omega), u_a (by omega), u_a (by omega)]
          exact this
        · obtain ⟨c1, c2⟩ := hd11
          rw [ok_s]
          refine q_tell93 (fun e e1 e2 => ?_)
          rw [ok_s]
          refine ⟨rfl, ⟨t0, n0, s0, ?_⟩, ?_, ?_, fun x x1 x2 => ?_, fun x x1 x2 x3 x4 => ?_, ?_⟩
          · exact c2.row (fun k hk => (e2 k hk).trans (hbe1 k hk))
          · show d11 (a + 353) 1 = 0
            rw [c1 _ (by omega), u_s]
          · show d11 (a + 353) 5 = e o 15
            rw [c1 _ (by omega), u_k (by omega), e1 _ (by omega), l1.2]
          · show d11 x = d x
            rw [c1 x (by omega), u_a x2, f1.1 x (by omega) x2]
          · show e x = dm x
            rw [e1 x x2, fw.1 x x1 x2 x3 x4]
          · show e o 11 = dm o 11
            rw [e1 _ (by omega), fw.2 _ (by omega) (by omega) (by omega) (by omega) (by omega)]
      rw [tL20u, tL57u]
      unfold f_X8_tell_L20_b f_X9_tell_L57_b
      rw [if_neg ne, k_hasMore0 l1.1, x_ob, if_pos rfl]
      by_cases h6 : (600 : Int32) ≤ nI (i + 1)
      · rw [if_pos h6]
        exact ex
      · rw [if_neg h6]
        exact ex
theorem j_tell {d dm : z_D} {a o t n s L : Nat} (h : St d (a + 1) (dm (o + 1)) t n s) (hB : ∀ j, j < 8 → SB d (a + 174 + 5 + 21 * j)) (hL : L ≤ 600) (h1 : d (a + 353) 1 = nI L) (h11 : dm o 11 = nI L) (hby : BY (dm (o + 8))) (hbb : ∀ i, i < 600 → d (a + 354) i = dm (o + 8) i) : ok (f_X8_tell d a) (fun v => ok (f_X9_tell dm o) (fun w => v.1 = w.1 ∧ (∃ t n s, St v.2 (a + 1) (w.2 (o + 1)) t n s) ∧ (∀ j, j < 8 → SB v.2 (a + 174 + 5 + 21 * j)) ∧ v.2 (a + 353) 1 = 0 ∧ w.2 o 11 = 0 ∧ v.2 (a + 353) 5 = w.2 o 15 ∧ (∀ x, (x < a + 1 ∨ a + 347 ≤ x) → ¬ x = a + 353 → v.2 x = d x) ∧ (∀ x, ¬ x = o → ¬ x = o + 1 → ¬ x = o + 3 → ¬ x = o + 5 → ¬ x = o + 9 → w.2 x = dm x))) := by
  unfold f_X8_tell f_X9_tell
  rw [ok_b]
  refine ok_m (k_copy (d := d) (b := a + 174) (b0 := a + 1) h (Or.inr (by omega)) hB) (fun d1 hd1 => ?_)
  obtain ⟨c1, c2⟩ := hd1
  have st1 : St d1 (a + 1) (dm (o + 1)) t n s := h.congr (fun x x1 x2 => c1 x (by omega))
  rw [ok_b]
  unfold f_X6_begin
  rw [x_put, x_put]
  generalize hd2 : z_up (z_up d1 (a + 353) 5 0) (a + 353) 4 0 = d2
  have d2a : ∀ x, ¬ x = a + 353 → d2 x = d1 x := fun x hx => by rw [← hd2, u_a hx, u_a hx]
  have d21 : d2 (a + 353) 1 = nI L := by rw [← hd2, u_k (by omega), u_k (by omega), c1 _ (by omega), h1]
  have d24 : d2 (a + 353) 4 = nI 0 := by rw [← hd2, u_s, nI_0]
  have d25 : d2 (a + 353) 5 = 0 := by rw [← hd2, u_k (by omega), u_s]
  have hbb2 : ∀ i, i < 600 → d2 (a + 353 + 1) i = dm (o + 8) i := fun i hi => by rw [d2a _ (by omega), c1 _ (by omega)]; exact hbb i hi
  rw [ok_b]
  refine ok_m (k_advance hbb2 hL d21 d24 (by omega)) (fun d3 hd3 => ?_)
  obtain ⟨f1, f2, f3⟩ := hd3
  rw [ok_s, x_put, x_put, x_put, x_put, x_put]
  generalize hm0 : z_up (z_up (z_up (z_up (z_up dm o 0 0) o 12 _) o 11 0) o 13 0) o 15 0 = dm0
  have m0a : ∀ x, ¬ x = o → dm0 x = dm x := fun x hx => by rw [← hm0, u_a hx, u_a hx, u_a hx, u_a hx, u_a hx]
  have m12 : dm0 o 12 = nI L := by rw [← hm0, u_k (by omega), u_k (by omega), u_k (by omega), u_s, u_k (by omega), h11]
  have m13 : dm0 o 13 = nI 0 := by rw [← hm0, u_k (by omega), u_s, nI_0]
  have m15 : dm0 o 15 = 0 := by rw [← hm0, u_s]
  have m11 : dm0 o 11 = 0 := by rw [← hm0, u_k (by omega), u_k (by omega), u_s]
  obtain ⟨e, e1, e2, ee⟩ : ∃ e : z_D, (∀ x, ¬ x = o + 3 → e x = dm0 x) ∧ (∀ k, k < 2656 → e (o + 3) k = dm0 (o + 1) k) ∧ f_X9_tell_L30 o (fun d8 => some (0, d8)) z_N 0 dm0 = some (0, e) := by
    obtain ⟨w, ew, w1, w2, w3⟩ := q_tell30 (d := dm0) (o := o) (K := fun d8 => some (0, d8)) (Q := fun w => w.1 = 0 ∧ (∀ x, ¬ x = o + 3 → w.2 x = dm0 x) ∧ ∀ k, k < 2656 → w.2 (o + 3) k = dm0 (o + 1) k) (fun e e1 e2 => by
      rw [ok_s]
      exact ⟨rfl, e1, e2⟩)
    exact ⟨w.2, w2, w3, by rw [ew, ← w1]⟩
  have key := fun e (e1 : ∀ x, ¬ x = o + 3 → e x = dm0 x) (e2 : ∀ k, k < 2656 → e (o + 3) k = dm0 (o + 1) k) => lp_tell (a := a) (o := o) (L := L) (t0 := t) (n0 := n) (s0 := s) (ρ0 := dm (o + 1)) L z_N z_N d3 e 0 0 (by omega) (ltz (by omega)) (ltz (by omega)) (by omega) ⟨hL, by rw [e1 _ (by omega), m0a _ (by omega)]; exact hby, by rw [f1.2 _ (by omega) (by omega) (by omega) (by omega)]; exact d21, fun i hi => by rw [f1.1 _ (by omega), e1 _ (by omega), m0a _ (by omega)]; exact hbb2 i hi, by rw [e1 _ (by omega)]; exact m12⟩ (by omega) (by rw [e1 _ (by omega)]; exact m13) (by rw [e1 _ (by omega), m0a _ (by omega)]; exact f3) (by rw [f2, d25]) (by rw [e1 _ (by omega)]; exact m15) ⟨t, n, s, by rw [e1 _ (by omega), m0a _ (by omega)]; exact st1.congr (fun x x1 x2 => by rw [f1.1 _ (by omega), d2a _ (by omega)])⟩ (c2.congr (fun x x1 x2 => by rw [f1.1 _ (by omega), d2a _ (by omega)])) (fun k hk => by rw [e2 k hk, m0a _ (by omega)])
  obtain ⟨v, ev, -⟩ := key e e1 e2
  rw [show (0 : Int32) = nI 0 from nI_0.symm] at *
  rw [ev, ok_s]
  refine q_tell30 (fun e' e1' e2' => ?_)
  obtain ⟨v', ev', hv'⟩ := key e' e1' e2'
  have : v' = v := Option.some.inj (ev'.symm.trans ev)
  subst this
  refine ok_m hv' (fun w hw => ?_)
  obtain ⟨w1, w2, w3, w4, w5, w6, w7⟩ := hw
  refine ⟨w1, w2, fun j hj => ?_, w3, by rw [w7, e1' _ (by omega), m11], w4, fun x x1 x2 => ?_, fun x x1 x2 x3 x4 x5 => ?_⟩
  · have := c2.2.2.2.2.2.2.2 j hj
    unfold SB at this ⊢
    rw [w5 _ (by omega) (by omega), w5 _ (by omega) (by omega), w5 _ (by omega) (by omega), f1.1 _ (by omega), f1.1 _ (by omega), f1.1 _ (by omega), d2a _ (by omega), d2a _ (by omega), d2a _ (by omega)]
    exact this
  · rw [w5 x (by omega) x2, f1.1 x x2, d2a x x2, c1 x (by omega)]
  · rw [w6 x x1 x2 x4 x5, e1' x x3, m0a x x1]
