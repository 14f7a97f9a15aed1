/-! 6i.close: a stage is closed, by class -/
/-- all that comes of the stage at B of the row ρ -/
def CD (ρ : Nat → Int32) (B n kd N M F bb : Nat) (p : Nat → Nat) (Bg : Nat → Bool) (raw T : Nat → Int32) (lt : Nat → Bool) (hw q : Nat → Nat) (cr : Nat → Nat → Nat) (PF : z_D) (ou : Nat → Bool) : Prop :=
  (ordO (rfin ρ B) 16 = p ∧ ordK (rfin ρ B) 16 = F ∧ 0 < F ∧ F ≤ 16) ∧ (ρ B = nI kd ∧ kd ≤ 3 ∧ ρ (B + 1) = nI N ∧ N ≤ 300 ∧ ρ (B + 2) = nI M ∧ M ≤ 6) ∧
  (bgn (ρ B) (rfin ρ B) p (ρ 4) = Bg ∧ (∀ j, j < F → raw (p j) = rfin ρ B (p (hdI Bg j)) / 10) ∧ tmv (chg kd (fun r => ρ (B + 128 + 12 * r)) (ρ 5) (fun r => ρ (B + 129 + 12 * r)) (rfin ρ B)) raw = T ∧ bsF T p F = nI bb ∧ bb ≤ 99999 ∧ ∀ j, j < F → ∃ t, t ≤ 99999 ∧ T (p j) = nI t) ∧
  (∀ r, r < 16 → lt r = decide (¬ rfin ρ B r = 0 ∧ ¬ T r ≤ nI (lmN bb kd (spN N bb)) ∧ ρ (B + 131 + 12 * r) = 0)) ∧
  (∀ m, m < M → hw m ≤ 4 ∧ ρ (B + 14 + 19 * m) = nI (hw m) ∧ q m ≤ 16 ∧ ρ (B + 15 + 19 * m) = nI (q m) ∧ ∀ k, k < q m → cr m k < 16 ∧ ρ (B + 16 + 19 * m + k) = nI (cr m k)) ∧
  mOu lt (rfin ρ B) hw q cr (pOF kd lt p (fun _ _ => 0) F) M = PF ∧
  ∀ r, r < n → ou r = decide (ρ (10 + 3 * r) = 1 ∧ (rfin ρ B r = 0 ∨ lt r = true ∧ fb_ct lt 16 * 5 ≤ F))
theorem bgn_cong {k k' g g' : Int32} {f f' : Nat → Int32} {p : Nat → Nat} {F : Nat} (hk : k = k') (hg : g = g') (hb : ∀ j, j < F → f (p j) = f' (p j)) : ∀ i, i < F → bgn k f p g i = bgn k' f' p g' i := by
  intro i hi
  unfold bgn
  rw [hk, hg, hb i hi, hb (i - 1) (by omega)]
/-- the class's cells behind the close -/
def KP (d d' : z_D) (b c n kd N F bb : Nat) (p : Nat → Nat) (Bg : Nat → Bool) (fin T : Nat → Int32) (lt : Nat → Bool) (PF : z_D) (ou : Nat → Bool) : Prop :=
  (∀ a, (a < c ∨ c + 21 ≤ a) → ¬ a = b → ¬ a = b + 3 → d' a = d a) ∧ ((∀ k, ¬ k = 3 → d' b k = d b k) ∧ d' b 3 = 0) ∧ (∀ r, d' (b + 3) r = if r < n ∧ ou r = true then 0 else d (b + 3) r) ∧
  (∀ a, c + 1 ≤ a → a ≤ c + 14 → ¬ (c + 7 ≤ a ∧ a ≤ c + 9) → d' a = d a) ∧ (∀ k, k < 14 ∨ 19 < k → d' c k = d c k) ∧
  (d' c 14 = nI (fb_ct Bg F) ∧ d' c 15 = nI bb ∧ d' c 16 = nI (spN N bb) ∧ d' c 17 = nI (lmN bb kd (spN N bb)) ∧ d' c 18 = nI (fb_ct lt 16) ∧ d' c 19 = (if fb_ct lt 16 * 5 ≤ F then 0 else 1)) ∧
  (∀ j, j < F → d' (c + 15) j = nI (p j) ∧ d' (c + 16) (p j) = nI (j + 1) ∧ d' (c + 17) (p j) = nI (fb_ct Bg (j + 1)) - 1 ∧ d' (c + 18) (p j) = fin (p (hdI Bg j)) / 10 ∧ d' (c + 19) (p j) = T (p j)) ∧ PC d' c PF ∧ ∀ r, r < 16 → bl (d' (c + 20) r)
theorem ok_of {α : Type} {p : Option α} {x : α} {Q : α → Prop} (h : p = some x) (hq : Q x) : ok p Q := ⟨x, h, hq⟩
theorem chg_cong {kd r : Nat} {fall fall' wi wi' fin fin' : Nat → Int32} {z : Int32} (h1 : fall r = fall' r) (h2 : ¬ fall' r = -1 → wi r = wi' r ∧ (wi' r = -1 ∨ ∃ q, q < 16 ∧ wi' r = nI q)) (h3 : ∀ q, q < 16 → fin q = fin' q) : chg kd fall z wi fin r = chg kd fall' z wi' fin' r := by
  unfold chg
  rw [h1]
  by_cases h0 : fall' r = -1
  · rw [if_neg (fun h => h.2.1 h0), if_neg (fun h => h.2.1 h0)]
  · obtain ⟨e, hq⟩ := h2 h0
    rw [e]
    rcases hq with hq | ⟨q, q1, q2⟩
    · rw [if_neg (fun h => h.2.2.2.1 hq), if_neg (fun h => h.2.2.2.1 hq)]
    · rw [q2, nI_clamp (by omega), h3 q q1]
theorem chg_some {kd r q : Nat} {fall wi fin : Nat → Int32} {z : Int32} (h2 : ¬ fall r = -1 → wi r = -1 ∨ ∃ q, q < 16 ∧ wi r = nI q) (h : chg kd fall z wi fin r = some q) : q < 16 ∧ ¬ fin q = 0 := by
  unfold chg at h
  by_cases hc : kd ≤ 1 ∧ ¬ fall r = -1 ∧ ¬ z < fall r ∧ ¬ wi r = -1 ∧ ¬ fin (wi r).toNatClampNeg = 0
  · rw [if_pos hc] at h
    cases h
    obtain ⟨q, q1, q2⟩ := (h2 hc.2.1).resolve_left hc.2.2.2.1
    refine ⟨?_, hc.2.2.2.2⟩
    rw [q2, nI_clamp (by omega)]
    exact q1
  · rw [if_neg hc] at h
    cases h
set_option maxHeartbeats 4000000 in
theorem k_close {d : z_D} {b t n L : Nat} {ρ : Nat → Int32} {kd N M F bb : Nat} {p : Nat → Nat} {Bg : Nat → Bool} {raw T : Nat → Int32} {lt : Nat → Bool} {hw q : Nat → Nat} {cr : Nat → Nat → Nat} {PF : z_D} {ou : Nat → Bool} (h : St d b ρ t n (L + 1)) (h3 : ρ 3 = 1) (D : CD ρ (56 + 325 * L) n kd N M F bb p Bg raw T lt hw q cr PF ou) :
    ok (f_X3_closeStage d b) (fun v => v.1 = nI (fb_ct ou n) ∧ KP d v.2 b (b + 5 + 21 * L) n kd N F bb p Bg (rfin ρ (56 + 325 * L)) T lt PF ou) := by
  obtain ⟨⟨Dp, DF, DF0, DF16⟩, ⟨Dk, Dk3, DN, DN3, DM, DM6⟩, ⟨DB, Draw, DT, Dbs, Dbb, DTb⟩, Dlt, Dm, DPF, Dou⟩ := D
  obtain ⟨g1, g2, g3, g4, g5, g6, g7, g8⟩ := id h
  have hn16 := g1.2.1.2
  have hL : L < 8 := by have := g1.2.2.1.2; omega
  obtain ⟨s1, s2, ⟨c0, c1, c2⟩, ⟨M', M1', M2', M3⟩, s5, s6⟩ := g4 L (by omega)
  have hMM : M' = M := by rw [DM] at M2'; exact ((nI_eq (by omega) (by omega)).mp M2').symm
  subst hMM
  generalize hcc : b + 5 + 21 * L = c at *
  have hbc : b + 5 ≤ c := by omega
  rw [Dk] at c0
  rw [DN] at c1
  rw [DM] at c2
  rw [DF] at s6
  have hfin : ∀ r, r < 16 → d (c + 10) r = rfin ρ (56 + 325 * L) r := fun r hr => (s5 r hr).2.2.2.2.1
  have hord := ordO_cong (f := d (c + 10)) (g := rfin ρ (56 + 325 * L)) 16 hfin
  rw [DF, Dp] at hord
  have hb16 : ∀ j, j < F → p j < 16 := fun j hj => by
    rw [← Dp]
    exact ordO_lt _ 16 j (by rw [DF]; exact hj)
  have hinj : ∀ i j, i < F → j < F → p i = p j → i = j := fun i j hi hj he => by
    rw [← Dp] at he
    exact ordO_inj _ 16 i j (by rw [DF]; exact hi) (by rw [DF]; exact hj) he
  have hnz : ∀ j, j < F → ¬ rfin ρ (56 + 325 * L) (p j) = 0 := fun j hj => by
    rw [← Dp]
    exact ordO_nz _ 16 j (by rw [DF]; exact hj)
  have hon : ∀ r, r < 16 → ¬ rfin ρ (56 + 325 * L) r = 0 → ∃ j, j < F ∧ p j = r := fun r hr h0 => by
    obtain ⟨j, j1, j2⟩ := ordO_onto _ 16 r hr h0
    exact ⟨j, by rw [← DF]; exact j1, by rw [← Dp]; exact j2⟩
  have e1 : d b 1 = nI n := by rw [g2.2.1, g1.2.1.1]
  have e2 : d b 2 = nI (L + 1) := by rw [g2.2.2.1, g1.2.2.1.1]
  have e3 : d b 3 = 1 := by rw [g2.2.2.2.1, h3]
  have e4 : d b 4 = ρ 4 := g2.2.2.2.2.1
  have e5 : d b 5 = ρ 5 := g2.2.2.2.2.2
  unfold f_X3_closeStage
  simp (disch := omega) only [↓x_let, ↓x_nam, ↓x_put, ↓x_bX, ↓x_ob, ↓x_ald, ↓x_aldL, ↓x_ast, ↓x_astL, ↓x_at0, ↓x_at_0, ↓x_mk0, ↓x_at, ↓x_atL, ↓x_at_, ↓x_at_L, ↓x_mk, ↓x_mkL, ↓x_aald, ↓x_w, ↓x_wi, ↓ok_s, ↓x_ifle_t, ↓x_ifle_f, ↓x_iflt_t, ↓x_iflt_f, ↓x_ifeq_t, ↓x_ifeq_f, ↓x_ifleL_t, ↓x_ifleL_f, ↓x_ifltL_t, ↓x_ifltL_f, ↓x_ifeqL_t, ↓x_ifeqL_f, ↓x_ifLle_t, ↓x_ifLle_f, ↓x_ifLlt_t, ↓x_ifLlt_f, ↓x_ifnm1, ↓x_ifb0, ↓x_ifb1, ↓x_if00, ↓x_if10, x_addL, x_Ladd, x_mulL, x_Lmul, nI_add, pk_mul, nI_pred, if_true, if_false, x_m1, n_a0, x_ue, x_un, e2, e3, hcc, s6]; try simp (disch := omega) only [↓x_let, ↓x_nam, ↓x_put, ↓x_bX, ↓x_ob, ↓x_ald, ↓x_aldL, ↓x_ast, ↓x_astL, ↓x_at0, ↓x_at_0, ↓x_mk0, ↓x_at, ↓x_atL, ↓x_at_, ↓x_at_L, ↓x_mk, ↓x_mkL, ↓x_aald, ↓x_w, ↓x_wi, ↓ok_s, ↓x_ifle_t, ↓x_ifle_f, ↓x_iflt_t, ↓x_iflt_f, ↓x_ifeq_t, ↓x_ifeq_f, ↓x_ifleL_t, ↓x_ifleL_f, ↓x_ifltL_t, ↓x_ifltL_f, ↓x_ifeqL_t, ↓x_ifeqL_f, ↓x_ifLle_t, ↓x_ifLle_f, ↓x_ifLlt_t, ↓x_ifLlt_f, ↓x_ifnm1, ↓x_ifb0, ↓x_ifb1, ↓x_if00, ↓x_if10, x_addL, x_Ladd, x_mulL, x_Lmul, nI_add, pk_mul, nI_pred, if_true, if_false, x_m1, n_a0, x_ue, x_un, e2, e3, hcc, s6]; try simp (disch := omega) only [↓x_let, ↓x_nam, ↓x_put, ↓x_bX, ↓x_ob, ↓x_ald, ↓x_aldL, ↓x_ast, ↓x_astL, ↓x_at0, ↓x_at_0, ↓x_mk0, ↓x_at, ↓x_atL, ↓x_at_, ↓x_at_L, ↓x_mk, ↓x_mkL, ↓x_aald, ↓x_w, ↓x_wi, ↓ok_s, ↓x_ifle_t, ↓x_ifle_f, ↓x_iflt_t, ↓x_iflt_f, ↓x_ifeq_t, ↓x_ifeq_f, ↓x_ifleL_t, ↓x_ifleL_f, ↓x_ifltL_t, ↓x_ifltL_f, ↓x_ifeqL_t, ↓x_ifeqL_f, ↓x_ifLle_t, ↓x_ifLle_f, ↓x_ifLlt_t, ↓x_ifLlt_f, ↓x_ifnm1, ↓x_ifb0, ↓x_ifb1, ↓x_if00, ↓x_if10, x_addL, x_Ladd, x_mulL, x_Lmul, nI_add, pk_mul, nI_pred, if_true, if_false, x_m1, n_a0, x_ue, x_un, e2, e3, hcc, s6]; try simp (disch := omega) only [↓x_let, ↓x_nam, ↓x_put, ↓x_bX, ↓x_ob, ↓x_ald, ↓x_aldL, ↓x_ast, ↓x_astL, ↓x_at0, ↓x_at_0, ↓x_mk0, ↓x_at, ↓x_atL, ↓x_at_, ↓x_at_L, ↓x_mk, ↓x_mkL, ↓x_aald, ↓x_w, ↓x_wi, ↓ok_s, ↓x_ifle_t, ↓x_ifle_f, ↓x_iflt_t, ↓x_iflt_f, ↓x_ifeq_t, ↓x_ifeq_f, ↓x_ifleL_t, ↓x_ifleL_f, ↓x_ifltL_t, ↓x_ifltL_f, ↓x_ifeqL_t, ↓x_ifeqL_f, ↓x_ifLle_t, ↓x_ifLle_f, ↓x_ifLlt_t, ↓x_ifLlt_f, ↓x_ifnm1, ↓x_ifb0, ↓x_ifb1, ↓x_if00, ↓x_if10, x_addL, x_Ladd, x_mulL, x_Lmul, nI_add, pk_mul, nI_pred, if_true, if_false, x_m1, n_a0, x_ue, x_un, e2, e3, hcc, s6]
  -- rank
  obtain ⟨d1, q1, a1, o1, pl1⟩ := q_rank (d := d) (c := c)
  rw [hord.1, hord.2] at o1 pl1
  rw [q1, x_ob]
  have D1 : ∀ a, ¬ a = c + 15 → ¬ a = c + 16 → d1 a = d a := a1
  -- split
  have hBc : ∀ i, i < F → bgn (d1 (c + 1) 0) (d1 (c + 10)) p (ρ 4) i = Bg i := fun i hi => by
    rw [← DB]
    refine bgn_cong ?_ rfl (fun j hj => ?_) i hi
    · rw [D1 _ (by omega) (by omega), c0, Dk]
    · rw [D1 _ (by omega) (by omega)]
      exact hfin _ (hb16 j hj)
  obtain ⟨d2, q2, a2, a2c, b2, r2⟩ := q_split (d := d1) (c := c) (n := F) (g := ρ 4) (p := p) DF16 (by rw [D1 _ (by omega) (by omega), s6]) o1 hb16 hinj
  rw [show d1 b 4 = ρ 4 by rw [D1 _ (by omega) (by omega), e4], q2, x_ob]
  have r2' : ∀ j, j < F → d2 (c + 17) (p j) = nI (fb_ct Bg (j + 1)) - 1 ∧ d2 (c + 18) (p j) = rfin ρ (56 + 325 * L) (p (hdI Bg j)) / 10 := fun j hj => by
    have hh : hdI (bgn (d1 (c + 1) 0) (d1 (c + 10)) p (ρ 4)) j = hdI Bg j := hdI_cong j (fun i hi => hBc i (by omega))
    have hle := hdI_le Bg j
    obtain ⟨x1, x2⟩ := r2 j hj
    rw [fb_ct_cong (q := Bg) (fun k hk => hBc k (by omega))] at x1
    rw [hh, D1 _ (by omega) (by omega), hfin _ (hb16 _ (by omega))] at x2
    exact ⟨x1, x2⟩
  rw [fb_ct_cong (q := Bg) (fun k hk => hBc k hk)] at b2
  have D2 : ∀ a, ¬ a = c → ¬ (c + 15 ≤ a ∧ a ≤ c + 18) → d2 a = d a := fun a x1 x2 => by rw [a2 _ x1 (by omega) (by omega), D1 _ (by omega) (by omega)]
  have D2c : ∀ k, ¬ k = 14 → d2 c k = d c k := fun k hk => by rw [a2c k hk, D1 _ (by omega) (by omega)]
  have o2 : ∀ j, j < F → d2 (c + 15) j = nI (p j) := fun j hj => by rw [a2 _ (by omega) (by omega) (by omega), o1 j hj]
  have p2 : ∀ j, j < F → d2 (c + 16) (p j) = nI (j + 1) := fun j hj => by rw [a2 _ (by omega) (by omega) (by omega), pl1 j hj]
  -- times
  have hwi : ∀ r, r < 16 → ¬ ρ (56 + 325 * L + 128 + 12 * r) = -1 → d (c + 12) r = ρ (56 + 325 * L + 129 + 12 * r) ∧ (ρ (56 + 325 * L + 129 + 12 * r) = -1 ∨ ∃ q, q < 16 ∧ ρ (56 + 325 * L + 129 + 12 * r) = nI q) := fun r hr h0 => by
    obtain ⟨-, x2, -⟩ := s5 r hr
    obtain ⟨-, y2, y3⟩ := x2.resolve_left h0
    refine ⟨y3, ?_⟩
    rcases y2 with y | ⟨q, y4, y5⟩
    · exact Or.inl y
    · exact Or.inr ⟨q, by omega, y5⟩
  have hfa : ∀ r, r < 16 → d (c + 11) r = ρ (56 + 325 * L + 128 + 12 * r) := fun r hr => (s5 r hr).2.2.2.2.2.1
  have hTc : ∀ j, j < F → tmv (chg kd (d2 (c + 11)) (ρ 5) (d2 (c + 12)) (d2 (c + 10))) (d2 (c + 18)) (p j) = T (p j) := fun j hj => by
    rw [← DT, D2 _ (by omega) (by omega), D2 _ (by omega) (by omega), D2 _ (by omega) (by omega)]
    unfold tmv
    rw [(r2' j hj).2, Draw j hj]
    refine chC_cong (S := fun r => r < 16) (fun r hr => ?_) (fun r q hr hq => ?_) 16 (p j) _ (hb16 j hj)
    · exact chg_cong (hfa r hr) (fun h0 => hwi r hr h0) hfin
    · have hq2 := chg_some (fun h0 => by
        rw [hfa r hr] at h0
        obtain ⟨y1, y2⟩ := hwi r hr h0
        rw [y1]
        exact y2) hq
      refine ⟨hq2.1, ?_⟩
      obtain ⟨j2, y1, y2⟩ := hon q hq2.1 (by rw [← hfin q hq2.1]; exact hq2.2)
      rw [← y2, (r2' j2 y1).2, Draw j2 y1]
  have tk := q_takeTimes (d := d2) (c := c) (F := F) (kd := kd) (z := ρ 5) (p := p) DF16 (by rw [D2c 7 (by omega), s6]) o2 hb16 hinj (by rw [D2 _ (by omega) (by omega), c0]) Dk3 (fun r hr h0 => by
    rw [D2 _ (by omega) (by omega)] at h0 ⊢
    rw [hfa r hr] at h0
    obtain ⟨y1, y2⟩ := hwi r hr h0
    rw [y1]
    exact y2) rfl
  rw [show d2 b 5 = ρ 5 by rw [D2 _ (by omega) (by omega), e5], ok_b]
  refine ok_m tk (fun d3 hd3 => ?_)
  obtain ⟨a3, a3c, b3, t3⟩ := hd3
  rw [bsF_cong F (fun j hj => hTc j hj), Dbs] at b3
  have t3' : ∀ j, j < F → d3 (c + 19) (p j) = T (p j) := fun j hj => by rw [t3 j hj, hTc j hj]
  have D3 : ∀ a, ¬ a = c → ¬ (c + 15 ≤ a ∧ a ≤ c + 19) → d3 a = d a := fun a x1 x2 => by rw [a3 _ x1 (by omega), D2 _ x1 (by omega)]
  have D3c : ∀ k, ¬ k = 14 → ¬ k = 15 → d3 c k = d c k := fun k x1 x2 => by rw [a3c k x2, D2c k x1]
  -- judge
  have jd := q_judge (d := d3) (c := c) (F := F) (kd := kd) (N := N) (b := bb) (lt := lt) DF16 (by rw [D3c 7 (by omega) (by omega), s6]) (by rw [D3 _ (by omega) (by omega), c0]) Dk3 (by rw [D3 _ (by omega) (by omega), c1]) DN3 b3 Dbb (fun r hr => by
    rw [Dlt r hr, D3 _ (by omega) (by omega), D3 (c + 14) (by omega) (by omega), hfin r hr, (s5 r hr).2.2.2.2.2.2.2]
    by_cases h0 : rfin ρ (56 + 325 * L) r = 0
    · rw [decide_eq_false (fun h9 => h9.1 h0), decide_eq_false (fun h9 => h9.1 h0)]
    · obtain ⟨j, j1, j2⟩ := hon r hr h0
      rw [← j2, t3' j j1])
  rw [ok_b]
  refine ok_m jd (fun d4 hd4 => ?_)
  obtain ⟨a4, a4c, b16, b17, b18, b19, l4⟩ := hd4
  have D4 : ∀ a, ¬ a = c → ¬ (c + 15 ≤ a ∧ a ≤ c + 20) → d4 a = d a := fun a x1 x2 => by rw [a4 _ x1 (by omega), D3 _ x1 (by omega)]
  have D4c : ∀ k, k < 14 ∨ 19 < k → d4 c k = d c k := fun k x1 => by rw [a4c k (by omega), D3c k (by omega) (by omega)]
  have o4 : ∀ j, j < F → d4 (c + 15) j = nI (p j) := fun j hj => by rw [a4 _ (by omega) (by omega), a3 _ (by omega) (by omega), o2 j hj]
  -- prizes
  rw [ok_b]
  refine ok_m (q_awardOrder (d := d4) (c := c) (F := F) (kd := kd) (p := p) (lt := lt) DF16 (by rw [D4c 7 (by omega), s6]) o4 hb16 (by rw [D4 _ (by omega) (by omega), c0]) Dk3 l4) (fun d5 hd5 => ?_)
  obtain ⟨z5, P5⟩ := hd5
  rw [ok_b]
  have D5 : ∀ a, ¬ a = c → ¬ (c + 15 ≤ a ∧ a ≤ c + 20) → ¬ (c + 7 ≤ a ∧ a ≤ c + 9) → d5 a = d a := fun a x1 x2 x3 => by rw [z5 _ x3, D4 _ x1 x2]
  refine ok_m (q_awardMarks (d := d5) (c := c) (M := M') (hw := hw) (q := q) (cr := cr) (lt := lt) DM6 (by rw [D5 _ (by omega) (by omega) (by omega), c2]) (fun m hm => ?_) (fun m hm => ?_) (fun m k hm hk => ?_) (fun r hr => by rw [z5 _ (by omega)]; exact l4 r hr) P5) (fun d6 hd6 => ?_)
  · obtain ⟨x1, x2, x3, x4, x5⟩ := Dm m hm
    obtain ⟨-, -, -, -, y5, -⟩ := M3 m hm
    exact ⟨x1, by rw [D5 _ (by omega) (by omega) (by omega), y5, x2]⟩
  · obtain ⟨x1, x2, x3, x4, x5⟩ := Dm m hm
    obtain ⟨-, -, -, -, -, y6⟩ := M3 m hm
    exact ⟨x3, by rw [D5 _ (by omega) (by omega) (by omega), y6, x4]⟩
  · obtain ⟨x1, x2, x3, x4, x5⟩ := Dm m hm
    obtain ⟨-, -, ⟨q', y1, y2, y3, -⟩, -⟩ := M3 m hm
    have hqq : q' = q m := by rw [x4] at y2; exact ((nI_eq (by omega) (by omega)).mp y2).symm
    subst hqq
    obtain ⟨w1, w2⟩ := x5 k hk
    obtain ⟨r, v1, v2, v3⟩ := y3 k hk
    exact ⟨w1, by rw [D5 _ (by omega) (by omega) (by omega), v3, ← v2, w2]⟩
  obtain ⟨z6, P6⟩ := hd6
  have D6 : ∀ a, ¬ a = c → ¬ (c + 15 ≤ a ∧ a ≤ c + 20) → ¬ (c + 7 ≤ a ∧ a ≤ c + 9) → d6 a = d a := fun a x1 x2 x3 => by rw [z6 _ x3, D5 _ x1 x2 x3]
  have E6 : ∀ a, ¬ (c + 7 ≤ a ∧ a ≤ c + 9) → d6 a = d4 a := fun a x1 => by rw [z6 _ x1, z5 _ x1]
  have hPF : PC d6 c PF := by
    rw [← DPF]
    have := mOu_cong (lt := lt) (f := d5 (c + 10)) (g := rfin ρ (56 + 325 * L)) (hw := hw) (q := q) (cr := cr) (P := pOF kd lt p (fun _ _ => 0) F) M' (fun m k hm hk => by
      rw [D5 _ (by omega) (by omega) (by omega)]
      exact hfin _ ((Dm m hm).2.2.2.2 k hk).1)
    rw [← this]
    exact P6
  -- who goes out
  rw [ok_bX]
  refine ok_m (q_sendOut (d := z_up d6 b 3 0) (b := b) (c := c) (n := n) (ou := ou) hn16 (by rw [x_un (by omega), D6 _ (by omega) (by omega) (by omega), e1]) (by omega) (fun r hr => ?_)) (fun v hv => ?_)
  · rw [Dou r hr, x_un (by omega), x_un (by omega), x_un (by omega), x_un (by omega), D6 _ (by omega) (by omega) (by omega), D6 (c + 10) (by omega) (by omega) (by omega), E6 _ (by omega), E6 _ (by omega), l4 r (by omega), b19, hfin r (by omega), (g3 r hr).2.2.2.2.2]
    refine decide_eq_decide.mpr ?_
    have hb := (g3 r hr).2.2.1
    have hone : ρ (10 + 3 * r) = 1 ↔ ¬ ρ (10 + 3 * r) = 0 := by
      constructor
      · intro h9; rw [h9]; decide
      · intro h9; exact hb.resolve_left h9
    rw [hone]
    have hct : (if fb_ct lt 16 * 5 ≤ F then (0 : Int32) else 1) = 0 ↔ fb_ct lt 16 * 5 ≤ F := by
      by_cases h9 : fb_ct lt 16 * 5 ≤ F
      · rw [if_pos h9]; exact ⟨fun _ => h9, fun _ => rfl⟩
      · rw [if_neg h9]; exact ⟨fun h8 => absurd h8 (by decide), fun h8 => absurd h8 h9⟩
    rw [hct, b01_0, Classical.not_not]
  · obtain ⟨v1, v2, v3⟩ := hv
    rw [ok_s]
    refine ⟨v1, fun a x1 x2 x3 => ?_, ⟨fun k hk => ?_, ?_⟩, fun r => ?_, fun a x1 x2 x3 => ?_, fun k hk => ?_, ⟨?_, ?_, ?_, ?_, ?_, ?_⟩, fun j hj => ⟨?_, ?_, ?_, ?_, ?_⟩, fun r hr => ?_, fun r hr => ?_⟩
    · rw [v2 _ x3, u_a x2, D6 _ (by omega) (by omega) (by omega)]
    · rw [v2 _ (by omega), x_un (by omega), D6 _ (by omega) (by omega) (by omega)]
    · rw [v2 _ (by omega), x_ue rfl rfl]
    · rw [v3 r, x_un (by omega), D6 _ (by omega) (by omega) (by omega)]
    · rw [v2 _ (by omega), u_a (by omega), D6 _ (by omega) (by omega) (by omega)]
    · rw [v2 _ (by omega), u_a (by omega), E6 _ (by omega), D4c k hk]
    · rw [v2 _ (by omega), u_a (by omega), E6 _ (by omega), a4c 14 (by omega), a3c 14 (by omega), b2]
    · rw [v2 _ (by omega), u_a (by omega), E6 _ (by omega), a4c 15 (by omega), b3]
    · rw [v2 _ (by omega), u_a (by omega), E6 _ (by omega), b16]
    · rw [v2 _ (by omega), u_a (by omega), E6 _ (by omega), b17]
    · rw [v2 _ (by omega), u_a (by omega), E6 _ (by omega), b18]
    · rw [v2 _ (by omega), u_a (by omega), E6 _ (by omega), b19]
    · rw [v2 _ (by omega), u_a (by omega), E6 _ (by omega), o4 j hj]
    · rw [v2 _ (by omega), u_a (by omega), E6 _ (by omega), a4 _ (by omega) (by omega), a3 _ (by omega) (by omega), p2 j hj]
    · rw [v2 _ (by omega), u_a (by omega), E6 _ (by omega), a4 _ (by omega) (by omega), a3 _ (by omega) (by omega), (r2' j hj).1]
    · rw [v2 _ (by omega), u_a (by omega), E6 _ (by omega), a4 _ (by omega) (by omega), a3 _ (by omega) (by omega), (r2' j hj).2]
    · rw [v2 _ (by omega), u_a (by omega), E6 _ (by omega), a4 _ (by omega) (by omega), t3' j hj]
    · rw [v2 _ (by omega), v2 _ (by omega), v2 _ (by omega), u_a (by omega), u_a (by omega), u_a (by omega)]
      exact hPF r hr
    · rw [v2 _ (by omega), u_a (by omega), E6 _ (by omega), l4 r hr]
      exact b01_b
