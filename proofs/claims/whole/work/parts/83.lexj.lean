/-! 83.lexj: both tapes read alike -/
/-- what stays while a text is read -/
def SX (d : z_D) (c : Nat) (dm : z_D) (o L : Nat) : Prop := L ≤ 600 ∧ BY (dm (o + 8)) ∧ d c 1 = nI L ∧ (∀ i, i < 600 → d (c + 1) i = dm (o + 8) i) ∧ dm o 12 = nI L
/-- both stand at q; M numbers are told -/
def LX (d : z_D) (c : Nat) (dm : z_D) (o L q M : Nat) : Prop := TK d c (dm (o + 8)) L q ∧ d c 5 = 0 ∧ dm o 15 = 0 ∧ dm o 17 = nI M ∧ ∃ p, p ≤ L ∧ M < p ∧ dm o 13 = nI p ∧ rk 4 (dm (o + 8)) L p = q
/-- the same fault -/
def LF (d : z_D) (c : Nat) (dm : z_D) (o : Nat) : Prop := ¬ d c 5 = 0 ∧ dm o 15 = d c 5
def Fk (b c : Nat) (d d' : z_D) : Prop := (∀ a, (a < b ∨ b + 173 ≤ a) → ¬ a = c → d' a = d a) ∧ ∀ k, ¬ k = 2 → ¬ k = 3 → ¬ k = 4 → ¬ k = 5 → d' c k = d c k
def Fw (o : Nat) (d d' : z_D) : Prop := (∀ a, ¬ a = o → ¬ a = o + 1 → ¬ a = o + 5 → ¬ a = o + 9 → d' a = d a) ∧ ∀ k, ¬ k = 6 → ¬ k = 13 → ¬ k = 14 → ¬ k = 15 → ¬ k = 17 → d' o k = d o k
theorem Fk.rf {b c : Nat} {d : z_D} : Fk b c d d := ⟨fun _ _ _ => rfl, fun _ _ _ _ _ => rfl⟩
theorem Fk.tr {b c : Nat} {d d' d'' : z_D} (h : Fk b c d d') (h2 : Fk b c d' d'') : Fk b c d d'' := ⟨fun a a1 a2 => by rw [h2.1 a a1 a2, h.1 a a1 a2], fun k k1 k2 k3 k4 => by rw [h2.2 k k1 k2 k3 k4, h.2 k k1 k2 k3 k4]⟩
theorem Ft.k {b c : Nat} {d d' : z_D} (h : Ft c d d') : Fk b c d d' := ⟨fun a _ a2 => h.1 a a2, h.2⟩
theorem Fr.k {b c : Nat} {d d' : z_D} (hc : b + 173 ≤ c) (h : Fr b d d') : Fk b c d d' := ⟨fun a a1 _ => h a a1, fun k _ _ _ _ => by rw [h c (Or.inr hc)]⟩
theorem Fw.rf {o : Nat} {d : z_D} : Fw o d d := ⟨fun _ _ _ _ _ => rfl, fun _ _ _ _ _ _ => rfl⟩
theorem Fw.tr {o : Nat} {d d' d'' : z_D} (h : Fw o d d') (h2 : Fw o d' d'') : Fw o d d'' := ⟨fun a a1 a2 a3 a4 => by rw [h2.1 a a1 a2 a3 a4, h.1 a a1 a2 a3 a4], fun k k1 k2 k3 k4 k5 => by rw [h2.2 k k1 k2 k3 k4 k5, h.2 k k1 k2 k3 k4 k5]⟩
theorem Fl.w {o : Nat} {d d' : z_D} (h : Fl o d d') : Fw o d d' := ⟨fun a a1 _ _ a4 => h.1 a a1 a4, fun k _ k2 k3 k4 k5 => h.2 k k2 k3 k4 k5⟩
theorem Fm.w {o : Nat} {d d' : z_D} (h : Fm o d d') : Fw o d d' := ⟨fun a a1 a2 a3 _ => h.1 a a1 a2 a3, fun k k1 _ _ _ _ => h.2 k k1⟩
theorem Fw.R {o : Nat} {d d' : z_D} (h : ∀ a, ¬ a = o + 1 → d' a = d a) : Fw o d d' := ⟨fun a _ a2 _ _ => h a a2, fun k _ _ _ _ _ => by rw [h o (by omega)]⟩
theorem SX.k {d d' : z_D} {b c : Nat} {dm : z_D} {o L : Nat} (h : SX d c dm o L) (hf : Fk b c d d') (hc : b + 173 ≤ c) : SX d' c dm o L := ⟨h.1, h.2.1, by rw [hf.2 1 (by omega) (by omega) (by omega) (by omega)]; exact h.2.2.1, fun i hi => by rw [hf.1 (c + 1) (by omega) (by omega)]; exact h.2.2.2.1 i hi, h.2.2.2.2⟩
theorem SX.w {d dm dm' : z_D} {c o L : Nat} (h : SX d c dm o L) (hf : Fw o dm dm') : SX d c dm' o L := by
  have e : dm' (o + 8) = dm (o + 8) := hf.1 _ (by omega) (by omega) (by omega) (by omega)
  refine ⟨h.1, by rw [e]; exact h.2.1, h.2.2.1, by rw [e]; exact h.2.2.2.1, ?_⟩
  rw [hf.2 12 (by omega) (by omega) (by omega) (by omega) (by omega)]
  exact h.2.2.2.2
/-- the race is done with: the tape stands as it stood -/
theorem LX.r {d d' dm : z_D} {c o L q M : Nat} (h : LX d c dm o L q M) (e : d' c = d c) : LX d' c dm o L q M := by
  unfold LX TK
  rw [e]
  exact h
theorem LF.r {d d' dm : z_D} {c o : Nat} (h : LF d c dm o) (e : d' c = d c) : LF d' c dm o := by
  unfold LF
  rw [e]
  exact h
theorem sx_lt {B : Nat → Int32} {L q : Nat} (hq : q ≤ L) : nx B L q ≤ sx B L q ∧ sx B L q ≤ L := by
  have hn := nx_le (B := B) (L := L) (q := q) hq
  have := rk_i (k := 4) (B := B) (L := L) (p := nx B L q) (by omega)
  exact ⟨this.1, this.2.1 hn.2⟩
theorem j_num {d dm : z_D} {c o L q M : Nat} (hs : SX d c dm o L) (h : LX d c dm o L q M) (x y : Int32) : ok (f_X6_takeInt d c x y) (fun v => ok (f_X9_number dm o x y) (fun dm' => Ft c d v.2 ∧ Fl o dm dm' ∧ ((v.1 = nI (nv (dm (o + 8)) L q) ∧ (x ≤ v.1 ∧ v.1 ≤ y) ∧ LX v.2 c dm' o L (sx (dm (o + 8)) L q) (M + 1) ∧ dm' (o + 9) M = v.1 ∧ (∀ i, ¬ i = M → dm' (o + 9) i = dm (o + 9) i) ∧ q < sx (dm (o + 8)) L q) ∨ (v.1 = -1 ∧ LF v.2 c dm' o)))) := by
  obtain ⟨s1, s2, s3, s4, s5⟩ := hs
  obtain ⟨h1, h2, h3, h4, p, p1, p2, p3, p4⟩ := h
  have hqL := h1.1
  have hr := rk_i (k := 4) (B := dm (o + 8)) (L := L) (p := p) (by omega)
  rw [p4] at hr
  refine ok_m (k_takeInt x y s1 s3 s4 h1 h2) (fun v hv => ?_)
  refine ok_m (m_number x y s2 s1 s5 p3 p1 h3 h4 (by omega)) (fun dm' hd => ?_)
  obtain ⟨m1, m2, m3, m4, m5⟩ := hd
  rw [p4] at m2 m5
  have eB : dm' (o + 8) = dm (o + 8) := m1.1 _ (by omega) (by omega)
  have e5 : ∀ k, 0 < k → k < 10 → ¬ nI (k + 8 * q) = 0 := fun k k1 k2 => nI_ne0 (by omega) (by omega)
  rcases hv with ⟨b1, rfl⟩ | ⟨b1, b2, rfl⟩ | ⟨b1, b2, v1, v2, v3, v4⟩
  · refine ⟨Ft.u (by omega), m1, Or.inr ⟨rfl, ?_⟩⟩
    rcases m5 with ⟨-, c2⟩ | ⟨c1, -⟩ | ⟨c1, -⟩
    · refine ⟨?_, ?_⟩
      · show ¬ z_up d c 5 _ c 5 = 0
        rw [u_s]
        exact e5 1 (by omega) (by omega)
      · show _ = z_up d c 5 _ c 5
        rw [u_s, c2]
    · exact absurd c1 b1
    · exact absurd c1 b1
  · refine ⟨Ft.u (by omega), m1, Or.inr ⟨rfl, ?_⟩⟩
    rcases m5 with ⟨c1, -⟩ | ⟨-, -, c2⟩ | ⟨-, c1, -⟩
    · exact absurd b1 c1
    · refine ⟨?_, ?_⟩
      · show ¬ z_up d c 5 _ c 5 = 0
        rw [u_s]
        exact e5 2 (by omega) (by omega)
      · show _ = z_up d c 5 _ c 5
        rw [u_s, c2]
    · exact absurd c1 b2
  · refine ⟨v2, m1, Or.inl ⟨v1, by rw [v1]; exact b2, ?_⟩⟩
    rcases m5 with ⟨c1, -⟩ | ⟨-, c1, -⟩ | ⟨-, -, c1, c2⟩
    · exact absurd b1 c1
    · exact absurd b2 c1
    · have h26 := tk_2.mp b1
      have hk2 : kA (dm (o + 8)) L q = 2 := by
        by_cases h9 : kA (dm (o + 8)) L q = 2
        · exact h9
        · rw [rk_x h9] at h26
          omega
      have hn := nx_2 hk2
      have hsx := sx_lt (B := dm (o + 8)) (L := L) (q := q) hqL
      have hnl := nx_le (B := dm (o + 8)) (L := L) (q := q) hqL
      refine ⟨⟨by rw [eB]; exact v4, v3, c1, m3, rk 2 (dm (o + 8)) L q, by omega, by omega, m2, by rw [eB, ← hn]; rfl⟩, by rw [c2, v1], m4, by omega⟩
theorem j_num0 {d dm : z_D} {c o : Nat} (h : LF d c dm o) (x y : Int32) : f_X6_takeInt d c x y = some (-1, d) ∧ f_X9_number dm o x y = some dm := ⟨k_takeInt0 h.1, m_number0 (by rw [h.2]; exact h.1)⟩
/-- after a word -/
theorem LX.wd {d d' dm dm' : z_D} {c o L q M w : Nat} (h : LX d c dm o L q M) (hw : w < 20) (hi : isW (dm (o + 8)) L q w) (v3 : d' c 5 = 0) (v4 : TK d' c (dm (o + 8)) L (sx (dm (o + 8)) L q)) (m1 : Fzp o dm dm') (m2 : dm' o 13 = nI (rk 1 (dm (o + 8)) L q)) : LX d' c dm' o L (sx (dm (o + 8)) L q) M ∧ q < sx (dm (o + 8)) L q ∧ M + 1 < rk 1 (dm (o + 8)) L q := by
  obtain ⟨h1, h2, h3, h4, p, p1, p2, p3, p4⟩ := h
  obtain ⟨z1, z2, -⟩ := wz_all w hw
  have hr := rk_i (k := 4) (B := dm (o + 8)) (L := L) (p := p) (by omega)
  rw [p4] at hr
  have hr1 := rk_i (k := 1) (B := dm (o + 8)) (L := L) (p := q) (by omega)
  have hq1 := hr1.2.1 h1.1
  have eB : dm' (o + 8) = dm (o + 8) := by
    funext k
    exact m1 _ _ (by omega)
  have hsx := sx_lt (B := dm (o + 8)) (L := L) (q := q) h1.1
  have hnx := nx_1 hi.1
  have h11 := hi.2.1
  refine ⟨⟨by rw [eB]; exact v4, v3, by rw [m1 _ _ (by omega), h3], by rw [m1 _ _ (by omega), h4], rk 1 (dm (o + 8)) L q, hq1, by omega, m2, by rw [eB, ← hnx]; rfl⟩, by omega, by omega⟩
/-- a statement has been told -/
def PS (b c o L p0 : Nat) (d dm d' dm' : z_D) : Prop := Fk b c d d' ∧ Fw o dm dm' ∧ ((∃ t n s q p, St d' b (dm' (o + 1)) t n s ∧ TK d' c (dm (o + 8)) L q ∧ d' c 5 = 0 ∧ dm' o 15 = 0 ∧ p ≤ L ∧ p0 < p ∧ dm' o 13 = nI p ∧ rk 4 (dm (o + 8)) L p = q) ∨ (LF d' c dm' o ∧ ∃ ρ t n s, St d' b ρ t n s))
theorem PS.pre {b c o L p0 p1 : Nat} {d dm d1 dm1 d' dm' : z_D} (h : PS b c o L p1 d1 dm1 d' dm') (f1 : Fk b c d d1) (f2 : Fw o dm dm1) (hp : p0 ≤ p1) : PS b c o L p0 d dm d' dm' := by
  have eB : dm1 (o + 8) = dm (o + 8) := f2.1 _ (by omega) (by omega) (by omega) (by omega)
  obtain ⟨g1, g2, g3⟩ := h
  rw [eB] at g3
  refine ⟨f1.tr g1, f2.tr g2, ?_⟩
  rcases g3 with ⟨t, n, s, q, p, a1, a2, a3, a4, a5, a6, a7⟩ | g3
  · exact Or.inl ⟨t, n, s, q, p, a1, a2, a3, a4, a5, by omega, a7⟩
  · exact Or.inr g3
theorem j_finF {d dm : z_D} {b c o L p0 : Nat} {wp y : Int32} {act : z_D → Option z_D} (h : LF d c dm o) (hw : ∃ ρ t n s, St d b ρ t n s) : ok (f_X6_endStatement d c wp y) (fun d' => ok (z_bX (f_X9_ends dm o) (fun v dx => if v = 0 then some dx else act dx)) (fun dm' => PS b c o L p0 d dm d' dm')) := by
  rw [k_end0 h.1, ok_s, m_ends0 (by rw [h.2]; exact h.1), x_bX, if_pos rfl, ok_s]
  refine ⟨Fk.rf, (Fl.u (by omega)).w, Or.inr ⟨⟨h.1, ?_⟩, hw⟩⟩
  rw [u_k (by omega), h.2]
theorem j_fin {d dm : z_D} {b c o L q M wp : Nat} {y : Int32} {act : z_D → Option z_D} (hc : b + 173 ≤ c) (hs : SX d c dm o L) (h : LX d c dm o L q M) (hwp : wp ≤ 600) (hw : ∃ ρ t n s, St d b ρ t n s)
    (ha : ∀ dm2 : z_D, dm2 (o + 1) = dm (o + 1) → dm2 (o + 9) = dm (o + 9) → dm2 o 15 = 0 → dm2 o 17 = nI M → ok (act dm2) (fun dm3 => Fw o dm2 dm3 ∧ dm3 o 13 = dm2 o 13 ∧ ((¬ y = 0 ∧ dm3 o 15 = 0 ∧ ∃ t n s, St d b (dm3 (o + 1)) t n s) ∨ (y = 0 ∧ dm3 o 15 = nI (3 + 8 * wp))))) :
    ok (f_X6_endStatement d c (nI wp) y) (fun d' => ok (z_bX (f_X9_ends dm o) (fun v dx => if v = 0 then some dx else act dx)) (fun dm' => PS b c o L q d dm d' dm')) := by
  obtain ⟨s1, s2, s3, s4, s5⟩ := hs
  obtain ⟨h1, h2, h3, h4, p, p1, p2, p3, p4⟩ := h
  have hqL := h1.1
  have e5 : ∀ k p, 0 < k → k < 10 → p ≤ 600 → ¬ nI (k + 8 * p) = 0 := fun k p k1 k2 k3 => nI_ne0 (by omega) (by omega)
  refine ok_m (k_end (p := wp) y s1 s3 s4 h1 h2) (fun d' hd => ?_)
  rw [ok_bX]
  refine ok_m (m_ends s2 s1 s5 p3 p1 h3) (fun v hv => ?_)
  obtain ⟨m1, m2, m3⟩ := hv
  rw [p4] at m2 m3
  have fw : Fw o dm v.2 := ⟨fun a a1 _ _ _ => by funext k; exact m1 _ _ (by omega), fun k _ k2 k3 k4 k5 => m1 _ _ (by omega)⟩
  have hwf : ∀ k x, ∃ ρ t n s, St (z_up d c k x) b ρ t n s := fun k x => by
    obtain ⟨ρ, t, n, s, hst⟩ := hw
    exact ⟨ρ, t, n, s, hst.congr (fun a a1 a2 => u_a (by omega))⟩
  rcases m3 with ⟨b1, v1, v2⟩ | ⟨b1, v1, v2⟩
  · rw [v1, if_neg (by decide)]
    refine ok_m (ha v.2 (by funext k; exact m1 _ _ (by omega)) (by funext k; exact m1 _ _ (by omega)) v2 (by rw [m1 _ _ (by omega), h4])) (fun dm3 h3' => ?_)
    obtain ⟨g1, g2, g3⟩ := h3'
    have hf2 := fw.tr g1
    rcases hd with ⟨c1, -⟩ | ⟨-, c1, rfl⟩ | ⟨-, c1, c2, c3, c4⟩
    · exact absurd b1 c1
    · refine ⟨(Ft.u (by omega)).k, hf2, Or.inr ⟨?_, hwf _ _⟩⟩
      rcases g3 with ⟨g3, -⟩ | ⟨-, g3⟩
      · exact absurd c1 g3
      · refine ⟨?_, ?_⟩
        · rw [u_s]
          exact e5 3 wp (by omega) (by omega) hwp
        · rw [u_s, g3]
    · refine ⟨c2.k, hf2, Or.inl ?_⟩
      rcases g3 with ⟨-, g4, t, n, s, g5⟩ | ⟨g3, -⟩
      · have hsx := sx_lt (B := dm (o + 8)) (L := L) (q := q) hqL
        have hn3 := nx_3 b1
        have hnl := nx_le (B := dm (o + 8)) (L := L) (q := q) hqL
        exact ⟨t, n, s, _, q + 1, g5.congr (fun a a1 a2 => c2.1 a (by omega)), c4, c3, g4, by omega, by omega, by rw [g2, m2], by rw [← hn3]; rfl⟩
      · exact absurd g3 c1
  · rw [v1, if_pos rfl, ok_s]
    rcases hd with ⟨-, rfl⟩ | ⟨c1, -⟩ | ⟨c1, -⟩
    · refine ⟨(Ft.u (by omega)).k, fw, Or.inr ⟨⟨?_, ?_⟩, hwf _ _⟩⟩
      · rw [u_s]
        exact e5 1 q (by omega) (by omega) (by omega)
      · rw [u_s, v2]
    · exact absurd c1 b1
    · exact absurd c1 b1
