/-! 8b.statement: a statement told -/
theorem x_bs {α : Type} (p : Option α) : (p.bind fun d => some d) = p := by
  cases p with
  | none => rfl
  | some x => rfl
set_option maxHeartbeats 4000000 in
theorem j_statement {d dm : z_D} {b c o L q p t n s : Nat} (hc : b + 173 ≤ c) (hs : SX d c dm o L) (h1 : TK d c (dm (o + 8)) L q) (h2 : d c 5 = 0) (h3 : dm o 15 = 0) (p1 : p ≤ L) (p3 : dm o 13 = nI p) (p4 : rk 4 (dm (o + 8)) L p = q) (st : St d b (dm (o + 1)) t n s) : ok (f_X7_tellStatement d b c) (fun v => ok (f_X6_endStatement v.2 c (nI q) v.1) (fun d' => ok (f_X9_statement dm o) (fun dm' => PS b c o L p d dm d' dm'))) := by
  obtain ⟨s1, s2, s3, s4, s5⟩ := id hs
  have hqL := h1.1
  have hpq : p ≤ q := by
    have := (rk_i (k := 4) (B := dm (o + 8)) (L := L) (p := p) (by omega)).1
    omega
  have e8 : (z_up dm o 17 0) (o + 8) = dm (o + 8) := u_a (by omega)
  obtain ⟨y, ey, y1, y2, y3, y4⟩ := m_word (d := z_up dm o 17 0) (o := o) s1 (by rw [u_k (by omega)]; exact s5) (by rw [u_k (by omega)]; exact p3) p1
  rw [e8, p4] at y1 y3 y4
  have ey1 : y.2 (o + 1) = dm (o + 1) := by
    rw [← u_a (d := dm) (a := o) (k := 17) (v := 0) (show ¬ o + 1 = o by omega)]
    funext k
    exact y2 _ _ (by omega)
  have ey8 : y.2 (o + 8) = dm (o + 8) := by
    rw [← e8]
    funext k
    exact y2 _ _ (by omega)
  have y15 : y.2 o 15 = 0 := by rw [y2 _ _ (by omega), u_k (by omega), h3]
  have y17 : y.2 o 17 = nI 0 := by rw [y2 _ _ (by omega), u_s, nI_0]
  have fw : Fw o dm y.2 := (Fl.u (by omega)).w.tr y2.fl.w
  have hwd : ∀ (w : Nat) (d' : z_D), w < 20 → isW (dm (o + 8)) L q w → d' c 5 = 0 → TK d' c (dm (o + 8)) L (sx (dm (o + 8)) L q) → LX d' c y.2 o L (sx (dm (o + 8)) L q) 0 ∧ q < sx (dm (o + 8)) L q := fun w d' hw hi v3 v4 => by
    obtain ⟨z1, z2, -⟩ := wz_all w hw
    have hr1 := rk_i (k := 1) (B := dm (o + 8)) (L := L) (p := q) (by omega)
    have hq1 := hr1.2.1 hqL
    have hsx := sx_lt (B := dm (o + 8)) (L := L) (q := q) hqL
    have hnx := nx_1 hi.1
    have h11 := hi.2.1
    exact ⟨⟨by rw [ey8]; exact v4, v3, y15, y17, rk 1 (dm (o + 8)) L q, hq1, by omega, y4, by rw [ey8, ← hnx]; rfl⟩, by omega⟩
  have sxv : ∀ d' : z_D, Ft c d d' → SX d' c y.2 o L := fun d' f => (hs.k (b := b) f.k hc).w fw
  have c0 := wq_c (B := dm (o + 8)) (L := L) (q := q) (w := 0) (x := 397345) (by omega) (by decide +kernel)
  have c1 := wq_c (B := dm (o + 8)) (L := L) (q := q) (w := 1) (x := 9746154) (by omega) (by decide +kernel)
  have c2 := wq_c (B := dm (o + 8)) (L := L) (q := q) (w := 2) (x := 10491962) (by omega) (by decide +kernel)
  have c10 := wq_c (B := dm (o + 8)) (L := L) (q := q) (w := 10) (x := 70340) (by omega) (by decide +kernel)
  have c11 := wq_c (B := dm (o + 8)) (L := L) (q := q) (w := 11) (x := 311436) (by omega) (by decide +kernel)
  have c12 := wq_c (B := dm (o + 8)) (L := L) (q := q) (w := 12) (x := 119163) (by omega) (by decide +kernel)
  have c14 := wq_c (B := dm (o + 8)) (L := L) (q := q) (w := 14) (x := 212650) (by omega) (by decide +kernel)
  have c15 := wq_c (B := dm (o + 8)) (L := L) (q := q) (w := 15) (x := 4075196) (by omega) (by decide +kernel)
  have c16 := wq_c (B := dm (o + 8)) (L := L) (q := q) (w := 16) (x := 350183) (by omega) (by decide +kernel)
  have c17 := wq_c (B := dm (o + 8)) (L := L) (q := q) (w := 17) (x := 5146) (by omega) (by decide +kernel)
  have c18 := wq_c (B := dm (o + 8)) (L := L) (q := q) (w := 18) (x := 523076) (by omega) (by decide +kernel)
  have c19 := wq_c (B := dm (o + 8)) (L := L) (q := q) (w := 19) (x := 1841972) (by omega) (by decide +kernel)
  unfold f_X7_tellStatement f_X9_statement
  rw [x_put, ey, x_bY, x_nam, y1, y3, ok_bX]
  refine ok_m (k_takes (w := 0) (by omega) s1 s3 s4 h1 h2) (fun v hv => ?_)
  rcases hv with ⟨b1, b2, b3, b4, b5⟩ | ⟨n0, rfl⟩
  · obtain ⟨l1, l2⟩ := hwd 0 v.2 (by omega) b1 b4 b5
    rw [b2, if_neg (by decide)]
    rw [if_pos (c0.mpr b1)]
    refine ok_m (s_team (wp := q) hc (sxv _ b3) l1 (by omega) (by rw [ey1]; exact st.t hc b3)) (fun x hx => ok_m hx.2 (fun d' hd' => ok_m hd' (fun dm' hm' => hm'.pre b3.k fw (by omega))))
  show ok (if (0 : Int32) = 0 then _ else _) _
  rw [if_pos rfl, ok_bX]
  refine ok_m (k_takes (w := 1) (by omega) s1 s3 s4 h1 h2) (fun v hv => ?_)
  rcases hv with ⟨b1, b2, b3, b4, b5⟩ | ⟨n1, rfl⟩
  · obtain ⟨l1, l2⟩ := hwd 1 v.2 (by omega) b1 b4 b5
    rw [b2, if_neg (by decide)]
    rw [if_neg (fun h9 => n0 (c0.mp h9)), if_pos (c1.mpr b1)]
    rw [x_bs, ok_bX]
    refine ok_m (s_rider (wp := q) hc (sxv _ b3) l1 (by omega) (by rw [ey1]; exact st.t hc b3)) (fun x hx => ?_)
    rw [x_bl hx.1, ok_s]
    exact ok_m hx.2 (fun d' hd' => ok_m hd' (fun dm' hm' => hm'.pre b3.k fw (by omega)))
  show ok (if (0 : Int32) = 0 then _ else _) _
  rw [if_pos rfl, ok_bX]
  refine ok_m (k_takes (w := 2) (by omega) s1 s3 s4 h1 h2) (fun v hv => ?_)
  rcases hv with ⟨b1, b2, b3, b4, b5⟩ | ⟨n2, rfl⟩
  · obtain ⟨l1, l2⟩ := hwd 2 v.2 (by omega) b1 b4 b5
    rw [b2, if_neg (by decide)]
    rw [if_neg (fun h9 => n0 (c0.mp h9)), if_neg (fun h9 => n1 (c1.mp h9)), if_pos (c2.mpr b1)]
    rw [x_bs, ok_bX]
    refine ok_m (s_stage (wp := q) hc (sxv _ b3) l1 (by omega) (by rw [ey1]; exact st.t hc b3)) (fun x hx => ?_)
    rw [x_bl hx.1, ok_s]
    exact ok_m hx.2 (fun d' hd' => ok_m hd' (fun dm' hm' => hm'.pre b3.k fw (by omega)))
  show ok (if (0 : Int32) = 0 then _ else _) _
  rw [if_pos rfl, ok_bX]
  refine ok_m (k_takes (w := 10) (by omega) s1 s3 s4 h1 h2) (fun v hv => ?_)
  rcases hv with ⟨b1, b2, b3, b4, b5⟩ | ⟨n10, rfl⟩
  · obtain ⟨l1, l2⟩ := hwd 10 v.2 (by omega) b1 b4 b5
    rw [b2, if_neg (by decide)]
    rw [if_neg (fun h9 => n0 (c0.mp h9)), if_neg (fun h9 => n1 (c1.mp h9)), if_neg (fun h9 => n2 (c2.mp h9)), if_pos (c10.mpr b1)]
    rw [x_bs, ok_bX]
    refine ok_m (s_come (wp := q) hc (sxv _ b3) l1 (by omega) (by rw [ey1]; exact st.t hc b3)) (fun x hx => ?_)
    rw [x_bl hx.1, ok_s]
    exact ok_m hx.2 (fun d' hd' => ok_m hd' (fun dm' hm' => hm'.pre b3.k fw (by omega)))
  show ok (if (0 : Int32) = 0 then _ else _) _
  rw [if_pos rfl, ok_bX]
  refine ok_m (k_takes (w := 11) (by omega) s1 s3 s4 h1 h2) (fun v hv => ?_)
  rcases hv with ⟨b1, b2, b3, b4, b5⟩ | ⟨n11, rfl⟩
  · obtain ⟨l1, l2⟩ := hwd 11 v.2 (by omega) b1 b4 b5
    rw [b2, if_neg (by decide)]
    rw [if_neg (fun h9 => n0 (c0.mp h9)), if_neg (fun h9 => n1 (c1.mp h9)), if_neg (fun h9 => n2 (c2.mp h9)), if_neg (fun h9 => n10 (c10.mp h9)), if_pos (c11.mpr b1)]
    rw [x_bs, ok_bX]
    refine ok_m (s_over (wp := q) hc (sxv _ b3) l1 (by omega) (by rw [ey1]; exact st.t hc b3)) (fun x hx => ?_)
    rw [x_bl hx.1, ok_s]
    exact ok_m hx.2 (fun d' hd' => ok_m hd' (fun dm' hm' => hm'.pre b3.k fw (by omega)))
  show ok (if (0 : Int32) = 0 then _ else _) _
  rw [if_pos rfl, ok_bX]
  refine ok_m (k_takes (w := 12) (by omega) s1 s3 s4 h1 h2) (fun v hv => ?_)
  rcases hv with ⟨b1, b2, b3, b4, b5⟩ | ⟨n12, rfl⟩
  · obtain ⟨l1, l2⟩ := hwd 12 v.2 (by omega) b1 b4 b5
    rw [b2, if_neg (by decide)]
    rw [if_neg (fun h9 => n0 (c0.mp h9)), if_neg (fun h9 => n1 (c1.mp h9)), if_neg (fun h9 => n2 (c2.mp h9)), if_neg (fun h9 => n10 (c10.mp h9)), if_neg (fun h9 => n11 (c11.mp h9)), if_pos (c12.mpr b1)]
    rw [x_bs, ok_bX]
    refine ok_m (s_fall (wp := q) hc (sxv _ b3) l1 (by omega) (by rw [ey1]; exact st.t hc b3)) (fun x hx => ?_)
    rw [x_bl hx.1, ok_s]
    exact ok_m hx.2 (fun d' hd' => ok_m hd' (fun dm' hm' => hm'.pre b3.k fw (by omega)))
  show ok (if (0 : Int32) = 0 then _ else _) _
  rw [if_pos rfl, ok_bX]
  refine ok_m (k_takes (w := 14) (by omega) s1 s3 s4 h1 h2) (fun v hv => ?_)
  rcases hv with ⟨b1, b2, b3, b4, b5⟩ | ⟨n14, rfl⟩
  · obtain ⟨l1, l2⟩ := hwd 14 v.2 (by omega) b1 b4 b5
    rw [b2, if_neg (by decide)]
    rw [if_neg (fun h9 => n0 (c0.mp h9)), if_neg (fun h9 => n1 (c1.mp h9)), if_neg (fun h9 => n2 (c2.mp h9)), if_neg (fun h9 => n10 (c10.mp h9)), if_neg (fun h9 => n11 (c11.mp h9)), if_neg (fun h9 => n12 (c12.mp h9)), if_pos (c14.mpr b1)]
    rw [x_bs, ok_bX]
    refine ok_m (s_jury (wp := q) hc (sxv _ b3) l1 (by omega) (by rw [ey1]; exact st.t hc b3)) (fun x hx => ?_)
    rw [x_bl hx.1, ok_s]
    exact ok_m hx.2 (fun d' hd' => ok_m hd' (fun dm' hm' => hm'.pre b3.k fw (by omega)))
  show ok (if (0 : Int32) = 0 then _ else _) _
  rw [if_pos rfl, ok_bX]
  refine ok_m (k_takes (w := 15) (by omega) s1 s3 s4 h1 h2) (fun v hv => ?_)
  rcases hv with ⟨b1, b2, b3, b4, b5⟩ | ⟨n15, rfl⟩
  · obtain ⟨l1, l2⟩ := hwd 15 v.2 (by omega) b1 b4 b5
    rw [b2, if_neg (by decide)]
    rw [if_neg (fun h9 => n0 (c0.mp h9)), if_neg (fun h9 => n1 (c1.mp h9)), if_neg (fun h9 => n2 (c2.mp h9)), if_neg (fun h9 => n10 (c10.mp h9)), if_neg (fun h9 => n11 (c11.mp h9)), if_neg (fun h9 => n12 (c12.mp h9)), if_neg (fun h9 => n14 (c14.mp h9)), if_pos (c15.mpr b1)]
    rw [x_bs]
    refine ok_m (s_grace (wp := q) hc (sxv _ b3) l1 (by omega) (by rw [ey1]; exact st.t hc b3)) (fun x hx => ok_m hx.2 (fun d' hd' => ok_m hd' (fun dm' hm' => hm'.pre b3.k fw (by omega))))
  show ok (if (0 : Int32) = 0 then _ else _) _
  rw [if_pos rfl, ok_bX]
  refine ok_m (k_takes (w := 16) (by omega) s1 s3 s4 h1 h2) (fun v hv => ?_)
  rcases hv with ⟨b1, b2, b3, b4, b5⟩ | ⟨n16, rfl⟩
  · obtain ⟨l1, l2⟩ := hwd 16 v.2 (by omega) b1 b4 b5
    rw [b2, if_neg (by decide)]
    rw [if_neg (fun h9 => n0 (c0.mp h9)), if_neg (fun h9 => n1 (c1.mp h9)), if_neg (fun h9 => n2 (c2.mp h9)), if_neg (fun h9 => n10 (c10.mp h9)), if_neg (fun h9 => n11 (c11.mp h9)), if_neg (fun h9 => n12 (c12.mp h9)), if_neg (fun h9 => n14 (c14.mp h9)), if_neg (fun h9 => n15 (c15.mp h9)), if_pos (c16.mpr b1)]
    rw [x_bs]
    refine ok_m (s_quit (wp := q) hc (sxv _ b3) l1 (by omega) (by rw [ey1]; exact st.t hc b3)) (fun x hx => ok_m hx.2 (fun d' hd' => ok_m hd' (fun dm' hm' => hm'.pre b3.k fw (by omega))))
  show ok (if (0 : Int32) = 0 then _ else _) _
  rw [if_pos rfl, ok_bX]
  refine ok_m (k_takes (w := 17) (by omega) s1 s3 s4 h1 h2) (fun v hv => ?_)
  rcases hv with ⟨b1, b2, b3, b4, b5⟩ | ⟨n17, rfl⟩
  · obtain ⟨l1, l2⟩ := hwd 17 v.2 (by omega) b1 b4 b5
    rw [b2, if_neg (by decide)]
    rw [if_neg (fun h9 => n0 (c0.mp h9)), if_neg (fun h9 => n1 (c1.mp h9)), if_neg (fun h9 => n2 (c2.mp h9)), if_neg (fun h9 => n10 (c10.mp h9)), if_neg (fun h9 => n11 (c11.mp h9)), if_neg (fun h9 => n12 (c12.mp h9)), if_neg (fun h9 => n14 (c14.mp h9)), if_neg (fun h9 => n15 (c15.mp h9)), if_neg (fun h9 => n16 (c16.mp h9)), if_pos (c17.mpr b1)]
    rw [x_bs]
    refine ok_m (s_gap (wp := q) hc (sxv _ b3) l1 (by omega) (by rw [ey1]; exact st.t hc b3)) (fun x hx => ok_m hx.2 (fun d' hd' => ok_m hd' (fun dm' hm' => hm'.pre b3.k fw (by omega))))
  show ok (if (0 : Int32) = 0 then _ else _) _
  rw [if_pos rfl, ok_bX]
  refine ok_m (k_takes (w := 18) (by omega) s1 s3 s4 h1 h2) (fun v hv => ?_)
  rcases hv with ⟨b1, b2, b3, b4, b5⟩ | ⟨n18, rfl⟩
  · obtain ⟨l1, l2⟩ := hwd 18 v.2 (by omega) b1 b4 b5
    rw [b2, if_neg (by decide)]
    rw [if_neg (fun h9 => n0 (c0.mp h9)), if_neg (fun h9 => n1 (c1.mp h9)), if_neg (fun h9 => n2 (c2.mp h9)), if_neg (fun h9 => n10 (c10.mp h9)), if_neg (fun h9 => n11 (c11.mp h9)), if_neg (fun h9 => n12 (c12.mp h9)), if_neg (fun h9 => n14 (c14.mp h9)), if_neg (fun h9 => n15 (c15.mp h9)), if_neg (fun h9 => n16 (c16.mp h9)), if_neg (fun h9 => n17 (c17.mp h9)), if_pos (c18.mpr b1)]
    rw [x_bs]
    refine ok_m (s_zone (wp := q) hc (sxv _ b3) l1 (by omega) (by rw [ey1]; exact st.t hc b3)) (fun x hx => ok_m hx.2 (fun d' hd' => ok_m hd' (fun dm' hm' => hm'.pre b3.k fw (by omega))))
  show ok (if (0 : Int32) = 0 then _ else _) _
  rw [if_pos rfl, ok_bX]
  refine ok_m (k_takes (w := 19) (by omega) s1 s3 s4 h1 h2) (fun v hv => ?_)
  rcases hv with ⟨b1, b2, b3, b4, b5⟩ | ⟨n19, rfl⟩
  · obtain ⟨l1, l2⟩ := hwd 19 v.2 (by omega) b1 b4 b5
    rw [b2, if_neg (by decide)]
    rw [if_neg (fun h9 => n0 (c0.mp h9)), if_neg (fun h9 => n1 (c1.mp h9)), if_neg (fun h9 => n2 (c2.mp h9)), if_neg (fun h9 => n10 (c10.mp h9)), if_neg (fun h9 => n11 (c11.mp h9)), if_neg (fun h9 => n12 (c12.mp h9)), if_neg (fun h9 => n14 (c14.mp h9)), if_neg (fun h9 => n15 (c15.mp h9)), if_neg (fun h9 => n16 (c16.mp h9)), if_neg (fun h9 => n17 (c17.mp h9)), if_neg (fun h9 => n18 (c18.mp h9)), if_pos (c19.mpr b1)]
    refine ok_m (s_close (wp := q) hc (sxv _ b3) l1 (by omega) (by rw [ey1]; exact st.t hc b3)) (fun x hx => ok_m hx.2 (fun d' hd' => ok_m hd' (fun dm' hm' => hm'.pre b3.k fw (by omega))))
  show ok (if (0 : Int32) = 0 then _ else _) _
  rw [if_pos rfl, k_cannot h1.2.2.1 h2, x_bX, ok_s]
  rw [if_neg (fun h9 => n0 (c0.mp h9)), if_neg (fun h9 => n1 (c1.mp h9)), if_neg (fun h9 => n2 (c2.mp h9)), if_neg (fun h9 => n10 (c10.mp h9)), if_neg (fun h9 => n11 (c11.mp h9)), if_neg (fun h9 => n12 (c12.mp h9)), if_neg (fun h9 => n14 (c14.mp h9)), if_neg (fun h9 => n15 (c15.mp h9)), if_neg (fun h9 => n16 (c16.mp h9)), if_neg (fun h9 => n17 (c17.mp h9)), if_neg (fun h9 => n18 (c18.mp h9)), if_neg (fun h9 => n19 (c19.mp h9))]
  have hf := m_fails (d := y.2) (o := o) (k := 1) (p := q) y15
  have ne : ¬ nI (1 + 8 * q) = 0 := nI_ne0 (by omega) (by omega)
  show ok (f_X6_endStatement (z_up d c 5 (nI (1 + 8 * q))) c (nI q) 0) (fun d' => ok ((f_X9_fails y.2 o (nI 1) (nI q)).bind _) _)
  rw [k_end0 (by rw [u_s]; exact ne), ok_s, hf, x_ob, ok_s]
  refine ⟨(Ft.u (by omega)).k, fw.tr (Fl.u (by omega)).w, Or.inr ⟨⟨?_, ?_⟩, _, t, n, s, st.congr (fun a a1 a2 => u_a (by omega))⟩⟩
  · rw [u_s]
    exact ne
  · rw [u_s, u_s]
