/-! 7l.jtot2: total alike -/
theorem j_total {d dm : z_D} {o a t n s : Nat} (h : St d (a + 1) (dm (o + 1)) t n s) (x y : Int32) : ok (f_X8_total d a x y) (fun v => ok (f_X9_total dm o x y) (fun w => v = w.1 ∧ Fq o dm w.2)) := by
  obtain ⟨cl, cl1, cl2, cl3, cl4⟩ := h.clos
  have hs8 := h.1.2.2.1.2
  have hn16 := h.1.2.1.2
  have ht := h.1.1.2
  have h' := h.tz
  have e1 : (z_up dm o 0 0) (o + 1) = dm (o + 1) := u_a (by omega)
  have cl3' : (z_up dm o 0 0) (o + 1) 2 - (z_up dm o 0 0) (o + 1) 3 = nI cl := by rw [e1]; exact cl3
  unfold f_X8_total f_X9_total
  rw [x_put]
  by_cases hy : y = 0
  · rw [if_pos hy, if_pos hy, k_isIn h, m_isThere h'.1, x_ob, x_ob, x_ifb0, x_ifb0, e1]
    by_cases hx : th (dm (o + 1)) x
    rotate_left
    · rw [if_neg hx, if_neg hx, ok_s, ok_s]
      exact ⟨rfl, Fq.t⟩
    rw [if_pos hx, if_pos hx]
    obtain ⟨r, hr, rfl, -⟩ := (th_iff h.1.2.1.1 hn16).mp hx
    rw [k_sumOf (g := ntv (dm (o + 1)) r) cl2 (by omega) (fun j hj => k_netTime (by omega) (cl4 j hj).1 (cl4 j hj).2), x_ob, m_totalBut (by omega) cl3' (by omega) (by rw [e1]; exact fun j hj => h.fpos r j (by omega) (by omega)), x_ob, ok_s, ok_s, e1]
    exact ⟨rfl, Fq.t⟩
  rw [if_neg hy, if_neg hy, q_closedMany, cl3', x_ob]
  have e0 : d (a + 1) 0 = nI t := by rw [h.2.1.1, h.1.1.1]
  by_cases h0 : cl = 0
  · subst h0
    rw [if_pos (show nI 0 ≤ 0 by decide)]
    unfold f_X3_isRanked
    rw [cl2, x_ob, if_pos nI_0, x_ob, if_pos rfl, ok_s, ok_s]
    exact ⟨rfl, Fq.t⟩
  rw [if_neg (show ¬ nI cl ≤ 0 from fun h9 => by
    have := (nI_leI (b := 0) (by omega) (by omega)).mp h9
    omega)]
  have q0 : (z_up dm o 0 0) (o + 1) 0 = nI t := by rw [e1, h.1.1.1]
  rw [x_aldL 0 (show 0 < 2656 by omega) (by omega)]
  show ok _ (fun v => ok ((f_X9_isIn x 0 ((z_up dm o 0 0) (o + 1) 0 - 1)).bind _) _)
  rw [q0, x_wi, x_ob, x_ifb0]
  by_cases hx : 0 ≤ x ∧ x ≤ nI t - 1
  rotate_left
  · rw [if_neg hx]
    unfold f_X3_isRanked
    rw [cl2, x_ob, if_neg (fun h9 => h0 ((nI_eq (by omega) (by omega)).mp (h9.trans nI_0.symm))), e0, x_w, x_ob, x_ifb0, if_neg hx, x_ob, if_pos rfl, ok_s, ok_s]
    exact ⟨rfl, Fq.t⟩
  rw [if_pos hx]
  obtain ⟨k, hk, rfl⟩ := (i_rng (by omega)).mp hx
  rw [k_isRankedC h cl2 (by omega) (by omega) hk, m_isTeamOn h' hk, x_ob, x_ob, x_ifb0, x_ifb0, e1]
  by_cases h3 : 3 ≤ fb_ct (tmP (dm (o + 1)) k) n
  rotate_left
  · rw [if_neg h3, if_neg h3, ok_s, ok_s]
    exact ⟨rfl, Fq.t⟩
  rw [if_pos h3, if_pos h3]
  obtain ⟨g, hg⟩ := St.tms (t := t) (s := s) cl4
  rw [k_tsum (k := k) h cl2 (by omega) cl4 hg, x_ob, ok_s, ok_bX]
  refine ok_m (m_tsum (k := k) (g := g) h' cl3' cl1 (by rw [e1]; exact hg)) (fun w hw => ?_)
  obtain ⟨w1, w2⟩ := hw
  rw [ok_s, w1, e1]
  refine ⟨rfl, fun q q1 _ _ q4 => ?_, fun q q1 _ _ => ?_⟩
  · rw [w2 q q4, u_a q1]
  · rw [w2 o (by omega), u_k q1]
