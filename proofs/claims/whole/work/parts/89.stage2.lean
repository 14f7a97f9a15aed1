/-! 89.stage2: stages told, with their marks -/
theorem lp_stage {b c o L wp t n s : Nat} {ρ ρ1 : Nat → Int32} {f0 : Bool} {x65 len : Int32} (hc : b + 173 ≤ c) (hwp : wp ≤ 600) (hrep : ∀ dx : z_D, dx (o + 1) = ρ → ok (f_X9_stages dx o x65 len) (fun u => (u.1 = -1 ↔ f0 = false) ∧ u.2 (o + 1) = ρ1 ∧ ∀ a, ¬ a = o + 1 → u.2 a = dx a)) : ∀ (m fc fm : Nat) (d dm : z_D) (q k : Nat) (last : Int32), L - q ≤ m → m + 2 < fc → m + 2 < fm → SX d c dm o L → LX d c dm o L q (2 * k + 1) → dm (o + 1) = ρ → dm (o + 9) 0 = len → St d b (rp (Am (dm (o + 9))) (f0, ρ1) k).2 t n s → (∀ j, j < k → ∃ dc b t n s, St dc b (rp (Am (dm (o + 9))) (f0, ρ1) j).2 t n s) →
    ok (f_X7_tellStage_L37 b c len (fun v18 d17 => (z_bool v18 (some (v18, d17)))) fc (b01 ((rp (Am (dm (o + 9))) (f0, ρ1) k).1 = true)) (last + 1) (nI k) d) (fun v => bl v.1 ∧ ok (f_X6_endStatement v.2 c (nI wp) v.1) (fun d' => ok (f_X9_stageTold_L112 o (nI wp) x65 len (fun d16 => z_bX (f_X9_ends d16 o) (fun v17 d18 => (if v17 = 0 then (some d18) else z_ald d18 (o + 9) 600 0 (fun v19 => z_bX (f_X9_stages d18 o x65 v19) (fun v20 d21 => z_let (fun x_276 : Int32 => ((f_X9_can d21 o x_276 (nI wp)).bind fun d22 => (f_X9_stageTold_L283 o (nI wp) (fun d29 => (some d29)) z_N 1 d22))) (fun J276 => (if v20 = (-1) then (J276 0) else (J276 1)))))))) fm last dm) (fun dm' => PS b c o L q d dm d' dm'))) := by
  intro m
  generalize hKM : (fun d16 : z_D => z_bX (f_X9_ends d16 o) (fun v17 d18 => (if v17 = 0 then (some d18) else z_ald d18 (o + 9) 600 0 (fun v19 => z_bX (f_X9_stages d18 o x65 v19) (fun v20 d21 => z_let (fun x_276 : Int32 => ((f_X9_can d21 o x_276 (nI wp)).bind fun d22 => (f_X9_stageTold_L283 o (nI wp) (fun d29 => (some d29)) z_N 1 d22))) (fun J276 => (if v20 = (-1) then (J276 0) else (J276 1)))))))) = KM
  induction m using Nat.strongRecOn with
  | _ m ih =>
    intro fc fm d dm q k last hm hfc hfm hs h hρ hlen st hst
    obtain ⟨gc, rfl⟩ : ∃ g, fc = g + 1 := ⟨fc - 1, by omega⟩
    obtain ⟨gm, rfl⟩ : ∃ g, fm = g + 1 := ⟨fm - 1, by omega⟩
    obtain ⟨s1, s2, s3, s4, s5⟩ := id hs
    obtain ⟨h1, h2, h3, h4, p, p1, p2, p3, p4⟩ := id h
    have hqL := h1.1
    have hpq : p ≤ q := by
      have := (rk_i (k := 4) (B := dm (o + 8)) (L := L) (p := p) (by omega)).1
      omega
    rw [L37u, L112u, m_step h3]
    unfold f_X7_tellStage_L37_b
    simp only [x_let, x_nam]
    obtain ⟨u, eu, u1, u2, u3⟩ := m_isWord (d := dm) (o := o) (w := 7) (x := 47) (by omega) (by decide +kernel) s1 s5 p3 p1
    rw [p4] at u1
    have LXu := h.z u2 (by rw [u3, p3])
    have SXu := hs.w u2.fl.w
    have eu1 : u.2 (o + 1) = dm (o + 1) := by
      funext i
      exact u2 _ _ (by omega)
    have eu9 : u.2 (o + 9) = dm (o + 9) := by
      funext i
      exact u2 _ _ (by omega)
    have eu8 : u.2 (o + 8) = dm (o + 8) := by
      funext i
      exact u2 _ _ (by omega)
    have hbF : bl (b01 ((rp (Am (dm (o + 9))) (f0, ρ1) k).1 = true)) := b01_b
    rw [if_neg (show ¬ (600 : Int32) ≤ nI k from fun h9 => by
      have := (nI_leI (a := 600) (by omega) (by omega)).mp h9
      omega), ok_bX, eu, x_bX]
    refine ok_m (k_takes (w := 7) (by omega) s1 s3 s4 h1 h2) (fun v hv => ?_)
    rcases hv with ⟨b1, b2, b3, b4, b5⟩ | ⟨b1, rfl⟩
    rotate_left
    · have u10 : u.1 = 0 := by
        rcases u1 with ⟨c1, -⟩ | ⟨-, c1⟩
        · exact absurd c1 b1
        · exact c1
      show ok (if (0 : Int32) = 0 then _ else _) _
      rw [u10, if_pos rfl, if_pos rfl, x_bl hbF, ← hKM]
      refine RT_X hbF hc SXu LXu (Nat.le_refl _) hwp ⟨_, _, _, _, st⟩ Fk.rf u2.fl.w (fun dx x1 x9 x15 x17 => ?_)
      rw [x_al0 (by omega) (by omega), x9, eu9, hlen, ok_bX]
      refine ok_m (hrep dx (by rw [x1, eu1, hρ])) (fun y hy => ?_)
      obtain ⟨y1, y2, y3⟩ := hy
      have yo : y.2 o = dx o := y3 o (by omega)
      have y15 : y.2 o 15 = 0 := by rw [yo, x15]
      rw [x_let]
      by_cases hf : f0 = true
      · subst hf
        rw [if_neg (fun h9 => absurd (y1.mp h9) (by decide))]
        dsimp only
        rw [m_can1 (by decide), x_ob]
        have hmm := m_marksL (dx := y.2) (o := o) (wp := wp) (K := k) (ρ := ρ1) hwp (by omega) y2 y15 (by rw [yo, x17]) (by rw [y3 _ (by omega), x9, eu9]; exact hst)
        rw [y3 _ (show ¬ o + 9 = o + 1 by omega), x9, eu9] at hmm
        refine ok_m hmm (fun dm3 h3' => ?_)
        obtain ⟨a1, a2, a3⟩ := h3'
        refine ⟨(Fw.R y3).tr a1, by rw [a2, yo], ?_⟩
        rcases a3 with ⟨a3, a4, a5⟩ | ⟨a3, a4⟩
        · exact Or.inl ⟨by rw [b01_t a3]; decide, a4, t, n, s, by rw [a5]; exact st⟩
        · exact Or.inr ⟨by rw [b01_f (by rw [a3]; decide)], a4⟩
      · have hf' : f0 = false := by
          cases f0 with
          | true => exact absurd rfl hf
          | false => rfl
        subst hf'
        rw [if_pos (y1.mpr rfl)]
        dsimp only
        rw [m_can0 (p := wp) rfl y15, x_ob]
        have hfl : (rp (Am (dm (o + 9))) (false, ρ1) k).1 = false := by
          have := rp_f (A := Am (dm (o + 9))) (z := (false, ρ1)) (i := 0) rfl k
          rw [Nat.zero_add] at this
          exact this
        have fin : ok (some (z_up y.2 o 15 (nI (3 + 8 * wp)))) (fun dm3 => Fw o dx dm3 ∧ dm3 o 13 = dx o 13 ∧ ((¬ b01 ((rp (Am (dm (o + 9))) (false, ρ1) k).1 = true) = 0 ∧ dm3 o 15 = 0 ∧ ∃ t n s, St d b (dm3 (o + 1)) t n s) ∨ (b01 ((rp (Am (dm (o + 9))) (false, ρ1) k).1 = true) = 0 ∧ dm3 o 15 = nI (3 + 8 * wp)))) := by
          rw [ok_s]
          exact ⟨(Fw.R y3).tr (Fl.u (by omega)).w, by rw [u_k (by omega), yo], Or.inr ⟨by rw [b01_f (by rw [hfl]; decide)], u_s _ _ _ _⟩⟩
        rw [show z_N = 5999 + 1 from rfl]
        show ok (f_X9_stageTold_L283_b o (nI wp) _ _ 1 _) _
        unfold f_X9_stageTold_L283_b
        by_cases hle : (z_up y.2 o 15 (nI (3 + 8 * wp))) o 17 ≤ 1
        · rw [if_pos hle]
          exact fin
        · rw [if_neg hle, if_neg (by rw [u_s]; exact nI_ne0 (by omega) (by omega))]
          exact fin
    have u11 : u.1 = 1 := by
      rcases u1 with ⟨-, c1⟩ | ⟨c1, -⟩
      · exact c1
      · exact absurd b1 c1
    obtain ⟨y, ey, y1, y2, y3, y4⟩ := m_word (d := u.2) (o := o) SXu.1 SXu.2.2.2.2 u3 p1
    rw [eu8, p4] at y4
    obtain ⟨l1, l2, -⟩ := LXu.wd (w := 7) (d' := v.2) (dm' := y.2) (by omega) (by rw [eu8]; exact b1) b4 (by rw [eu8]; exact b5) y2 (by rw [eu8]; exact y4)
    have ey1 : y.2 (o + 1) = dm (o + 1) := by
      rw [← eu1]
      funext i
      exact y2 _ _ (by omega)
    have ey9 : y.2 (o + 9) = dm (o + 9) := by
      rw [← eu9]
      funext i
      exact y2 _ _ (by omega)
    have SXy := (SXu.k (b := b) b3.k hc).w y2.fl.w
    have st1 : St v.2 b (rp (Am (dm (o + 9))) (f0, ρ1) k).2 t n s := st.t hc b3
    rw [u11, b2, if_neg (by decide), if_neg (by decide), ey, x_bY, ok_bX]
    refine ok_m (j_num SXy l1 (last + 1) (len - 1)) (fun v9 hv9 => ?_)
    obtain ⟨dm1, en1, f1, g1, hv9⟩ := hv9
    rw [en1, x_ob, ok_bX]
    have st2 := st1.t hc f1
    have SX1 := (SXy.k (b := b) f1.k hc).w g1.w
    have fw1 : Fw o dm dm1 := (u2.fl.w.tr y2.fl.w).tr g1.w
    have bad : ∀ (d2 dm2 : z_D) (x y' lst : Int32), LF d2 c dm2 o → Ft c d d2 → Fw o dm dm2 → ok (z_bX (f_X3_addMark d2 b x y') (fun v13 d14 => (if v13 = (-1) then (f_X7_tellStage_L37 b c len (fun v18 d17 => (z_bool v18 (some (v18, d17)))) gc 0 (x + 1) (nI k + 1) d14) else (if b01 ((rp (Am (dm (o + 9))) (f0, ρ1) k).1 = true) = 0 then (f_X7_tellStage_L37 b c len (fun v18 d17 => (z_bool v18 (some (v18, d17)))) gc 0 (x + 1) (nI k + 1) d14) else (f_X7_tellStage_L37 b c len (fun v18 d17 => (z_bool v18 (some (v18, d17)))) gc 1 (x + 1) (nI k + 1) d14))))) (fun v => bl v.1 ∧ ok (f_X6_endStatement v.2 c (nI wp) v.1) (fun d' => ok (f_X9_stageTold_L112 o (nI wp) x65 len KM gm lst dm2) (fun dm' => PS b c o L q d dm d' dm'))) := fun d2 dm2 x y' lst k0 k1 k2 => by
      rw [ok_bX]
      refine ok_m (k_mark (st.t hc k1) x y') (fun w hw => ?_)
      obtain ⟨w1, w2, w3⟩ := hw
      have k3 := k0.r (d' := w.2) (by rw [w2 c (Or.inr hc)])
      have ne : ¬ dm2 o 15 = 0 := by rw [k0.2]; exact k0.1
      obtain ⟨gm', rfl⟩ : ∃ g, gm = g + 1 := ⟨gm - 1, by omega⟩
      obtain ⟨gc', rfl⟩ : ∃ g, gc = g + 1 := ⟨gc - 1, by omega⟩
      have fin : ∀ p' : Bool, ok (f_X7_tellStage_L37 b c len (fun v18 d17 => (z_bool v18 (some (v18, d17)))) (gc' + 1) (b01 (p' = true)) (x + 1) (nI (k + 1)) w.2) (fun v => bl v.1 ∧ ok (f_X6_endStatement v.2 c (nI wp) v.1) (fun d' => ok (f_X9_stageTold_L112 o (nI wp) x65 len KM (gm' + 1) lst dm2) (fun dm' => PS b c o L q d dm d' dm'))) := fun p' => by
        rw [L37u, L112u]
        unfold f_X7_tellStage_L37_b f_X9_stageTold_L112_b
        rw [if_neg ne, if_neg (show ¬ (600 : Int32) ≤ nI (k + 1) from fun h9 => by
          have := (nI_leI (a := 600) (by omega) (by omega)).mp h9
          omega), k_takes0 k3.1, x_bX, if_pos rfl]
        dsimp only
        rw [x_bl b01_b, ← hKM]
        exact RT_F b01_b k3 ⟨_, _, _, _, w3⟩ (k1.k.tr (w2.k hc)) k2
      rw [and_in (fun z => (f_X7_tellStage_L37 b c len (fun v18 d17 => (z_bool v18 (some (v18, d17)))) (gc' + 1) z (x + 1) (nI k + 1) w.2)) rfl rfl, nI_1]
      exact fin _
    rcases hv9 with ⟨-, -, h1', v1, v1', q1⟩ | ⟨-, h1'⟩
    rotate_left
    · have ne : ¬ dm1 o 15 = 0 := by rw [h1'.2]; exact h1'.1
      rw [j_how0 h1', ok_s, if_neg ne, m_fails0 ne, x_ob]
      exact bad _ _ _ _ _ h1' (b3.tr f1) fw1
    have d715 : dm1 o 15 = 0 := h1'.2.2.1
    have d717 : dm1 o 17 = nI (2 * k + 1 + 1) := h1'.2.2.2.1
    have hz1 := h1'.1.1
    rw [if_pos d715, d717, nI_pred, x_ald _ (by omega) (by omega), v1]
    refine ok_m (j_how SX1 h1') (fun v11 hv11 => ?_)
    obtain ⟨dm2, en2, f2, g2, hv11⟩ := hv11
    rw [en2]
    have st3 := st2.t hc f2
    have SX2 := (SX1.k (b := b) f2.k hc).w g2.w
    have fw2 : Fw o dm dm2 := fw1.tr g2.w
    rcases hv11 with ⟨q', q2, h2', v2, v3⟩ | ⟨-, h2'⟩
    rotate_left
    · exact bad _ _ _ _ _ h2' ((b3.tr f1).tr f2) fw2
    have tsame : ∀ i, i < 2 * k + 1 → dm2 (o + 9) i = dm (o + 9) i := fun i hi => by rw [v3 _ (by omega), v1' _ (by omega), ey9]
    have t1 : dm2 (o + 9) (2 * k + 1) = v9.1 := by rw [v3 _ (by omega), v1]
    have t2 : dm2 (o + 9) (2 * k + 2) = v11.1 := v2
    have hrp : ∀ j, j ≤ k → rp (Am (dm2 (o + 9))) (f0, ρ1) j = rp (Am (dm (o + 9))) (f0, ρ1) j := fun j hj => rp_cong j (fun ρ' i hi => by
      unfold Am
      rw [tsame _ (by omega), tsame _ (by omega)])
    have hsucc : rp (Am (dm2 (o + 9))) (f0, ρ1) (k + 1) = ((rp (Am (dm (o + 9))) (f0, ρ1) k).1 && decide (¬ (a_mark (rp (Am (dm (o + 9))) (f0, ρ1) k).2 v9.1 v11.1).1 = -1), (a_mark (rp (Am (dm (o + 9))) (f0, ρ1) k).2 v9.1 v11.1).2) := by
      show ((rp (Am (dm2 (o + 9))) (f0, ρ1) k).1 && decide (¬ (a_mark (rp (Am (dm2 (o + 9))) (f0, ρ1) k).2 (dm2 (o + 9) (2 * k + 1)) (dm2 (o + 9) (2 * k + 2))).1 = -1), (a_mark (rp (Am (dm2 (o + 9))) (f0, ρ1) k).2 (dm2 (o + 9) (2 * k + 1)) (dm2 (o + 9) (2 * k + 2))).2) = _
      rw [hrp k (Nat.le_refl _), t1, t2]
    rw [ok_bX]
    refine ok_m (k_mark st3 v9.1 v11.1) (fun w hw => ?_)
    obtain ⟨w1, w2, w3⟩ := hw
    have er2 : dm2 (o + 1) = dm (o + 1) := by rw [g2.1 _ (by omega) (by omega), g1.1 _ (by omega) (by omega), ey1]
    have l3 := h2'.r (d' := w.2) (by rw [w2 c (Or.inr hc)])
    have hz2 := h2'.1.1
    have go : ok (f_X7_tellStage_L37 b c len (fun v18 d17 => (z_bool v18 (some (v18, d17)))) gc (b01 ((rp (Am (dm2 (o + 9))) (f0, ρ1) (k + 1)).1 = true)) (v9.1 + 1) (nI (k + 1)) w.2) (fun v => bl v.1 ∧ ok (f_X6_endStatement v.2 c (nI wp) v.1) (fun d' => ok (f_X9_stageTold_L112 o (nI wp) x65 len KM gm v9.1 dm2) (fun dm' => PS b c o L q d dm d' dm'))) := by
      refine ok_m (ih (m - 1) (by omega) gc gm w.2 dm2 _ (k + 1) v9.1 ?_ (by omega) (by omega) (SX2.k (b := b) (w2.k hc) hc) l3 (by rw [er2, hρ]) (by rw [tsame 0 (by omega), hlen]) (by rw [hsucc]; exact w3) (fun j hj => ?_)) (fun x hx => ⟨hx.1, ok_m hx.2 (fun d' hd' => ok_m hd' (fun dm' hm' => hm'.pre (((b3.k.tr f1.k).tr f2.k).tr (w2.k hc)) fw2 (by omega)))⟩)
      · omega
      · rw [hrp j (by omega)]
        by_cases hjk : j = k
        · subst hjk
          exact ⟨_, _, _, _, _, st⟩
        · exact hst j (by omega)
    rw [hsucc, ← w1] at go
    rw [and_in (fun z => (f_X7_tellStage_L37 b c len (fun v18 d17 => (z_bool v18 (some (v18, d17)))) gc z (v9.1 + 1) (nI k + 1) w.2)) rfl rfl, nI_1]
    exact go
