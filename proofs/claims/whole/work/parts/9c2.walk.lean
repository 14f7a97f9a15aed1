/-! 9c2.walk: from the law's entry to its loop -/
theorem ew_1 : Cond.classLink RL 8 RX8 ∈ lw_tbl := tb_1 (List.mem_of_getElem? (i := 21) (by decide +kernel) : Cond.classLink RL 8 RX8 ∈ tables_1_1)
theorem ew_2 : Cond.classLink RL 16 RX9 ∈ lw_tbl := tb_5 (List.mem_of_getElem? (i := 52) (by decide +kernel) : Cond.classLink RL 16 RX9 ∈ tables_1_5)
theorem ew_3 : Cond.methodLink RL 15 yX8_init ∈ lw_tbl := tb_1 (List.mem_of_getElem? (i := 23) (by decide +kernel) : Cond.methodLink RL 15 yX8_init ∈ tables_1_1)
theorem ew_4 : Cond.methodLink RL 18 yX9_init ∈ lw_tbl := tb_5 (List.mem_of_getElem? (i := 54) (by decide +kernel) : Cond.methodLink RL 18 yX9_init ∈ tables_1_5)
theorem ew_5 : Cond.instanceMethod yX8_init ∈ lw_tbl := tb_1 (List.mem_of_getElem? (i := 24) (by decide +kernel) : Cond.instanceMethod yX8_init ∈ tables_1_1)
theorem ew_6 : Cond.instanceMethod yX9_init ∈ lw_tbl := tb_5 (List.mem_of_getElem? (i := 55) (by decide +kernel) : Cond.instanceMethod yX9_init ∈ tables_1_5)
theorem ew_7 : Cond.initialized RX8 ∈ lw_tbl := tb_1 (List.mem_of_getElem? (i := 1) (by decide +kernel) : Cond.initialized RX8 ∈ tables_1_1)
theorem ew_8 : Cond.initialized RX9 ∈ lw_tbl := tb_1 (List.mem_of_getElem? (i := 8) (by decide +kernel) : Cond.initialized RX9 ∈ tables_1_1)
theorem Z0 {d : z_D} (hv1 : ∀ a k, a < 355 → d a k = if (a = 1 ∨ a = 174) ∧ k = 4 then 10 else if (a = 1 ∨ a = 174) ∧ k = 5 then 3 else 0) (hv2 : ∀ a k, 355 ≤ a → a < 365 → d a k = if a = 356 ∧ k = 4 then 10 else if a = 356 ∧ k = 5 then 3 else 0) : Z 0 355 z_nn d := by
  have dz : ∀ a k, a < 355 → ¬ a = 1 → ¬ a = 174 → d a k = 0 := fun a k h1 h2 h3 => by rw [hv1 a k h1, if_neg (by omega), if_neg (by omega)]
  have d1 : ∀ k, ¬ k = 4 → ¬ k = 5 → d 1 k = 0 := fun k h1 h2 => by rw [hv1 1 k (by omega), if_neg (by omega), if_neg (by omega)]
  have d14 : d 1 4 = 10 := by rw [hv1 1 4 (by omega), if_pos (by omega)]
  have d15 : d 1 5 = 3 := by rw [hv1 1 5 (by omega), if_neg (by omega), if_pos (by omega)]
  have mz : ∀ a k, 355 ≤ a → a < 365 → ¬ a = 356 → d a k = 0 := fun a k h1 h2 h3 => by rw [hv2 a k h1 h2, if_neg (by omega), if_neg (by omega)]
  have m1 : ∀ k, ¬ k = 4 → ¬ k = 5 → d 356 k = 0 := fun k h1 h2 => by rw [hv2 356 k (by omega) (by omega), if_neg (by omega), if_neg (by omega)]
  have m14 : d 356 4 = 10 := by rw [hv2 356 4 (by omega) (by omega), if_pos (by omega)]
  have m15 : d 356 5 = 3 := by rw [hv2 356 5 (by omega) (by omega), if_neg (by omega), if_pos (by omega)]
  have sb : ∀ c, c + 20 < 355 → ¬ c = 1 → ¬ c = 174 → ¬ c + 14 = 1 → ¬ c + 14 = 174 → ¬ c + 20 = 1 → ¬ c + 20 = 174 → SB d c := fun c h1 h2 h3 h4 h5 h6 h7 => ⟨Or.inl (dz c 19 (by omega) h2 h3), fun r _ => ⟨Or.inl (dz (c + 14) r (by omega) h4 h5), Or.inl (dz (c + 20) r (by omega) h6 h7)⟩⟩
  refine ⟨⟨0, 0, 0, ?_⟩, fun j hj => sb _ (by omega) (by omega) (by omega) (by omega) (by omega) (by omega) (by omega), ⟨0, ?_⟩, fun x hx => Or.inl ⟨rfl, mz 359 x (by omega) (by omega) (by omega)⟩, fun r r' h => by cases h⟩
  · show St d 1 (d 356) 0 0 0
    refine ⟨⟨⟨by rw [m1 0 (by omega) (by omega), nI_0], by omega⟩, ⟨by rw [m1 1 (by omega) (by omega), nI_0], by omega⟩, ⟨by rw [m1 2 (by omega) (by omega), nI_0], by omega⟩, Or.inl (m1 3 (by omega) (by omega)), ⟨10, by omega, by omega, m14.trans (by decide)⟩, ⟨3, by omega, m15.trans (by decide)⟩⟩, ⟨?_, ?_, ?_, ?_, ?_, ?_⟩, fun r hr => absurd hr (Nat.not_lt_zero r), fun j hj => absurd hj (Nat.not_lt_zero j), fun h => ?_, fun j hj => absurd hj (Nat.not_lt_zero j), fun r _ => Or.inl (dz 4 r (by omega) (by omega) (by omega)), fun j hj => sb _ (by omega) (by omega) (by omega) (by omega) (by omega) (by omega) (by omega)⟩
    · rw [d1 0 (by omega) (by omega), m1 0 (by omega) (by omega)]
    · rw [d1 1 (by omega) (by omega), m1 1 (by omega) (by omega)]
    · rw [d1 2 (by omega) (by omega), m1 2 (by omega) (by omega)]
    · rw [d1 3 (by omega) (by omega), m1 3 (by omega) (by omega)]
    · rw [d14, m14]
    · rw [d15, m15]
    · rw [m1 3 (by omega) (by omega)] at h
      exact absurd h (by decide)
  · show TA d 353 d 355 0
    refine ⟨by omega, by rw [dz 353 1 (by omega) (by omega) (by omega), nI_0], by rw [mz 355 11 (by omega) (by omega) (by omega), nI_0], fun i _ => ?_, fun i _ => ?_, ?_⟩
    · show -128 ≤ d 363 i ∧ d 363 i ≤ 127
      rw [mz 363 i (by omega) (by omega) (by omega)]
      decide
    · show d 354 i = d 363 i
      rw [dz 354 i (by omega) (by omega) (by omega), mz 363 i (by omega) (by omega) (by omega)]
    · rw [dz 353 5 (by omega) (by omega) (by omega), mz 355 15 (by omega) (by omega) (by omega)]
theorem z_df9 (b : Nat) (j : Nat) (hj : j < 18) : defaultValue (tyX9 j) = z_fv b 7 z_nn (fun _ => 0) j := by
  rcases (show j = 0 ∨ j = 1 ∨ j = 2 ∨ j = 3 ∨ j = 4 ∨ j = 5 ∨ j = 6 ∨ j = 7 ∨ j = 8 ∨ j = 9 ∨ j = 10 ∨ j = 11 ∨ j = 12 ∨ j = 13 ∨ j = 14 ∨ j = 15 ∨ j = 16 ∨ j = 17 by omega) with rfl | rfl | rfl | rfl | rfl | rfl | rfl | rfl | rfl | rfl | rfl | rfl | rfl | rfl | rfl | rfl | rfl | rfl <;> rfl
theorem A_BT0_kp {w w' : z_W} {o : Nat} (h : z_kp w w' o) (ho : 355 ≤ o) (hA : A_BT w.1 0) : A_BT w'.1 0 := by
  obtain ⟨b1, ⟨b2, b3, b4, b5⟩, rf9, b6⟩ := hA
  exact ⟨fun o9 ho9 => h.at (b1 o9 ho9) (by omega), ⟨A_Race.kp h b2 (by omega), A_Race.kp h b3 (by omega), A_Standings.kp h b4 (by omega), A_Tape.kp h b5 (by omega)⟩, rf9, h.at b6 (by omega)⟩
section
variable {E : z_E} {l : Launch} {p : Program} {e : Env} {s : State} {m : MethodId} {below : List Frame} {meth : Method} {c : Code} {b L : Nat} {xs : Nat → Int32} {Q : State → Prop} {H : Heap} {locs : List Loc} {k n pc : Nat} {ls : Array Slot} {st : List Value} {w : z_W}
theorem lw_newL (F : lw_C E p s m c b L xs) (hts : ∀ w ∈ lw_tbl, w.before #[Value.ref b] s = true) (hlg : w.1.2.2 w.1.1 = 0) (hk : k + 1 ≤ room_1.cells) (hn : n + 1 ≤ room_1.slots) (hH : z_H E w H) (hS : va_S (z_A E) s.heap H locs) (K : ∀ H1, z_H E (z_wadd w (13, 1, z_nn)) H1 → va_S (z_A E) s.heap H1 locs → W p l e room_1 s m #[Value.ref b] below meth c H1 locs (k + 1) (n + 1) Q (F0 m 19 ls (.ref (E.2.1 + w.1.1) :: st))) : W p l e room_1 s m #[Value.ref b] below meth c H locs k n Q (F0 m 17 ls (.int 1 :: st)) := by
  refine va_newaK (atype := .long) F.1.1 F.1.2.1 (hts _ sw_al) rfl dL_law_17 rfl (by decide) (N := 1) (by decide) (by decide) hk hn (h := E.2.1 + w.1.1) hH.2 fun H1 cA e1 z1 o1 hAr hNm => ?_
  have hcA : cA = E.2.2.1 13 := Option.some.inj (hNm.symm.trans (F.2.1.2 5 (E.2.2.1 13, .long) rfl).2)
  subst hcA
  refine K H1 (lw_born hH (by decide) ?_ (by rw [z1, hH.2]) (fun q hq => o1 q (by rw [← hH.2]; exact hq))) ⟨Nat.le_trans hS.1 (by rw [z1, hH.2]; omega), fun q h1 h2 => (o1 q (by rw [← hH.2]; exact Nat.lt_of_lt_of_le h1 hS.1)).trans (hS.2.1 q h1 h2), hS.2.2⟩
  rw [hlg, z_cell, if_neg (by decide), if_neg (by decide), if_neg (by decide)]
  exact e1
theorem lw_part2 (hlf : l.stackTraces = false) (hXX : z_X E s s.heap) (F : lw_C E p s m c b L xs) (hr : meth.sig.returnType = ret) (hlk : meth.locks = false) (hts : ∀ w ∈ lw_tbl, w.before #[Value.ref b] s = true) {w2 : z_W} (h1 : w2.1.1 = 355) (hlg : w2.1.2.2 = fun _ => 0) (hBT : A_BT w2.1 0) (hrf : z_at w2.1 347 (11, 2, z_nn)) (hv : ∀ a k, a < 355 → w2.2 a k = if (a = 1 ∨ a = 174) ∧ k = 4 then 10 else if (a = 1 ∨ a = 174) ∧ k = 5 then 3 else 0) (hH : z_H E w2 H) (hS : va_S (z_A E) s.heap H locs) (hl : lv_has ls 7 [(1, .ref (E.2.1 + 0)), (0, .ref b)]) : W p l e room_1 s m #[Value.ref b] below meth c H locs 355 6702 (lw_Z below #[Value.ref b] s) (F0 m 8 ls []) := by
  refine lw_new (ci := 7) (w := w2) F hts rfl (by decide) wlt_wsX90 tyX9 tyX9_ok ew_2 iw_X9 ew_8 (z_df9 _) (Nat.le_of_ble_eq_true rfl) (Nat.le_of_ble_eq_true rfl) hH hS 11 rfl dL_law_8 (fun H1 hH1 hS1 => ?_)
  rw [h1]
  refine lv_dup F.1.1 F.1.2.1 dL_law_11 rfl ?_
  have hp : z_Pre (z_wadd w2 (7, 18, z_nn)) 355 7 18 := by
    have h9 := z_pnew w2 7 18
    rw [h1] at h9
    exact h9
  have kp3 : z_kp w2 (z_wadd w2 (7, 18, z_nn)) 355 := z_kp_add _ _ _
  generalize z_wadd w2 (7, 18, z_nn) = w3 at hp kp3 hH1
  refine lw_init F hts (c_X9_init (E := E) (l := l) w3 355 hp) ok_X9_init rfl ⟨Nat.le_of_ble_eq_true rfl, Nat.le_of_ble_eq_true rfl⟩ ⟨Nat.le_of_ble_eq_true rfl, Nat.le_of_ble_eq_true rfl⟩ (Nat.le_of_ble_eq_true rfl) gL_law_X9_init ew_8 ew_4 ew_6 rfl hH1 hS1 hl 15 rfl dL_law_12 (fun H2 locs2 hH2 hS2 => ?_)
  obtain ⟨m1, m2, m3, m4⟩ := p_Model hp
  generalize W_Model w3 355 = w4 at m1 m2 m3 m4 hH2
  refine lv_astore_n (lv' := [(2, .ref (E.2.1 + 355)), (1, .ref (E.2.1 + 0)), (0, .ref b)]) F.1.1 F.1.2.1 dL_law_15 rfl hl (by decide) rfl (fun ls2 hl2 => ?_)
  refine lv_iconst (v := 1) F.1.1 F.1.2.1 dL_law_16 rfl ?_
  refine lw_newL (w := w4) F hts (by rw [m2.2.1, kp3.2.1, hlg]) (Nat.le_of_ble_eq_true rfl) (Nat.le_of_ble_eq_true rfl) hH2 hS2 (fun H3 hH3 hS3 => ?_)
  have e4 : w4.1.1 = 365 := m1
  rw [e4]
  have kp5 : z_kp w4 (z_wadd w4 (13, 1, z_nn)) 355 := z_kp_add _ _ _
  have kp5' : z_kp w4 (z_wadd w4 (13, 1, z_nn)) 365 := z_kp_add _ _ _
  have hou : z_at (z_wadd w4 (13, 1, z_nn)).1 365 (13, 1, z_nn) := by
    have h9 := z_at_new w4 (13, 1, z_nn)
    rw [e4] at h9
    exact h9
  generalize z_wadd w4 (13, 1, z_nn) = w5 at kp5 kp5' hou hH3
  have kp : z_kp w2 w5 355 := (kp3.tr m2 (Or.inl rfl)).tr kp5 (Or.inl rfl)
  have hI : z_I w5.1 w5.2 z_nn := by
    refine ⟨A_BT0_kp kp (Nat.le_refl _) hBT, kp.at hrf (by omega), A_Model.kp kp5' m3 (Or.inr (Nat.le_refl _)), hou, fun j r hj h => (by cases h), Z0 (fun a k ha => ?_) (fun a k h1 h2 => ?_)⟩
    · rw [(kp.2.2 a (by omega) (by omega)).2]
      exact hv a k ha
    · rw [(kp5'.2.2 a (by omega) (by omega)).2]
      exact m4 a k h1 h2
  refine lv_astore_n (lv' := [(3, .ref (E.2.1 + 365)), (2, .ref (E.2.1 + 355)), (1, .ref (E.2.1 + 0)), (0, .ref b)]) F.1.1 F.1.2.1 dL_law_19 rfl hl2 (by decide) rfl (fun ls3 hl3 => ?_)
  refine lv_iconst (v := 0) F.1.1 F.1.2.1 dL_law_20 rfl ?_
  refine lv_istore (lv' := [(4, .int 0), (3, .ref (E.2.1 + 365)), (2, .ref (E.2.1 + 355)), (1, .ref (E.2.1 + 0)), (0, .ref b)]) F.1.1 F.1.2.1 dL_law_21 hl3 (by decide) rfl (fun ls4 hl4 => ?_)
  have hl5 : lv_has ls4 7 (lw_lv E b 0) := lv_sub hl4 [4, 3, 2, 1, 0] rfl
  have hL := F.2.2.2.2.2.2
  exact lw_loop hlf hXX F hr hlk 513 0 w5.1 w5.2 z_nn H3 locs2 _ _ ls4 (by omega) (Nat.zero_le L) (Nat.le_of_ble_eq_true rfl) (Nat.le_of_ble_eq_true rfl) hI hH3 hS3 hl5
end
def lw_w0 : z_W := ((0, (fun _ => (15, 0, z_nn)), fun _ => 0), fun _ _ => 0)
theorem whole_start {p : Program} {e : Env} {s : State} {m : MethodId} {below : List Frame} {meth : Method} {c : Code} (l : Launch) (hflags : l.flags = flags0) {b L : Nat} {xs : Nat → Int32} (hL : L ≤ 3072) (C0 : lw_At p s m meth c b L xs) : W p l e room_1 s m #[Value.ref b] below meth c s.heap [] 0 0 (lw_Z below #[Value.ref b] s) (entryFrame m ([Value.ref b] : List Value).toArray 7) := by
  obtain ⟨hx, hb, hr, hml, hown, hts, hX, hbl, hlocks, hgv⟩ := id C0
  obtain ⟨E, hE, hK, hSt, hXX⟩ := lw_E C0
  have F : lw_C E p s m c b L xs := ⟨⟨hx, hb, hml, hown, fun w h => hts w (wsL_law_in w h)⟩, hK, hSt, hE, hX, hbl, hL⟩
  have hlf : l.stackTraces = false := by
    unfold Launch.stackTraces
    rw [hflags]
    decide +kernel
  have hH0 : z_H E lw_w0 s.heap := ⟨fun k q h => absurd (show ([] : va_W)[k]? = some q from h) (by simp), hE.symm⟩
  have hS0 : va_S (z_A E) s.heap s.heap [] := va_S.rf
  have hl := lv_entry ([Value.ref b]) (n := 7) (Nat.le_of_ble_eq_true rfl)
  rw [lg_entry_eq]
  generalize (lg_sl ([Value.ref b]) ++ List.replicate (7 - (lg_sl ([Value.ref b])).length) Slot.unset).toArray = ls at hl ⊢
  have hl : lv_has ls 7 [(0, .ref b)] := hl
  refine lw_new (ci := 6) (w := lw_w0) F hts rfl (by decide) wlt_wsX80 tyX8 tyX8_ok ew_1 iw_X8 ew_7 (fun j hj => match j, hj with | 0, _ => rfl | 1, _ => rfl | 2, _ => rfl | 3, _ => rfl | 4, _ => rfl) (Nat.le_of_ble_eq_true rfl) (Nat.le_of_ble_eq_true rfl) hH0 hS0 3 rfl dL_law_0 (fun H1 hH1 hS1 => ?_)
  have e0 : lw_w0.1.1 = 0 := rfl
  rw [e0]
  refine lv_dup F.1.1 F.1.2.1 dL_law_3 rfl ?_
  have hp : z_Pre (z_wadd lw_w0 (6, 5, z_nn)) 0 6 5 := z_pnew lw_w0 6 5
  have hlg : (z_wadd lw_w0 (6, 5, z_nn)).1.2.2 = fun _ => 0 := rfl
  generalize z_wadd lw_w0 (6, 5, z_nn) = w1 at hp hlg hH1
  refine lw_init F hts (c_X8_init (E := E) (l := l) w1 0 hp) ok_X8_init rfl ⟨Nat.le_of_ble_eq_true rfl, Nat.le_of_ble_eq_true rfl⟩ ⟨Nat.le_of_ble_eq_true rfl, Nat.le_of_ble_eq_true rfl⟩ (Nat.le_of_ble_eq_true rfl) gL_law_X8_init ew_7 ew_3 ew_5 rfl hH1 hS1 hl 7 rfl dL_law_4 (fun H2 locs2 hH2 hS2 => ?_)
  obtain ⟨m1, m2, m3, m4, m5⟩ := p_BT hp
  generalize W_BT w1 0 = w2 at m1 m2 m3 m4 m5 hH2
  refine lv_astore_n (lv' := [(1, .ref (E.2.1 + 0)), (0, .ref b)]) F.1.1 F.1.2.1 dL_law_7 rfl hl (by decide) rfl (fun ls2 hl2 => ?_)
  refine lw_part2 hlf hXX F hr hlocks hts (w2 := w2) (m1.trans rfl) (by rw [m2.2.1, hlg]) m3 m4 (fun a k ha => ?_) hH2 hS2 hl2
  have h9 := m5 a k (Nat.zero_le _) (by omega)
  rw [h9, Nat.zero_add, Nat.zero_add]
