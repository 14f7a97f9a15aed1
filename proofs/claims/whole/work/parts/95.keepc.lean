/-! 95.keepc: the law's cases of keep and back -/
section
variable {E : z_E} {l : Launch} {p : Program} {e : Env} {s : State} {m : MethodId} {below : List Frame} {meth : Method} {c : Code} {b L i : Nat} {xs : Nat → Int32} {Q : State → Prop} {H : Heap} {locs : List Loc} {k n : Nat} {ls : Array Slot} {S : z_S} {d : z_D} {rf : Nat → Option Nat}
theorem lk_keep {resc : Option (Int32 × z_W)} {v : Int32} {S2 : z_S} {dA : z_D} {w : Int32 × z_D} {rf2 : Nat → Option Nat} (F : lw_C E p s m c b L xs) (hI : z_I S d rf) (hi : i + 6 ≤ L) (hkn : k + 173 ≤ room_1.cells ∧ n + 3010 ≤ room_1.slots) (hM : z_Sp E l yX8_keep Y_X8_keep cvP [.ref (E.2.1 + 0), .int (xs (i + 1))] (S, d) resc) (hr : resc = some (v, (S2, dA))) (ew : f_X9_keep dA 355 (xs (i + 1)) = some w) (hv : v = w.1) (hI2 : z_I S2 w.2 rf2) (hH : z_H E (S, d) H) (hS : va_S (z_A E) s.heap H locs) (hl : lv_has ls 7 (lw_lv E b i)) (K : ∀ (S2 : z_S) (d2 : z_D) (rf2 : Nat → Option Nat) (H1 : Heap) (locs1 : List Loc), z_I S2 d2 rf2 → z_H E (S2, d2) H1 → va_S (z_A E) s.heap H1 locs1 → W p l e room_1 s m #[Value.ref b] below meth c H1 locs1 (k + 173) (n + 3010) Q (F0 m 1405 ls [])) : W p l e room_1 s m #[Value.ref b] below meth c H locs k n Q (F0 m 700 ls []) := by
  obtain ⟨hBT, hrf, hMd, hou, hRc, hz⟩ := id hI
  refine lv_aload_n F.1.1 F.1.2.1 dL_law_700 rfl (lv_at hl 1 rfl) ?_
  refine lw_arg 1 rfl F hl rfl rfl (by omega) hS 707 rfl dL_law_701 dL_law_702 dL_law_704 dL_law_705 dL_law_706 ?_
  refine lw_call F hM hr ok_X8_keep ⟨Nat.le_of_ble_eq_true rfl, Nat.le_of_ble_eq_true rfl⟩ hkn (hBT.1 0 (Nat.le_of_ble_eq_true rfl)) (Nat.le_of_ble_eq_true rfl) rfl rfl rfl (Nat.le_of_ble_eq_true rfl) gL_law_X8_keep hH hS hl 710 rfl dL_law_707 [.int v] rfl (S2, dA) rfl (fun H1 locs1 hH1 hS1 => ?_)
  show W p l e room_1 s m #[Value.ref b] below meth c H1 locs1 (k + 173) (n + 3010) Q _
  refine lv_aload_n F.1.1 F.1.2.1 dL_law_710 rfl (lv_at hl 2 rfl) ?_
  refine lw_arg 1 rfl F hl rfl rfl (by omega) hS1 717 rfl dL_law_711 dL_law_712 dL_law_714 dL_law_715 dL_law_716 ?_
  refine lw_call0 F (c_X9_keep (E := E) (l := l) (S := S2) dA 355 hI2.2.2.1 (xs (i + 1))) ew ok_X9_keep ⟨Nat.le_of_ble_eq_true rfl, Nat.le_of_ble_eq_true rfl⟩ hkn ⟨rfl, rfl⟩ (hI2.2.2.1 0 (Nat.le_of_ble_eq_true rfl)) (Nat.le_of_ble_eq_true rfl) rfl rfl rfl (Nat.le_of_ble_eq_true rfl) gL_law_X9_keep hH1 hS1 hl 720 rfl dL_law_717 [.int w.1, .int v] rfl (S2, w.2) rfl (fun H2 locs2 hH2 hS2 => ?_)
  exact lv_icmp_eq (tgt := 1405) F.1.1 F.1.2.1 dL_law_720 (by decide) (fun _ => K _ _ _ _ _ hI2 hH2 hS2) (fun hc => absurd hv hc)
theorem lk_back {resc : Option (Int32 × z_W)} {v : Int32} {dA : z_D} {w : Int32 × z_D} (F : lw_C E p s m c b L xs) (hI : z_I S d rf) (hi : i + 6 ≤ L) (hkn : k ≤ room_1.cells ∧ n ≤ room_1.slots) (hM : z_Sp E l yX8_back Y_X8_back cvP [.ref (E.2.1 + 0), .int (xs (i + 1))] (S, d) resc) (hr : resc = some (v, (S, dA))) (ew : f_X9_back dA 355 (xs (i + 1)) = some w) (hv : v = w.1) (hz2 : Z 0 355 rf w.2) (hH : z_H E (S, d) H) (hS : va_S (z_A E) s.heap H locs) (hl : lv_has ls 7 (lw_lv E b i)) (K : ∀ (d2 : z_D) (H1 : Heap) (locs1 : List Loc), z_I S d2 rf → z_H E (S, d2) H1 → va_S (z_A E) s.heap H1 locs1 → W p l e room_1 s m #[Value.ref b] below meth c H1 locs1 k n Q (F0 m 1405 ls [])) : W p l e room_1 s m #[Value.ref b] below meth c H locs k n Q (F0 m 725 ls []) := by
  obtain ⟨hBT, hrf, hMd, hou, hRc, hz⟩ := id hI
  refine lv_aload_n F.1.1 F.1.2.1 dL_law_725 rfl (lv_at hl 1 rfl) ?_
  refine lw_arg 1 rfl F hl rfl rfl (by omega) hS 732 rfl dL_law_726 dL_law_727 dL_law_729 dL_law_730 dL_law_731 ?_
  refine lw_call0 F hM hr ok_X8_back ⟨Nat.le_of_ble_eq_true rfl, Nat.le_of_ble_eq_true rfl⟩ hkn ⟨rfl, rfl⟩ (hBT.1 0 (Nat.le_of_ble_eq_true rfl)) (Nat.le_of_ble_eq_true rfl) rfl rfl rfl (Nat.le_of_ble_eq_true rfl) gL_law_X8_back hH hS hl 735 rfl dL_law_732 [.int v] rfl (S, dA) rfl (fun H1 locs1 hH1 hS1 => ?_)
  refine lv_aload_n F.1.1 F.1.2.1 dL_law_735 rfl (lv_at hl 2 rfl) ?_
  refine lw_arg 1 rfl F hl rfl rfl (by omega) hS1 742 rfl dL_law_736 dL_law_737 dL_law_739 dL_law_740 dL_law_741 ?_
  refine lw_call0 F (c_X9_back (E := E) (l := l) (S := S) dA 355 hMd (xs (i + 1))) ew ok_X9_back ⟨Nat.le_of_ble_eq_true rfl, Nat.le_of_ble_eq_true rfl⟩ hkn ⟨rfl, rfl⟩ (hMd 0 (Nat.le_of_ble_eq_true rfl)) (Nat.le_of_ble_eq_true rfl) rfl rfl rfl (Nat.le_of_ble_eq_true rfl) gL_law_X9_back hH1 hS1 hl 745 rfl dL_law_742 [.int w.1, .int v] rfl (S, w.2) rfl (fun H2 locs2 hH2 hS2 => ?_)
  exact lv_icmp_eq (tgt := 1405) F.1.1 F.1.2.1 dL_law_745 (by decide) (fun _ => K _ _ _ ⟨hBT, hrf, hMd, hou, hRc, hz2⟩ hH2 hS2) (fun hc => absurd hv hc)
theorem lk_in {x : Int32} (h : 0 ≤ x ∧ x ≤ 1) : f_X8_within x 0 1 = some 1 := by rw [q_X8_within, b01_t h]
theorem lk_out {x : Int32} (h : ¬ (0 ≤ x ∧ x ≤ 1)) : f_X8_within x 0 1 = some 0 := by rw [q_X8_within, b01_f h]
theorem lk_hi {j : Nat} (hj : j < 2) : ¬ (nI j < 0 ∨ 2 ≤ (nI j).toNatClampNeg) := by
  rcases (show j = 0 ∨ j = 1 by omega) with rfl | rfl <;> decide
theorem lc_back (F : lw_C E p s m c b L xs) (hI : z_I S d rf) (hi : i + 6 ≤ L) (hkn : k ≤ room_1.cells ∧ n ≤ room_1.slots) (hH : z_H E (S, d) H) (hS : va_S (z_A E) s.heap H locs) (hl : lv_has ls 7 (lw_lv E b i)) (K : ∀ (d2 : z_D) (H1 : Heap) (locs1 : List Loc), z_I S d2 rf → z_H E (S, d2) H1 → va_S (z_A E) s.heap H1 locs1 → W p l e room_1 s m #[Value.ref b] below meth c H1 locs1 k n Q (F0 m 1405 ls [])) : W p l e room_1 s m #[Value.ref b] below meth c H locs k n Q (F0 m 725 ls []) := by
  obtain ⟨hBT, hrf, hMd, hou, hRc, hz⟩ := id hI
  have ho : 0 + 355 ≤ 355 := Nat.le_refl _
  by_cases hx : 0 ≤ xs (i + 1) ∧ xs (i + 1) ≤ 1
  · obtain ⟨j, hj, ej⟩ := i_2 hx
    have hrf' : z_at S (0 + 347) (11, 2, rf) := hrf
    cases hr : rf j with
    | none =>
      obtain ⟨w, ew, hw, hz2⟩ := z_back_none hz ho hj hr
      exact lk_back F hI hi hkn (c_back_none S d 0 j (xs (i + 1)) rf hBT hrf' (lk_in hx) (by rw [ej]; exact lk_hi hj) (by rw [ej]; exact nI_clamp (by omega)) hr) rfl (by rw [ej]; exact ew) hw.symm hz2 hH hS hl K
    | some r =>
      obtain ⟨d', ed, w, ew, hw, hz2⟩ := z_back_some hz ho hj hr
      exact lk_back F hI hi hkn (c_back_some S d 0 r j (xs (i + 1)) rf hBT hrf' (lk_in hx) (by rw [ej]; exact lk_hi hj) (by rw [ej]; exact nI_clamp (by omega)) hr (hRc j r hj hr)) (by rw [ed]; rfl) (by rw [ej]; exact ew) hw.symm hz2 hH hS hl K
  · obtain ⟨w, ew, hw, hz2⟩ := z_back_bad hz ho hx
    exact lk_back F hI hi hkn (c_back_bad S d 0 (xs (i + 1)) (lk_out hx)) rfl ew hw.symm hz2 hH hS hl K
theorem lk_up {rf : Nat → Option Nat} {j : Nat} {r : Nat} (h : rf j = some r) : va_up rf j (some r) = rf := by
  funext x
  by_cases hx : x = j
  · subst hx
    rw [va_up_self, h]
  · rw [va_up_ne _ _ hx]
theorem lk_end {S : z_S} {r : Nat} (h : A_Race S r) : r + 173 ≤ S.1 := by
  have := ((h.2 7 (by omega)) 20 (by omega)).1
  omega
theorem lc_keep (F : lw_C E p s m c b L xs) (hI : z_I S d rf) (hi : i + 6 ≤ L) (hkn : k + 173 ≤ room_1.cells ∧ n + 3010 ≤ room_1.slots) (hH : z_H E (S, d) H) (hS : va_S (z_A E) s.heap H locs) (hl : lv_has ls 7 (lw_lv E b i)) (K : ∀ (S2 : z_S) (d2 : z_D) (rf2 : Nat → Option Nat) (H1 : Heap) (locs1 : List Loc), z_I S2 d2 rf2 → z_H E (S2, d2) H1 → va_S (z_A E) s.heap H1 locs1 → W p l e room_1 s m #[Value.ref b] below meth c H1 locs1 (k + 173) (n + 3010) Q (F0 m 1405 ls [])) : W p l e room_1 s m #[Value.ref b] below meth c H locs k n Q (F0 m 700 ls []) := by
  obtain ⟨hBT, hrf, hMd, hou, hRc, hz⟩ := id hI
  have ho : 0 + 355 ≤ 355 := Nat.le_refl _
  by_cases hx : 0 ≤ xs (i + 1) ∧ xs (i + 1) ≤ 1
  · obtain ⟨j, hj, ej⟩ := i_2 hx
    have hrf' : z_at S (0 + 347) (11, 2, rf) := hrf
    cases hr : rf j with
    | some r =>
      have hst := hz.2.2.2.1 j hj
      rcases hst with ⟨h0, -⟩ | ⟨r', hr', hge, -, t', n', s', st⟩
      · rw [h0] at hr; cases hr
      · rw [hr] at hr'
        cases hr'
        obtain ⟨d', ed, w, ew, hw, hz2⟩ := z_keepG (d1 := d) hz ho hj hge (fun _ _ => rfl) (fun x r' hx2 hne hr2 => ⟨by
          rcases (show (x = 0 ∧ j = 1) ∨ (x = 1 ∧ j = 0) by omega) with ⟨rfl, rfl⟩ | ⟨rfl, rfl⟩
          · have := hz.2.2.2.2 r' r hr2 hr
            omega
          · have := hz.2.2.2.2 r r' hr hr2
            omega, fun _ _ _ => rfl⟩) st.2.2.2.2.2.2.2
        rw [lk_up hr] at hz2
        exact lk_keep F hI hi hkn (c_keep_old S d 0 r j (xs (i + 1)) rf hBT hrf' (lk_in hx) (by rw [ej]; exact lk_hi hj) (by rw [ej]; exact nI_clamp (by omega)) hr (hRc j r hj hr)) (by rw [ed]; rfl) (by rw [ej]; exact ew) hw.symm ⟨hBT, hrf, hMd, hou, hRc, hz2⟩ hH hS hl K
    | none =>
      obtain ⟨q1, q2, q3, q4, q5⟩ := p_Race (z_pnew (S, d) 2 10)
      obtain ⟨a1, a2, a3, a4, a5⟩ := z_chd_ok (w := (S, d)) (k := j) hrf q1 q2
      have hd2 : (z_chd W_Race (S, d) 347 j 2 10).2 = (W_Race (z_wadd (S, d) (2, 10, z_nn)) S.1).2 := z_chd_d _ _ _ _ _ _
      have hcell : ∀ y, y < S.1 → (z_chd W_Race (S, d) 347 j 2 10).2 y = d y := fun y hy => by
        by_cases hy7 : y = 347
        · subst hy7
          exact a4
        · exact (a2.2.2 y hy hy7).2
      have h366 : 366 ≤ S.1 := hou.1
      obtain ⟨d', ed, w, ew, hw, hz2⟩ := z_keepG (d1 := (z_chd W_Race (S, d) 347 j 2 10).2) (r := S.1) hz ho hj h366 (fun x hx3 => hcell x (by omega)) (fun x r' hx2 hne hr2 => by
        have hend := lk_end (hRc x r' hx2 hr2)
        exact ⟨Or.inr hend, fun y y1 y2 => hcell y (by omega)⟩) (fun kk hkk => by
        rw [hd2]
        dsimp only at q5
        exact ⟨Or.inl (q5 _ _ (by omega) (by omega)), fun r hr9 => ⟨Or.inl (q5 _ _ (by omega) (by omega)), Or.inl (q5 _ _ (by omega) (by omega))⟩⟩)
      have hBT2 : A_BT (z_chd W_Race (S, d) 347 j 2 10).1 0 := by
        obtain ⟨b1, ⟨b2, b3, b4, b5⟩, b6⟩ := hBT
        exact ⟨fun o9 ho9 => a2.at (b1 o9 ho9) (by omega), ⟨A_Race.kp a2 b2 (by omega), A_Race.kp a2 b3 (by omega), A_Standings.kp a2 b4 (by omega), A_Tape.kp a2 b5 (by omega)⟩, _, a3⟩
      have hI2 : z_I (z_chd W_Race (S, d) 347 j 2 10).1 w.2 (va_up rf j (some S.1)) := by
        refine ⟨hBT2, a3, A_Model.kp a2 hMd (by omega), a2.at hou (by omega), fun j2 r2 hj2 hr2 => ?_, hz2⟩
        by_cases hjj : j2 = j
        · subst hjj
          rw [va_up_self] at hr2
          cases hr2
          exact A_Race.kp a5 q3 (by left; show 347 < S.1; omega)
        · rw [va_up_ne _ _ hjj] at hr2
          have h11 : 366 ≤ r2 := by
            rcases hz.2.2.2.1 j2 hj2 with ⟨h0, -⟩ | ⟨r', hr', hge, -⟩
            · rw [h0] at hr2; cases hr2
            · rw [hr'] at hr2; cases hr2; exact hge
          exact A_Race.kp a2 (hRc j2 r2 hj2 hr2) (by omega)
      exact lk_keep F hI hi hkn (c_keep_new S d 0 j (xs (i + 1)) rf hBT hrf' (lk_in hx) (by rw [ej]; exact lk_hi hj) (by rw [ej]; exact nI_clamp (by omega)) hr) (dA := d') (S2 := (z_chd W_Race (S, d) 347 j 2 10).1) (v := 1) (by
        have ed' : f_X3_copyFrom (z_chd W_Race (S, d) (0 + 347) j 2 10).2 S.1 (0 + 1) = some d' := ed
        rw [ed']
        rfl) (by rw [ej]; exact ew) hw.symm hI2 hH hS hl K
  · obtain ⟨w, ew, hw, hz2⟩ := z_keep_bad hz ho hx
    exact lk_keep F hI hi hkn (c_keep_bad S d 0 (xs (i + 1)) (lk_out hx)) rfl ew hw.symm ⟨hBT, hrf, hMd, hou, hRc, hz2⟩ hH hS hl K
end
