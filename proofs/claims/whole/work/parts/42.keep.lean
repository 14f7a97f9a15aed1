/-! 42.keep: keep and back -/
def cvP : Int32 × z_W → Option Value × z_W := fun x => (some (.int x.1), x.2)
theorem r_aald11 {α : Type} {E : z_E} {l : Launch} {Y : z_Y} {cv : α → Option Value × z_W} {res : Option α} {pc : Nat} {lv : List (Nat × Value)} {st : List Value} {S : z_S} {d : z_D} {k n a N j : Nat} {kd : z_K} {i : Int32} (v : Value) (ha : z_at S a kd) (ht : kd.1 = 11) (hN : kd.2.1 = N) (hi : ¬ (i < 0 ∨ N ≤ i.toNatClampNeg)) (hj : i.toNatClampNeg = j) (hv : va_rf (z_sh E.2.1 (kd.2.2 j)) = v) (pc' : Nat) (hp : pc + 1 = pc') (hd : decode Y.2.1 pc = .ok (.aaload, 1)) (K : z_G E l Y cv res pc' lv (v :: st) (S, d) k n) : z_G E l Y cv res pc lv (.int i :: .ref (E.2.1 + a) :: st) (S, d) k n := by
  subst hp
  subst hN
  subst hj
  subst hv
  intro z hz p e s m args below meth c H locs ls C
  obtain ⟨q, hq⟩ := z_get E (S, d) ha.1 ha.2 (by omega)
  rw [z_cell, if_neg (by omega), if_neg (by omega), if_pos (by omega), ht] at hq
  exact va_aldq C.1.1 C.1.2.1 C.2.2.1 C.2.2.2.2.2.1.1 q 3 (C := RX3) hq rfl hi hd (K z hz p e s m args below meth c H locs ls C)
def Y_X8_keep : z_Y := (RX8, cX8_keep, 2, wsX8_keep, (some .boolean), { frames := 4, cells := 173, slots := 3010, locals := 140 }, 173, 3010)
theorem ok_X8_keep : z_Ok yX8_keep Y_X8_keep 1 := ⟨⟨_, rfl⟩, rfl, rfl, rfl, by decide +kernel, by decide +kernel⟩
def Y_X8_back : z_Y := (RX8, cX8_back, 2, wsX8_back, (some .boolean), { frames := 4, cells := 0, slots := 0, locals := 140 }, 0, 0)
theorem ok_X8_back : z_Ok yX8_back Y_X8_back 1 := ⟨⟨_, rfl⟩, rfl, rfl, rfl, by decide +kernel, by decide +kernel⟩
theorem w_keep_0 : ∀ w ∈ u_ws RX8 TX8 5, w ∈ wsX8_keep := by decide +kernel
theorem w_keep_1 : Cond.fieldLink RX8 19 "BunchTimes" "kept" "[LBunchTimes$Race;" ∈ wsX8_keep := by decide +kernel
theorem w_keep_2 : Cond.fieldLink RX8 10 "BunchTimes" "race" "LBunchTimes$Race;" ∈ wsX8_keep := by decide +kernel
theorem w_keep_3 : ∀ w ∈ u_ws RX3 TX3 10, w ∈ wsX8_keep := by decide +kernel
theorem w_keep_4 : Cond.classLink RX8 7 RX3 ∈ wsX8_keep := by decide +kernel
theorem w_keep_5 : Cond.instantiable RX3 10 ∈ wsX8_keep := by decide +kernel
theorem w_keep_6 : Cond.initialized RX3 ∈ wsX8_keep := by decide +kernel
theorem w_keep_7 : Cond.instanceMethod yX3_init ∈ wsX8_keep := by decide +kernel
theorem w_keep_8 : Cond.instanceMethod yX3_copyFrom ∈ wsX8_keep := by decide +kernel
theorem w_keep_9 : Cond.selects RX3 yX3_copyFrom yX3_copyFrom ∈ wsX8_keep := by decide +kernel
theorem w_back_0 : ∀ w ∈ u_ws RX8 TX8 5, w ∈ wsX8_back := by decide +kernel
theorem w_back_1 : Cond.fieldLink RX8 19 "BunchTimes" "kept" "[LBunchTimes$Race;" ∈ wsX8_back := by decide +kernel
theorem w_back_2 : Cond.fieldLink RX8 10 "BunchTimes" "race" "LBunchTimes$Race;" ∈ wsX8_back := by decide +kernel
theorem w_back_6 : Cond.initialized RX3 ∈ wsX8_back := by decide +kernel
theorem w_back_8 : Cond.instanceMethod yX3_copyFrom ∈ wsX8_back := by decide +kernel
theorem w_back_9 : Cond.selects RX3 yX3_copyFrom yX3_copyFrom ∈ wsX8_back := by decide +kernel
section
variable {E : z_E} {l : Launch}
theorem c_keep_bad (S : z_S) (d : z_D) (o0 : Nat) (x1 : Int32) (hx : f_X8_within x1 0 1 = some 0) : z_Sp E l yX8_keep Y_X8_keep cvP [.ref (E.2.1 + o0), .int x1] (S, d) (some (0, (S, d))) := by
  refine z_entry (lv := [(0, .ref (E.2.1 + o0)), (1, .int x1)]) (by decide) rfl rfl (Nat.le_of_ble_eq_true rfl) rfl ?_
  refine r_iload_n 1 1 rfl rfl 1 rfl dX8_keep_0 ?_
  refine r_iconst 0 rfl 2 rfl dX8_keep_1 ?_
  refine r_iconst 1 rfl 3 rfl dX8_keep_2 ?_
  refine r_eq (show some ((0 : Int32), ((S, d) : z_W)) = (f_X8_within x1 0 1).bind (fun v => if v = 0 then some (0, (S, d)) else none) by rw [hx]; rfl) ?_
  refine r_callS_I (c_X8_within (E := E) (l := l) (S := S) d x1 0 1) ok_X8_within ⟨⟨Nat.le_of_ble_eq_true rfl, Nat.le_of_ble_eq_true rfl⟩, Nat.le_of_ble_eq_true rfl, Nat.le_of_ble_eq_true rfl⟩ rfl (Nat.le_of_ble_eq_true rfl) gX8_keep_X8_within rfl rfl 6 rfl dX8_keep_3 (fun v => ?_)
  refine r_if_ne 11 9 rfl rfl dX8_keep_6 r_none ?_
  refine r_iconst 0 rfl 10 rfl dX8_keep_9 ?_
  exact r_zreturnc (by decide) rfl rfl (Nat.le_of_ble_eq_true rfl) (Nat.le_of_ble_eq_true rfl) dX8_keep_10
theorem c_keep_old (S : z_S) (d : z_D) (o0 r j : Nat) (x1 : Int32) (rf : Nat → Option Nat) (h0 : A_BT S o0) (hk : z_at S (o0 + 347) (11, 2, rf)) (hx : f_X8_within x1 0 1 = some 1) (hi : ¬ (x1 < 0 ∨ 2 ≤ x1.toNatClampNeg)) (hj : x1.toNatClampNeg = j) (hr : rf j = some r) (hA : A_Race S r) : z_Sp E l yX8_keep Y_X8_keep cvP [.ref (E.2.1 + o0), .int x1] (S, d) ((f_X3_copyFrom d r (o0 + 1)).bind fun d' => some (1, (S, d'))) := by
  have hv : va_rf (z_sh E.2.1 (rf j)) = .ref (E.2.1 + r) := by rw [hr]; rfl
  refine z_entry (lv := [(0, .ref (E.2.1 + o0)), (1, .int x1)]) (by decide) rfl rfl (Nat.le_of_ble_eq_true rfl) rfl ?_
  refine r_iload_n 1 1 rfl rfl 1 rfl dX8_keep_0 ?_
  refine r_iconst 0 rfl 2 rfl dX8_keep_1 ?_
  refine r_iconst 1 rfl 3 rfl dX8_keep_2 ?_
  refine r_eq (show ((f_X3_copyFrom d r (o0 + 1)).bind fun d' => some ((1 : Int32), ((S, d') : z_W))) = (f_X8_within x1 0 1).bind (fun v => if v = 0 then none else ((f_X3_copyFrom d r (o0 + 1)).bind fun d' => some (1, (S, d')))) by rw [hx]; rfl) ?_
  refine r_callS_I (c_X8_within (E := E) (l := l) (S := S) d x1 0 1) ok_X8_within ⟨⟨Nat.le_of_ble_eq_true rfl, Nat.le_of_ble_eq_true rfl⟩, Nat.le_of_ble_eq_true rfl, Nat.le_of_ble_eq_true rfl⟩ rfl (Nat.le_of_ble_eq_true rfl) gX8_keep_X8_within rfl rfl 6 rfl dX8_keep_3 (fun v => ?_)
  refine r_if_ne 11 9 rfl rfl dX8_keep_6 ?_ r_none
  refine r_aload_n 0 0 rfl rfl 12 rfl dX8_keep_11 ?_
  refine r_get (h0.1 0 (Nat.le_of_ble_eq_true rfl)) rfl (Nat.le_of_ble_eq_true rfl) rfl rfl w_keep_0 2 (Nat.le_of_ble_eq_true rfl) rfl w_keep_1 (.ref (E.2.1 + (o0 + 347))) rfl 15 rfl dX8_keep_12 ?_
  refine r_iload_n 1 1 rfl rfl 16 rfl dX8_keep_15 ?_
  refine r_aald11 (.ref (E.2.1 + r)) hk rfl rfl hi hj hv 17 rfl dX8_keep_16 ?_
  refine r_ifnonnull 33 rfl dX8_keep_17 ?_
  refine r_aload_n 0 0 rfl rfl 34 rfl dX8_keep_33 ?_
  refine r_get (h0.1 0 (Nat.le_of_ble_eq_true rfl)) rfl (Nat.le_of_ble_eq_true rfl) rfl rfl w_keep_0 2 (Nat.le_of_ble_eq_true rfl) rfl w_keep_1 (.ref (E.2.1 + (o0 + 347))) rfl 37 rfl dX8_keep_34 ?_
  refine r_iload_n 1 1 rfl rfl 38 rfl dX8_keep_37 ?_
  refine r_aald11 (.ref (E.2.1 + r)) hk rfl rfl hi hj hv 39 rfl dX8_keep_38 ?_
  refine r_aload_n 0 0 rfl rfl 40 rfl dX8_keep_39 ?_
  refine r_get (h0.1 0 (Nat.le_of_ble_eq_true rfl)) rfl (Nat.le_of_ble_eq_true rfl) rfl rfl w_keep_0 0 (Nat.le_of_ble_eq_true rfl) rfl w_keep_2 (.ref (E.2.1 + (o0 + 1))) rfl 43 rfl dX8_keep_40 ?_
  refine r_callVN_V (c_X3_copyFrom (E := E) (l := l) (S := S) d r hA (o0 + 1) (A_BT.race h0)) ok_X3_copyFrom ⟨⟨Nat.le_of_ble_eq_true rfl, Nat.le_of_ble_eq_true rfl⟩, Nat.le_of_ble_eq_true rfl, Nat.le_of_ble_eq_true rfl⟩ (hA.1 0 (Nat.le_of_ble_eq_true rfl)) (Nat.le_of_ble_eq_true rfl) rfl rfl rfl (Nat.le_of_ble_eq_true rfl) 7 rfl gX8_keep_X3_copyFrom_n49 w_keep_6 w_keep_8 w_keep_9 rfl rfl 46 rfl dX8_keep_43 (fun d' => ?_)
  refine r_iconst 1 rfl 47 rfl dX8_keep_46 ?_
  exact r_zreturnc (by decide) rfl rfl (Nat.le_of_ble_eq_true rfl) (Nat.le_of_ble_eq_true rfl) dX8_keep_47
theorem c_keep_new (S : z_S) (d : z_D) (o0 j : Nat) (x1 : Int32) (rf : Nat → Option Nat) (h0 : A_BT S o0) (hk : z_at S (o0 + 347) (11, 2, rf)) (hx : f_X8_within x1 0 1 = some 1) (hi : ¬ (x1 < 0 ∨ 2 ≤ x1.toNatClampNeg)) (hj : x1.toNatClampNeg = j) (hr : rf j = none) :
    z_Sp E l yX8_keep Y_X8_keep cvP [.ref (E.2.1 + o0), .int x1] (S, d) ((f_X3_copyFrom (z_chd W_Race (S, d) (o0 + 347) j 2 10).2 S.1 (o0 + 1)).bind fun d' => some (1, ((z_chd W_Race (S, d) (o0 + 347) j 2 10).1, d'))) := by
  have hv : va_rf (z_sh E.2.1 (rf j)) = .null := by rw [hr]; rfl
  have hlt : o0 + 347 < S.1 := hk.1
  refine z_entry (lv := [(0, .ref (E.2.1 + o0)), (1, .int x1)]) (by decide) rfl rfl (Nat.le_of_ble_eq_true rfl) rfl ?_
  refine r_iload_n 1 1 rfl rfl 1 rfl dX8_keep_0 ?_
  refine r_iconst 0 rfl 2 rfl dX8_keep_1 ?_
  refine r_iconst 1 rfl 3 rfl dX8_keep_2 ?_
  refine r_eq (show ((f_X3_copyFrom (z_chd W_Race (S, d) (o0 + 347) j 2 10).2 S.1 (o0 + 1)).bind fun d' => some ((1 : Int32), (((z_chd W_Race (S, d) (o0 + 347) j 2 10).1, d') : z_W))) = (f_X8_within x1 0 1).bind (fun v => if v = 0 then none else z_nam (z_wadd (S, d) (2, 10, z_nn)) (fun wa => (some (W_Race wa S.1)).bind fun wb => z_nam (z_wref wb (o0 + 347) j S.1) (fun wc => (f_X3_copyFrom wc.2 S.1 (o0 + 1)).bind fun d' => some (1, (wc.1, d'))))) by rw [hx]; rfl) ?_
  refine r_callS_I (c_X8_within (E := E) (l := l) (S := S) d x1 0 1) ok_X8_within ⟨⟨Nat.le_of_ble_eq_true rfl, Nat.le_of_ble_eq_true rfl⟩, Nat.le_of_ble_eq_true rfl, Nat.le_of_ble_eq_true rfl⟩ rfl (Nat.le_of_ble_eq_true rfl) gX8_keep_X8_within rfl rfl 6 rfl dX8_keep_3 (fun v => ?_)
  refine r_if_ne 11 9 rfl rfl dX8_keep_6 ?_ r_none
  refine r_aload_n 0 0 rfl rfl 12 rfl dX8_keep_11 ?_
  refine r_get (h0.1 0 (Nat.le_of_ble_eq_true rfl)) rfl (Nat.le_of_ble_eq_true rfl) rfl rfl w_keep_0 2 (Nat.le_of_ble_eq_true rfl) rfl w_keep_1 (.ref (E.2.1 + (o0 + 347))) rfl 15 rfl dX8_keep_12 ?_
  refine r_iload_n 1 1 rfl rfl 16 rfl dX8_keep_15 ?_
  refine r_aald11 .null hk rfl rfl hi hj hv 17 rfl dX8_keep_16 ?_
  refine r_ifnonnullN 20 rfl dX8_keep_17 ?_
  refine r_aload_n 0 0 rfl rfl 21 rfl dX8_keep_20 ?_
  refine r_get (h0.1 0 (Nat.le_of_ble_eq_true rfl)) rfl (Nat.le_of_ble_eq_true rfl) rfl rfl w_keep_0 2 (Nat.le_of_ble_eq_true rfl) rfl w_keep_1 (.ref (E.2.1 + (o0 + 347))) rfl 24 rfl dX8_keep_21 ?_
  refine r_iload_n 1 1 rfl rfl 25 rfl dX8_keep_24 ?_
  refine r_new rfl (Nat.le_of_ble_eq_true rfl) w_keep_3 tyX3 tyX3_ok w_keep_4 w_keep_5 w_keep_6 (fun j hj => match j, hj with | 0, _ => rfl | 1, _ => rfl | 2, _ => rfl | 3, _ => rfl | 4, _ => rfl | 5, _ => rfl | 6, _ => rfl | 7, _ => rfl | 8, _ => rfl | 9, _ => rfl) (Nat.le_of_ble_eq_true rfl) (Nat.le_of_ble_eq_true rfl) 28 rfl dX8_keep_25 (fun wa ea => ?_)
  have pa : z_Pre wa S.1 2 10 := by rw [ea]; exact z_pnew (S, d) 2 10
  have ka : z_kp (S, d) wa (o0 + 347) := by rw [ea]; exact z_kp_add _ _ _
  have hka : z_at wa.1 (o0 + 347) (11, 2, rf) := by rw [ea]; exact z_at_add hk
  have h0a : z_at wa.1 o0 (L_BT o0) := by rw [ea]; exact z_at_add (h0.1 0 (Nat.le_of_ble_eq_true rfl))
  have hRa : A_Race wa.1 (o0 + 1) := (A_BT.race h0).kp ka (Or.inr (by omega))
  refine r_dup rfl 29 rfl dX8_keep_28 ?_
  refine r_callIN (cvc := cvW) (c_X3_init (E := E) (l := l) wa S.1 pa) ok_X3_init ⟨⟨Nat.le_of_ble_eq_true rfl, Nat.le_of_ble_eq_true rfl⟩, Nat.le_of_ble_eq_true rfl, Nat.le_of_ble_eq_true rfl⟩ (As := []) rfl (Nat.le_of_ble_eq_true rfl) 0 rfl gX8_keep_X3_init_n9 w_keep_6 w_keep_7 rfl rfl (fun x9 e9 => by cases e9; exact (p_Race pa).1.trans (by rw [pa.1]; rfl)) 32 rfl dX8_keep_29 (fun wb qb => ?_)
  have eb : wb = W_Race wa S.1 := (Option.some.inj qb).symm
  have kb : z_kp wa wb S.1 := by rw [eb]; exact (p_Race pa).2.1
  have hkb : z_at wb.1 (o0 + 347) (11, 2, rf) := kb.at hka (by omega)
  have h0b : z_at wb.1 o0 (L_BT o0) := kb.at h0a (by omega)
  have hRb : A_Race wb.1 (o0 + 1) := hRa.kp kb (Or.inr (by omega))
  have hNb : A_Race wb.1 S.1 := by rw [eb]; exact (p_Race pa).2.2.1
  refine r_ast11 (N := 2) hkb rfl rfl (hNb.1 0 (by decide)) rfl hi hj 33 rfl dX8_keep_32 (fun wc ec => ?_)
  have kc : z_kp wb wc (o0 + 347) := by rw [ec]; exact z_kp_ref _ _ _ _
  have hkc : z_at wc.1 (o0 + 347) (11, 2, va_up rf j (some S.1)) := by rw [ec]; exact z_at_ref _ _ hkb
  have h0c : z_at wc.1 o0 (L_BT o0) := kc.at h0b (by omega)
  have hRc : A_Race wc.1 (o0 + 1) := hRb.kp kc (Or.inr (by omega))
  have hNc : A_Race wc.1 S.1 := hNb.kp kc (Or.inl (by omega))
  have hv2 : va_rf (z_sh E.2.1 (va_up rf j (some S.1) j)) = .ref (E.2.1 + S.1) := by rw [va_up_self]; rfl
  refine r_aload_n 0 0 rfl rfl 34 rfl dX8_keep_33 ?_
  refine r_get (S := wc.1) (d := wc.2) h0c rfl (Nat.le_of_ble_eq_true rfl) rfl rfl w_keep_0 2 (Nat.le_of_ble_eq_true rfl) rfl w_keep_1 (.ref (E.2.1 + (o0 + 347))) rfl 37 rfl dX8_keep_34 ?_
  refine r_iload_n 1 1 rfl rfl 38 rfl dX8_keep_37 ?_
  refine r_aald11 (S := wc.1) (d := wc.2) (.ref (E.2.1 + S.1)) hkc rfl rfl hi hj hv2 39 rfl dX8_keep_38 ?_
  refine r_aload_n 0 0 rfl rfl 40 rfl dX8_keep_39 ?_
  refine r_get (S := wc.1) (d := wc.2) h0c rfl (Nat.le_of_ble_eq_true rfl) rfl rfl w_keep_0 0 (Nat.le_of_ble_eq_true rfl) rfl w_keep_2 (.ref (E.2.1 + (o0 + 1))) rfl 43 rfl dX8_keep_40 ?_
  refine r_callVN_V (S := wc.1) (d := wc.2) (c_X3_copyFrom (E := E) (l := l) (S := wc.1) wc.2 S.1 hNc (o0 + 1) hRc) ok_X3_copyFrom ⟨⟨Nat.le_of_ble_eq_true rfl, Nat.le_of_ble_eq_true rfl⟩, Nat.le_of_ble_eq_true rfl, Nat.le_of_ble_eq_true rfl⟩ (hNc.1 0 (Nat.le_of_ble_eq_true rfl)) (Nat.le_of_ble_eq_true rfl) rfl rfl rfl (Nat.le_of_ble_eq_true rfl) 7 rfl gX8_keep_X3_copyFrom_n49 w_keep_6 w_keep_8 w_keep_9 rfl rfl 46 rfl dX8_keep_43 (fun d' => ?_)
  refine r_iconst 1 rfl 47 rfl dX8_keep_46 ?_
  exact r_zreturnc (by decide) rfl rfl (Nat.le_of_ble_eq_true rfl) (Nat.le_of_ble_eq_true rfl) dX8_keep_47
theorem c_back_bad (S : z_S) (d : z_D) (o0 : Nat) (x1 : Int32) (hx : f_X8_within x1 0 1 = some 0) : z_Sp E l yX8_back Y_X8_back cvP [.ref (E.2.1 + o0), .int x1] (S, d) (some (0, (S, d))) := by
  refine z_entry (lv := [(0, .ref (E.2.1 + o0)), (1, .int x1)]) (by decide) rfl rfl (Nat.le_of_ble_eq_true rfl) rfl ?_
  refine r_iload_n 1 1 rfl rfl 1 rfl dX8_back_0 ?_
  refine r_iconst 0 rfl 2 rfl dX8_back_1 ?_
  refine r_iconst 1 rfl 3 rfl dX8_back_2 ?_
  refine r_eq (show some ((0 : Int32), ((S, d) : z_W)) = (f_X8_within x1 0 1).bind (fun v => if v = 0 then some (0, (S, d)) else none) by rw [hx]; rfl) ?_
  refine r_callS_I (c_X8_within (E := E) (l := l) (S := S) d x1 0 1) ok_X8_within ⟨⟨Nat.le_of_ble_eq_true rfl, Nat.le_of_ble_eq_true rfl⟩, Nat.le_of_ble_eq_true rfl, Nat.le_of_ble_eq_true rfl⟩ rfl (Nat.le_of_ble_eq_true rfl) gX8_back_X8_within rfl rfl 6 rfl dX8_back_3 (fun v => ?_)
  refine r_if_eq 18 9 rfl rfl dX8_back_6 ?_ r_none
  refine r_iconst 0 rfl 19 rfl dX8_back_18 ?_
  exact r_zreturnc (by decide) rfl rfl (Nat.le_of_ble_eq_true rfl) (Nat.le_of_ble_eq_true rfl) dX8_back_19
theorem c_back_none (S : z_S) (d : z_D) (o0 j : Nat) (x1 : Int32) (rf : Nat → Option Nat) (h0 : A_BT S o0) (hk : z_at S (o0 + 347) (11, 2, rf)) (hx : f_X8_within x1 0 1 = some 1) (hi : ¬ (x1 < 0 ∨ 2 ≤ x1.toNatClampNeg)) (hj : x1.toNatClampNeg = j) (hr : rf j = none) : z_Sp E l yX8_back Y_X8_back cvP [.ref (E.2.1 + o0), .int x1] (S, d) (some (0, (S, d))) := by
  have hv : va_rf (z_sh E.2.1 (rf j)) = .null := by rw [hr]; rfl
  refine z_entry (lv := [(0, .ref (E.2.1 + o0)), (1, .int x1)]) (by decide) rfl rfl (Nat.le_of_ble_eq_true rfl) rfl ?_
  refine r_iload_n 1 1 rfl rfl 1 rfl dX8_back_0 ?_
  refine r_iconst 0 rfl 2 rfl dX8_back_1 ?_
  refine r_iconst 1 rfl 3 rfl dX8_back_2 ?_
  refine r_eq (show some ((0 : Int32), ((S, d) : z_W)) = (f_X8_within x1 0 1).bind (fun v => if v = 0 then none else some (0, (S, d))) by rw [hx]; rfl) ?_
  refine r_callS_I (c_X8_within (E := E) (l := l) (S := S) d x1 0 1) ok_X8_within ⟨⟨Nat.le_of_ble_eq_true rfl, Nat.le_of_ble_eq_true rfl⟩, Nat.le_of_ble_eq_true rfl, Nat.le_of_ble_eq_true rfl⟩ rfl (Nat.le_of_ble_eq_true rfl) gX8_back_X8_within rfl rfl 6 rfl dX8_back_3 (fun v => ?_)
  refine r_if_eq 18 9 rfl rfl dX8_back_6 r_none ?_
  refine r_aload_n 0 0 rfl rfl 10 rfl dX8_back_9 ?_
  refine r_get (h0.1 0 (Nat.le_of_ble_eq_true rfl)) rfl (Nat.le_of_ble_eq_true rfl) rfl rfl w_back_0 2 (Nat.le_of_ble_eq_true rfl) rfl w_back_1 (.ref (E.2.1 + (o0 + 347))) rfl 13 rfl dX8_back_10 ?_
  refine r_iload_n 1 1 rfl rfl 14 rfl dX8_back_13 ?_
  refine r_aald11 .null hk rfl rfl hi hj hv 15 rfl dX8_back_14 ?_
  refine r_ifnonnullN 18 rfl dX8_back_15 ?_
  refine r_iconst 0 rfl 19 rfl dX8_back_18 ?_
  exact r_zreturnc (by decide) rfl rfl (Nat.le_of_ble_eq_true rfl) (Nat.le_of_ble_eq_true rfl) dX8_back_19
theorem c_back_some (S : z_S) (d : z_D) (o0 r j : Nat) (x1 : Int32) (rf : Nat → Option Nat) (h0 : A_BT S o0) (hk : z_at S (o0 + 347) (11, 2, rf)) (hx : f_X8_within x1 0 1 = some 1) (hi : ¬ (x1 < 0 ∨ 2 ≤ x1.toNatClampNeg)) (hj : x1.toNatClampNeg = j) (hr : rf j = some r) (hA : A_Race S r) : z_Sp E l yX8_back Y_X8_back cvP [.ref (E.2.1 + o0), .int x1] (S, d) ((f_X3_copyFrom d (o0 + 1) r).bind fun d' => some (1, (S, d'))) := by
  have hv : va_rf (z_sh E.2.1 (rf j)) = .ref (E.2.1 + r) := by rw [hr]; rfl
  refine z_entry (lv := [(0, .ref (E.2.1 + o0)), (1, .int x1)]) (by decide) rfl rfl (Nat.le_of_ble_eq_true rfl) rfl ?_
  refine r_iload_n 1 1 rfl rfl 1 rfl dX8_back_0 ?_
  refine r_iconst 0 rfl 2 rfl dX8_back_1 ?_
  refine r_iconst 1 rfl 3 rfl dX8_back_2 ?_
  refine r_eq (show ((f_X3_copyFrom d (o0 + 1) r).bind fun d' => some ((1 : Int32), ((S, d') : z_W))) = (f_X8_within x1 0 1).bind (fun v => if v = 0 then none else ((f_X3_copyFrom d (o0 + 1) r).bind fun d' => some (1, (S, d')))) by rw [hx]; rfl) ?_
  refine r_callS_I (c_X8_within (E := E) (l := l) (S := S) d x1 0 1) ok_X8_within ⟨⟨Nat.le_of_ble_eq_true rfl, Nat.le_of_ble_eq_true rfl⟩, Nat.le_of_ble_eq_true rfl, Nat.le_of_ble_eq_true rfl⟩ rfl (Nat.le_of_ble_eq_true rfl) gX8_back_X8_within rfl rfl 6 rfl dX8_back_3 (fun v => ?_)
  refine r_if_eq 18 9 rfl rfl dX8_back_6 r_none ?_
  refine r_aload_n 0 0 rfl rfl 10 rfl dX8_back_9 ?_
  refine r_get (h0.1 0 (Nat.le_of_ble_eq_true rfl)) rfl (Nat.le_of_ble_eq_true rfl) rfl rfl w_back_0 2 (Nat.le_of_ble_eq_true rfl) rfl w_back_1 (.ref (E.2.1 + (o0 + 347))) rfl 13 rfl dX8_back_10 ?_
  refine r_iload_n 1 1 rfl rfl 14 rfl dX8_back_13 ?_
  refine r_aald11 (.ref (E.2.1 + r)) hk rfl rfl hi hj hv 15 rfl dX8_back_14 ?_
  refine r_ifnonnull 20 rfl dX8_back_15 ?_
  refine r_aload_n 0 0 rfl rfl 21 rfl dX8_back_20 ?_
  refine r_get (h0.1 0 (Nat.le_of_ble_eq_true rfl)) rfl (Nat.le_of_ble_eq_true rfl) rfl rfl w_back_0 0 (Nat.le_of_ble_eq_true rfl) rfl w_back_2 (.ref (E.2.1 + (o0 + 1))) rfl 24 rfl dX8_back_21 ?_
  refine r_aload_n 0 0 rfl rfl 25 rfl dX8_back_24 ?_
  refine r_get (h0.1 0 (Nat.le_of_ble_eq_true rfl)) rfl (Nat.le_of_ble_eq_true rfl) rfl rfl w_back_0 2 (Nat.le_of_ble_eq_true rfl) rfl w_back_1 (.ref (E.2.1 + (o0 + 347))) rfl 28 rfl dX8_back_25 ?_
  refine r_iload_n 1 1 rfl rfl 29 rfl dX8_back_28 ?_
  refine r_aald11 (.ref (E.2.1 + r)) hk rfl rfl hi hj hv 30 rfl dX8_back_29 ?_
  refine r_callVN_V (c_X3_copyFrom (E := E) (l := l) (S := S) d (o0 + 1) (A_BT.race h0) r hA) ok_X3_copyFrom ⟨⟨Nat.le_of_ble_eq_true rfl, Nat.le_of_ble_eq_true rfl⟩, Nat.le_of_ble_eq_true rfl, Nat.le_of_ble_eq_true rfl⟩ ((A_BT.race h0).1 0 (Nat.le_of_ble_eq_true rfl)) (Nat.le_of_ble_eq_true rfl) rfl rfl rfl (Nat.le_of_ble_eq_true rfl) 7 rfl gX8_back_X3_copyFrom_n49 w_back_6 w_back_8 w_back_9 rfl rfl 33 rfl dX8_back_30 (fun d' => ?_)
  refine r_iconst 1 rfl 34 rfl dX8_back_33 ?_
  exact r_zreturnc (by decide) rfl rfl (Nat.le_of_ble_eq_true rfl) (Nat.le_of_ble_eq_true rfl) dX8_back_34
end
