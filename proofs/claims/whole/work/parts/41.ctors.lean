/-! 41.ctors: by gen/ctor.py -/
def Y_X1_init : z_Y := (RX1, cX1_init, 1, wsX1_init, none, { frames := 1, cells := 4, slots := 114, locals := 20 }, 4, 114)
theorem ok_X1_init : z_Ok yX1_init Y_X1_init 0 := ⟨⟨_, rfl⟩, rfl, rfl, rfl, by decide +kernel, by decide +kernel⟩
theorem w_X1_init_0 : Cond.methodLink RX1 3 Lib.objectInit ∈ wsX1_init := by decide +kernel
theorem w_X1_init_1 : Cond.instanceMethod Lib.objectInit ∈ wsX1_init := by decide +kernel
theorem w_X1_init_2 : Cond.code Lib.objectInit ⟨#[0xb1]⟩ 1 none ∈ wsX1_init := by decide +kernel
theorem w_X1_init_3 : Cond.arrayClass .int ∈ wsX1_init := by decide +kernel
theorem w_X1_init_4 : Cond.fieldLink RX1 9 "BunchTimes$Course" "km" "[I" ∈ wsX1_init := by decide +kernel
theorem w_X1_init_5 : ∀ w ∈ u_ws RX1 TX1 7, w ∈ wsX1_init := by decide +kernel
theorem w_X1_init_6 : Cond.fieldLink RX1 15 "BunchTimes$Course" "how" "[I" ∈ wsX1_init := by decide +kernel
theorem w_X1_init_7 : Cond.fieldLink RX1 18 "BunchTimes$Course" "crossed" "[I" ∈ wsX1_init := by decide +kernel
theorem w_X1_init_8 : Cond.fieldLink RX1 21 "BunchTimes$Course" "crossing" "[I" ∈ wsX1_init := by decide +kernel
def f_X1_init (w : z_W) (o0 : Nat) : Option z_W := z_nam (z_wadd w (8, 6, z_nn)) (fun w1 => z_nam (z_wref w1 o0 3 w.1.1) (fun w2 => z_nam (z_wadd w2 (8, 6, z_nn)) (fun w3 => z_nam (z_wref w3 o0 4 w2.1.1) (fun w4 => z_nam (z_wadd w4 (8, 6, z_nn)) (fun w5 => z_nam (z_wref w5 o0 5 w4.1.1) (fun w6 => z_nam (z_wadd w6 (8, 96, z_nn)) (fun w7 => z_nam (z_wref w7 o0 6 w6.1.1) (fun w8 => (some (w8 : z_W))))))))))
set_option maxHeartbeats 4000000 in
set_option maxRecDepth 100000 in
theorem e_X1_init (w : z_W) (o0 : Nat) : some (W_Course w o0) = f_X1_init w o0 := rfl
set_option maxHeartbeats 8000000 in
set_option maxRecDepth 100000 in
theorem c_X1_init {E : z_E} {l : Launch} (w : z_W) (o0 : Nat) (hp : z_Pre w o0 0 7) : z_Sp E l yX1_init Y_X1_init cvW [.ref (E.2.1 + o0)] w (some (W_Course w o0)) := by
  refine z_entry (lv := [(0, .ref (E.2.1 + o0))]) (by decide) rfl rfl (Nat.le_of_ble_eq_true rfl) rfl ?_
  refine r_eq (e_X1_init w o0) ?_
  unfold f_X1_init
  have h0 := hp.2.1
  refine r_aload_n 0 0 rfl rfl 1 rfl dX1_init_0 ?_
  refine r_objInit w_X1_init_0 w_X1_init_1 w_X1_init_2 (Nat.le_of_ble_eq_true rfl) (Nat.le_of_ble_eq_true rfl) 4 rfl dX1_init_1 ?_
  refine r_aload_n 0 0 rfl rfl 5 rfl dX1_init_4 ?_
  refine r_bipush 6 rfl 7 rfl dX1_init_5 ?_
  refine r_newa8 w_X1_init_3 (by decide) rfl (Nat.le_of_ble_eq_true rfl) (Nat.le_of_ble_eq_true rfl) (Nat.le_of_ble_eq_true rfl) 9 rfl dX1_init_7 (fun w1 ew1 => ?_)
  have hw1 : z_at w1.1 o0 (0, 7, z_nn) := by rw [ew1]; exact z_at_add h0
  refine r_putr hw1 rfl (Nat.le_of_ble_eq_true rfl) rfl rfl w_X1_init_5 tyX1 tyX1_ok nmX1 (Nat.le_of_ble_eq_true rfl) rfl rfl w_X1_init_4 rfl rfl rfl rfl rfl rfl rfl 12 rfl dX1_init_9 (fun w2 ew2 => ?_)
  have hw2 : z_at w2.1 o0 (0, 7, (va_up z_nn 3 (some w.1.1))) := by rw [ew2]; exact z_at_ref _ _ hw1
  refine r_aload_n 0 0 rfl rfl 13 rfl dX1_init_12 ?_
  refine r_bipush 6 rfl 15 rfl dX1_init_13 ?_
  refine r_newa8 w_X1_init_3 (by decide) rfl (Nat.le_of_ble_eq_true rfl) (Nat.le_of_ble_eq_true rfl) (Nat.le_of_ble_eq_true rfl) 17 rfl dX1_init_15 (fun w3 ew3 => ?_)
  have hw3 : z_at w3.1 o0 (0, 7, (va_up z_nn 3 (some w.1.1))) := by rw [ew3]; exact z_at_add hw2
  refine r_putr hw3 rfl (Nat.le_of_ble_eq_true rfl) rfl rfl w_X1_init_5 tyX1 tyX1_ok nmX1 (Nat.le_of_ble_eq_true rfl) rfl rfl w_X1_init_6 rfl rfl rfl rfl rfl rfl rfl 20 rfl dX1_init_17 (fun w4 ew4 => ?_)
  have hw4 : z_at w4.1 o0 (0, 7, (va_up (va_up z_nn 3 (some w.1.1)) 4 (some w2.1.1))) := by rw [ew4]; exact z_at_ref _ _ hw3
  refine r_aload_n 0 0 rfl rfl 21 rfl dX1_init_20 ?_
  refine r_bipush 6 rfl 23 rfl dX1_init_21 ?_
  refine r_newa8 w_X1_init_3 (by decide) rfl (Nat.le_of_ble_eq_true rfl) (Nat.le_of_ble_eq_true rfl) (Nat.le_of_ble_eq_true rfl) 25 rfl dX1_init_23 (fun w5 ew5 => ?_)
  have hw5 : z_at w5.1 o0 (0, 7, (va_up (va_up z_nn 3 (some w.1.1)) 4 (some w2.1.1))) := by rw [ew5]; exact z_at_add hw4
  refine r_putr hw5 rfl (Nat.le_of_ble_eq_true rfl) rfl rfl w_X1_init_5 tyX1 tyX1_ok nmX1 (Nat.le_of_ble_eq_true rfl) rfl rfl w_X1_init_7 rfl rfl rfl rfl rfl rfl rfl 28 rfl dX1_init_25 (fun w6 ew6 => ?_)
  have hw6 : z_at w6.1 o0 (0, 7, (va_up (va_up (va_up z_nn 3 (some w.1.1)) 4 (some w2.1.1)) 5 (some w4.1.1))) := by rw [ew6]; exact z_at_ref _ _ hw5
  refine r_aload_n 0 0 rfl rfl 29 rfl dX1_init_28 ?_
  refine r_bipush 96 rfl 31 rfl dX1_init_29 ?_
  refine r_newa8 w_X1_init_3 (by decide) rfl (Nat.le_of_ble_eq_true rfl) (Nat.le_of_ble_eq_true rfl) (Nat.le_of_ble_eq_true rfl) 33 rfl dX1_init_31 (fun w7 ew7 => ?_)
  have hw7 : z_at w7.1 o0 (0, 7, (va_up (va_up (va_up z_nn 3 (some w.1.1)) 4 (some w2.1.1)) 5 (some w4.1.1))) := by rw [ew7]; exact z_at_add hw6
  refine r_putr hw7 rfl (Nat.le_of_ble_eq_true rfl) rfl rfl w_X1_init_5 tyX1 tyX1_ok nmX1 (Nat.le_of_ble_eq_true rfl) rfl rfl w_X1_init_8 rfl rfl rfl rfl rfl rfl rfl 36 rfl dX1_init_33 (fun w8 ew8 => ?_)
  have hw8 : z_at w8.1 o0 (0, 7, (va_up (va_up (va_up (va_up z_nn 3 (some w.1.1)) 4 (some w2.1.1)) 5 (some w4.1.1)) 6 (some w6.1.1))) := by rw [ew8]; exact z_at_ref _ _ hw7
  exact r_return rfl rfl (Nat.le_of_ble_eq_true rfl) (Nat.le_of_ble_eq_true rfl) dX1_init_36
def Y_X2_init : z_Y := (RX2, cX2_init, 1, wsX2_init, none, { frames := 1, cells := 3, slots := 48, locals := 20 }, 3, 48)
theorem ok_X2_init : z_Ok yX2_init Y_X2_init 0 := ⟨⟨_, rfl⟩, rfl, rfl, rfl, by decide +kernel, by decide +kernel⟩
theorem w_X2_init_0 : Cond.methodLink RX2 3 Lib.objectInit ∈ wsX2_init := by decide +kernel
theorem w_X2_init_1 : Cond.instanceMethod Lib.objectInit ∈ wsX2_init := by decide +kernel
theorem w_X2_init_2 : Cond.code Lib.objectInit ⟨#[0xb1]⟩ 1 none ∈ wsX2_init := by decide +kernel
theorem w_X2_init_3 : Cond.arrayClass .int ∈ wsX2_init := by decide +kernel
theorem w_X2_init_4 : Cond.fieldLink RX2 9 "BunchTimes$Prizes" "bonus" "[I" ∈ wsX2_init := by decide +kernel
theorem w_X2_init_5 : ∀ w ∈ u_ws RX2 TX2 3, w ∈ wsX2_init := by decide +kernel
theorem w_X2_init_6 : Cond.fieldLink RX2 15 "BunchTimes$Prizes" "points" "[I" ∈ wsX2_init := by decide +kernel
theorem w_X2_init_7 : Cond.fieldLink RX2 18 "BunchTimes$Prizes" "dots" "[I" ∈ wsX2_init := by decide +kernel
def f_X2_init (w : z_W) (o0 : Nat) : Option z_W := z_nam (z_wadd w (8, 16, z_nn)) (fun w1 => z_nam (z_wref w1 o0 0 w.1.1) (fun w2 => z_nam (z_wadd w2 (8, 16, z_nn)) (fun w3 => z_nam (z_wref w3 o0 1 w2.1.1) (fun w4 => z_nam (z_wadd w4 (8, 16, z_nn)) (fun w5 => z_nam (z_wref w5 o0 2 w4.1.1) (fun w6 => (some (w6 : z_W))))))))
set_option maxHeartbeats 4000000 in
set_option maxRecDepth 100000 in
theorem e_X2_init (w : z_W) (o0 : Nat) : some (W_Prizes w o0) = f_X2_init w o0 := rfl
set_option maxHeartbeats 8000000 in
set_option maxRecDepth 100000 in
theorem c_X2_init {E : z_E} {l : Launch} (w : z_W) (o0 : Nat) (hp : z_Pre w o0 1 3) : z_Sp E l yX2_init Y_X2_init cvW [.ref (E.2.1 + o0)] w (some (W_Prizes w o0)) := by
  refine z_entry (lv := [(0, .ref (E.2.1 + o0))]) (by decide) rfl rfl (Nat.le_of_ble_eq_true rfl) rfl ?_
  refine r_eq (e_X2_init w o0) ?_
  unfold f_X2_init
  have h0 := hp.2.1
  refine r_aload_n 0 0 rfl rfl 1 rfl dX2_init_0 ?_
  refine r_objInit w_X2_init_0 w_X2_init_1 w_X2_init_2 (Nat.le_of_ble_eq_true rfl) (Nat.le_of_ble_eq_true rfl) 4 rfl dX2_init_1 ?_
  refine r_aload_n 0 0 rfl rfl 5 rfl dX2_init_4 ?_
  refine r_bipush 16 rfl 7 rfl dX2_init_5 ?_
  refine r_newa8 w_X2_init_3 (by decide) rfl (Nat.le_of_ble_eq_true rfl) (Nat.le_of_ble_eq_true rfl) (Nat.le_of_ble_eq_true rfl) 9 rfl dX2_init_7 (fun w1 ew1 => ?_)
  have hw1 : z_at w1.1 o0 (1, 3, z_nn) := by rw [ew1]; exact z_at_add h0
  refine r_putr hw1 rfl (Nat.le_of_ble_eq_true rfl) rfl rfl w_X2_init_5 tyX2 tyX2_ok nmX2 (Nat.le_of_ble_eq_true rfl) rfl rfl w_X2_init_4 rfl rfl rfl rfl rfl rfl rfl 12 rfl dX2_init_9 (fun w2 ew2 => ?_)
  have hw2 : z_at w2.1 o0 (1, 3, (va_up z_nn 0 (some w.1.1))) := by rw [ew2]; exact z_at_ref _ _ hw1
  refine r_aload_n 0 0 rfl rfl 13 rfl dX2_init_12 ?_
  refine r_bipush 16 rfl 15 rfl dX2_init_13 ?_
  refine r_newa8 w_X2_init_3 (by decide) rfl (Nat.le_of_ble_eq_true rfl) (Nat.le_of_ble_eq_true rfl) (Nat.le_of_ble_eq_true rfl) 17 rfl dX2_init_15 (fun w3 ew3 => ?_)
  have hw3 : z_at w3.1 o0 (1, 3, (va_up z_nn 0 (some w.1.1))) := by rw [ew3]; exact z_at_add hw2
  refine r_putr hw3 rfl (Nat.le_of_ble_eq_true rfl) rfl rfl w_X2_init_5 tyX2 tyX2_ok nmX2 (Nat.le_of_ble_eq_true rfl) rfl rfl w_X2_init_6 rfl rfl rfl rfl rfl rfl rfl 20 rfl dX2_init_17 (fun w4 ew4 => ?_)
  have hw4 : z_at w4.1 o0 (1, 3, (va_up (va_up z_nn 0 (some w.1.1)) 1 (some w2.1.1))) := by rw [ew4]; exact z_at_ref _ _ hw3
  refine r_aload_n 0 0 rfl rfl 21 rfl dX2_init_20 ?_
  refine r_bipush 16 rfl 23 rfl dX2_init_21 ?_
  refine r_newa8 w_X2_init_3 (by decide) rfl (Nat.le_of_ble_eq_true rfl) (Nat.le_of_ble_eq_true rfl) (Nat.le_of_ble_eq_true rfl) 25 rfl dX2_init_23 (fun w5 ew5 => ?_)
  have hw5 : z_at w5.1 o0 (1, 3, (va_up (va_up z_nn 0 (some w.1.1)) 1 (some w2.1.1))) := by rw [ew5]; exact z_at_add hw4
  refine r_putr hw5 rfl (Nat.le_of_ble_eq_true rfl) rfl rfl w_X2_init_5 tyX2 tyX2_ok nmX2 (Nat.le_of_ble_eq_true rfl) rfl rfl w_X2_init_7 rfl rfl rfl rfl rfl rfl rfl 28 rfl dX2_init_25 (fun w6 ew6 => ?_)
  have hw6 : z_at w6.1 o0 (1, 3, (va_up (va_up (va_up z_nn 0 (some w.1.1)) 1 (some w2.1.1)) 2 (some w4.1.1))) := by rw [ew6]; exact z_at_ref _ _ hw5
  exact r_return rfl rfl (Nat.le_of_ble_eq_true rfl) (Nat.le_of_ble_eq_true rfl) dX2_init_28
def Y_X5_init : z_Y := (RX5, cX5_init, 1, wsX5_init, none, { frames := 1, cells := 4, slots := 64, locals := 20 }, 4, 64)
theorem ok_X5_init : z_Ok yX5_init Y_X5_init 0 := ⟨⟨_, rfl⟩, rfl, rfl, rfl, by decide +kernel, by decide +kernel⟩
theorem w_X5_init_0 : Cond.methodLink RX5 3 Lib.objectInit ∈ wsX5_init := by decide +kernel
theorem w_X5_init_1 : Cond.instanceMethod Lib.objectInit ∈ wsX5_init := by decide +kernel
theorem w_X5_init_2 : Cond.code Lib.objectInit ⟨#[0xb1]⟩ 1 none ∈ wsX5_init := by decide +kernel
theorem w_X5_init_3 : Cond.arrayClass .int ∈ wsX5_init := by decide +kernel
theorem w_X5_init_4 : Cond.fieldLink RX5 9 "BunchTimes$Standings" "order" "[I" ∈ wsX5_init := by decide +kernel
theorem w_X5_init_5 : ∀ w ∈ u_ws RX5 TX5 5, w ∈ wsX5_init := by decide +kernel
theorem w_X5_init_6 : Cond.fieldLink RX5 15 "BunchTimes$Standings" "sums" "[I" ∈ wsX5_init := by decide +kernel
theorem w_X5_init_7 : Cond.fieldLink RX5 18 "BunchTimes$Standings" "places" "[I" ∈ wsX5_init := by decide +kernel
theorem w_X5_init_8 : Cond.fieldLink RX5 21 "BunchTimes$Standings" "worth" "[I" ∈ wsX5_init := by decide +kernel
def f_X5_init (w : z_W) (o0 : Nat) : Option z_W := z_nam (z_wadd w (8, 16, z_nn)) (fun w1 => z_nam (z_wref w1 o0 0 w.1.1) (fun w2 => z_nam (z_wadd w2 (8, 16, z_nn)) (fun w3 => z_nam (z_wref w3 o0 1 w2.1.1) (fun w4 => z_nam (z_wadd w4 (8, 16, z_nn)) (fun w5 => z_nam (z_wref w5 o0 2 w4.1.1) (fun w6 => z_nam (z_wadd w6 (8, 16, z_nn)) (fun w7 => z_nam (z_wref w7 o0 3 w6.1.1) (fun w8 => (some (w8 : z_W))))))))))
set_option maxHeartbeats 4000000 in
set_option maxRecDepth 100000 in
theorem e_X5_init (w : z_W) (o0 : Nat) : some (W_Standings w o0) = f_X5_init w o0 := rfl
set_option maxHeartbeats 8000000 in
set_option maxRecDepth 100000 in
theorem c_X5_init {E : z_E} {l : Launch} (w : z_W) (o0 : Nat) (hp : z_Pre w o0 4 5) : z_Sp E l yX5_init Y_X5_init cvW [.ref (E.2.1 + o0)] w (some (W_Standings w o0)) := by
  refine z_entry (lv := [(0, .ref (E.2.1 + o0))]) (by decide) rfl rfl (Nat.le_of_ble_eq_true rfl) rfl ?_
  refine r_eq (e_X5_init w o0) ?_
  unfold f_X5_init
  have h0 := hp.2.1
  refine r_aload_n 0 0 rfl rfl 1 rfl dX5_init_0 ?_
  refine r_objInit w_X5_init_0 w_X5_init_1 w_X5_init_2 (Nat.le_of_ble_eq_true rfl) (Nat.le_of_ble_eq_true rfl) 4 rfl dX5_init_1 ?_
  refine r_aload_n 0 0 rfl rfl 5 rfl dX5_init_4 ?_
  refine r_bipush 16 rfl 7 rfl dX5_init_5 ?_
  refine r_newa8 w_X5_init_3 (by decide) rfl (Nat.le_of_ble_eq_true rfl) (Nat.le_of_ble_eq_true rfl) (Nat.le_of_ble_eq_true rfl) 9 rfl dX5_init_7 (fun w1 ew1 => ?_)
  have hw1 : z_at w1.1 o0 (4, 5, z_nn) := by rw [ew1]; exact z_at_add h0
  refine r_putr hw1 rfl (Nat.le_of_ble_eq_true rfl) rfl rfl w_X5_init_5 tyX5 tyX5_ok nmX5 (Nat.le_of_ble_eq_true rfl) rfl rfl w_X5_init_4 rfl rfl rfl rfl rfl rfl rfl 12 rfl dX5_init_9 (fun w2 ew2 => ?_)
  have hw2 : z_at w2.1 o0 (4, 5, (va_up z_nn 0 (some w.1.1))) := by rw [ew2]; exact z_at_ref _ _ hw1
  refine r_aload_n 0 0 rfl rfl 13 rfl dX5_init_12 ?_
  refine r_bipush 16 rfl 15 rfl dX5_init_13 ?_
  refine r_newa8 w_X5_init_3 (by decide) rfl (Nat.le_of_ble_eq_true rfl) (Nat.le_of_ble_eq_true rfl) (Nat.le_of_ble_eq_true rfl) 17 rfl dX5_init_15 (fun w3 ew3 => ?_)
  have hw3 : z_at w3.1 o0 (4, 5, (va_up z_nn 0 (some w.1.1))) := by rw [ew3]; exact z_at_add hw2
  refine r_putr hw3 rfl (Nat.le_of_ble_eq_true rfl) rfl rfl w_X5_init_5 tyX5 tyX5_ok nmX5 (Nat.le_of_ble_eq_true rfl) rfl rfl w_X5_init_6 rfl rfl rfl rfl rfl rfl rfl 20 rfl dX5_init_17 (fun w4 ew4 => ?_)
  have hw4 : z_at w4.1 o0 (4, 5, (va_up (va_up z_nn 0 (some w.1.1)) 1 (some w2.1.1))) := by rw [ew4]; exact z_at_ref _ _ hw3
  refine r_aload_n 0 0 rfl rfl 21 rfl dX5_init_20 ?_
  refine r_bipush 16 rfl 23 rfl dX5_init_21 ?_
  refine r_newa8 w_X5_init_3 (by decide) rfl (Nat.le_of_ble_eq_true rfl) (Nat.le_of_ble_eq_true rfl) (Nat.le_of_ble_eq_true rfl) 25 rfl dX5_init_23 (fun w5 ew5 => ?_)
  have hw5 : z_at w5.1 o0 (4, 5, (va_up (va_up z_nn 0 (some w.1.1)) 1 (some w2.1.1))) := by rw [ew5]; exact z_at_add hw4
  refine r_putr hw5 rfl (Nat.le_of_ble_eq_true rfl) rfl rfl w_X5_init_5 tyX5 tyX5_ok nmX5 (Nat.le_of_ble_eq_true rfl) rfl rfl w_X5_init_7 rfl rfl rfl rfl rfl rfl rfl 28 rfl dX5_init_25 (fun w6 ew6 => ?_)
  have hw6 : z_at w6.1 o0 (4, 5, (va_up (va_up (va_up z_nn 0 (some w.1.1)) 1 (some w2.1.1)) 2 (some w4.1.1))) := by rw [ew6]; exact z_at_ref _ _ hw5
  refine r_aload_n 0 0 rfl rfl 29 rfl dX5_init_28 ?_
  refine r_bipush 16 rfl 31 rfl dX5_init_29 ?_
  refine r_newa8 w_X5_init_3 (by decide) rfl (Nat.le_of_ble_eq_true rfl) (Nat.le_of_ble_eq_true rfl) (Nat.le_of_ble_eq_true rfl) 33 rfl dX5_init_31 (fun w7 ew7 => ?_)
  have hw7 : z_at w7.1 o0 (4, 5, (va_up (va_up (va_up z_nn 0 (some w.1.1)) 1 (some w2.1.1)) 2 (some w4.1.1))) := by rw [ew7]; exact z_at_add hw6
  refine r_putr hw7 rfl (Nat.le_of_ble_eq_true rfl) rfl rfl w_X5_init_5 tyX5 tyX5_ok nmX5 (Nat.le_of_ble_eq_true rfl) rfl rfl w_X5_init_8 rfl rfl rfl rfl rfl rfl rfl 36 rfl dX5_init_33 (fun w8 ew8 => ?_)
  have hw8 : z_at w8.1 o0 (4, 5, (va_up (va_up (va_up (va_up z_nn 0 (some w.1.1)) 1 (some w2.1.1)) 2 (some w4.1.1)) 3 (some w6.1.1))) := by rw [ew8]; exact z_at_ref _ _ hw7
  exact r_return rfl rfl (Nat.le_of_ble_eq_true rfl) (Nat.le_of_ble_eq_true rfl) dX5_init_36
def Y_X6_init : z_Y := (RX6, cX6_init, 1, wsX6_init, none, { frames := 1, cells := 1, slots := 600, locals := 20 }, 1, 600)
theorem ok_X6_init : z_Ok yX6_init Y_X6_init 0 := ⟨⟨_, rfl⟩, rfl, rfl, rfl, by decide +kernel, by decide +kernel⟩
theorem w_X6_init_0 : Cond.methodLink RX6 3 Lib.objectInit ∈ wsX6_init := by decide +kernel
theorem w_X6_init_1 : Cond.instanceMethod Lib.objectInit ∈ wsX6_init := by decide +kernel
theorem w_X6_init_2 : Cond.code Lib.objectInit ⟨#[0xb1]⟩ 1 none ∈ wsX6_init := by decide +kernel
theorem w_X6_init_3 : Cond.arrayClass .byte ∈ wsX6_init := by decide +kernel
theorem w_X6_init_4 : Cond.fieldLink RX6 9 "BunchTimes$Tape" "bytes" "[B" ∈ wsX6_init := by decide +kernel
theorem w_X6_init_5 : ∀ w ∈ u_ws RX6 TX6 6, w ∈ wsX6_init := by decide +kernel
def f_X6_init (w : z_W) (o0 : Nat) : Option z_W := z_nam (z_wadd w (10, 600, z_nn)) (fun w1 => z_nam (z_wref w1 o0 0 w.1.1) (fun w2 => (some (w2 : z_W))))
set_option maxHeartbeats 4000000 in
set_option maxRecDepth 100000 in
theorem e_X6_init (w : z_W) (o0 : Nat) : some (W_Tape w o0) = f_X6_init w o0 := rfl
set_option maxHeartbeats 8000000 in
set_option maxRecDepth 100000 in
theorem c_X6_init {E : z_E} {l : Launch} (w : z_W) (o0 : Nat) (hp : z_Pre w o0 5 6) : z_Sp E l yX6_init Y_X6_init cvW [.ref (E.2.1 + o0)] w (some (W_Tape w o0)) := by
  refine z_entry (lv := [(0, .ref (E.2.1 + o0))]) (by decide) rfl rfl (Nat.le_of_ble_eq_true rfl) rfl ?_
  refine r_eq (e_X6_init w o0) ?_
  unfold f_X6_init
  have h0 := hp.2.1
  refine r_aload_n 0 0 rfl rfl 1 rfl dX6_init_0 ?_
  refine r_objInit w_X6_init_0 w_X6_init_1 w_X6_init_2 (Nat.le_of_ble_eq_true rfl) (Nat.le_of_ble_eq_true rfl) 4 rfl dX6_init_1 ?_
  refine r_aload_n 0 0 rfl rfl 5 rfl dX6_init_4 ?_
  refine r_sipush 600 rfl 8 rfl dX6_init_5 ?_
  refine r_newa10 w_X6_init_3 (by decide) rfl (Nat.le_of_ble_eq_true rfl) (Nat.le_of_ble_eq_true rfl) (Nat.le_of_ble_eq_true rfl) 10 rfl dX6_init_8 (fun w1 ew1 => ?_)
  have hw1 : z_at w1.1 o0 (5, 6, z_nn) := by rw [ew1]; exact z_at_add h0
  refine r_putr hw1 rfl (Nat.le_of_ble_eq_true rfl) rfl rfl w_X6_init_5 tyX6 tyX6_ok nmX6 (Nat.le_of_ble_eq_true rfl) rfl rfl w_X6_init_4 rfl rfl rfl rfl rfl rfl rfl 13 rfl dX6_init_10 (fun w2 ew2 => ?_)
  have hw2 : z_at w2.1 o0 (5, 6, (va_up z_nn 0 (some w.1.1))) := by rw [ew2]; exact z_at_ref _ _ hw1
  exact r_return rfl rfl (Nat.le_of_ble_eq_true rfl) (Nat.le_of_ble_eq_true rfl) dX6_init_13
def Y_X4_init : z_Y := (RX4, cX4_init, 1, wsX4_init, none, { frames := 2, cells := 20, slots := 348, locals := 40 }, 20, 348)
theorem ok_X4_init : z_Ok yX4_init Y_X4_init 0 := ⟨⟨_, rfl⟩, rfl, rfl, rfl, by decide +kernel, by decide +kernel⟩
theorem w_X4_init_0 : Cond.methodLink RX4 3 Lib.objectInit ∈ wsX4_init := by decide +kernel
theorem w_X4_init_1 : Cond.instanceMethod Lib.objectInit ∈ wsX4_init := by decide +kernel
theorem w_X4_init_2 : Cond.code Lib.objectInit ⟨#[0xb1]⟩ 1 none ∈ wsX4_init := by decide +kernel
theorem w_X4_init_3 : ∀ w ∈ u_ws RX1 TX1 7, w ∈ wsX4_init := by decide +kernel
theorem w_X4_init_4 : Cond.classLink RX4 9 RX1 ∈ wsX4_init := by decide +kernel
theorem w_X4_init_5 : Cond.instantiable RX1 7 ∈ wsX4_init := by decide +kernel
theorem w_X4_init_6 : Cond.initialized RX1 ∈ wsX4_init := by decide +kernel
theorem w_X4_init_7 : Cond.instanceMethod yX1_init ∈ wsX4_init := by decide +kernel
theorem w_X4_init_8 : Cond.fieldLink RX4 12 "BunchTimes$Stage" "course" "LBunchTimes$Course;" ∈ wsX4_init := by decide +kernel
theorem w_X4_init_9 : ∀ w ∈ u_ws RX4 TX4 20, w ∈ wsX4_init := by decide +kernel
theorem w_X4_init_10 : ∀ w ∈ u_ws RX2 TX2 3, w ∈ wsX4_init := by decide +kernel
theorem w_X4_init_11 : Cond.classLink RX4 18 RX2 ∈ wsX4_init := by decide +kernel
theorem w_X4_init_12 : Cond.instantiable RX2 3 ∈ wsX4_init := by decide +kernel
theorem w_X4_init_13 : Cond.initialized RX2 ∈ wsX4_init := by decide +kernel
theorem w_X4_init_14 : Cond.instanceMethod yX2_init ∈ wsX4_init := by decide +kernel
theorem w_X4_init_15 : Cond.fieldLink RX4 21 "BunchTimes$Stage" "prizes" "LBunchTimes$Prizes;" ∈ wsX4_init := by decide +kernel
theorem w_X4_init_16 : Cond.arrayClass .int ∈ wsX4_init := by decide +kernel
theorem w_X4_init_17 : Cond.fieldLink RX4 25 "BunchTimes$Stage" "finish" "[I" ∈ wsX4_init := by decide +kernel
theorem w_X4_init_18 : Cond.fieldLink RX4 29 "BunchTimes$Stage" "fallKm" "[I" ∈ wsX4_init := by decide +kernel
theorem w_X4_init_19 : Cond.fieldLink RX4 32 "BunchTimes$Stage" "fallWith" "[I" ∈ wsX4_init := by decide +kernel
theorem w_X4_init_20 : Cond.fieldLink RX4 35 "BunchTimes$Stage" "juried" "[I" ∈ wsX4_init := by decide +kernel
theorem w_X4_init_21 : Cond.arrayClass .boolean ∈ wsX4_init := by decide +kernel
theorem w_X4_init_22 : Cond.fieldLink RX4 38 "BunchTimes$Stage" "graced" "[Z" ∈ wsX4_init := by decide +kernel
theorem w_X4_init_23 : Cond.fieldLink RX4 42 "BunchTimes$Stage" "order" "[I" ∈ wsX4_init := by decide +kernel
theorem w_X4_init_24 : Cond.fieldLink RX4 45 "BunchTimes$Stage" "place" "[I" ∈ wsX4_init := by decide +kernel
theorem w_X4_init_25 : Cond.fieldLink RX4 48 "BunchTimes$Stage" "bunch" "[I" ∈ wsX4_init := by decide +kernel
theorem w_X4_init_26 : Cond.fieldLink RX4 51 "BunchTimes$Stage" "raw" "[I" ∈ wsX4_init := by decide +kernel
theorem w_X4_init_27 : Cond.fieldLink RX4 54 "BunchTimes$Stage" "time" "[I" ∈ wsX4_init := by decide +kernel
theorem w_X4_init_28 : Cond.fieldLink RX4 57 "BunchTimes$Stage" "late" "[Z" ∈ wsX4_init := by decide +kernel
def f_X4_init (w : z_W) (o0 : Nat) : Option z_W := z_nam (z_wadd w (0, 7, z_nn)) (fun w1 => ((some (W_Course w1 w.1.1)).bind fun w2 => z_nam (z_wref w2 o0 0 w.1.1) (fun w3 => z_nam (z_wadd w3 (1, 3, z_nn)) (fun w4 => ((some (W_Prizes w4 w3.1.1)).bind fun w5 => z_nam (z_wref w5 o0 1 w3.1.1) (fun w6 => z_nam (z_wadd w6 (8, 16, z_nn)) (fun w7 => z_nam (z_wref w7 o0 2 w6.1.1) (fun w8 => z_nam (z_wadd w8 (8, 16, z_nn)) (fun w9 => z_nam (z_wref w9 o0 3 w8.1.1) (fun w10 => z_nam (z_wadd w10 (8, 16, z_nn)) (fun w11 => z_nam (z_wref w11 o0 4 w10.1.1) (fun w12 => z_nam (z_wadd w12 (8, 16, z_nn)) (fun w13 => z_nam (z_wref w13 o0 5 w12.1.1) (fun w14 => z_nam (z_wadd w14 (9, 16, z_nn)) (fun w15 => z_nam (z_wref w15 o0 6 w14.1.1) (fun w16 => z_nam (z_wadd w16 (8, 16, z_nn)) (fun w17 => z_nam (z_wref w17 o0 8 w16.1.1) (fun w18 => z_nam (z_wadd w18 (8, 16, z_nn)) (fun w19 => z_nam (z_wref w19 o0 9 w18.1.1) (fun w20 => z_nam (z_wadd w20 (8, 16, z_nn)) (fun w21 => z_nam (z_wref w21 o0 10 w20.1.1) (fun w22 => z_nam (z_wadd w22 (8, 16, z_nn)) (fun w23 => z_nam (z_wref w23 o0 11 w22.1.1) (fun w24 => z_nam (z_wadd w24 (8, 16, z_nn)) (fun w25 => z_nam (z_wref w25 o0 12 w24.1.1) (fun w26 => z_nam (z_wadd w26 (9, 16, z_nn)) (fun w27 => z_nam (z_wref w27 o0 13 w26.1.1) (fun w28 => (some (w28 : z_W))))))))))))))))))))))))))))))
set_option maxHeartbeats 4000000 in
set_option maxRecDepth 100000 in
theorem e_X4_init (w : z_W) (o0 : Nat) : some (W_Stage w o0) = f_X4_init w o0 := rfl
set_option maxHeartbeats 8000000 in
set_option maxRecDepth 100000 in
theorem c_X4_init {E : z_E} {l : Launch} (w : z_W) (o0 : Nat) (hp : z_Pre w o0 3 20) : z_Sp E l yX4_init Y_X4_init cvW [.ref (E.2.1 + o0)] w (some (W_Stage w o0)) := by
  refine z_entry (lv := [(0, .ref (E.2.1 + o0))]) (by decide) rfl rfl (Nat.le_of_ble_eq_true rfl) rfl ?_
  refine r_eq (e_X4_init w o0) ?_
  unfold f_X4_init
  have h0 := hp.2.1
  refine r_aload_n 0 0 rfl rfl 1 rfl dX4_init_0 ?_
  refine r_objInit w_X4_init_0 w_X4_init_1 w_X4_init_2 (Nat.le_of_ble_eq_true rfl) (Nat.le_of_ble_eq_true rfl) 4 rfl dX4_init_1 ?_
  refine r_aload_n 0 0 rfl rfl 5 rfl dX4_init_4 ?_
  refine r_new rfl (Nat.le_of_ble_eq_true rfl) w_X4_init_3 tyX1 tyX1_ok w_X4_init_4 w_X4_init_5 w_X4_init_6 (fun j hj => match j, hj with | 0, _ => rfl | 1, _ => rfl | 2, _ => rfl | 3, _ => rfl | 4, _ => rfl | 5, _ => rfl | 6, _ => rfl) (Nat.le_of_ble_eq_true rfl) (Nat.le_of_ble_eq_true rfl) 8 rfl dX4_init_5 (fun w1 ew1 => ?_)
  have hw1 : z_at w1.1 o0 (3, 20, z_nn) := by rw [ew1]; exact z_at_add h0
  have pw1 : z_Pre w1 w.1.1 0 7 := by rw [ew1]; exact z_pnew w 0 7
  refine r_dup rfl 9 rfl dX4_init_8 ?_
  refine r_callIN (cvc := cvW) (c_X1_init (E := E) (l := l) w1 w.1.1 pw1) ok_X1_init ⟨⟨(Nat.le_of_ble_eq_true rfl), (Nat.le_of_ble_eq_true rfl)⟩, (Nat.le_of_ble_eq_true rfl), (Nat.le_of_ble_eq_true rfl)⟩ (As := []) rfl (Nat.le_of_ble_eq_true rfl) 2 rfl gX4_init_X1_init_n11 w_X4_init_6 w_X4_init_7 rfl rfl (fun x9 e9 => by cases e9; exact (p_Course pw1).1.1.trans (by rw [pw1.1]; rfl)) 12 rfl dX4_init_9 (fun w2 qw2 => ?_)
  have ew2 : w2 = W_Course w1 w.1.1 := (Option.some.inj qw2).symm
  have hw2 : z_at w2.1 o0 (3, 20, z_nn) := by rw [ew2]; exact (p_Course pw1).1.2.1.at hw1 (Nat.ne_of_lt h0.1)
  have xw2 : z_at w2.1 w.1.1 (L_Course w.1.1 0) := by rw [ew2]; exact (p_Course pw1).2 0 (by decide)
  refine r_putr hw2 rfl (Nat.le_of_ble_eq_true rfl) rfl rfl w_X4_init_9 tyX4 tyX4_ok nmX4 (Nat.le_of_ble_eq_true rfl) rfl rfl w_X4_init_8 rfl rfl rfl rfl rfl rfl rfl 15 rfl dX4_init_12 (fun w3 ew3 => ?_)
  have hw3 : z_at w3.1 o0 (3, 20, (va_up z_nn 0 (some w.1.1))) := by rw [ew3]; exact z_at_ref _ _ hw2
  refine r_aload_n 0 0 rfl rfl 16 rfl dX4_init_15 ?_
  refine r_new rfl (Nat.le_of_ble_eq_true rfl) w_X4_init_10 tyX2 tyX2_ok w_X4_init_11 w_X4_init_12 w_X4_init_13 (fun j hj => match j, hj with | 0, _ => rfl | 1, _ => rfl | 2, _ => rfl) (Nat.le_of_ble_eq_true rfl) (Nat.le_of_ble_eq_true rfl) 19 rfl dX4_init_16 (fun w4 ew4 => ?_)
  have hw4 : z_at w4.1 o0 (3, 20, (va_up z_nn 0 (some w.1.1))) := by rw [ew4]; exact z_at_add hw3
  have pw4 : z_Pre w4 w3.1.1 1 3 := by rw [ew4]; exact z_pnew w3 1 3
  refine r_dup rfl 20 rfl dX4_init_19 ?_
  refine r_callIN (cvc := cvW) (c_X2_init (E := E) (l := l) w4 w3.1.1 pw4) ok_X2_init ⟨⟨(Nat.le_of_ble_eq_true rfl), (Nat.le_of_ble_eq_true rfl)⟩, (Nat.le_of_ble_eq_true rfl), (Nat.le_of_ble_eq_true rfl)⟩ (As := []) rfl (Nat.le_of_ble_eq_true rfl) 3 rfl gX4_init_X2_init_n20 w_X4_init_13 w_X4_init_14 rfl rfl (fun x9 e9 => by cases e9; exact (p_Prizes pw4).1.1.trans (by rw [pw4.1]; rfl)) 23 rfl dX4_init_20 (fun w5 qw5 => ?_)
  have ew5 : w5 = W_Prizes w4 w3.1.1 := (Option.some.inj qw5).symm
  have hw5 : z_at w5.1 o0 (3, 20, (va_up z_nn 0 (some w.1.1))) := by rw [ew5]; exact (p_Prizes pw4).1.2.1.at hw4 (Nat.ne_of_lt hw3.1)
  have xw5 : z_at w5.1 w3.1.1 (L_Prizes w3.1.1 0) := by rw [ew5]; exact (p_Prizes pw4).2 0 (by decide)
  refine r_putr hw5 rfl (Nat.le_of_ble_eq_true rfl) rfl rfl w_X4_init_9 tyX4 tyX4_ok nmX4 (Nat.le_of_ble_eq_true rfl) rfl rfl w_X4_init_15 rfl rfl rfl rfl rfl rfl rfl 26 rfl dX4_init_23 (fun w6 ew6 => ?_)
  have hw6 : z_at w6.1 o0 (3, 20, (va_up (va_up z_nn 0 (some w.1.1)) 1 (some w3.1.1))) := by rw [ew6]; exact z_at_ref _ _ hw5
  refine r_aload_n 0 0 rfl rfl 27 rfl dX4_init_26 ?_
  refine r_bipush 16 rfl 29 rfl dX4_init_27 ?_
  refine r_newa8 w_X4_init_16 (by decide) rfl (Nat.le_of_ble_eq_true rfl) (Nat.le_of_ble_eq_true rfl) (Nat.le_of_ble_eq_true rfl) 31 rfl dX4_init_29 (fun w7 ew7 => ?_)
  have hw7 : z_at w7.1 o0 (3, 20, (va_up (va_up z_nn 0 (some w.1.1)) 1 (some w3.1.1))) := by rw [ew7]; exact z_at_add hw6
  refine r_putr hw7 rfl (Nat.le_of_ble_eq_true rfl) rfl rfl w_X4_init_9 tyX4 tyX4_ok nmX4 (Nat.le_of_ble_eq_true rfl) rfl rfl w_X4_init_17 rfl rfl rfl rfl rfl rfl rfl 34 rfl dX4_init_31 (fun w8 ew8 => ?_)
  have hw8 : z_at w8.1 o0 (3, 20, (va_up (va_up (va_up z_nn 0 (some w.1.1)) 1 (some w3.1.1)) 2 (some w6.1.1))) := by rw [ew8]; exact z_at_ref _ _ hw7
  refine r_aload_n 0 0 rfl rfl 35 rfl dX4_init_34 ?_
  refine r_bipush 16 rfl 37 rfl dX4_init_35 ?_
  refine r_newa8 w_X4_init_16 (by decide) rfl (Nat.le_of_ble_eq_true rfl) (Nat.le_of_ble_eq_true rfl) (Nat.le_of_ble_eq_true rfl) 39 rfl dX4_init_37 (fun w9 ew9 => ?_)
  have hw9 : z_at w9.1 o0 (3, 20, (va_up (va_up (va_up z_nn 0 (some w.1.1)) 1 (some w3.1.1)) 2 (some w6.1.1))) := by rw [ew9]; exact z_at_add hw8
  refine r_putr hw9 rfl (Nat.le_of_ble_eq_true rfl) rfl rfl w_X4_init_9 tyX4 tyX4_ok nmX4 (Nat.le_of_ble_eq_true rfl) rfl rfl w_X4_init_18 rfl rfl rfl rfl rfl rfl rfl 42 rfl dX4_init_39 (fun w10 ew10 => ?_)
  have hw10 : z_at w10.1 o0 (3, 20, (va_up (va_up (va_up (va_up z_nn 0 (some w.1.1)) 1 (some w3.1.1)) 2 (some w6.1.1)) 3 (some w8.1.1))) := by rw [ew10]; exact z_at_ref _ _ hw9
  refine r_aload_n 0 0 rfl rfl 43 rfl dX4_init_42 ?_
  refine r_bipush 16 rfl 45 rfl dX4_init_43 ?_
  refine r_newa8 w_X4_init_16 (by decide) rfl (Nat.le_of_ble_eq_true rfl) (Nat.le_of_ble_eq_true rfl) (Nat.le_of_ble_eq_true rfl) 47 rfl dX4_init_45 (fun w11 ew11 => ?_)
  have hw11 : z_at w11.1 o0 (3, 20, (va_up (va_up (va_up (va_up z_nn 0 (some w.1.1)) 1 (some w3.1.1)) 2 (some w6.1.1)) 3 (some w8.1.1))) := by rw [ew11]; exact z_at_add hw10
  refine r_putr hw11 rfl (Nat.le_of_ble_eq_true rfl) rfl rfl w_X4_init_9 tyX4 tyX4_ok nmX4 (Nat.le_of_ble_eq_true rfl) rfl rfl w_X4_init_19 rfl rfl rfl rfl rfl rfl rfl 50 rfl dX4_init_47 (fun w12 ew12 => ?_)
  have hw12 : z_at w12.1 o0 (3, 20, (va_up (va_up (va_up (va_up (va_up z_nn 0 (some w.1.1)) 1 (some w3.1.1)) 2 (some w6.1.1)) 3 (some w8.1.1)) 4 (some w10.1.1))) := by rw [ew12]; exact z_at_ref _ _ hw11
  refine r_aload_n 0 0 rfl rfl 51 rfl dX4_init_50 ?_
  refine r_bipush 16 rfl 53 rfl dX4_init_51 ?_
  refine r_newa8 w_X4_init_16 (by decide) rfl (Nat.le_of_ble_eq_true rfl) (Nat.le_of_ble_eq_true rfl) (Nat.le_of_ble_eq_true rfl) 55 rfl dX4_init_53 (fun w13 ew13 => ?_)
  have hw13 : z_at w13.1 o0 (3, 20, (va_up (va_up (va_up (va_up (va_up z_nn 0 (some w.1.1)) 1 (some w3.1.1)) 2 (some w6.1.1)) 3 (some w8.1.1)) 4 (some w10.1.1))) := by rw [ew13]; exact z_at_add hw12
  refine r_putr hw13 rfl (Nat.le_of_ble_eq_true rfl) rfl rfl w_X4_init_9 tyX4 tyX4_ok nmX4 (Nat.le_of_ble_eq_true rfl) rfl rfl w_X4_init_20 rfl rfl rfl rfl rfl rfl rfl 58 rfl dX4_init_55 (fun w14 ew14 => ?_)
  have hw14 : z_at w14.1 o0 (3, 20, (va_up (va_up (va_up (va_up (va_up (va_up z_nn 0 (some w.1.1)) 1 (some w3.1.1)) 2 (some w6.1.1)) 3 (some w8.1.1)) 4 (some w10.1.1)) 5 (some w12.1.1))) := by rw [ew14]; exact z_at_ref _ _ hw13
  refine r_aload_n 0 0 rfl rfl 59 rfl dX4_init_58 ?_
  refine r_bipush 16 rfl 61 rfl dX4_init_59 ?_
  refine r_newa9 w_X4_init_21 (by decide) rfl (Nat.le_of_ble_eq_true rfl) (Nat.le_of_ble_eq_true rfl) (Nat.le_of_ble_eq_true rfl) 63 rfl dX4_init_61 (fun w15 ew15 => ?_)
  have hw15 : z_at w15.1 o0 (3, 20, (va_up (va_up (va_up (va_up (va_up (va_up z_nn 0 (some w.1.1)) 1 (some w3.1.1)) 2 (some w6.1.1)) 3 (some w8.1.1)) 4 (some w10.1.1)) 5 (some w12.1.1))) := by rw [ew15]; exact z_at_add hw14
  refine r_putr hw15 rfl (Nat.le_of_ble_eq_true rfl) rfl rfl w_X4_init_9 tyX4 tyX4_ok nmX4 (Nat.le_of_ble_eq_true rfl) rfl rfl w_X4_init_22 rfl rfl rfl rfl rfl rfl rfl 66 rfl dX4_init_63 (fun w16 ew16 => ?_)
  have hw16 : z_at w16.1 o0 (3, 20, (va_up (va_up (va_up (va_up (va_up (va_up (va_up z_nn 0 (some w.1.1)) 1 (some w3.1.1)) 2 (some w6.1.1)) 3 (some w8.1.1)) 4 (some w10.1.1)) 5 (some w12.1.1)) 6 (some w14.1.1))) := by rw [ew16]; exact z_at_ref _ _ hw15
  refine r_aload_n 0 0 rfl rfl 67 rfl dX4_init_66 ?_
  refine r_bipush 16 rfl 69 rfl dX4_init_67 ?_
  refine r_newa8 w_X4_init_16 (by decide) rfl (Nat.le_of_ble_eq_true rfl) (Nat.le_of_ble_eq_true rfl) (Nat.le_of_ble_eq_true rfl) 71 rfl dX4_init_69 (fun w17 ew17 => ?_)
  have hw17 : z_at w17.1 o0 (3, 20, (va_up (va_up (va_up (va_up (va_up (va_up (va_up z_nn 0 (some w.1.1)) 1 (some w3.1.1)) 2 (some w6.1.1)) 3 (some w8.1.1)) 4 (some w10.1.1)) 5 (some w12.1.1)) 6 (some w14.1.1))) := by rw [ew17]; exact z_at_add hw16
  refine r_putr hw17 rfl (Nat.le_of_ble_eq_true rfl) rfl rfl w_X4_init_9 tyX4 tyX4_ok nmX4 (Nat.le_of_ble_eq_true rfl) rfl rfl w_X4_init_23 rfl rfl rfl rfl rfl rfl rfl 74 rfl dX4_init_71 (fun w18 ew18 => ?_)
  have hw18 : z_at w18.1 o0 (3, 20, (va_up (va_up (va_up (va_up (va_up (va_up (va_up (va_up z_nn 0 (some w.1.1)) 1 (some w3.1.1)) 2 (some w6.1.1)) 3 (some w8.1.1)) 4 (some w10.1.1)) 5 (some w12.1.1)) 6 (some w14.1.1)) 8 (some w16.1.1))) := by rw [ew18]; exact z_at_ref _ _ hw17
  refine r_aload_n 0 0 rfl rfl 75 rfl dX4_init_74 ?_
  refine r_bipush 16 rfl 77 rfl dX4_init_75 ?_
  refine r_newa8 w_X4_init_16 (by decide) rfl (Nat.le_of_ble_eq_true rfl) (Nat.le_of_ble_eq_true rfl) (Nat.le_of_ble_eq_true rfl) 79 rfl dX4_init_77 (fun w19 ew19 => ?_)
  have hw19 : z_at w19.1 o0 (3, 20, (va_up (va_up (va_up (va_up (va_up (va_up (va_up (va_up z_nn 0 (some w.1.1)) 1 (some w3.1.1)) 2 (some w6.1.1)) 3 (some w8.1.1)) 4 (some w10.1.1)) 5 (some w12.1.1)) 6 (some w14.1.1)) 8 (some w16.1.1))) := by rw [ew19]; exact z_at_add hw18
  refine r_putr hw19 rfl (Nat.le_of_ble_eq_true rfl) rfl rfl w_X4_init_9 tyX4 tyX4_ok nmX4 (Nat.le_of_ble_eq_true rfl) rfl rfl w_X4_init_24 rfl rfl rfl rfl rfl rfl rfl 82 rfl dX4_init_79 (fun w20 ew20 => ?_)
  have hw20 : z_at w20.1 o0 (3, 20, (va_up (va_up (va_up (va_up (va_up (va_up (va_up (va_up (va_up z_nn 0 (some w.1.1)) 1 (some w3.1.1)) 2 (some w6.1.1)) 3 (some w8.1.1)) 4 (some w10.1.1)) 5 (some w12.1.1)) 6 (some w14.1.1)) 8 (some w16.1.1)) 9 (some w18.1.1))) := by rw [ew20]; exact z_at_ref _ _ hw19
  refine r_aload_n 0 0 rfl rfl 83 rfl dX4_init_82 ?_
  refine r_bipush 16 rfl 85 rfl dX4_init_83 ?_
  refine r_newa8 w_X4_init_16 (by decide) rfl (Nat.le_of_ble_eq_true rfl) (Nat.le_of_ble_eq_true rfl) (Nat.le_of_ble_eq_true rfl) 87 rfl dX4_init_85 (fun w21 ew21 => ?_)
  have hw21 : z_at w21.1 o0 (3, 20, (va_up (va_up (va_up (va_up (va_up (va_up (va_up (va_up (va_up z_nn 0 (some w.1.1)) 1 (some w3.1.1)) 2 (some w6.1.1)) 3 (some w8.1.1)) 4 (some w10.1.1)) 5 (some w12.1.1)) 6 (some w14.1.1)) 8 (some w16.1.1)) 9 (some w18.1.1))) := by rw [ew21]; exact z_at_add hw20
  refine r_putr hw21 rfl (Nat.le_of_ble_eq_true rfl) rfl rfl w_X4_init_9 tyX4 tyX4_ok nmX4 (Nat.le_of_ble_eq_true rfl) rfl rfl w_X4_init_25 rfl rfl rfl rfl rfl rfl rfl 90 rfl dX4_init_87 (fun w22 ew22 => ?_)
  have hw22 : z_at w22.1 o0 (3, 20, (va_up (va_up (va_up (va_up (va_up (va_up (va_up (va_up (va_up (va_up z_nn 0 (some w.1.1)) 1 (some w3.1.1)) 2 (some w6.1.1)) 3 (some w8.1.1)) 4 (some w10.1.1)) 5 (some w12.1.1)) 6 (some w14.1.1)) 8 (some w16.1.1)) 9 (some w18.1.1)) 10 (some w20.1.1))) := by rw [ew22]; exact z_at_ref _ _ hw21
  refine r_aload_n 0 0 rfl rfl 91 rfl dX4_init_90 ?_
  refine r_bipush 16 rfl 93 rfl dX4_init_91 ?_
  refine r_newa8 w_X4_init_16 (by decide) rfl (Nat.le_of_ble_eq_true rfl) (Nat.le_of_ble_eq_true rfl) (Nat.le_of_ble_eq_true rfl) 95 rfl dX4_init_93 (fun w23 ew23 => ?_)
  have hw23 : z_at w23.1 o0 (3, 20, (va_up (va_up (va_up (va_up (va_up (va_up (va_up (va_up (va_up (va_up z_nn 0 (some w.1.1)) 1 (some w3.1.1)) 2 (some w6.1.1)) 3 (some w8.1.1)) 4 (some w10.1.1)) 5 (some w12.1.1)) 6 (some w14.1.1)) 8 (some w16.1.1)) 9 (some w18.1.1)) 10 (some w20.1.1))) := by rw [ew23]; exact z_at_add hw22
  refine r_putr hw23 rfl (Nat.le_of_ble_eq_true rfl) rfl rfl w_X4_init_9 tyX4 tyX4_ok nmX4 (Nat.le_of_ble_eq_true rfl) rfl rfl w_X4_init_26 rfl rfl rfl rfl rfl rfl rfl 98 rfl dX4_init_95 (fun w24 ew24 => ?_)
  have hw24 : z_at w24.1 o0 (3, 20, (va_up (va_up (va_up (va_up (va_up (va_up (va_up (va_up (va_up (va_up (va_up z_nn 0 (some w.1.1)) 1 (some w3.1.1)) 2 (some w6.1.1)) 3 (some w8.1.1)) 4 (some w10.1.1)) 5 (some w12.1.1)) 6 (some w14.1.1)) 8 (some w16.1.1)) 9 (some w18.1.1)) 10 (some w20.1.1)) 11 (some w22.1.1))) := by rw [ew24]; exact z_at_ref _ _ hw23
  refine r_aload_n 0 0 rfl rfl 99 rfl dX4_init_98 ?_
  refine r_bipush 16 rfl 101 rfl dX4_init_99 ?_
  refine r_newa8 w_X4_init_16 (by decide) rfl (Nat.le_of_ble_eq_true rfl) (Nat.le_of_ble_eq_true rfl) (Nat.le_of_ble_eq_true rfl) 103 rfl dX4_init_101 (fun w25 ew25 => ?_)
  have hw25 : z_at w25.1 o0 (3, 20, (va_up (va_up (va_up (va_up (va_up (va_up (va_up (va_up (va_up (va_up (va_up z_nn 0 (some w.1.1)) 1 (some w3.1.1)) 2 (some w6.1.1)) 3 (some w8.1.1)) 4 (some w10.1.1)) 5 (some w12.1.1)) 6 (some w14.1.1)) 8 (some w16.1.1)) 9 (some w18.1.1)) 10 (some w20.1.1)) 11 (some w22.1.1))) := by rw [ew25]; exact z_at_add hw24
  refine r_putr hw25 rfl (Nat.le_of_ble_eq_true rfl) rfl rfl w_X4_init_9 tyX4 tyX4_ok nmX4 (Nat.le_of_ble_eq_true rfl) rfl rfl w_X4_init_27 rfl rfl rfl rfl rfl rfl rfl 106 rfl dX4_init_103 (fun w26 ew26 => ?_)
  have hw26 : z_at w26.1 o0 (3, 20, (va_up (va_up (va_up (va_up (va_up (va_up (va_up (va_up (va_up (va_up (va_up (va_up z_nn 0 (some w.1.1)) 1 (some w3.1.1)) 2 (some w6.1.1)) 3 (some w8.1.1)) 4 (some w10.1.1)) 5 (some w12.1.1)) 6 (some w14.1.1)) 8 (some w16.1.1)) 9 (some w18.1.1)) 10 (some w20.1.1)) 11 (some w22.1.1)) 12 (some w24.1.1))) := by rw [ew26]; exact z_at_ref _ _ hw25
  refine r_aload_n 0 0 rfl rfl 107 rfl dX4_init_106 ?_
  refine r_bipush 16 rfl 109 rfl dX4_init_107 ?_
  refine r_newa9 w_X4_init_21 (by decide) rfl (Nat.le_of_ble_eq_true rfl) (Nat.le_of_ble_eq_true rfl) (Nat.le_of_ble_eq_true rfl) 111 rfl dX4_init_109 (fun w27 ew27 => ?_)
  have hw27 : z_at w27.1 o0 (3, 20, (va_up (va_up (va_up (va_up (va_up (va_up (va_up (va_up (va_up (va_up (va_up (va_up z_nn 0 (some w.1.1)) 1 (some w3.1.1)) 2 (some w6.1.1)) 3 (some w8.1.1)) 4 (some w10.1.1)) 5 (some w12.1.1)) 6 (some w14.1.1)) 8 (some w16.1.1)) 9 (some w18.1.1)) 10 (some w20.1.1)) 11 (some w22.1.1)) 12 (some w24.1.1))) := by rw [ew27]; exact z_at_add hw26
  refine r_putr hw27 rfl (Nat.le_of_ble_eq_true rfl) rfl rfl w_X4_init_9 tyX4 tyX4_ok nmX4 (Nat.le_of_ble_eq_true rfl) rfl rfl w_X4_init_28 rfl rfl rfl rfl rfl rfl rfl 114 rfl dX4_init_111 (fun w28 ew28 => ?_)
  have hw28 : z_at w28.1 o0 (3, 20, (va_up (va_up (va_up (va_up (va_up (va_up (va_up (va_up (va_up (va_up (va_up (va_up (va_up z_nn 0 (some w.1.1)) 1 (some w3.1.1)) 2 (some w6.1.1)) 3 (some w8.1.1)) 4 (some w10.1.1)) 5 (some w12.1.1)) 6 (some w14.1.1)) 8 (some w16.1.1)) 9 (some w18.1.1)) 10 (some w20.1.1)) 11 (some w22.1.1)) 12 (some w24.1.1)) 13 (some w26.1.1))) := by rw [ew28]; exact z_at_ref _ _ hw27
  exact r_return rfl rfl (Nat.le_of_ble_eq_true rfl) (Nat.le_of_ble_eq_true rfl) dX4_init_114
def Y_X3_init : z_Y := (RX3, cX3_init, 2, wsX3_init, none, { frames := 3, cells := 172, slots := 3000, locals := 60 }, 172, 3000)
theorem ok_X3_init : z_Ok yX3_init Y_X3_init 0 := ⟨⟨_, rfl⟩, rfl, rfl, rfl, by decide +kernel, by decide +kernel⟩
theorem w_X3_init_0 : Cond.methodLink RX3 3 Lib.objectInit ∈ wsX3_init := by decide +kernel
theorem w_X3_init_1 : Cond.instanceMethod Lib.objectInit ∈ wsX3_init := by decide +kernel
theorem w_X3_init_2 : Cond.code Lib.objectInit ⟨#[0xb1]⟩ 1 none ∈ wsX3_init := by decide +kernel
theorem w_X3_init_3 : Cond.fieldLink RX3 9 "BunchTimes$Race" "gap" "I" ∈ wsX3_init := by decide +kernel
theorem w_X3_init_4 : ∀ w ∈ u_ws RX3 TX3 10, w ∈ wsX3_init := by decide +kernel
theorem w_X3_init_5 : Cond.fieldLink RX3 15 "BunchTimes$Race" "zone" "I" ∈ wsX3_init := by decide +kernel
theorem w_X3_init_6 : Cond.arrayClass .int ∈ wsX3_init := by decide +kernel
theorem w_X3_init_7 : Cond.fieldLink RX3 18 "BunchTimes$Race" "teamOf" "[I" ∈ wsX3_init := by decide +kernel
theorem w_X3_init_8 : Cond.fieldLink RX3 22 "BunchTimes$Race" "age" "[I" ∈ wsX3_init := by decide +kernel
theorem w_X3_init_9 : Cond.arrayClass .boolean ∈ wsX3_init := by decide +kernel
theorem w_X3_init_10 : Cond.fieldLink RX3 25 "BunchTimes$Race" "in" "[Z" ∈ wsX3_init := by decide +kernel
theorem w_X3_init_11 : Cond.classLink RX3 29 RX4 ∈ wsX3_init := by decide +kernel
theorem w_X3_init_12 : Cond.fieldLink RX3 31 "BunchTimes$Race" "all" "[LBunchTimes$Stage;" ∈ wsX3_init := by decide +kernel
theorem w_X3_init_13 : ∀ w ∈ u_ws RX4 TX4 20, w ∈ wsX3_init := by decide +kernel
theorem w_X3_init_14 : Cond.instantiable RX4 20 ∈ wsX3_init := by decide +kernel
theorem w_X3_init_15 : Cond.initialized RX4 ∈ wsX3_init := by decide +kernel
theorem w_X3_init_16 : Cond.instanceMethod yX4_init ∈ wsX3_init := by decide +kernel
def f_X3_init (w : z_W) (o0 : Nat) : Option z_W := z_put (w).2 o0 4 10 (fun d1 => z_put (((w).1, d1)).2 o0 5 3 (fun d3 => z_nam (z_wadd ((((w).1, d1)).1, d3) (8, 16, z_nn)) (fun w5 => z_nam (z_wref w5 o0 6 ((((w).1, d1)).1, d3).1.1) (fun w6 => z_nam (z_wadd w6 (8, 16, z_nn)) (fun w7 => z_nam (z_wref w7 o0 7 w6.1.1) (fun w8 => z_nam (z_wadd w8 (9, 16, z_nn)) (fun w9 => z_nam (z_wref w9 o0 8 w8.1.1) (fun w10 => z_nam (z_wadd w10 (12, 8, z_nn)) (fun w11 => z_nam (z_wref w11 o0 9 w10.1.1) (fun w12 => (if (8 : Int32) ≤ 0 then none else z_nam (z_wadd w12 (3, 20, z_nn)) (fun w13 => ((some (W_Stage w13 w12.1.1)).bind fun w14 => z_nam (z_wref w14 w10.1.1 0 w12.1.1) (fun w15 => (if (8 : Int32) ≤ 1 then none else z_nam (z_wadd w15 (3, 20, z_nn)) (fun w16 => ((some (W_Stage w16 w15.1.1)).bind fun w17 => z_nam (z_wref w17 w10.1.1 1 w15.1.1) (fun w18 => (if (8 : Int32) ≤ 2 then none else z_nam (z_wadd w18 (3, 20, z_nn)) (fun w19 => ((some (W_Stage w19 w18.1.1)).bind fun w20 => z_nam (z_wref w20 w10.1.1 2 w18.1.1) (fun w21 => (if (8 : Int32) ≤ 3 then none else z_nam (z_wadd w21 (3, 20, z_nn)) (fun w22 => ((some (W_Stage w22 w21.1.1)).bind fun w23 => z_nam (z_wref w23 w10.1.1 3 w21.1.1) (fun w24 => (if (8 : Int32) ≤ 4 then none else z_nam (z_wadd w24 (3, 20, z_nn)) (fun w25 => ((some (W_Stage w25 w24.1.1)).bind fun w26 => z_nam (z_wref w26 w10.1.1 4 w24.1.1) (fun w27 => (if (8 : Int32) ≤ 5 then none else z_nam (z_wadd w27 (3, 20, z_nn)) (fun w28 => ((some (W_Stage w28 w27.1.1)).bind fun w29 => z_nam (z_wref w29 w10.1.1 5 w27.1.1) (fun w30 => (if (8 : Int32) ≤ 6 then none else z_nam (z_wadd w30 (3, 20, z_nn)) (fun w31 => ((some (W_Stage w31 w30.1.1)).bind fun w32 => z_nam (z_wref w32 w10.1.1 6 w30.1.1) (fun w33 => (if (8 : Int32) ≤ 7 then none else z_nam (z_wadd w33 (3, 20, z_nn)) (fun w34 => ((some (W_Stage w34 w33.1.1)).bind fun w35 => z_nam (z_wref w35 w10.1.1 7 w33.1.1) (fun w36 => (if (8 : Int32) ≤ 8 then (some (w36 : z_W)) else none)))))))))))))))))))))))))))))))))))))))))))
set_option maxHeartbeats 4000000 in
set_option maxRecDepth 100000 in
theorem e_X3_init (w : z_W) (o0 : Nat) : some (W_Race w o0) = f_X3_init w o0 := rfl
set_option maxHeartbeats 8000000 in
set_option maxRecDepth 100000 in
theorem c_X3_init {E : z_E} {l : Launch} (w : z_W) (o0 : Nat) (hp : z_Pre w o0 2 10) : z_Sp E l yX3_init Y_X3_init cvW [.ref (E.2.1 + o0)] w (some (W_Race w o0)) := by
  refine z_entry (lv := [(0, .ref (E.2.1 + o0))]) (by decide) rfl rfl (Nat.le_of_ble_eq_true rfl) rfl ?_
  refine r_eq (e_X3_init w o0) ?_
  unfold f_X3_init
  have h0 := hp.2.1
  refine r_aload_n 0 0 rfl rfl 1 rfl dX3_init_0 ?_
  refine r_objInit w_X3_init_0 w_X3_init_1 w_X3_init_2 (Nat.le_of_ble_eq_true rfl) (Nat.le_of_ble_eq_true rfl) 4 rfl dX3_init_1 ?_
  refine r_aload_n 0 0 rfl rfl 5 rfl dX3_init_4 ?_
  refine r_bipush 10 rfl 7 rfl dX3_init_5 ?_
  refine r_put (S := (w).1) (d := (w).2) h0 rfl (Nat.le_of_ble_eq_true rfl) rfl rfl w_X3_init_4 tyX3 tyX3_ok nmX3 (Nat.le_of_ble_eq_true rfl) rfl w_X3_init_3 rfl rfl rfl rfl rfl 10 rfl dX3_init_7 (fun d1 => ?_)
  refine r_aload_n 0 0 rfl rfl 11 rfl dX3_init_10 ?_
  refine r_iconst 3 rfl 12 rfl dX3_init_11 ?_
  refine r_put (S := (((w).1, d1)).1) (d := (((w).1, d1)).2) h0 rfl (Nat.le_of_ble_eq_true rfl) rfl rfl w_X3_init_4 tyX3 tyX3_ok nmX3 (Nat.le_of_ble_eq_true rfl) rfl w_X3_init_5 rfl rfl rfl rfl rfl 15 rfl dX3_init_12 (fun d3 => ?_)
  refine r_aload_n 0 0 rfl rfl 16 rfl dX3_init_15 ?_
  refine r_bipush 16 rfl 18 rfl dX3_init_16 ?_
  refine r_newa8 w_X3_init_6 (by decide) rfl (Nat.le_of_ble_eq_true rfl) (Nat.le_of_ble_eq_true rfl) (Nat.le_of_ble_eq_true rfl) 20 rfl dX3_init_18 (fun w5 ew5 => ?_)
  have hw5 : z_at w5.1 o0 (2, 10, z_nn) := by rw [ew5]; exact z_at_add h0
  refine r_putr hw5 rfl (Nat.le_of_ble_eq_true rfl) rfl rfl w_X3_init_4 tyX3 tyX3_ok nmX3 (Nat.le_of_ble_eq_true rfl) rfl rfl w_X3_init_7 rfl rfl rfl rfl rfl rfl rfl 23 rfl dX3_init_20 (fun w6 ew6 => ?_)
  have hw6 : z_at w6.1 o0 (2, 10, (va_up z_nn 6 (some ((((w).1, d1)).1, d3).1.1))) := by rw [ew6]; exact z_at_ref _ _ hw5
  refine r_aload_n 0 0 rfl rfl 24 rfl dX3_init_23 ?_
  refine r_bipush 16 rfl 26 rfl dX3_init_24 ?_
  refine r_newa8 w_X3_init_6 (by decide) rfl (Nat.le_of_ble_eq_true rfl) (Nat.le_of_ble_eq_true rfl) (Nat.le_of_ble_eq_true rfl) 28 rfl dX3_init_26 (fun w7 ew7 => ?_)
  have hw7 : z_at w7.1 o0 (2, 10, (va_up z_nn 6 (some ((((w).1, d1)).1, d3).1.1))) := by rw [ew7]; exact z_at_add hw6
  refine r_putr hw7 rfl (Nat.le_of_ble_eq_true rfl) rfl rfl w_X3_init_4 tyX3 tyX3_ok nmX3 (Nat.le_of_ble_eq_true rfl) rfl rfl w_X3_init_8 rfl rfl rfl rfl rfl rfl rfl 31 rfl dX3_init_28 (fun w8 ew8 => ?_)
  have hw8 : z_at w8.1 o0 (2, 10, (va_up (va_up z_nn 6 (some ((((w).1, d1)).1, d3).1.1)) 7 (some w6.1.1))) := by rw [ew8]; exact z_at_ref _ _ hw7
  refine r_aload_n 0 0 rfl rfl 32 rfl dX3_init_31 ?_
  refine r_bipush 16 rfl 34 rfl dX3_init_32 ?_
  refine r_newa9 w_X3_init_9 (by decide) rfl (Nat.le_of_ble_eq_true rfl) (Nat.le_of_ble_eq_true rfl) (Nat.le_of_ble_eq_true rfl) 36 rfl dX3_init_34 (fun w9 ew9 => ?_)
  have hw9 : z_at w9.1 o0 (2, 10, (va_up (va_up z_nn 6 (some ((((w).1, d1)).1, d3).1.1)) 7 (some w6.1.1))) := by rw [ew9]; exact z_at_add hw8
  refine r_putr hw9 rfl (Nat.le_of_ble_eq_true rfl) rfl rfl w_X3_init_4 tyX3 tyX3_ok nmX3 (Nat.le_of_ble_eq_true rfl) rfl rfl w_X3_init_10 rfl rfl rfl rfl rfl rfl rfl 39 rfl dX3_init_36 (fun w10 ew10 => ?_)
  have hw10 : z_at w10.1 o0 (2, 10, (va_up (va_up (va_up z_nn 6 (some ((((w).1, d1)).1, d3).1.1)) 7 (some w6.1.1)) 8 (some w8.1.1))) := by rw [ew10]; exact z_at_ref _ _ hw9
  refine r_aload_n 0 0 rfl rfl 40 rfl dX3_init_39 ?_
  refine r_bipush 8 rfl 42 rfl dX3_init_40 ?_
  refine r_newa12 w_X3_init_11 (by decide) rfl (Nat.le_of_ble_eq_true rfl) (Nat.le_of_ble_eq_true rfl) (Nat.le_of_ble_eq_true rfl) 45 rfl dX3_init_42 (fun w11 ew11 => ?_)
  have hw11 : z_at w11.1 o0 (2, 10, (va_up (va_up (va_up z_nn 6 (some ((((w).1, d1)).1, d3).1.1)) 7 (some w6.1.1)) 8 (some w8.1.1))) := by rw [ew11]; exact z_at_add hw10
  refine r_putr hw11 rfl (Nat.le_of_ble_eq_true rfl) rfl rfl w_X3_init_4 tyX3 tyX3_ok nmX3 (Nat.le_of_ble_eq_true rfl) rfl rfl w_X3_init_12 rfl rfl rfl rfl rfl rfl rfl 48 rfl dX3_init_45 (fun w12 ew12 => ?_)
  have hw12 : z_at w12.1 o0 (2, 10, (va_up (va_up (va_up (va_up z_nn 6 (some ((((w).1, d1)).1, d3).1.1)) 7 (some w6.1.1)) 8 (some w8.1.1)) 9 (some w10.1.1))) := by rw [ew12]; exact z_at_ref _ _ hw11
  have aw12 : z_at w12.1 w10.1.1 (12, 8, z_nn) := by rw [ew12]; exact z_at_refo _ _ (Nat.ne_of_gt hw10.1) (show z_at w11.1 w10.1.1 (12, 8, z_nn) by rw [ew11]; exact z_at_new w10 _)
  refine r_iconst 0 rfl 49 rfl dX3_init_48 ?_
  refine r_istore_n 1 rfl [(1, .int 0), (0, .ref (E.2.1 + o0))] (Nat.le_of_ble_eq_true rfl) rfl 50 rfl dX3_init_49 ?_
  refine r_iload_n 1 0 rfl rfl 51 rfl dX3_init_50 ?_
  refine r_bipush 8 rfl 53 rfl dX3_init_51 ?_
  refine r_icmp_ge 75 56 rfl rfl dX3_init_53 r_none ?_
  refine r_aload_n 0 1 rfl rfl 57 rfl dX3_init_56 ?_
  refine r_get (S := (w12).1) (d := (w12).2) hw12 rfl (Nat.le_of_ble_eq_true rfl) rfl rfl w_X3_init_4 9 (Nat.le_of_ble_eq_true rfl) rfl w_X3_init_12 (.ref (E.2.1 + w10.1.1)) rfl 60 rfl dX3_init_57 ?_
  refine r_iload_n 1 0 rfl rfl 61 rfl dX3_init_60 ?_
  refine r_new rfl (Nat.le_of_ble_eq_true rfl) w_X3_init_13 tyX4 tyX4_ok w_X3_init_11 w_X3_init_14 w_X3_init_15 (z_df4 _) (Nat.le_of_ble_eq_true rfl) (Nat.le_of_ble_eq_true rfl) 64 rfl dX3_init_61 (fun w13 ew13 => ?_)
  have hw13 : z_at w13.1 o0 (2, 10, (va_up (va_up (va_up (va_up z_nn 6 (some ((((w).1, d1)).1, d3).1.1)) 7 (some w6.1.1)) 8 (some w8.1.1)) 9 (some w10.1.1))) := by rw [ew13]; exact z_at_add hw12
  have pw13 : z_Pre w13 w12.1.1 3 20 := by rw [ew13]; exact z_pnew w12 3 20
  have aw13 : z_at w13.1 w10.1.1 (12, 8, z_nn) := by rw [ew13]; exact z_at_add aw12
  refine r_dup rfl 65 rfl dX3_init_64 ?_
  refine r_callIN (cvc := cvW) (c_X4_init (E := E) (l := l) w13 w12.1.1 pw13) ok_X4_init ⟨⟨(Nat.le_of_ble_eq_true rfl), (Nat.le_of_ble_eq_true rfl)⟩, (Nat.le_of_ble_eq_true rfl), (Nat.le_of_ble_eq_true rfl)⟩ (As := []) rfl (Nat.le_of_ble_eq_true rfl) 1 rfl gX3_init_X4_init_n35 w_X3_init_15 w_X3_init_16 rfl rfl (fun x9 e9 => by cases e9; exact (p_Stage pw13).1.trans (by rw [pw13.1]; rfl)) 68 rfl dX3_init_65 (fun w14 qw14 => ?_)
  have ew14 : w14 = W_Stage w13 w12.1.1 := (Option.some.inj qw14).symm
  have hw14 : z_at w14.1 o0 (2, 10, (va_up (va_up (va_up (va_up z_nn 6 (some ((((w).1, d1)).1, d3).1.1)) 7 (some w6.1.1)) 8 (some w8.1.1)) 9 (some w10.1.1))) := by rw [ew14]; exact (p_Stage pw13).2.1.at hw13 (Nat.ne_of_lt hw12.1)
  have aw14 : z_at w14.1 w10.1.1 (12, 8, z_nn) := by rw [ew14]; exact (p_Stage pw13).2.1.at aw13 (Nat.ne_of_lt aw12.1)
  have xw14 : z_at w14.1 w12.1.1 (L_Stage w12.1.1 0) := by rw [ew14]; exact (p_Stage pw13).2.2.1 0 (by decide)
  refine r_ast12 (N := 8) aw14 rfl rfl xw14 rfl (show ¬ ((0 : Int32) < 0 ∨ 8 ≤ (0 : Int32).toNatClampNeg) by decide) rfl 69 rfl dX3_init_68 (fun w15 ew15 => ?_)
  have hw15 : z_at w15.1 o0 (2, 10, (va_up (va_up (va_up (va_up z_nn 6 (some ((((w).1, d1)).1, d3).1.1)) 7 (some w6.1.1)) 8 (some w8.1.1)) 9 (some w10.1.1))) := by rw [ew15]; exact z_at_refo _ _ (Nat.ne_of_lt hw10.1) hw14
  have aw15 : z_at w15.1 w10.1.1 (12, 8, (va_up z_nn 0 (some w12.1.1))) := by rw [ew15]; exact z_at_ref _ _ aw14
  refine r_iinc 1 0 rfl rfl [(1, .int 1), (0, .ref (E.2.1 + o0))] (Nat.le_of_ble_eq_true rfl) rfl 72 rfl dX3_init_69 ?_
  refine r_goto 50 rfl dX3_init_72 ?_
  refine r_iload_n 1 0 rfl rfl 51 rfl dX3_init_50 ?_
  refine r_bipush 8 rfl 53 rfl dX3_init_51 ?_
  refine r_icmp_ge 75 56 rfl rfl dX3_init_53 r_none ?_
  refine r_aload_n 0 1 rfl rfl 57 rfl dX3_init_56 ?_
  refine r_get (S := (w15).1) (d := (w15).2) hw15 rfl (Nat.le_of_ble_eq_true rfl) rfl rfl w_X3_init_4 9 (Nat.le_of_ble_eq_true rfl) rfl w_X3_init_12 (.ref (E.2.1 + w10.1.1)) rfl 60 rfl dX3_init_57 ?_
  refine r_iload_n 1 0 rfl rfl 61 rfl dX3_init_60 ?_
  refine r_new rfl (Nat.le_of_ble_eq_true rfl) w_X3_init_13 tyX4 tyX4_ok w_X3_init_11 w_X3_init_14 w_X3_init_15 (z_df4 _) (Nat.le_of_ble_eq_true rfl) (Nat.le_of_ble_eq_true rfl) 64 rfl dX3_init_61 (fun w16 ew16 => ?_)
  have hw16 : z_at w16.1 o0 (2, 10, (va_up (va_up (va_up (va_up z_nn 6 (some ((((w).1, d1)).1, d3).1.1)) 7 (some w6.1.1)) 8 (some w8.1.1)) 9 (some w10.1.1))) := by rw [ew16]; exact z_at_add hw15
  have pw16 : z_Pre w16 w15.1.1 3 20 := by rw [ew16]; exact z_pnew w15 3 20
  have aw16 : z_at w16.1 w10.1.1 (12, 8, (va_up z_nn 0 (some w12.1.1))) := by rw [ew16]; exact z_at_add aw15
  refine r_dup rfl 65 rfl dX3_init_64 ?_
  refine r_callIN (cvc := cvW) (c_X4_init (E := E) (l := l) w16 w15.1.1 pw16) ok_X4_init ⟨⟨(Nat.le_of_ble_eq_true rfl), (Nat.le_of_ble_eq_true rfl)⟩, (Nat.le_of_ble_eq_true rfl), (Nat.le_of_ble_eq_true rfl)⟩ (As := []) rfl (Nat.le_of_ble_eq_true rfl) 1 rfl gX3_init_X4_init_n35 w_X3_init_15 w_X3_init_16 rfl rfl (fun x9 e9 => by cases e9; exact (p_Stage pw16).1.trans (by rw [pw16.1]; rfl)) 68 rfl dX3_init_65 (fun w17 qw17 => ?_)
  have ew17 : w17 = W_Stage w16 w15.1.1 := (Option.some.inj qw17).symm
  have hw17 : z_at w17.1 o0 (2, 10, (va_up (va_up (va_up (va_up z_nn 6 (some ((((w).1, d1)).1, d3).1.1)) 7 (some w6.1.1)) 8 (some w8.1.1)) 9 (some w10.1.1))) := by rw [ew17]; exact (p_Stage pw16).2.1.at hw16 (Nat.ne_of_lt hw15.1)
  have aw17 : z_at w17.1 w10.1.1 (12, 8, (va_up z_nn 0 (some w12.1.1))) := by rw [ew17]; exact (p_Stage pw16).2.1.at aw16 (Nat.ne_of_lt aw15.1)
  have xw17 : z_at w17.1 w15.1.1 (L_Stage w15.1.1 0) := by rw [ew17]; exact (p_Stage pw16).2.2.1 0 (by decide)
  refine r_ast12 (N := 8) aw17 rfl rfl xw17 rfl (show ¬ ((1 : Int32) < 0 ∨ 8 ≤ (1 : Int32).toNatClampNeg) by decide) rfl 69 rfl dX3_init_68 (fun w18 ew18 => ?_)
  have hw18 : z_at w18.1 o0 (2, 10, (va_up (va_up (va_up (va_up z_nn 6 (some ((((w).1, d1)).1, d3).1.1)) 7 (some w6.1.1)) 8 (some w8.1.1)) 9 (some w10.1.1))) := by rw [ew18]; exact z_at_refo _ _ (Nat.ne_of_lt hw10.1) hw17
  have aw18 : z_at w18.1 w10.1.1 (12, 8, (va_up (va_up z_nn 0 (some w12.1.1)) 1 (some w15.1.1))) := by rw [ew18]; exact z_at_ref _ _ aw17
  refine r_iinc 2 0 rfl rfl [(1, .int 2), (0, .ref (E.2.1 + o0))] (Nat.le_of_ble_eq_true rfl) rfl 72 rfl dX3_init_69 ?_
  refine r_goto 50 rfl dX3_init_72 ?_
  refine r_iload_n 1 0 rfl rfl 51 rfl dX3_init_50 ?_
  refine r_bipush 8 rfl 53 rfl dX3_init_51 ?_
  refine r_icmp_ge 75 56 rfl rfl dX3_init_53 r_none ?_
  refine r_aload_n 0 1 rfl rfl 57 rfl dX3_init_56 ?_
  refine r_get (S := (w18).1) (d := (w18).2) hw18 rfl (Nat.le_of_ble_eq_true rfl) rfl rfl w_X3_init_4 9 (Nat.le_of_ble_eq_true rfl) rfl w_X3_init_12 (.ref (E.2.1 + w10.1.1)) rfl 60 rfl dX3_init_57 ?_
  refine r_iload_n 1 0 rfl rfl 61 rfl dX3_init_60 ?_
  refine r_new rfl (Nat.le_of_ble_eq_true rfl) w_X3_init_13 tyX4 tyX4_ok w_X3_init_11 w_X3_init_14 w_X3_init_15 (z_df4 _) (Nat.le_of_ble_eq_true rfl) (Nat.le_of_ble_eq_true rfl) 64 rfl dX3_init_61 (fun w19 ew19 => ?_)
  have hw19 : z_at w19.1 o0 (2, 10, (va_up (va_up (va_up (va_up z_nn 6 (some ((((w).1, d1)).1, d3).1.1)) 7 (some w6.1.1)) 8 (some w8.1.1)) 9 (some w10.1.1))) := by rw [ew19]; exact z_at_add hw18
  have pw19 : z_Pre w19 w18.1.1 3 20 := by rw [ew19]; exact z_pnew w18 3 20
  have aw19 : z_at w19.1 w10.1.1 (12, 8, (va_up (va_up z_nn 0 (some w12.1.1)) 1 (some w15.1.1))) := by rw [ew19]; exact z_at_add aw18
  refine r_dup rfl 65 rfl dX3_init_64 ?_
  refine r_callIN (cvc := cvW) (c_X4_init (E := E) (l := l) w19 w18.1.1 pw19) ok_X4_init ⟨⟨(Nat.le_of_ble_eq_true rfl), (Nat.le_of_ble_eq_true rfl)⟩, (Nat.le_of_ble_eq_true rfl), (Nat.le_of_ble_eq_true rfl)⟩ (As := []) rfl (Nat.le_of_ble_eq_true rfl) 1 rfl gX3_init_X4_init_n35 w_X3_init_15 w_X3_init_16 rfl rfl (fun x9 e9 => by cases e9; exact (p_Stage pw19).1.trans (by rw [pw19.1]; rfl)) 68 rfl dX3_init_65 (fun w20 qw20 => ?_)
  have ew20 : w20 = W_Stage w19 w18.1.1 := (Option.some.inj qw20).symm
  have hw20 : z_at w20.1 o0 (2, 10, (va_up (va_up (va_up (va_up z_nn 6 (some ((((w).1, d1)).1, d3).1.1)) 7 (some w6.1.1)) 8 (some w8.1.1)) 9 (some w10.1.1))) := by rw [ew20]; exact (p_Stage pw19).2.1.at hw19 (Nat.ne_of_lt hw18.1)
  have aw20 : z_at w20.1 w10.1.1 (12, 8, (va_up (va_up z_nn 0 (some w12.1.1)) 1 (some w15.1.1))) := by rw [ew20]; exact (p_Stage pw19).2.1.at aw19 (Nat.ne_of_lt aw18.1)
  have xw20 : z_at w20.1 w18.1.1 (L_Stage w18.1.1 0) := by rw [ew20]; exact (p_Stage pw19).2.2.1 0 (by decide)
  refine r_ast12 (N := 8) aw20 rfl rfl xw20 rfl (show ¬ ((2 : Int32) < 0 ∨ 8 ≤ (2 : Int32).toNatClampNeg) by decide) rfl 69 rfl dX3_init_68 (fun w21 ew21 => ?_)
  have hw21 : z_at w21.1 o0 (2, 10, (va_up (va_up (va_up (va_up z_nn 6 (some ((((w).1, d1)).1, d3).1.1)) 7 (some w6.1.1)) 8 (some w8.1.1)) 9 (some w10.1.1))) := by rw [ew21]; exact z_at_refo _ _ (Nat.ne_of_lt hw10.1) hw20
  have aw21 : z_at w21.1 w10.1.1 (12, 8, (va_up (va_up (va_up z_nn 0 (some w12.1.1)) 1 (some w15.1.1)) 2 (some w18.1.1))) := by rw [ew21]; exact z_at_ref _ _ aw20
  refine r_iinc 3 0 rfl rfl [(1, .int 3), (0, .ref (E.2.1 + o0))] (Nat.le_of_ble_eq_true rfl) rfl 72 rfl dX3_init_69 ?_
  refine r_goto 50 rfl dX3_init_72 ?_
  refine r_iload_n 1 0 rfl rfl 51 rfl dX3_init_50 ?_
  refine r_bipush 8 rfl 53 rfl dX3_init_51 ?_
  refine r_icmp_ge 75 56 rfl rfl dX3_init_53 r_none ?_
  refine r_aload_n 0 1 rfl rfl 57 rfl dX3_init_56 ?_
  refine r_get (S := (w21).1) (d := (w21).2) hw21 rfl (Nat.le_of_ble_eq_true rfl) rfl rfl w_X3_init_4 9 (Nat.le_of_ble_eq_true rfl) rfl w_X3_init_12 (.ref (E.2.1 + w10.1.1)) rfl 60 rfl dX3_init_57 ?_
  refine r_iload_n 1 0 rfl rfl 61 rfl dX3_init_60 ?_
  refine r_new rfl (Nat.le_of_ble_eq_true rfl) w_X3_init_13 tyX4 tyX4_ok w_X3_init_11 w_X3_init_14 w_X3_init_15 (z_df4 _) (Nat.le_of_ble_eq_true rfl) (Nat.le_of_ble_eq_true rfl) 64 rfl dX3_init_61 (fun w22 ew22 => ?_)
  have hw22 : z_at w22.1 o0 (2, 10, (va_up (va_up (va_up (va_up z_nn 6 (some ((((w).1, d1)).1, d3).1.1)) 7 (some w6.1.1)) 8 (some w8.1.1)) 9 (some w10.1.1))) := by rw [ew22]; exact z_at_add hw21
  have pw22 : z_Pre w22 w21.1.1 3 20 := by rw [ew22]; exact z_pnew w21 3 20
  have aw22 : z_at w22.1 w10.1.1 (12, 8, (va_up (va_up (va_up z_nn 0 (some w12.1.1)) 1 (some w15.1.1)) 2 (some w18.1.1))) := by rw [ew22]; exact z_at_add aw21
  refine r_dup rfl 65 rfl dX3_init_64 ?_
  refine r_callIN (cvc := cvW) (c_X4_init (E := E) (l := l) w22 w21.1.1 pw22) ok_X4_init ⟨⟨(Nat.le_of_ble_eq_true rfl), (Nat.le_of_ble_eq_true rfl)⟩, (Nat.le_of_ble_eq_true rfl), (Nat.le_of_ble_eq_true rfl)⟩ (As := []) rfl (Nat.le_of_ble_eq_true rfl) 1 rfl gX3_init_X4_init_n35 w_X3_init_15 w_X3_init_16 rfl rfl (fun x9 e9 => by cases e9; exact (p_Stage pw22).1.trans (by rw [pw22.1]; rfl)) 68 rfl dX3_init_65 (fun w23 qw23 => ?_)
  have ew23 : w23 = W_Stage w22 w21.1.1 := (Option.some.inj qw23).symm
  have hw23 : z_at w23.1 o0 (2, 10, (va_up (va_up (va_up (va_up z_nn 6 (some ((((w).1, d1)).1, d3).1.1)) 7 (some w6.1.1)) 8 (some w8.1.1)) 9 (some w10.1.1))) := by rw [ew23]; exact (p_Stage pw22).2.1.at hw22 (Nat.ne_of_lt hw21.1)
  have aw23 : z_at w23.1 w10.1.1 (12, 8, (va_up (va_up (va_up z_nn 0 (some w12.1.1)) 1 (some w15.1.1)) 2 (some w18.1.1))) := by rw [ew23]; exact (p_Stage pw22).2.1.at aw22 (Nat.ne_of_lt aw21.1)
  have xw23 : z_at w23.1 w21.1.1 (L_Stage w21.1.1 0) := by rw [ew23]; exact (p_Stage pw22).2.2.1 0 (by decide)
  refine r_ast12 (N := 8) aw23 rfl rfl xw23 rfl (show ¬ ((3 : Int32) < 0 ∨ 8 ≤ (3 : Int32).toNatClampNeg) by decide) rfl 69 rfl dX3_init_68 (fun w24 ew24 => ?_)
  have hw24 : z_at w24.1 o0 (2, 10, (va_up (va_up (va_up (va_up z_nn 6 (some ((((w).1, d1)).1, d3).1.1)) 7 (some w6.1.1)) 8 (some w8.1.1)) 9 (some w10.1.1))) := by rw [ew24]; exact z_at_refo _ _ (Nat.ne_of_lt hw10.1) hw23
  have aw24 : z_at w24.1 w10.1.1 (12, 8, (va_up (va_up (va_up (va_up z_nn 0 (some w12.1.1)) 1 (some w15.1.1)) 2 (some w18.1.1)) 3 (some w21.1.1))) := by rw [ew24]; exact z_at_ref _ _ aw23
  refine r_iinc 4 0 rfl rfl [(1, .int 4), (0, .ref (E.2.1 + o0))] (Nat.le_of_ble_eq_true rfl) rfl 72 rfl dX3_init_69 ?_
  refine r_goto 50 rfl dX3_init_72 ?_
  refine r_iload_n 1 0 rfl rfl 51 rfl dX3_init_50 ?_
  refine r_bipush 8 rfl 53 rfl dX3_init_51 ?_
  refine r_icmp_ge 75 56 rfl rfl dX3_init_53 r_none ?_
  refine r_aload_n 0 1 rfl rfl 57 rfl dX3_init_56 ?_
  refine r_get (S := (w24).1) (d := (w24).2) hw24 rfl (Nat.le_of_ble_eq_true rfl) rfl rfl w_X3_init_4 9 (Nat.le_of_ble_eq_true rfl) rfl w_X3_init_12 (.ref (E.2.1 + w10.1.1)) rfl 60 rfl dX3_init_57 ?_
  refine r_iload_n 1 0 rfl rfl 61 rfl dX3_init_60 ?_
  refine r_new rfl (Nat.le_of_ble_eq_true rfl) w_X3_init_13 tyX4 tyX4_ok w_X3_init_11 w_X3_init_14 w_X3_init_15 (z_df4 _) (Nat.le_of_ble_eq_true rfl) (Nat.le_of_ble_eq_true rfl) 64 rfl dX3_init_61 (fun w25 ew25 => ?_)
  have hw25 : z_at w25.1 o0 (2, 10, (va_up (va_up (va_up (va_up z_nn 6 (some ((((w).1, d1)).1, d3).1.1)) 7 (some w6.1.1)) 8 (some w8.1.1)) 9 (some w10.1.1))) := by rw [ew25]; exact z_at_add hw24
  have pw25 : z_Pre w25 w24.1.1 3 20 := by rw [ew25]; exact z_pnew w24 3 20
  have aw25 : z_at w25.1 w10.1.1 (12, 8, (va_up (va_up (va_up (va_up z_nn 0 (some w12.1.1)) 1 (some w15.1.1)) 2 (some w18.1.1)) 3 (some w21.1.1))) := by rw [ew25]; exact z_at_add aw24
  refine r_dup rfl 65 rfl dX3_init_64 ?_
  refine r_callIN (cvc := cvW) (c_X4_init (E := E) (l := l) w25 w24.1.1 pw25) ok_X4_init ⟨⟨(Nat.le_of_ble_eq_true rfl), (Nat.le_of_ble_eq_true rfl)⟩, (Nat.le_of_ble_eq_true rfl), (Nat.le_of_ble_eq_true rfl)⟩ (As := []) rfl (Nat.le_of_ble_eq_true rfl) 1 rfl gX3_init_X4_init_n35 w_X3_init_15 w_X3_init_16 rfl rfl (fun x9 e9 => by cases e9; exact (p_Stage pw25).1.trans (by rw [pw25.1]; rfl)) 68 rfl dX3_init_65 (fun w26 qw26 => ?_)
  have ew26 : w26 = W_Stage w25 w24.1.1 := (Option.some.inj qw26).symm
  have hw26 : z_at w26.1 o0 (2, 10, (va_up (va_up (va_up (va_up z_nn 6 (some ((((w).1, d1)).1, d3).1.1)) 7 (some w6.1.1)) 8 (some w8.1.1)) 9 (some w10.1.1))) := by rw [ew26]; exact (p_Stage pw25).2.1.at hw25 (Nat.ne_of_lt hw24.1)
  have aw26 : z_at w26.1 w10.1.1 (12, 8, (va_up (va_up (va_up (va_up z_nn 0 (some w12.1.1)) 1 (some w15.1.1)) 2 (some w18.1.1)) 3 (some w21.1.1))) := by rw [ew26]; exact (p_Stage pw25).2.1.at aw25 (Nat.ne_of_lt aw24.1)
  have xw26 : z_at w26.1 w24.1.1 (L_Stage w24.1.1 0) := by rw [ew26]; exact (p_Stage pw25).2.2.1 0 (by decide)
  refine r_ast12 (N := 8) aw26 rfl rfl xw26 rfl (show ¬ ((4 : Int32) < 0 ∨ 8 ≤ (4 : Int32).toNatClampNeg) by decide) rfl 69 rfl dX3_init_68 (fun w27 ew27 => ?_)
  have hw27 : z_at w27.1 o0 (2, 10, (va_up (va_up (va_up (va_up z_nn 6 (some ((((w).1, d1)).1, d3).1.1)) 7 (some w6.1.1)) 8 (some w8.1.1)) 9 (some w10.1.1))) := by rw [ew27]; exact z_at_refo _ _ (Nat.ne_of_lt hw10.1) hw26
  have aw27 : z_at w27.1 w10.1.1 (12, 8, (va_up (va_up (va_up (va_up (va_up z_nn 0 (some w12.1.1)) 1 (some w15.1.1)) 2 (some w18.1.1)) 3 (some w21.1.1)) 4 (some w24.1.1))) := by rw [ew27]; exact z_at_ref _ _ aw26
  refine r_iinc 5 0 rfl rfl [(1, .int 5), (0, .ref (E.2.1 + o0))] (Nat.le_of_ble_eq_true rfl) rfl 72 rfl dX3_init_69 ?_
  refine r_goto 50 rfl dX3_init_72 ?_
  refine r_iload_n 1 0 rfl rfl 51 rfl dX3_init_50 ?_
  refine r_bipush 8 rfl 53 rfl dX3_init_51 ?_
  refine r_icmp_ge 75 56 rfl rfl dX3_init_53 r_none ?_
  refine r_aload_n 0 1 rfl rfl 57 rfl dX3_init_56 ?_
  refine r_get (S := (w27).1) (d := (w27).2) hw27 rfl (Nat.le_of_ble_eq_true rfl) rfl rfl w_X3_init_4 9 (Nat.le_of_ble_eq_true rfl) rfl w_X3_init_12 (.ref (E.2.1 + w10.1.1)) rfl 60 rfl dX3_init_57 ?_
  refine r_iload_n 1 0 rfl rfl 61 rfl dX3_init_60 ?_
  refine r_new rfl (Nat.le_of_ble_eq_true rfl) w_X3_init_13 tyX4 tyX4_ok w_X3_init_11 w_X3_init_14 w_X3_init_15 (z_df4 _) (Nat.le_of_ble_eq_true rfl) (Nat.le_of_ble_eq_true rfl) 64 rfl dX3_init_61 (fun w28 ew28 => ?_)
  have hw28 : z_at w28.1 o0 (2, 10, (va_up (va_up (va_up (va_up z_nn 6 (some ((((w).1, d1)).1, d3).1.1)) 7 (some w6.1.1)) 8 (some w8.1.1)) 9 (some w10.1.1))) := by rw [ew28]; exact z_at_add hw27
  have pw28 : z_Pre w28 w27.1.1 3 20 := by rw [ew28]; exact z_pnew w27 3 20
  have aw28 : z_at w28.1 w10.1.1 (12, 8, (va_up (va_up (va_up (va_up (va_up z_nn 0 (some w12.1.1)) 1 (some w15.1.1)) 2 (some w18.1.1)) 3 (some w21.1.1)) 4 (some w24.1.1))) := by rw [ew28]; exact z_at_add aw27
  refine r_dup rfl 65 rfl dX3_init_64 ?_
  refine r_callIN (cvc := cvW) (c_X4_init (E := E) (l := l) w28 w27.1.1 pw28) ok_X4_init ⟨⟨(Nat.le_of_ble_eq_true rfl), (Nat.le_of_ble_eq_true rfl)⟩, (Nat.le_of_ble_eq_true rfl), (Nat.le_of_ble_eq_true rfl)⟩ (As := []) rfl (Nat.le_of_ble_eq_true rfl) 1 rfl gX3_init_X4_init_n35 w_X3_init_15 w_X3_init_16 rfl rfl (fun x9 e9 => by cases e9; exact (p_Stage pw28).1.trans (by rw [pw28.1]; rfl)) 68 rfl dX3_init_65 (fun w29 qw29 => ?_)
  have ew29 : w29 = W_Stage w28 w27.1.1 := (Option.some.inj qw29).symm
  have hw29 : z_at w29.1 o0 (2, 10, (va_up (va_up (va_up (va_up z_nn 6 (some ((((w).1, d1)).1, d3).1.1)) 7 (some w6.1.1)) 8 (some w8.1.1)) 9 (some w10.1.1))) := by rw [ew29]; exact (p_Stage pw28).2.1.at hw28 (Nat.ne_of_lt hw27.1)
  have aw29 : z_at w29.1 w10.1.1 (12, 8, (va_up (va_up (va_up (va_up (va_up z_nn 0 (some w12.1.1)) 1 (some w15.1.1)) 2 (some w18.1.1)) 3 (some w21.1.1)) 4 (some w24.1.1))) := by rw [ew29]; exact (p_Stage pw28).2.1.at aw28 (Nat.ne_of_lt aw27.1)
  have xw29 : z_at w29.1 w27.1.1 (L_Stage w27.1.1 0) := by rw [ew29]; exact (p_Stage pw28).2.2.1 0 (by decide)
  refine r_ast12 (N := 8) aw29 rfl rfl xw29 rfl (show ¬ ((5 : Int32) < 0 ∨ 8 ≤ (5 : Int32).toNatClampNeg) by decide) rfl 69 rfl dX3_init_68 (fun w30 ew30 => ?_)
  have hw30 : z_at w30.1 o0 (2, 10, (va_up (va_up (va_up (va_up z_nn 6 (some ((((w).1, d1)).1, d3).1.1)) 7 (some w6.1.1)) 8 (some w8.1.1)) 9 (some w10.1.1))) := by rw [ew30]; exact z_at_refo _ _ (Nat.ne_of_lt hw10.1) hw29
  have aw30 : z_at w30.1 w10.1.1 (12, 8, (va_up (va_up (va_up (va_up (va_up (va_up z_nn 0 (some w12.1.1)) 1 (some w15.1.1)) 2 (some w18.1.1)) 3 (some w21.1.1)) 4 (some w24.1.1)) 5 (some w27.1.1))) := by rw [ew30]; exact z_at_ref _ _ aw29
  refine r_iinc 6 0 rfl rfl [(1, .int 6), (0, .ref (E.2.1 + o0))] (Nat.le_of_ble_eq_true rfl) rfl 72 rfl dX3_init_69 ?_
  refine r_goto 50 rfl dX3_init_72 ?_
  refine r_iload_n 1 0 rfl rfl 51 rfl dX3_init_50 ?_
  refine r_bipush 8 rfl 53 rfl dX3_init_51 ?_
  refine r_icmp_ge 75 56 rfl rfl dX3_init_53 r_none ?_
  refine r_aload_n 0 1 rfl rfl 57 rfl dX3_init_56 ?_
  refine r_get (S := (w30).1) (d := (w30).2) hw30 rfl (Nat.le_of_ble_eq_true rfl) rfl rfl w_X3_init_4 9 (Nat.le_of_ble_eq_true rfl) rfl w_X3_init_12 (.ref (E.2.1 + w10.1.1)) rfl 60 rfl dX3_init_57 ?_
  refine r_iload_n 1 0 rfl rfl 61 rfl dX3_init_60 ?_
  refine r_new rfl (Nat.le_of_ble_eq_true rfl) w_X3_init_13 tyX4 tyX4_ok w_X3_init_11 w_X3_init_14 w_X3_init_15 (z_df4 _) (Nat.le_of_ble_eq_true rfl) (Nat.le_of_ble_eq_true rfl) 64 rfl dX3_init_61 (fun w31 ew31 => ?_)
  have hw31 : z_at w31.1 o0 (2, 10, (va_up (va_up (va_up (va_up z_nn 6 (some ((((w).1, d1)).1, d3).1.1)) 7 (some w6.1.1)) 8 (some w8.1.1)) 9 (some w10.1.1))) := by rw [ew31]; exact z_at_add hw30
  have pw31 : z_Pre w31 w30.1.1 3 20 := by rw [ew31]; exact z_pnew w30 3 20
  have aw31 : z_at w31.1 w10.1.1 (12, 8, (va_up (va_up (va_up (va_up (va_up (va_up z_nn 0 (some w12.1.1)) 1 (some w15.1.1)) 2 (some w18.1.1)) 3 (some w21.1.1)) 4 (some w24.1.1)) 5 (some w27.1.1))) := by rw [ew31]; exact z_at_add aw30
  refine r_dup rfl 65 rfl dX3_init_64 ?_
  refine r_callIN (cvc := cvW) (c_X4_init (E := E) (l := l) w31 w30.1.1 pw31) ok_X4_init ⟨⟨(Nat.le_of_ble_eq_true rfl), (Nat.le_of_ble_eq_true rfl)⟩, (Nat.le_of_ble_eq_true rfl), (Nat.le_of_ble_eq_true rfl)⟩ (As := []) rfl (Nat.le_of_ble_eq_true rfl) 1 rfl gX3_init_X4_init_n35 w_X3_init_15 w_X3_init_16 rfl rfl (fun x9 e9 => by cases e9; exact (p_Stage pw31).1.trans (by rw [pw31.1]; rfl)) 68 rfl dX3_init_65 (fun w32 qw32 => ?_)
  have ew32 : w32 = W_Stage w31 w30.1.1 := (Option.some.inj qw32).symm
  have hw32 : z_at w32.1 o0 (2, 10, (va_up (va_up (va_up (va_up z_nn 6 (some ((((w).1, d1)).1, d3).1.1)) 7 (some w6.1.1)) 8 (some w8.1.1)) 9 (some w10.1.1))) := by rw [ew32]; exact (p_Stage pw31).2.1.at hw31 (Nat.ne_of_lt hw30.1)
  have aw32 : z_at w32.1 w10.1.1 (12, 8, (va_up (va_up (va_up (va_up (va_up (va_up z_nn 0 (some w12.1.1)) 1 (some w15.1.1)) 2 (some w18.1.1)) 3 (some w21.1.1)) 4 (some w24.1.1)) 5 (some w27.1.1))) := by rw [ew32]; exact (p_Stage pw31).2.1.at aw31 (Nat.ne_of_lt aw30.1)
  have xw32 : z_at w32.1 w30.1.1 (L_Stage w30.1.1 0) := by rw [ew32]; exact (p_Stage pw31).2.2.1 0 (by decide)
  refine r_ast12 (N := 8) aw32 rfl rfl xw32 rfl (show ¬ ((6 : Int32) < 0 ∨ 8 ≤ (6 : Int32).toNatClampNeg) by decide) rfl 69 rfl dX3_init_68 (fun w33 ew33 => ?_)
  have hw33 : z_at w33.1 o0 (2, 10, (va_up (va_up (va_up (va_up z_nn 6 (some ((((w).1, d1)).1, d3).1.1)) 7 (some w6.1.1)) 8 (some w8.1.1)) 9 (some w10.1.1))) := by rw [ew33]; exact z_at_refo _ _ (Nat.ne_of_lt hw10.1) hw32
  have aw33 : z_at w33.1 w10.1.1 (12, 8, (va_up (va_up (va_up (va_up (va_up (va_up (va_up z_nn 0 (some w12.1.1)) 1 (some w15.1.1)) 2 (some w18.1.1)) 3 (some w21.1.1)) 4 (some w24.1.1)) 5 (some w27.1.1)) 6 (some w30.1.1))) := by rw [ew33]; exact z_at_ref _ _ aw32
  refine r_iinc 7 0 rfl rfl [(1, .int 7), (0, .ref (E.2.1 + o0))] (Nat.le_of_ble_eq_true rfl) rfl 72 rfl dX3_init_69 ?_
  refine r_goto 50 rfl dX3_init_72 ?_
  refine r_iload_n 1 0 rfl rfl 51 rfl dX3_init_50 ?_
  refine r_bipush 8 rfl 53 rfl dX3_init_51 ?_
  refine r_icmp_ge 75 56 rfl rfl dX3_init_53 r_none ?_
  refine r_aload_n 0 1 rfl rfl 57 rfl dX3_init_56 ?_
  refine r_get (S := (w33).1) (d := (w33).2) hw33 rfl (Nat.le_of_ble_eq_true rfl) rfl rfl w_X3_init_4 9 (Nat.le_of_ble_eq_true rfl) rfl w_X3_init_12 (.ref (E.2.1 + w10.1.1)) rfl 60 rfl dX3_init_57 ?_
  refine r_iload_n 1 0 rfl rfl 61 rfl dX3_init_60 ?_
  refine r_new rfl (Nat.le_of_ble_eq_true rfl) w_X3_init_13 tyX4 tyX4_ok w_X3_init_11 w_X3_init_14 w_X3_init_15 (z_df4 _) (Nat.le_of_ble_eq_true rfl) (Nat.le_of_ble_eq_true rfl) 64 rfl dX3_init_61 (fun w34 ew34 => ?_)
  have hw34 : z_at w34.1 o0 (2, 10, (va_up (va_up (va_up (va_up z_nn 6 (some ((((w).1, d1)).1, d3).1.1)) 7 (some w6.1.1)) 8 (some w8.1.1)) 9 (some w10.1.1))) := by rw [ew34]; exact z_at_add hw33
  have pw34 : z_Pre w34 w33.1.1 3 20 := by rw [ew34]; exact z_pnew w33 3 20
  have aw34 : z_at w34.1 w10.1.1 (12, 8, (va_up (va_up (va_up (va_up (va_up (va_up (va_up z_nn 0 (some w12.1.1)) 1 (some w15.1.1)) 2 (some w18.1.1)) 3 (some w21.1.1)) 4 (some w24.1.1)) 5 (some w27.1.1)) 6 (some w30.1.1))) := by rw [ew34]; exact z_at_add aw33
  refine r_dup rfl 65 rfl dX3_init_64 ?_
  refine r_callIN (cvc := cvW) (c_X4_init (E := E) (l := l) w34 w33.1.1 pw34) ok_X4_init ⟨⟨(Nat.le_of_ble_eq_true rfl), (Nat.le_of_ble_eq_true rfl)⟩, (Nat.le_of_ble_eq_true rfl), (Nat.le_of_ble_eq_true rfl)⟩ (As := []) rfl (Nat.le_of_ble_eq_true rfl) 1 rfl gX3_init_X4_init_n35 w_X3_init_15 w_X3_init_16 rfl rfl (fun x9 e9 => by cases e9; exact (p_Stage pw34).1.trans (by rw [pw34.1]; rfl)) 68 rfl dX3_init_65 (fun w35 qw35 => ?_)
  have ew35 : w35 = W_Stage w34 w33.1.1 := (Option.some.inj qw35).symm
  have hw35 : z_at w35.1 o0 (2, 10, (va_up (va_up (va_up (va_up z_nn 6 (some ((((w).1, d1)).1, d3).1.1)) 7 (some w6.1.1)) 8 (some w8.1.1)) 9 (some w10.1.1))) := by rw [ew35]; exact (p_Stage pw34).2.1.at hw34 (Nat.ne_of_lt hw33.1)
  have aw35 : z_at w35.1 w10.1.1 (12, 8, (va_up (va_up (va_up (va_up (va_up (va_up (va_up z_nn 0 (some w12.1.1)) 1 (some w15.1.1)) 2 (some w18.1.1)) 3 (some w21.1.1)) 4 (some w24.1.1)) 5 (some w27.1.1)) 6 (some w30.1.1))) := by rw [ew35]; exact (p_Stage pw34).2.1.at aw34 (Nat.ne_of_lt aw33.1)
  have xw35 : z_at w35.1 w33.1.1 (L_Stage w33.1.1 0) := by rw [ew35]; exact (p_Stage pw34).2.2.1 0 (by decide)
  refine r_ast12 (N := 8) aw35 rfl rfl xw35 rfl (show ¬ ((7 : Int32) < 0 ∨ 8 ≤ (7 : Int32).toNatClampNeg) by decide) rfl 69 rfl dX3_init_68 (fun w36 ew36 => ?_)
  have hw36 : z_at w36.1 o0 (2, 10, (va_up (va_up (va_up (va_up z_nn 6 (some ((((w).1, d1)).1, d3).1.1)) 7 (some w6.1.1)) 8 (some w8.1.1)) 9 (some w10.1.1))) := by rw [ew36]; exact z_at_refo _ _ (Nat.ne_of_lt hw10.1) hw35
  have aw36 : z_at w36.1 w10.1.1 (12, 8, (va_up (va_up (va_up (va_up (va_up (va_up (va_up (va_up z_nn 0 (some w12.1.1)) 1 (some w15.1.1)) 2 (some w18.1.1)) 3 (some w21.1.1)) 4 (some w24.1.1)) 5 (some w27.1.1)) 6 (some w30.1.1)) 7 (some w33.1.1))) := by rw [ew36]; exact z_at_ref _ _ aw35
  refine r_iinc 8 0 rfl rfl [(1, .int 8), (0, .ref (E.2.1 + o0))] (Nat.le_of_ble_eq_true rfl) rfl 72 rfl dX3_init_69 ?_
  refine r_goto 50 rfl dX3_init_72 ?_
  refine r_iload_n 1 0 rfl rfl 51 rfl dX3_init_50 ?_
  refine r_bipush 8 rfl 53 rfl dX3_init_51 ?_
  refine r_icmp_ge 75 56 rfl rfl dX3_init_53 ?_ r_none
  exact r_return rfl rfl (Nat.le_of_ble_eq_true rfl) (Nat.le_of_ble_eq_true rfl) dX3_init_75
def Y_X8_init : z_Y := (RX8, cX8_init, 1, wsX8_init, none, { frames := 4, cells := 354, slots := 6697, locals := 81 }, 354, 6697)
theorem ok_X8_init : z_Ok yX8_init Y_X8_init 0 := ⟨⟨_, rfl⟩, rfl, rfl, rfl, by decide +kernel, by decide +kernel⟩
theorem w_X8_init_0 : Cond.methodLink RX8 1 Lib.objectInit ∈ wsX8_init := by decide +kernel
theorem w_X8_init_1 : Cond.instanceMethod Lib.objectInit ∈ wsX8_init := by decide +kernel
theorem w_X8_init_2 : Cond.code Lib.objectInit ⟨#[0xb1]⟩ 1 none ∈ wsX8_init := by decide +kernel
theorem w_X8_init_3 : ∀ w ∈ u_ws RX3 TX3 10, w ∈ wsX8_init := by decide +kernel
theorem w_X8_init_4 : Cond.classLink RX8 7 RX3 ∈ wsX8_init := by decide +kernel
theorem w_X8_init_5 : Cond.instantiable RX3 10 ∈ wsX8_init := by decide +kernel
theorem w_X8_init_6 : Cond.initialized RX3 ∈ wsX8_init := by decide +kernel
theorem w_X8_init_7 : Cond.instanceMethod yX3_init ∈ wsX8_init := by decide +kernel
theorem w_X8_init_8 : Cond.fieldLink RX8 10 "BunchTimes" "race" "LBunchTimes$Race;" ∈ wsX8_init := by decide +kernel
theorem w_X8_init_9 : ∀ w ∈ u_ws RX8 TX8 5, w ∈ wsX8_init := by decide +kernel
theorem w_X8_init_10 : Cond.fieldLink RX8 16 "BunchTimes" "ahead" "LBunchTimes$Race;" ∈ wsX8_init := by decide +kernel
theorem w_X8_init_11 : Cond.fieldLink RX8 19 "BunchTimes" "kept" "[LBunchTimes$Race;" ∈ wsX8_init := by decide +kernel
theorem w_X8_init_12 : ∀ w ∈ u_ws RX5 TX5 5, w ∈ wsX8_init := by decide +kernel
theorem w_X8_init_13 : Cond.classLink RX8 23 RX5 ∈ wsX8_init := by decide +kernel
theorem w_X8_init_14 : Cond.instantiable RX5 5 ∈ wsX8_init := by decide +kernel
theorem w_X8_init_15 : Cond.initialized RX5 ∈ wsX8_init := by decide +kernel
theorem w_X8_init_16 : Cond.instanceMethod yX5_init ∈ wsX8_init := by decide +kernel
theorem w_X8_init_17 : Cond.fieldLink RX8 26 "BunchTimes" "standings" "LBunchTimes$Standings;" ∈ wsX8_init := by decide +kernel
theorem w_X8_init_18 : ∀ w ∈ u_ws RX6 TX6 6, w ∈ wsX8_init := by decide +kernel
theorem w_X8_init_19 : Cond.classLink RX8 30 RX6 ∈ wsX8_init := by decide +kernel
theorem w_X8_init_20 : Cond.instantiable RX6 6 ∈ wsX8_init := by decide +kernel
theorem w_X8_init_21 : Cond.initialized RX6 ∈ wsX8_init := by decide +kernel
theorem w_X8_init_22 : Cond.instanceMethod yX6_init ∈ wsX8_init := by decide +kernel
theorem w_X8_init_23 : Cond.fieldLink RX8 33 "BunchTimes" "tape" "LBunchTimes$Tape;" ∈ wsX8_init := by decide +kernel
def f_X8_init (w : z_W) (o0 : Nat) : Option z_W := z_nam (z_wadd w (2, 10, z_nn)) (fun w1 => ((some (W_Race w1 w.1.1)).bind fun w2 => z_nam (z_wref w2 o0 0 w.1.1) (fun w3 => z_nam (z_wadd w3 (2, 10, z_nn)) (fun w4 => ((some (W_Race w4 w3.1.1)).bind fun w5 => z_nam (z_wref w5 o0 1 w3.1.1) (fun w6 => z_nam (z_wadd w6 (11, 2, z_nn)) (fun w7 => z_nam (z_wref w7 o0 2 w6.1.1) (fun w8 => z_nam (z_wadd w8 (4, 5, z_nn)) (fun w9 => ((some (W_Standings w9 w8.1.1)).bind fun w10 => z_nam (z_wref w10 o0 3 w8.1.1) (fun w11 => z_nam (z_wadd w11 (5, 6, z_nn)) (fun w12 => ((some (W_Tape w12 w11.1.1)).bind fun w13 => z_nam (z_wref w13 o0 4 w11.1.1) (fun w14 => (some (w14 : z_W))))))))))))))))
set_option maxHeartbeats 4000000 in
set_option maxRecDepth 100000 in
theorem e_X8_init (w : z_W) (o0 : Nat) : some (W_BT w o0) = f_X8_init w o0 := rfl
set_option maxHeartbeats 8000000 in
set_option maxRecDepth 100000 in
theorem c_X8_init {E : z_E} {l : Launch} (w : z_W) (o0 : Nat) (hp : z_Pre w o0 6 5) : z_Sp E l yX8_init Y_X8_init cvW [.ref (E.2.1 + o0)] w (some (W_BT w o0)) := by
  refine z_entry (lv := [(0, .ref (E.2.1 + o0))]) (by decide) rfl rfl (Nat.le_of_ble_eq_true rfl) rfl ?_
  refine r_eq (e_X8_init w o0) ?_
  unfold f_X8_init
  have h0 := hp.2.1
  refine r_aload_n 0 0 rfl rfl 1 rfl dX8_init_0 ?_
  refine r_objInit w_X8_init_0 w_X8_init_1 w_X8_init_2 (Nat.le_of_ble_eq_true rfl) (Nat.le_of_ble_eq_true rfl) 4 rfl dX8_init_1 ?_
  refine r_aload_n 0 0 rfl rfl 5 rfl dX8_init_4 ?_
  refine r_new rfl (Nat.le_of_ble_eq_true rfl) w_X8_init_3 tyX3 tyX3_ok w_X8_init_4 w_X8_init_5 w_X8_init_6 (fun j hj => match j, hj with | 0, _ => rfl | 1, _ => rfl | 2, _ => rfl | 3, _ => rfl | 4, _ => rfl | 5, _ => rfl | 6, _ => rfl | 7, _ => rfl | 8, _ => rfl | 9, _ => rfl) (Nat.le_of_ble_eq_true rfl) (Nat.le_of_ble_eq_true rfl) 8 rfl dX8_init_5 (fun w1 ew1 => ?_)
  have hw1 : z_at w1.1 o0 (6, 5, z_nn) := by rw [ew1]; exact z_at_add h0
  have pw1 : z_Pre w1 w.1.1 2 10 := by rw [ew1]; exact z_pnew w 2 10
  refine r_dup rfl 9 rfl dX8_init_8 ?_
  refine r_callIN (cvc := cvW) (c_X3_init (E := E) (l := l) w1 w.1.1 pw1) ok_X3_init ⟨⟨(Nat.le_of_ble_eq_true rfl), (Nat.le_of_ble_eq_true rfl)⟩, (Nat.le_of_ble_eq_true rfl), (Nat.le_of_ble_eq_true rfl)⟩ (As := []) rfl (Nat.le_of_ble_eq_true rfl) 0 rfl gX8_init_X3_init_n9 w_X8_init_6 w_X8_init_7 rfl rfl (fun x9 e9 => by cases e9; exact (p_Race pw1).1.trans (by rw [pw1.1]; rfl)) 12 rfl dX8_init_9 (fun w2 qw2 => ?_)
  have ew2 : w2 = W_Race w1 w.1.1 := (Option.some.inj qw2).symm
  have hw2 : z_at w2.1 o0 (6, 5, z_nn) := by rw [ew2]; exact (p_Race pw1).2.1.at hw1 (Nat.ne_of_lt h0.1)
  have xw2 : z_at w2.1 w.1.1 (L_Race w.1.1 0) := by rw [ew2]; exact (p_Race pw1).2.2.1.1 0 (by decide)
  refine r_putr hw2 rfl (Nat.le_of_ble_eq_true rfl) rfl rfl w_X8_init_9 tyX8 tyX8_ok nmX8 (Nat.le_of_ble_eq_true rfl) rfl rfl w_X8_init_8 rfl rfl rfl rfl rfl rfl rfl 15 rfl dX8_init_12 (fun w3 ew3 => ?_)
  have hw3 : z_at w3.1 o0 (6, 5, (va_up z_nn 0 (some w.1.1))) := by rw [ew3]; exact z_at_ref _ _ hw2
  refine r_aload_n 0 0 rfl rfl 16 rfl dX8_init_15 ?_
  refine r_new rfl (Nat.le_of_ble_eq_true rfl) w_X8_init_3 tyX3 tyX3_ok w_X8_init_4 w_X8_init_5 w_X8_init_6 (fun j hj => match j, hj with | 0, _ => rfl | 1, _ => rfl | 2, _ => rfl | 3, _ => rfl | 4, _ => rfl | 5, _ => rfl | 6, _ => rfl | 7, _ => rfl | 8, _ => rfl | 9, _ => rfl) (Nat.le_of_ble_eq_true rfl) (Nat.le_of_ble_eq_true rfl) 19 rfl dX8_init_16 (fun w4 ew4 => ?_)
  have hw4 : z_at w4.1 o0 (6, 5, (va_up z_nn 0 (some w.1.1))) := by rw [ew4]; exact z_at_add hw3
  have pw4 : z_Pre w4 w3.1.1 2 10 := by rw [ew4]; exact z_pnew w3 2 10
  refine r_dup rfl 20 rfl dX8_init_19 ?_
  refine r_callIN (cvc := cvW) (c_X3_init (E := E) (l := l) w4 w3.1.1 pw4) ok_X3_init ⟨⟨(Nat.le_of_ble_eq_true rfl), (Nat.le_of_ble_eq_true rfl)⟩, (Nat.le_of_ble_eq_true rfl), (Nat.le_of_ble_eq_true rfl)⟩ (As := []) rfl (Nat.le_of_ble_eq_true rfl) 0 rfl gX8_init_X3_init_n9 w_X8_init_6 w_X8_init_7 rfl rfl (fun x9 e9 => by cases e9; exact (p_Race pw4).1.trans (by rw [pw4.1]; rfl)) 23 rfl dX8_init_20 (fun w5 qw5 => ?_)
  have ew5 : w5 = W_Race w4 w3.1.1 := (Option.some.inj qw5).symm
  have hw5 : z_at w5.1 o0 (6, 5, (va_up z_nn 0 (some w.1.1))) := by rw [ew5]; exact (p_Race pw4).2.1.at hw4 (Nat.ne_of_lt hw3.1)
  have xw5 : z_at w5.1 w3.1.1 (L_Race w3.1.1 0) := by rw [ew5]; exact (p_Race pw4).2.2.1.1 0 (by decide)
  refine r_putr hw5 rfl (Nat.le_of_ble_eq_true rfl) rfl rfl w_X8_init_9 tyX8 tyX8_ok nmX8 (Nat.le_of_ble_eq_true rfl) rfl rfl w_X8_init_10 rfl rfl rfl rfl rfl rfl rfl 26 rfl dX8_init_23 (fun w6 ew6 => ?_)
  have hw6 : z_at w6.1 o0 (6, 5, (va_up (va_up z_nn 0 (some w.1.1)) 1 (some w3.1.1))) := by rw [ew6]; exact z_at_ref _ _ hw5
  refine r_aload_n 0 0 rfl rfl 27 rfl dX8_init_26 ?_
  refine r_iconst 2 rfl 28 rfl dX8_init_27 ?_
  refine r_newa11 w_X8_init_4 (by decide) rfl (Nat.le_of_ble_eq_true rfl) (Nat.le_of_ble_eq_true rfl) (Nat.le_of_ble_eq_true rfl) 31 rfl dX8_init_28 (fun w7 ew7 => ?_)
  have hw7 : z_at w7.1 o0 (6, 5, (va_up (va_up z_nn 0 (some w.1.1)) 1 (some w3.1.1))) := by rw [ew7]; exact z_at_add hw6
  refine r_putr hw7 rfl (Nat.le_of_ble_eq_true rfl) rfl rfl w_X8_init_9 tyX8 tyX8_ok nmX8 (Nat.le_of_ble_eq_true rfl) rfl rfl w_X8_init_11 rfl rfl rfl rfl rfl rfl rfl 34 rfl dX8_init_31 (fun w8 ew8 => ?_)
  have hw8 : z_at w8.1 o0 (6, 5, (va_up (va_up (va_up z_nn 0 (some w.1.1)) 1 (some w3.1.1)) 2 (some w6.1.1))) := by rw [ew8]; exact z_at_ref _ _ hw7
  refine r_aload_n 0 0 rfl rfl 35 rfl dX8_init_34 ?_
  refine r_new rfl (Nat.le_of_ble_eq_true rfl) w_X8_init_12 tyX5 tyX5_ok w_X8_init_13 w_X8_init_14 w_X8_init_15 (fun j hj => match j, hj with | 0, _ => rfl | 1, _ => rfl | 2, _ => rfl | 3, _ => rfl | 4, _ => rfl) (Nat.le_of_ble_eq_true rfl) (Nat.le_of_ble_eq_true rfl) 38 rfl dX8_init_35 (fun w9 ew9 => ?_)
  have hw9 : z_at w9.1 o0 (6, 5, (va_up (va_up (va_up z_nn 0 (some w.1.1)) 1 (some w3.1.1)) 2 (some w6.1.1))) := by rw [ew9]; exact z_at_add hw8
  have pw9 : z_Pre w9 w8.1.1 4 5 := by rw [ew9]; exact z_pnew w8 4 5
  refine r_dup rfl 39 rfl dX8_init_38 ?_
  refine r_callIN (cvc := cvW) (c_X5_init (E := E) (l := l) w9 w8.1.1 pw9) ok_X5_init ⟨⟨(Nat.le_of_ble_eq_true rfl), (Nat.le_of_ble_eq_true rfl)⟩, (Nat.le_of_ble_eq_true rfl), (Nat.le_of_ble_eq_true rfl)⟩ (As := []) rfl (Nat.le_of_ble_eq_true rfl) 4 rfl gX8_init_X5_init_n25 w_X8_init_15 w_X8_init_16 rfl rfl (fun x9 e9 => by cases e9; exact (p_Standings pw9).1.1.trans (by rw [pw9.1]; rfl)) 42 rfl dX8_init_39 (fun w10 qw10 => ?_)
  have ew10 : w10 = W_Standings w9 w8.1.1 := (Option.some.inj qw10).symm
  have hw10 : z_at w10.1 o0 (6, 5, (va_up (va_up (va_up z_nn 0 (some w.1.1)) 1 (some w3.1.1)) 2 (some w6.1.1))) := by rw [ew10]; exact (p_Standings pw9).1.2.1.at hw9 (Nat.ne_of_lt hw8.1)
  have xw10 : z_at w10.1 w8.1.1 (L_Standings w8.1.1 0) := by rw [ew10]; exact (p_Standings pw9).2 0 (by decide)
  refine r_putr hw10 rfl (Nat.le_of_ble_eq_true rfl) rfl rfl w_X8_init_9 tyX8 tyX8_ok nmX8 (Nat.le_of_ble_eq_true rfl) rfl rfl w_X8_init_17 rfl rfl rfl rfl rfl rfl rfl 45 rfl dX8_init_42 (fun w11 ew11 => ?_)
  have hw11 : z_at w11.1 o0 (6, 5, (va_up (va_up (va_up (va_up z_nn 0 (some w.1.1)) 1 (some w3.1.1)) 2 (some w6.1.1)) 3 (some w8.1.1))) := by rw [ew11]; exact z_at_ref _ _ hw10
  refine r_aload_n 0 0 rfl rfl 46 rfl dX8_init_45 ?_
  refine r_new rfl (Nat.le_of_ble_eq_true rfl) w_X8_init_18 tyX6 tyX6_ok w_X8_init_19 w_X8_init_20 w_X8_init_21 (fun j hj => match j, hj with | 0, _ => rfl | 1, _ => rfl | 2, _ => rfl | 3, _ => rfl | 4, _ => rfl | 5, _ => rfl) (Nat.le_of_ble_eq_true rfl) (Nat.le_of_ble_eq_true rfl) 49 rfl dX8_init_46 (fun w12 ew12 => ?_)
  have hw12 : z_at w12.1 o0 (6, 5, (va_up (va_up (va_up (va_up z_nn 0 (some w.1.1)) 1 (some w3.1.1)) 2 (some w6.1.1)) 3 (some w8.1.1))) := by rw [ew12]; exact z_at_add hw11
  have pw12 : z_Pre w12 w11.1.1 5 6 := by rw [ew12]; exact z_pnew w11 5 6
  refine r_dup rfl 50 rfl dX8_init_49 ?_
  refine r_callIN (cvc := cvW) (c_X6_init (E := E) (l := l) w12 w11.1.1 pw12) ok_X6_init ⟨⟨(Nat.le_of_ble_eq_true rfl), (Nat.le_of_ble_eq_true rfl)⟩, (Nat.le_of_ble_eq_true rfl), (Nat.le_of_ble_eq_true rfl)⟩ (As := []) rfl (Nat.le_of_ble_eq_true rfl) 5 rfl gX8_init_X6_init_n32 w_X8_init_21 w_X8_init_22 rfl rfl (fun x9 e9 => by cases e9; exact (p_Tape pw12).1.1.trans (by rw [pw12.1]; rfl)) 53 rfl dX8_init_50 (fun w13 qw13 => ?_)
  have ew13 : w13 = W_Tape w12 w11.1.1 := (Option.some.inj qw13).symm
  have hw13 : z_at w13.1 o0 (6, 5, (va_up (va_up (va_up (va_up z_nn 0 (some w.1.1)) 1 (some w3.1.1)) 2 (some w6.1.1)) 3 (some w8.1.1))) := by rw [ew13]; exact (p_Tape pw12).1.2.1.at hw12 (Nat.ne_of_lt hw11.1)
  have xw13 : z_at w13.1 w11.1.1 (L_Tape w11.1.1 0) := by rw [ew13]; exact (p_Tape pw12).2 0 (by decide)
  refine r_putr hw13 rfl (Nat.le_of_ble_eq_true rfl) rfl rfl w_X8_init_9 tyX8 tyX8_ok nmX8 (Nat.le_of_ble_eq_true rfl) rfl rfl w_X8_init_23 rfl rfl rfl rfl rfl rfl rfl 56 rfl dX8_init_53 (fun w14 ew14 => ?_)
  have hw14 : z_at w14.1 o0 (6, 5, (va_up (va_up (va_up (va_up (va_up z_nn 0 (some w.1.1)) 1 (some w3.1.1)) 2 (some w6.1.1)) 3 (some w8.1.1)) 4 (some w11.1.1))) := by rw [ew14]; exact z_at_ref _ _ hw13
  exact r_return rfl rfl (Nat.le_of_ble_eq_true rfl) (Nat.le_of_ble_eq_true rfl) dX8_init_56
def Y_X9_init : z_Y := (RX9, cX9_init, 1, wsX9_init, none, { frames := 1, cells := 9, slots := 11861, locals := 20 }, 9, 11861)
theorem ok_X9_init : z_Ok yX9_init Y_X9_init 0 := ⟨⟨_, rfl⟩, rfl, rfl, rfl, by decide +kernel, by decide +kernel⟩
theorem w_X9_init_0 : Cond.methodLink RX9 1 Lib.objectInit ∈ wsX9_init := by decide +kernel
theorem w_X9_init_1 : Cond.instanceMethod Lib.objectInit ∈ wsX9_init := by decide +kernel
theorem w_X9_init_2 : Cond.code Lib.objectInit ⟨#[0xb1]⟩ 1 none ∈ wsX9_init := by decide +kernel
theorem w_X9_init_3 : Cond.arrayClass .int ∈ wsX9_init := by decide +kernel
theorem w_X9_init_4 : Cond.fieldLink RX9 7 "BunchTimesModel" "row" "[I" ∈ wsX9_init := by decide +kernel
theorem w_X9_init_5 : ∀ w ∈ u_ws RX9 TX9 18, w ∈ wsX9_init := by decide +kernel
theorem w_X9_init_6 : Cond.fieldLink RX9 13 "BunchTimesModel" "keptRows" "[I" ∈ wsX9_init := by decide +kernel
theorem w_X9_init_7 : Cond.fieldLink RX9 16 "BunchTimesModel" "before" "[I" ∈ wsX9_init := by decide +kernel
theorem w_X9_init_8 : Cond.arrayClass .boolean ∈ wsX9_init := by decide +kernel
theorem w_X9_init_9 : Cond.fieldLink RX9 19 "BunchTimesModel" "isKept" "[Z" ∈ wsX9_init := by decide +kernel
theorem w_X9_init_10 : Cond.fieldLink RX9 23 "BunchTimesModel" "order" "[I" ∈ wsX9_init := by decide +kernel
theorem w_X9_init_11 : Cond.fieldLink RX9 26 "BunchTimesModel" "ranked" "[I" ∈ wsX9_init := by decide +kernel
theorem w_X9_init_12 : Cond.fieldLink RX9 29 "BunchTimesModel" "least" "[I" ∈ wsX9_init := by decide +kernel
theorem w_X9_init_13 : Cond.arrayClass .byte ∈ wsX9_init := by decide +kernel
theorem w_X9_init_14 : Cond.fieldLink RX9 32 "BunchTimesModel" "tape" "[B" ∈ wsX9_init := by decide +kernel
theorem w_X9_init_15 : Cond.fieldLink RX9 36 "BunchTimesModel" "told" "[I" ∈ wsX9_init := by decide +kernel
def f_X9_init (w : z_W) (o0 : Nat) : Option z_W := z_nam (z_wadd w (8, 2656, z_nn)) (fun w1 => z_nam (z_wref w1 o0 1 w.1.1) (fun w2 => z_nam (z_wadd w2 (8, 5312, z_nn)) (fun w3 => z_nam (z_wref w3 o0 2 w2.1.1) (fun w4 => z_nam (z_wadd w4 (8, 2656, z_nn)) (fun w5 => z_nam (z_wref w5 o0 3 w4.1.1) (fun w6 => z_nam (z_wadd w6 (9, 2, z_nn)) (fun w7 => z_nam (z_wref w7 o0 4 w6.1.1) (fun w8 => z_nam (z_wadd w8 (8, 16, z_nn)) (fun w9 => z_nam (z_wref w9 o0 5 w8.1.1) (fun w10 => z_nam (z_wadd w10 (8, 16, z_nn)) (fun w11 => z_nam (z_wref w11 o0 7 w10.1.1) (fun w12 => z_nam (z_wadd w12 (8, 3, z_nn)) (fun w13 => z_nam (z_wref w13 o0 9 w12.1.1) (fun w14 => z_nam (z_wadd w14 (10, 600, z_nn)) (fun w15 => z_nam (z_wref w15 o0 10 w14.1.1) (fun w16 => z_nam (z_wadd w16 (8, 600, z_nn)) (fun w17 => z_nam (z_wref w17 o0 16 w16.1.1) (fun w18 => z_ast (w18).2 w.1.1 2656 4 10 (fun d19 => z_ast (((w18).1, d19)).2 w.1.1 2656 5 3 (fun d20 => (some (((((w18).1, d19)).1, d20) : z_W))))))))))))))))))))))
set_option maxHeartbeats 4000000 in
set_option maxRecDepth 100000 in
theorem e_X9_init (w : z_W) (o0 : Nat) (hp : z_Pre w o0 7 18) : some (W_Model w o0) = f_X9_init w o0 := by
  unfold W_Model
  rw [← hp.1]
  rfl
set_option maxHeartbeats 8000000 in
set_option maxRecDepth 100000 in
theorem c_X9_init {E : z_E} {l : Launch} (w : z_W) (o0 : Nat) (hp : z_Pre w o0 7 18) : z_Sp E l yX9_init Y_X9_init cvW [.ref (E.2.1 + o0)] w (some (W_Model w o0)) := by
  refine z_entry (lv := [(0, .ref (E.2.1 + o0))]) (by decide) rfl rfl (Nat.le_of_ble_eq_true rfl) rfl ?_
  refine r_eq (e_X9_init w o0 hp) ?_
  unfold f_X9_init
  have h0 := hp.2.1
  refine r_aload_n 0 0 rfl rfl 1 rfl dX9_init_0 ?_
  refine r_objInit w_X9_init_0 w_X9_init_1 w_X9_init_2 (Nat.le_of_ble_eq_true rfl) (Nat.le_of_ble_eq_true rfl) 4 rfl dX9_init_1 ?_
  refine r_aload_n 0 0 rfl rfl 5 rfl dX9_init_4 ?_
  refine r_sipush 2656 rfl 8 rfl dX9_init_5 ?_
  refine r_newa8 w_X9_init_3 (by decide) rfl (Nat.le_of_ble_eq_true rfl) (Nat.le_of_ble_eq_true rfl) (Nat.le_of_ble_eq_true rfl) 10 rfl dX9_init_8 (fun w1 ew1 => ?_)
  have hw1 : z_at w1.1 o0 (7, 18, z_nn) := by rw [ew1]; exact z_at_add h0
  refine r_putr hw1 rfl (Nat.le_of_ble_eq_true rfl) rfl rfl w_X9_init_5 tyX9 tyX9_ok nmX9 (Nat.le_of_ble_eq_true rfl) rfl rfl w_X9_init_4 rfl rfl rfl rfl rfl rfl rfl 13 rfl dX9_init_10 (fun w2 ew2 => ?_)
  have hw2 : z_at w2.1 o0 (7, 18, (va_up z_nn 1 (some w.1.1))) := by rw [ew2]; exact z_at_ref _ _ hw1
  have rw2 : z_at w2.1 w.1.1 (8, 2656, z_nn) := by rw [ew2]; exact z_at_refo _ _ (Nat.ne_of_gt h0.1) (show z_at w1.1 w.1.1 (8, 2656, z_nn) by rw [ew1]; exact z_at_new w _)
  refine r_aload_n 0 0 rfl rfl 14 rfl dX9_init_13 ?_
  refine r_sipush 5312 rfl 17 rfl dX9_init_14 ?_
  refine r_newa8 w_X9_init_3 (by decide) rfl (Nat.le_of_ble_eq_true rfl) (Nat.le_of_ble_eq_true rfl) (Nat.le_of_ble_eq_true rfl) 19 rfl dX9_init_17 (fun w3 ew3 => ?_)
  have hw3 : z_at w3.1 o0 (7, 18, (va_up z_nn 1 (some w.1.1))) := by rw [ew3]; exact z_at_add hw2
  refine r_putr hw3 rfl (Nat.le_of_ble_eq_true rfl) rfl rfl w_X9_init_5 tyX9 tyX9_ok nmX9 (Nat.le_of_ble_eq_true rfl) rfl rfl w_X9_init_6 rfl rfl rfl rfl rfl rfl rfl 22 rfl dX9_init_19 (fun w4 ew4 => ?_)
  have hw4 : z_at w4.1 o0 (7, 18, (va_up (va_up z_nn 1 (some w.1.1)) 2 (some w2.1.1))) := by rw [ew4]; exact z_at_ref _ _ hw3
  have rw4 : z_at w4.1 w.1.1 (8, 2656, z_nn) := by rw [ew4]; exact z_at_refo _ _ (Nat.ne_of_gt h0.1) (by rw [ew3]; exact z_at_add rw2)
  refine r_aload_n 0 0 rfl rfl 23 rfl dX9_init_22 ?_
  refine r_sipush 2656 rfl 26 rfl dX9_init_23 ?_
  refine r_newa8 w_X9_init_3 (by decide) rfl (Nat.le_of_ble_eq_true rfl) (Nat.le_of_ble_eq_true rfl) (Nat.le_of_ble_eq_true rfl) 28 rfl dX9_init_26 (fun w5 ew5 => ?_)
  have hw5 : z_at w5.1 o0 (7, 18, (va_up (va_up z_nn 1 (some w.1.1)) 2 (some w2.1.1))) := by rw [ew5]; exact z_at_add hw4
  refine r_putr hw5 rfl (Nat.le_of_ble_eq_true rfl) rfl rfl w_X9_init_5 tyX9 tyX9_ok nmX9 (Nat.le_of_ble_eq_true rfl) rfl rfl w_X9_init_7 rfl rfl rfl rfl rfl rfl rfl 31 rfl dX9_init_28 (fun w6 ew6 => ?_)
  have hw6 : z_at w6.1 o0 (7, 18, (va_up (va_up (va_up z_nn 1 (some w.1.1)) 2 (some w2.1.1)) 3 (some w4.1.1))) := by rw [ew6]; exact z_at_ref _ _ hw5
  have rw6 : z_at w6.1 w.1.1 (8, 2656, z_nn) := by rw [ew6]; exact z_at_refo _ _ (Nat.ne_of_gt h0.1) (by rw [ew5]; exact z_at_add rw4)
  refine r_aload_n 0 0 rfl rfl 32 rfl dX9_init_31 ?_
  refine r_iconst 2 rfl 33 rfl dX9_init_32 ?_
  refine r_newa9 w_X9_init_8 (by decide) rfl (Nat.le_of_ble_eq_true rfl) (Nat.le_of_ble_eq_true rfl) (Nat.le_of_ble_eq_true rfl) 35 rfl dX9_init_33 (fun w7 ew7 => ?_)
  have hw7 : z_at w7.1 o0 (7, 18, (va_up (va_up (va_up z_nn 1 (some w.1.1)) 2 (some w2.1.1)) 3 (some w4.1.1))) := by rw [ew7]; exact z_at_add hw6
  refine r_putr hw7 rfl (Nat.le_of_ble_eq_true rfl) rfl rfl w_X9_init_5 tyX9 tyX9_ok nmX9 (Nat.le_of_ble_eq_true rfl) rfl rfl w_X9_init_9 rfl rfl rfl rfl rfl rfl rfl 38 rfl dX9_init_35 (fun w8 ew8 => ?_)
  have hw8 : z_at w8.1 o0 (7, 18, (va_up (va_up (va_up (va_up z_nn 1 (some w.1.1)) 2 (some w2.1.1)) 3 (some w4.1.1)) 4 (some w6.1.1))) := by rw [ew8]; exact z_at_ref _ _ hw7
  have rw8 : z_at w8.1 w.1.1 (8, 2656, z_nn) := by rw [ew8]; exact z_at_refo _ _ (Nat.ne_of_gt h0.1) (by rw [ew7]; exact z_at_add rw6)
  refine r_aload_n 0 0 rfl rfl 39 rfl dX9_init_38 ?_
  refine r_bipush 16 rfl 41 rfl dX9_init_39 ?_
  refine r_newa8 w_X9_init_3 (by decide) rfl (Nat.le_of_ble_eq_true rfl) (Nat.le_of_ble_eq_true rfl) (Nat.le_of_ble_eq_true rfl) 43 rfl dX9_init_41 (fun w9 ew9 => ?_)
  have hw9 : z_at w9.1 o0 (7, 18, (va_up (va_up (va_up (va_up z_nn 1 (some w.1.1)) 2 (some w2.1.1)) 3 (some w4.1.1)) 4 (some w6.1.1))) := by rw [ew9]; exact z_at_add hw8
  refine r_putr hw9 rfl (Nat.le_of_ble_eq_true rfl) rfl rfl w_X9_init_5 tyX9 tyX9_ok nmX9 (Nat.le_of_ble_eq_true rfl) rfl rfl w_X9_init_10 rfl rfl rfl rfl rfl rfl rfl 46 rfl dX9_init_43 (fun w10 ew10 => ?_)
  have hw10 : z_at w10.1 o0 (7, 18, (va_up (va_up (va_up (va_up (va_up z_nn 1 (some w.1.1)) 2 (some w2.1.1)) 3 (some w4.1.1)) 4 (some w6.1.1)) 5 (some w8.1.1))) := by rw [ew10]; exact z_at_ref _ _ hw9
  have rw10 : z_at w10.1 w.1.1 (8, 2656, z_nn) := by rw [ew10]; exact z_at_refo _ _ (Nat.ne_of_gt h0.1) (by rw [ew9]; exact z_at_add rw8)
  refine r_aload_n 0 0 rfl rfl 47 rfl dX9_init_46 ?_
  refine r_bipush 16 rfl 49 rfl dX9_init_47 ?_
  refine r_newa8 w_X9_init_3 (by decide) rfl (Nat.le_of_ble_eq_true rfl) (Nat.le_of_ble_eq_true rfl) (Nat.le_of_ble_eq_true rfl) 51 rfl dX9_init_49 (fun w11 ew11 => ?_)
  have hw11 : z_at w11.1 o0 (7, 18, (va_up (va_up (va_up (va_up (va_up z_nn 1 (some w.1.1)) 2 (some w2.1.1)) 3 (some w4.1.1)) 4 (some w6.1.1)) 5 (some w8.1.1))) := by rw [ew11]; exact z_at_add hw10
  refine r_putr hw11 rfl (Nat.le_of_ble_eq_true rfl) rfl rfl w_X9_init_5 tyX9 tyX9_ok nmX9 (Nat.le_of_ble_eq_true rfl) rfl rfl w_X9_init_11 rfl rfl rfl rfl rfl rfl rfl 54 rfl dX9_init_51 (fun w12 ew12 => ?_)
  have hw12 : z_at w12.1 o0 (7, 18, (va_up (va_up (va_up (va_up (va_up (va_up z_nn 1 (some w.1.1)) 2 (some w2.1.1)) 3 (some w4.1.1)) 4 (some w6.1.1)) 5 (some w8.1.1)) 7 (some w10.1.1))) := by rw [ew12]; exact z_at_ref _ _ hw11
  have rw12 : z_at w12.1 w.1.1 (8, 2656, z_nn) := by rw [ew12]; exact z_at_refo _ _ (Nat.ne_of_gt h0.1) (by rw [ew11]; exact z_at_add rw10)
  refine r_aload_n 0 0 rfl rfl 55 rfl dX9_init_54 ?_
  refine r_iconst 3 rfl 56 rfl dX9_init_55 ?_
  refine r_newa8 w_X9_init_3 (by decide) rfl (Nat.le_of_ble_eq_true rfl) (Nat.le_of_ble_eq_true rfl) (Nat.le_of_ble_eq_true rfl) 58 rfl dX9_init_56 (fun w13 ew13 => ?_)
  have hw13 : z_at w13.1 o0 (7, 18, (va_up (va_up (va_up (va_up (va_up (va_up z_nn 1 (some w.1.1)) 2 (some w2.1.1)) 3 (some w4.1.1)) 4 (some w6.1.1)) 5 (some w8.1.1)) 7 (some w10.1.1))) := by rw [ew13]; exact z_at_add hw12
  refine r_putr hw13 rfl (Nat.le_of_ble_eq_true rfl) rfl rfl w_X9_init_5 tyX9 tyX9_ok nmX9 (Nat.le_of_ble_eq_true rfl) rfl rfl w_X9_init_12 rfl rfl rfl rfl rfl rfl rfl 61 rfl dX9_init_58 (fun w14 ew14 => ?_)
  have hw14 : z_at w14.1 o0 (7, 18, (va_up (va_up (va_up (va_up (va_up (va_up (va_up z_nn 1 (some w.1.1)) 2 (some w2.1.1)) 3 (some w4.1.1)) 4 (some w6.1.1)) 5 (some w8.1.1)) 7 (some w10.1.1)) 9 (some w12.1.1))) := by rw [ew14]; exact z_at_ref _ _ hw13
  have rw14 : z_at w14.1 w.1.1 (8, 2656, z_nn) := by rw [ew14]; exact z_at_refo _ _ (Nat.ne_of_gt h0.1) (by rw [ew13]; exact z_at_add rw12)
  refine r_aload_n 0 0 rfl rfl 62 rfl dX9_init_61 ?_
  refine r_sipush 600 rfl 65 rfl dX9_init_62 ?_
  refine r_newa10 w_X9_init_13 (by decide) rfl (Nat.le_of_ble_eq_true rfl) (Nat.le_of_ble_eq_true rfl) (Nat.le_of_ble_eq_true rfl) 67 rfl dX9_init_65 (fun w15 ew15 => ?_)
  have hw15 : z_at w15.1 o0 (7, 18, (va_up (va_up (va_up (va_up (va_up (va_up (va_up z_nn 1 (some w.1.1)) 2 (some w2.1.1)) 3 (some w4.1.1)) 4 (some w6.1.1)) 5 (some w8.1.1)) 7 (some w10.1.1)) 9 (some w12.1.1))) := by rw [ew15]; exact z_at_add hw14
  refine r_putr hw15 rfl (Nat.le_of_ble_eq_true rfl) rfl rfl w_X9_init_5 tyX9 tyX9_ok nmX9 (Nat.le_of_ble_eq_true rfl) rfl rfl w_X9_init_14 rfl rfl rfl rfl rfl rfl rfl 70 rfl dX9_init_67 (fun w16 ew16 => ?_)
  have hw16 : z_at w16.1 o0 (7, 18, (va_up (va_up (va_up (va_up (va_up (va_up (va_up (va_up z_nn 1 (some w.1.1)) 2 (some w2.1.1)) 3 (some w4.1.1)) 4 (some w6.1.1)) 5 (some w8.1.1)) 7 (some w10.1.1)) 9 (some w12.1.1)) 10 (some w14.1.1))) := by rw [ew16]; exact z_at_ref _ _ hw15
  have rw16 : z_at w16.1 w.1.1 (8, 2656, z_nn) := by rw [ew16]; exact z_at_refo _ _ (Nat.ne_of_gt h0.1) (by rw [ew15]; exact z_at_add rw14)
  refine r_aload_n 0 0 rfl rfl 71 rfl dX9_init_70 ?_
  refine r_sipush 600 rfl 74 rfl dX9_init_71 ?_
  refine r_newa8 w_X9_init_3 (by decide) rfl (Nat.le_of_ble_eq_true rfl) (Nat.le_of_ble_eq_true rfl) (Nat.le_of_ble_eq_true rfl) 76 rfl dX9_init_74 (fun w17 ew17 => ?_)
  have hw17 : z_at w17.1 o0 (7, 18, (va_up (va_up (va_up (va_up (va_up (va_up (va_up (va_up z_nn 1 (some w.1.1)) 2 (some w2.1.1)) 3 (some w4.1.1)) 4 (some w6.1.1)) 5 (some w8.1.1)) 7 (some w10.1.1)) 9 (some w12.1.1)) 10 (some w14.1.1))) := by rw [ew17]; exact z_at_add hw16
  refine r_putr hw17 rfl (Nat.le_of_ble_eq_true rfl) rfl rfl w_X9_init_5 tyX9 tyX9_ok nmX9 (Nat.le_of_ble_eq_true rfl) rfl rfl w_X9_init_15 rfl rfl rfl rfl rfl rfl rfl 79 rfl dX9_init_76 (fun w18 ew18 => ?_)
  have hw18 : z_at w18.1 o0 (7, 18, (va_up (va_up (va_up (va_up (va_up (va_up (va_up (va_up (va_up z_nn 1 (some w.1.1)) 2 (some w2.1.1)) 3 (some w4.1.1)) 4 (some w6.1.1)) 5 (some w8.1.1)) 7 (some w10.1.1)) 9 (some w12.1.1)) 10 (some w14.1.1)) 16 (some w16.1.1))) := by rw [ew18]; exact z_at_ref _ _ hw17
  have rw18 : z_at w18.1 w.1.1 (8, 2656, z_nn) := by rw [ew18]; exact z_at_refo _ _ (Nat.ne_of_gt h0.1) (by rw [ew17]; exact z_at_add rw16)
  refine r_aload_n 0 0 rfl rfl 80 rfl dX9_init_79 ?_
  refine r_get (S := (w18).1) (d := (w18).2) hw18 rfl (Nat.le_of_ble_eq_true rfl) rfl rfl w_X9_init_5 1 (Nat.le_of_ble_eq_true rfl) rfl w_X9_init_4 (.ref (E.2.1 + w.1.1)) rfl 83 rfl dX9_init_80 ?_
  refine r_iconst 4 rfl 84 rfl dX9_init_83 ?_
  refine r_bipush 10 rfl 86 rfl dX9_init_84 ?_
  refine r_iast (S := (w18).1) (d := (w18).2) rw18 rfl rfl 87 rfl dX9_init_86 (fun d19 => ?_)
  refine r_aload_n 0 0 rfl rfl 88 rfl dX9_init_87 ?_
  refine r_get (S := (((w18).1, d19)).1) (d := (((w18).1, d19)).2) hw18 rfl (Nat.le_of_ble_eq_true rfl) rfl rfl w_X9_init_5 1 (Nat.le_of_ble_eq_true rfl) rfl w_X9_init_4 (.ref (E.2.1 + w.1.1)) rfl 91 rfl dX9_init_88 ?_
  refine r_iconst 5 rfl 92 rfl dX9_init_91 ?_
  refine r_iconst 3 rfl 93 rfl dX9_init_92 ?_
  refine r_iast (S := (((w18).1, d19)).1) (d := (((w18).1, d19)).2) rw18 rfl rfl 94 rfl dX9_init_93 (fun d20 => ?_)
  exact r_return rfl rfl (Nat.le_of_ble_eq_true rfl) (Nat.le_of_ble_eq_true rfl) dX9_init_94
