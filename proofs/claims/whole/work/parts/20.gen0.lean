/-! 20.gen0: by gen/mk.py -/
def Y_X8_within : z_Y := (RX8, cX8_within, 3, wsX8_within, (some .boolean), { frames := 0, cells := 0, slots := 0, locals := 0 }, 0, 0)
theorem ok_X8_within : z_Ok yX8_within Y_X8_within 3 := ⟨⟨_, rfl⟩, rfl, rfl, rfl, by decide +kernel, by decide +kernel⟩
def f_X8_within (x0 : Int32) (x1 : Int32) (x2 : Int32) : Option Int32 := (if x0 < x1 then (some 0) else (if x2 < x0 then (some 0) else (some 1)))
set_option maxHeartbeats 4000000 in
set_option maxRecDepth 100000 in
theorem c_X8_within {E : z_E} {l : Launch} {S : z_S} (d : z_D) (x0 : Int32) (x1 : Int32) (x2 : Int32) : z_Sp E l yX8_within Y_X8_within (cvI S d) [.int x0, .int x1, .int x2] (S, d) (f_X8_within x0 x1 x2) := by
  refine z_entry (lv := [(0, .int x0), (1, .int x1), (2, .int x2)]) (by decide) rfl rfl (Nat.le_of_ble_eq_true rfl) rfl ?_
  unfold f_X8_within
  refine r_iload_n 0 0 rfl rfl 1 rfl dX8_within_0 ?_
  refine r_iload_n 1 1 rfl rfl 2 rfl dX8_within_1 ?_
  refine r_icmp_lt 14 5 rfl rfl dX8_within_2 ?_ ?_
  · refine r_iconst 0 rfl 15 rfl dX8_within_14 ?_
    exact r_zreturnc (by decide) rfl rfl (Nat.le_of_ble_eq_true rfl) (Nat.le_of_ble_eq_true rfl) dX8_within_15
  · refine r_iload_n 0 0 rfl rfl 6 rfl dX8_within_5 ?_
    refine r_iload_n 2 2 rfl rfl 7 rfl dX8_within_6 ?_
    refine r_icmp_gt 14 10 rfl rfl dX8_within_7 ?_ ?_
    · refine r_iconst 0 rfl 15 rfl dX8_within_14 ?_
      exact r_zreturnc (by decide) rfl rfl (Nat.le_of_ble_eq_true rfl) (Nat.le_of_ble_eq_true rfl) dX8_within_15
    · refine r_iconst 1 rfl 11 rfl dX8_within_10 ?_
      refine r_goto 15 rfl dX8_within_11 ?_
      exact r_zreturnc (by decide) rfl rfl (Nat.le_of_ble_eq_true rfl) (Nat.le_of_ble_eq_true rfl) dX8_within_15
def Y_X0_canBe : z_Y := (RX0, cX0_canBe, 3, wsX0_canBe, (some .boolean), { frames := 1, cells := 0, slots := 0, locals := 22 }, 0, 0)
theorem ok_X0_canBe : z_Ok yX0_canBe Y_X0_canBe 3 := ⟨⟨_, rfl⟩, rfl, rfl, rfl, by decide +kernel, by decide +kernel⟩
theorem w_X0_canBe_0 : Cond.initialized RX8 ∈ wsX0_canBe := by decide +kernel
theorem w_X0_canBe_1 : Cond.static yX8_within ∈ wsX0_canBe := by decide +kernel
def f_X0_canBe (x0 : Int32) (x1 : Int32) (x2 : Int32) : Option Int32 := ((f_X8_within x0 1 16).bind fun v1 => (if v1 = 0 then (some 0) else ((f_X8_within x1 1 300).bind fun v2 => (if v2 = 0 then (some 0) else ((f_X8_within x2 1 16).bind fun v3 => (if v3 = 0 then (some 0) else (some 1)))))))
set_option maxHeartbeats 4000000 in
set_option maxRecDepth 100000 in
theorem c_X0_canBe {E : z_E} {l : Launch} {S : z_S} (d : z_D) (x0 : Int32) (x1 : Int32) (x2 : Int32) : z_Sp E l yX0_canBe Y_X0_canBe (cvI S d) [.int x0, .int x1, .int x2] (S, d) (f_X0_canBe x0 x1 x2) := by
  refine z_entry (lv := [(0, .int x0), (1, .int x1), (2, .int x2)]) (by decide) rfl rfl (Nat.le_of_ble_eq_true rfl) rfl ?_
  unfold f_X0_canBe
  refine r_iload_n 0 0 rfl rfl 1 rfl dX0_canBe_0 ?_
  refine r_iconst 1 rfl 2 rfl dX0_canBe_1 ?_
  refine r_bipush 16 rfl 4 rfl dX0_canBe_2 ?_
  refine r_callSN_I (c_X8_within (E := E) (l := l) (S := S) d x0 1 16) ok_X8_within ⟨⟨(Nat.le_of_ble_eq_true rfl), (Nat.le_of_ble_eq_true rfl)⟩, (Nat.le_of_ble_eq_true rfl), (Nat.le_of_ble_eq_true rfl)⟩ rfl (Nat.le_of_ble_eq_true rfl) 100 rfl gX0_canBe_X8_within_n9 w_X0_canBe_0 w_X0_canBe_1 rfl rfl 7 rfl dX0_canBe_4 (fun v1 => ?_)
  refine r_if_eq 35 10 rfl rfl dX0_canBe_7 ?_ ?_
  · refine r_iconst 0 rfl 36 rfl dX0_canBe_35 ?_
    exact r_zreturnc (by decide) rfl rfl (Nat.le_of_ble_eq_true rfl) (Nat.le_of_ble_eq_true rfl) dX0_canBe_36
  · refine r_iload_n 1 1 rfl rfl 11 rfl dX0_canBe_10 ?_
    refine r_iconst 1 rfl 12 rfl dX0_canBe_11 ?_
    refine r_sipush 300 rfl 15 rfl dX0_canBe_12 ?_
    refine r_callSN_I (c_X8_within (E := E) (l := l) (S := S) d x1 1 300) ok_X8_within ⟨⟨(Nat.le_of_ble_eq_true rfl), (Nat.le_of_ble_eq_true rfl)⟩, (Nat.le_of_ble_eq_true rfl), (Nat.le_of_ble_eq_true rfl)⟩ rfl (Nat.le_of_ble_eq_true rfl) 100 rfl gX0_canBe_X8_within_n9 w_X0_canBe_0 w_X0_canBe_1 rfl rfl 18 rfl dX0_canBe_15 (fun v2 => ?_)
    refine r_if_eq 35 21 rfl rfl dX0_canBe_18 ?_ ?_
    · refine r_iconst 0 rfl 36 rfl dX0_canBe_35 ?_
      exact r_zreturnc (by decide) rfl rfl (Nat.le_of_ble_eq_true rfl) (Nat.le_of_ble_eq_true rfl) dX0_canBe_36
    · refine r_iload_n 2 2 rfl rfl 22 rfl dX0_canBe_21 ?_
      refine r_iconst 1 rfl 23 rfl dX0_canBe_22 ?_
      refine r_bipush 16 rfl 25 rfl dX0_canBe_23 ?_
      refine r_callSN_I (c_X8_within (E := E) (l := l) (S := S) d x2 1 16) ok_X8_within ⟨⟨(Nat.le_of_ble_eq_true rfl), (Nat.le_of_ble_eq_true rfl)⟩, (Nat.le_of_ble_eq_true rfl), (Nat.le_of_ble_eq_true rfl)⟩ rfl (Nat.le_of_ble_eq_true rfl) 100 rfl gX0_canBe_X8_within_n9 w_X0_canBe_0 w_X0_canBe_1 rfl rfl 28 rfl dX0_canBe_25 (fun v3 => ?_)
      refine r_if_eq 35 31 rfl rfl dX0_canBe_28 ?_ ?_
      · refine r_iconst 0 rfl 36 rfl dX0_canBe_35 ?_
        exact r_zreturnc (by decide) rfl rfl (Nat.le_of_ble_eq_true rfl) (Nat.le_of_ble_eq_true rfl) dX0_canBe_36
      · refine r_iconst 1 rfl 32 rfl dX0_canBe_31 ?_
        refine r_goto 36 rfl dX0_canBe_32 ?_
        exact r_zreturnc (by decide) rfl rfl (Nat.le_of_ble_eq_true rfl) (Nat.le_of_ble_eq_true rfl) dX0_canBe_36
def Y_X0_pace : z_Y := (RX0, cX0_pace, 1, wsX0_pace, (some .long), { frames := 1, cells := 0, slots := 0, locals := 21 }, 0, 0)
theorem ok_X0_pace : z_Ok yX0_pace Y_X0_pace 1 := ⟨⟨_, rfl⟩, rfl, rfl, rfl, by decide +kernel, by decide +kernel⟩
theorem w_X0_pace_0 : Cond.constant RX0 13 40000 ∈ wsX0_pace := by decide +kernel
theorem w_X0_pace_1 : Cond.methodLink RX0 14 Lib.Math.max.name ∈ wsX0_pace := by decide +kernel
theorem w_X0_pace_2 : Cond.static Lib.Math.max.name ∈ wsX0_pace := by decide +kernel
theorem w_X0_pace_3 : Cond.initialized "java/lang/Math" ∈ wsX0_pace := by decide +kernel
theorem w_X0_pace_4 : Cond.code Lib.Math.max.name Lib.Math.max.code 2 (some .int) ∈ wsX0_pace := by decide +kernel
def f_X0_pace (x0 : Int32) : Option Int64 := z_div (6000 * (x0 - 1)) (if x0 < 1 then 1 else x0) (fun v1 => (some ((40000 + v1).toInt64)))
set_option maxHeartbeats 4000000 in
set_option maxRecDepth 100000 in
theorem c_X0_pace {E : z_E} {l : Launch} {S : z_S} (d : z_D) (x0 : Int32) : z_Sp E l yX0_pace Y_X0_pace (cvJ S d) [.int x0] (S, d) (f_X0_pace x0) := by
  refine z_entry (lv := [(0, .int x0)]) (by decide) rfl rfl (Nat.le_of_ble_eq_true rfl) rfl ?_
  unfold f_X0_pace
  refine r_ldc (v := 40000) w_X0_pace_0 2 rfl dX0_pace_0 ?_
  refine r_sipush 6000 rfl 5 rfl dX0_pace_2 ?_
  refine r_iload_n 0 0 rfl rfl 6 rfl dX0_pace_5 ?_
  refine r_iconst 1 rfl 7 rfl dX0_pace_6 ?_
  refine r_isub 8 rfl dX0_pace_7 ?_
  refine r_imul 9 rfl dX0_pace_8 ?_
  refine r_iload_n 0 0 rfl rfl 10 rfl dX0_pace_9 ?_
  refine r_iconst 1 rfl 11 rfl dX0_pace_10 ?_
  refine r_mmax w_X0_pace_1 w_X0_pace_2 w_X0_pace_3 w_X0_pace_4 (Nat.le_of_ble_eq_true rfl) (Nat.le_of_ble_eq_true rfl) (Nat.le_of_ble_eq_true rfl) (Nat.le_of_ble_eq_true rfl) 14 rfl dX0_pace_11 ?_
  refine r_div 15 rfl dX0_pace_14 (fun v1 => ?_)
  refine r_iadd 16 rfl dX0_pace_15 ?_
  refine r_i2l 17 rfl dX0_pace_16 ?_
  exact r_lreturn rfl rfl (Nat.le_of_ble_eq_true rfl) (Nat.le_of_ble_eq_true rfl) dX0_pace_17
def Y_X0_metresLeft : z_Y := (RX0, cX0_metresLeft, 12, wsX0_metresLeft, (some .int), { frames := 2, cells := 0, slots := 0, locals := 41 }, 0, 0)
theorem ok_X0_metresLeft : z_Ok yX0_metresLeft Y_X0_metresLeft 4 := ⟨⟨_, rfl⟩, rfl, rfl, rfl, by decide +kernel, by decide +kernel⟩
theorem w_X0_metresLeft_0 : Cond.constantLong RX0 26 3600 ∈ wsX0_metresLeft := by decide +kernel
theorem w_X0_metresLeft_1 : Cond.constantLong RX0 28 1000 ∈ wsX0_metresLeft := by decide +kernel
def f_X0_metresLeft (x0 : Int32) (x1 : Int32) (x2 : Int32) (x3 : Int32) : Option Int32 := ((f_X0_pace x0).bind fun v1 => ((f_X0_pace x3).bind fun v2 => (if 0 < (lg_cmp v2 v1) then z_nam (3600 * (v2 - v1)) (fun v3 => z_nam ((((x2.toInt64) * 1000) * v3) - ((v1 * v2) * (x1.toInt64))) (fun v4 => (if 0 ≤ (lg_cmp v4 0) then z_ldiv v4 v3 (fun v5 => (some (v5.toInt32))) else (some (-1))))) else (some (-1)))))
set_option maxHeartbeats 4000000 in
set_option maxRecDepth 100000 in
theorem c_X0_metresLeft {E : z_E} {l : Launch} {S : z_S} (d : z_D) (x0 : Int32) (x1 : Int32) (x2 : Int32) (x3 : Int32) : z_Sp E l yX0_metresLeft Y_X0_metresLeft (cvI S d) [.int x0, .int x1, .int x2, .int x3] (S, d) (f_X0_metresLeft x0 x1 x2 x3) := by
  refine z_entry (lv := [(0, .int x0), (1, .int x1), (2, .int x2), (3, .int x3)]) (by decide) rfl rfl (Nat.le_of_ble_eq_true rfl) rfl ?_
  unfold f_X0_metresLeft
  refine r_iload_n 0 0 rfl rfl 1 rfl dX0_metresLeft_0 ?_
  refine r_callS_J (c_X0_pace (E := E) (l := l) (S := S) d x0) ok_X0_pace ⟨⟨(Nat.le_of_ble_eq_true rfl), (Nat.le_of_ble_eq_true rfl)⟩, (Nat.le_of_ble_eq_true rfl), (Nat.le_of_ble_eq_true rfl)⟩ rfl (Nat.le_of_ble_eq_true rfl) gX0_metresLeft_X0_pace rfl rfl 4 rfl dX0_metresLeft_1 (fun v1 => ?_)
  refine r_lstore 4 [(4, .long v1), (0, .int x0), (1, .int x1), (2, .int x2), (3, .int x3)] (Nat.le_of_ble_eq_true rfl) rfl 6 rfl dX0_metresLeft_4 ?_
  refine r_iload_n 3 4 rfl rfl 7 rfl dX0_metresLeft_6 ?_
  refine r_callS_J (c_X0_pace (E := E) (l := l) (S := S) d x3) ok_X0_pace ⟨⟨(Nat.le_of_ble_eq_true rfl), (Nat.le_of_ble_eq_true rfl)⟩, (Nat.le_of_ble_eq_true rfl), (Nat.le_of_ble_eq_true rfl)⟩ rfl (Nat.le_of_ble_eq_true rfl) gX0_metresLeft_X0_pace rfl rfl 10 rfl dX0_metresLeft_7 (fun v2 => ?_)
  refine r_lstore 6 [(6, .long v2), (4, .long v1), (0, .int x0), (1, .int x1), (2, .int x2), (3, .int x3)] (Nat.le_of_ble_eq_true rfl) rfl 12 rfl dX0_metresLeft_10 ?_
  refine r_lload 6 0 rfl 14 rfl dX0_metresLeft_12 ?_
  refine r_lload 4 1 rfl 16 rfl dX0_metresLeft_14 ?_
  refine r_lcmp 17 rfl dX0_metresLeft_16 ?_
  refine r_if_gt 22 20 rfl rfl dX0_metresLeft_17 ?_ ?_
  · refine r_ldc2 (v := 3600) w_X0_metresLeft_0 25 rfl dX0_metresLeft_22 ?_
    refine r_lload 6 0 rfl 27 rfl dX0_metresLeft_25 ?_
    refine r_lload 4 1 rfl 29 rfl dX0_metresLeft_27 ?_
    refine r_lsub 30 rfl dX0_metresLeft_29 ?_
    refine r_lmul 31 rfl dX0_metresLeft_30 ?_
    refine r_naml (fun v3 => ?_)
    refine r_lstore 8 [(8, .long v3), (6, .long v2), (4, .long v1), (0, .int x0), (1, .int x1), (2, .int x2), (3, .int x3)] (Nat.le_of_ble_eq_true rfl) rfl 33 rfl dX0_metresLeft_31 ?_
    refine r_iload_n 2 5 rfl rfl 34 rfl dX0_metresLeft_33 ?_
    refine r_i2l 35 rfl dX0_metresLeft_34 ?_
    refine r_ldc2 (v := 1000) w_X0_metresLeft_1 38 rfl dX0_metresLeft_35 ?_
    refine r_lmul 39 rfl dX0_metresLeft_38 ?_
    refine r_lload 8 0 rfl 41 rfl dX0_metresLeft_39 ?_
    refine r_lmul 42 rfl dX0_metresLeft_41 ?_
    refine r_lload 4 2 rfl 44 rfl dX0_metresLeft_42 ?_
    refine r_lload 6 1 rfl 46 rfl dX0_metresLeft_44 ?_
    refine r_lmul 47 rfl dX0_metresLeft_46 ?_
    refine r_iload_n 1 4 rfl rfl 48 rfl dX0_metresLeft_47 ?_
    refine r_i2l 49 rfl dX0_metresLeft_48 ?_
    refine r_lmul 50 rfl dX0_metresLeft_49 ?_
    refine r_lsub 51 rfl dX0_metresLeft_50 ?_
    refine r_naml (fun v4 => ?_)
    refine r_lstore 10 [(10, .long v4), (8, .long v3), (6, .long v2), (4, .long v1), (0, .int x0), (1, .int x1), (2, .int x2), (3, .int x3)] (Nat.le_of_ble_eq_true rfl) rfl 53 rfl dX0_metresLeft_51 ?_
    refine r_lload 10 0 rfl 55 rfl dX0_metresLeft_53 ?_
    refine r_lconst 0 rfl 56 rfl dX0_metresLeft_55 ?_
    refine r_lcmp 57 rfl dX0_metresLeft_56 ?_
    refine r_if_ge 64 60 rfl rfl dX0_metresLeft_57 ?_ ?_
    · refine r_lload 10 0 rfl 66 rfl dX0_metresLeft_64 ?_
      refine r_lload 8 1 rfl 68 rfl dX0_metresLeft_66 ?_
      refine r_ldiv 69 rfl dX0_metresLeft_68 (fun v5 => ?_)
      refine r_l2i 70 rfl dX0_metresLeft_69 ?_
      exact r_ireturn rfl rfl (Nat.le_of_ble_eq_true rfl) (Nat.le_of_ble_eq_true rfl) dX0_metresLeft_70
    · refine r_iconst (-1) rfl 61 rfl dX0_metresLeft_60 ?_
      refine r_goto 70 rfl dX0_metresLeft_61 ?_
      exact r_ireturn rfl rfl (Nat.le_of_ble_eq_true rfl) (Nat.le_of_ble_eq_true rfl) dX0_metresLeft_70
  · refine r_iconst (-1) rfl 21 rfl dX0_metresLeft_20 ?_
    exact r_ireturn rfl rfl (Nat.le_of_ble_eq_true rfl) (Nat.le_of_ble_eq_true rfl) dX0_metresLeft_21
def Y_X0_leastAhead : z_Y := (RX0, cX0_leastAhead, 9, wsX0_leastAhead, (some .int), { frames := 2, cells := 0, slots := 0, locals := 41 }, 0, 0)
theorem ok_X0_leastAhead : z_Ok yX0_leastAhead Y_X0_leastAhead 3 := ⟨⟨_, rfl⟩, rfl, rfl, rfl, by decide +kernel, by decide +kernel⟩
theorem w_X0_leastAhead_0 : Cond.constantLong RX0 28 1000 ∈ wsX0_leastAhead := by decide +kernel
theorem w_X0_leastAhead_1 : Cond.constantLong RX0 26 3600 ∈ wsX0_leastAhead := by decide +kernel
def f_X0_leastAhead (x0 : Int32) (x1 : Int32) (x2 : Int32) : Option Int32 := ((f_X0_pace x0).bind fun v1 => ((f_X0_pace x2).bind fun v2 => (if 0 < (lg_cmp v2 v1) then z_ldiv ((((x1.toInt64) * 1000) * 3600) * (v2 - v1)) (v1 * v2) (fun v3 => z_nam (v3 + 1) (fun v4 => (if 0 < (lg_cmp v4 3600) then (some (-1)) else (some (v4.toInt32))))) else (some 0))))
set_option maxHeartbeats 4000000 in
set_option maxRecDepth 100000 in
theorem c_X0_leastAhead {E : z_E} {l : Launch} {S : z_S} (d : z_D) (x0 : Int32) (x1 : Int32) (x2 : Int32) : z_Sp E l yX0_leastAhead Y_X0_leastAhead (cvI S d) [.int x0, .int x1, .int x2] (S, d) (f_X0_leastAhead x0 x1 x2) := by
  refine z_entry (lv := [(0, .int x0), (1, .int x1), (2, .int x2)]) (by decide) rfl rfl (Nat.le_of_ble_eq_true rfl) rfl ?_
  unfold f_X0_leastAhead
  refine r_iload_n 0 0 rfl rfl 1 rfl dX0_leastAhead_0 ?_
  refine r_callS_J (c_X0_pace (E := E) (l := l) (S := S) d x0) ok_X0_pace ⟨⟨(Nat.le_of_ble_eq_true rfl), (Nat.le_of_ble_eq_true rfl)⟩, (Nat.le_of_ble_eq_true rfl), (Nat.le_of_ble_eq_true rfl)⟩ rfl (Nat.le_of_ble_eq_true rfl) gX0_leastAhead_X0_pace rfl rfl 4 rfl dX0_leastAhead_1 (fun v1 => ?_)
  refine r_lstore_n 3 rfl [(3, .long v1), (0, .int x0), (1, .int x1), (2, .int x2)] (Nat.le_of_ble_eq_true rfl) rfl 5 rfl dX0_leastAhead_4 ?_
  refine r_iload_n 2 3 rfl rfl 6 rfl dX0_leastAhead_5 ?_
  refine r_callS_J (c_X0_pace (E := E) (l := l) (S := S) d x2) ok_X0_pace ⟨⟨(Nat.le_of_ble_eq_true rfl), (Nat.le_of_ble_eq_true rfl)⟩, (Nat.le_of_ble_eq_true rfl), (Nat.le_of_ble_eq_true rfl)⟩ rfl (Nat.le_of_ble_eq_true rfl) gX0_leastAhead_X0_pace rfl rfl 9 rfl dX0_leastAhead_6 (fun v2 => ?_)
  refine r_lstore 5 [(5, .long v2), (3, .long v1), (0, .int x0), (1, .int x1), (2, .int x2)] (Nat.le_of_ble_eq_true rfl) rfl 11 rfl dX0_leastAhead_9 ?_
  refine r_lload 5 0 rfl 13 rfl dX0_leastAhead_11 ?_
  refine r_lload_n 3 1 rfl rfl 14 rfl dX0_leastAhead_13 ?_
  refine r_lcmp 15 rfl dX0_leastAhead_14 ?_
  refine r_if_gt 20 18 rfl rfl dX0_leastAhead_15 ?_ ?_
  · refine r_iload_n 1 3 rfl rfl 21 rfl dX0_leastAhead_20 ?_
    refine r_i2l 22 rfl dX0_leastAhead_21 ?_
    refine r_ldc2 (v := 1000) w_X0_leastAhead_0 25 rfl dX0_leastAhead_22 ?_
    refine r_lmul 26 rfl dX0_leastAhead_25 ?_
    refine r_ldc2 (v := 3600) w_X0_leastAhead_1 29 rfl dX0_leastAhead_26 ?_
    refine r_lmul 30 rfl dX0_leastAhead_29 ?_
    refine r_lload 5 0 rfl 32 rfl dX0_leastAhead_30 ?_
    refine r_lload_n 3 1 rfl rfl 33 rfl dX0_leastAhead_32 ?_
    refine r_lsub 34 rfl dX0_leastAhead_33 ?_
    refine r_lmul 35 rfl dX0_leastAhead_34 ?_
    refine r_lload_n 3 1 rfl rfl 36 rfl dX0_leastAhead_35 ?_
    refine r_lload 5 0 rfl 38 rfl dX0_leastAhead_36 ?_
    refine r_lmul 39 rfl dX0_leastAhead_38 ?_
    refine r_ldiv 40 rfl dX0_leastAhead_39 (fun v3 => ?_)
    refine r_lconst 1 rfl 41 rfl dX0_leastAhead_40 ?_
    refine r_ladd 42 rfl dX0_leastAhead_41 ?_
    refine r_naml (fun v4 => ?_)
    refine r_lstore 7 [(7, .long v4), (5, .long v2), (3, .long v1), (0, .int x0), (1, .int x1), (2, .int x2)] (Nat.le_of_ble_eq_true rfl) rfl 44 rfl dX0_leastAhead_42 ?_
    refine r_lload 7 0 rfl 46 rfl dX0_leastAhead_44 ?_
    refine r_ldc2 (v := 3600) w_X0_leastAhead_1 49 rfl dX0_leastAhead_46 ?_
    refine r_lcmp 50 rfl dX0_leastAhead_49 ?_
    refine r_if_gt 59 53 rfl rfl dX0_leastAhead_50 ?_ ?_
    · refine r_iconst (-1) rfl 60 rfl dX0_leastAhead_59 ?_
      exact r_ireturn rfl rfl (Nat.le_of_ble_eq_true rfl) (Nat.le_of_ble_eq_true rfl) dX0_leastAhead_60
    · refine r_lload 7 0 rfl 55 rfl dX0_leastAhead_53 ?_
      refine r_l2i 56 rfl dX0_leastAhead_55 ?_
      refine r_goto 60 rfl dX0_leastAhead_56 ?_
      exact r_ireturn rfl rfl (Nat.le_of_ble_eq_true rfl) (Nat.le_of_ble_eq_true rfl) dX0_leastAhead_60
  · refine r_iconst 0 rfl 19 rfl dX0_leastAhead_18 ?_
    exact r_ireturn rfl rfl (Nat.le_of_ble_eq_true rfl) (Nat.le_of_ble_eq_true rfl) dX0_leastAhead_19
