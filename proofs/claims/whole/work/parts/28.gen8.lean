/-! 28.gen8: by gen/mk.py -/
def Y_X8_feed : z_Y := (RX8, cX8_feed, 6, wsX8_feed, (some .int), { frames := 1, cells := 0, slots := 0, locals := 22 }, 0, 0)
theorem ok_X8_feed : z_Ok yX8_feed Y_X8_feed 5 := ⟨⟨_, rfl⟩, rfl, rfl, rfl, by decide +kernel, by decide +kernel⟩
theorem w_X8_feed_0 : Cond.fieldLink RX8 33 "BunchTimes" "tape" "LBunchTimes$Tape;" ∈ wsX8_feed := by decide +kernel
theorem w_X8_feed_1 : ∀ w ∈ u_ws RX8 TX8 5, w ∈ wsX8_feed := by decide +kernel
theorem w_X8_feed_2 : ∀ w ∈ u_ws RX6 TX6 6, w ∈ wsX8_feed := by decide +kernel
theorem w_X8_feed_3 : Cond.initialized RX6 ∈ wsX8_feed := by decide +kernel
theorem w_X8_feed_4 : Cond.instanceMethod yX6_putFour ∈ wsX8_feed := by decide +kernel
theorem w_X8_feed_5 : Cond.selects RX6 yX6_putFour yX6_putFour ∈ wsX8_feed := by decide +kernel
def f_X8_feed (d : z_D) (o0 : Nat) (x1 : Int32) (x2 : Int32) (x3 : Int32) (x4 : Int32) (x5 : Int32) : Option (Int32 × z_D) := (if ((d (o0 + 353) 1) + 20) ≤ 600 then ((f_X6_putFour d (o0 + 353) x1).bind fun d1 => ((f_X6_putFour d1 (o0 + 353) x2).bind fun d2 => ((f_X6_putFour d2 (o0 + 353) x3).bind fun d3 => ((f_X6_putFour d3 (o0 + 353) x4).bind fun d4 => ((f_X6_putFour d4 (o0 + 353) x5).bind fun d5 => (some ((d5 (o0 + 353) 1), d5))))))) else (some ((-1), d)))
set_option maxHeartbeats 4000000 in
set_option maxRecDepth 100000 in
theorem c_X8_feed {E : z_E} {l : Launch} {S : z_S} (d : z_D) (o0 : Nat) (h0 : A_BT S o0) (x1 : Int32) (x2 : Int32) (x3 : Int32) (x4 : Int32) (x5 : Int32) : z_Sp E l yX8_feed Y_X8_feed (cvX S) [.ref (E.2.1 + o0), .int x1, .int x2, .int x3, .int x4, .int x5] (S, d) (f_X8_feed d o0 x1 x2 x3 x4 x5) := by
  refine z_entry (lv := [(0, .ref (E.2.1 + o0)), (1, .int x1), (2, .int x2), (3, .int x3), (4, .int x4), (5, .int x5)]) (by decide) rfl rfl (Nat.le_of_ble_eq_true rfl) rfl ?_
  unfold f_X8_feed
  refine r_aload_n 0 0 rfl rfl 1 rfl dX8_feed_0 ?_
  refine r_get (h0.1 0 (Nat.le_of_ble_eq_true rfl)) rfl (Nat.le_of_ble_eq_true rfl) rfl rfl w_X8_feed_1 4 (Nat.le_of_ble_eq_true rfl) rfl w_X8_feed_0 (.ref (E.2.1 + (o0 + 353))) rfl 4 rfl dX8_feed_1 ?_
  refine r_getN 1 37 rfl ((A_BT.tape h0) 0 (Nat.le_of_ble_eq_true rfl)) rfl (Nat.le_of_ble_eq_true rfl) rfl rfl w_X8_feed_2 (Nat.le_of_ble_eq_true rfl) rfl (.int (d (o0 + 353) 1)) rfl 7 rfl dX8_feed_4 ?_
  refine r_bipush 20 rfl 9 rfl dX8_feed_7 ?_
  refine r_iadd 10 rfl dX8_feed_9 ?_
  refine r_sipush 600 rfl 13 rfl dX8_feed_10 ?_
  refine r_icmp_le 18 16 rfl rfl dX8_feed_13 ?_ ?_
  · refine r_aload_n 0 0 rfl rfl 19 rfl dX8_feed_18 ?_
    refine r_get (h0.1 0 (Nat.le_of_ble_eq_true rfl)) rfl (Nat.le_of_ble_eq_true rfl) rfl rfl w_X8_feed_1 4 (Nat.le_of_ble_eq_true rfl) rfl w_X8_feed_0 (.ref (E.2.1 + (o0 + 353))) rfl 22 rfl dX8_feed_19 ?_
    refine r_iload_n 1 1 rfl rfl 23 rfl dX8_feed_22 ?_
    refine r_callVN_V (c_X6_putFour (E := E) (l := l) (S := S) d (o0 + 353) (A_BT.tape h0) x1) ok_X6_putFour ⟨⟨(Nat.le_of_ble_eq_true rfl), (Nat.le_of_ble_eq_true rfl)⟩, (Nat.le_of_ble_eq_true rfl), (Nat.le_of_ble_eq_true rfl)⟩ ((A_BT.tape h0) 0 (Nat.le_of_ble_eq_true rfl)) (Nat.le_of_ble_eq_true rfl) rfl rfl rfl (Nat.le_of_ble_eq_true rfl) 6 rfl gX8_feed_X6_putFour_n41 w_X8_feed_3 w_X8_feed_4 w_X8_feed_5 rfl rfl 26 rfl dX8_feed_23 (fun d1 => ?_)
    refine r_aload_n 0 0 rfl rfl 27 rfl dX8_feed_26 ?_
    refine r_get (h0.1 0 (Nat.le_of_ble_eq_true rfl)) rfl (Nat.le_of_ble_eq_true rfl) rfl rfl w_X8_feed_1 4 (Nat.le_of_ble_eq_true rfl) rfl w_X8_feed_0 (.ref (E.2.1 + (o0 + 353))) rfl 30 rfl dX8_feed_27 ?_
    refine r_iload_n 2 2 rfl rfl 31 rfl dX8_feed_30 ?_
    refine r_callVN_V (c_X6_putFour (E := E) (l := l) (S := S) d1 (o0 + 353) (A_BT.tape h0) x2) ok_X6_putFour ⟨⟨(Nat.le_of_ble_eq_true rfl), (Nat.le_of_ble_eq_true rfl)⟩, (Nat.le_of_ble_eq_true rfl), (Nat.le_of_ble_eq_true rfl)⟩ ((A_BT.tape h0) 0 (Nat.le_of_ble_eq_true rfl)) (Nat.le_of_ble_eq_true rfl) rfl rfl rfl (Nat.le_of_ble_eq_true rfl) 6 rfl gX8_feed_X6_putFour_n41 w_X8_feed_3 w_X8_feed_4 w_X8_feed_5 rfl rfl 34 rfl dX8_feed_31 (fun d2 => ?_)
    refine r_aload_n 0 0 rfl rfl 35 rfl dX8_feed_34 ?_
    refine r_get (h0.1 0 (Nat.le_of_ble_eq_true rfl)) rfl (Nat.le_of_ble_eq_true rfl) rfl rfl w_X8_feed_1 4 (Nat.le_of_ble_eq_true rfl) rfl w_X8_feed_0 (.ref (E.2.1 + (o0 + 353))) rfl 38 rfl dX8_feed_35 ?_
    refine r_iload_n 3 3 rfl rfl 39 rfl dX8_feed_38 ?_
    refine r_callVN_V (c_X6_putFour (E := E) (l := l) (S := S) d2 (o0 + 353) (A_BT.tape h0) x3) ok_X6_putFour ⟨⟨(Nat.le_of_ble_eq_true rfl), (Nat.le_of_ble_eq_true rfl)⟩, (Nat.le_of_ble_eq_true rfl), (Nat.le_of_ble_eq_true rfl)⟩ ((A_BT.tape h0) 0 (Nat.le_of_ble_eq_true rfl)) (Nat.le_of_ble_eq_true rfl) rfl rfl rfl (Nat.le_of_ble_eq_true rfl) 6 rfl gX8_feed_X6_putFour_n41 w_X8_feed_3 w_X8_feed_4 w_X8_feed_5 rfl rfl 42 rfl dX8_feed_39 (fun d3 => ?_)
    refine r_aload_n 0 0 rfl rfl 43 rfl dX8_feed_42 ?_
    refine r_get (h0.1 0 (Nat.le_of_ble_eq_true rfl)) rfl (Nat.le_of_ble_eq_true rfl) rfl rfl w_X8_feed_1 4 (Nat.le_of_ble_eq_true rfl) rfl w_X8_feed_0 (.ref (E.2.1 + (o0 + 353))) rfl 46 rfl dX8_feed_43 ?_
    refine r_iload 4 4 rfl 48 rfl dX8_feed_46 ?_
    refine r_callVN_V (c_X6_putFour (E := E) (l := l) (S := S) d3 (o0 + 353) (A_BT.tape h0) x4) ok_X6_putFour ⟨⟨(Nat.le_of_ble_eq_true rfl), (Nat.le_of_ble_eq_true rfl)⟩, (Nat.le_of_ble_eq_true rfl), (Nat.le_of_ble_eq_true rfl)⟩ ((A_BT.tape h0) 0 (Nat.le_of_ble_eq_true rfl)) (Nat.le_of_ble_eq_true rfl) rfl rfl rfl (Nat.le_of_ble_eq_true rfl) 6 rfl gX8_feed_X6_putFour_n41 w_X8_feed_3 w_X8_feed_4 w_X8_feed_5 rfl rfl 51 rfl dX8_feed_48 (fun d4 => ?_)
    refine r_aload_n 0 0 rfl rfl 52 rfl dX8_feed_51 ?_
    refine r_get (h0.1 0 (Nat.le_of_ble_eq_true rfl)) rfl (Nat.le_of_ble_eq_true rfl) rfl rfl w_X8_feed_1 4 (Nat.le_of_ble_eq_true rfl) rfl w_X8_feed_0 (.ref (E.2.1 + (o0 + 353))) rfl 55 rfl dX8_feed_52 ?_
    refine r_iload 5 5 rfl 57 rfl dX8_feed_55 ?_
    refine r_callVN_V (c_X6_putFour (E := E) (l := l) (S := S) d4 (o0 + 353) (A_BT.tape h0) x5) ok_X6_putFour ⟨⟨(Nat.le_of_ble_eq_true rfl), (Nat.le_of_ble_eq_true rfl)⟩, (Nat.le_of_ble_eq_true rfl), (Nat.le_of_ble_eq_true rfl)⟩ ((A_BT.tape h0) 0 (Nat.le_of_ble_eq_true rfl)) (Nat.le_of_ble_eq_true rfl) rfl rfl rfl (Nat.le_of_ble_eq_true rfl) 6 rfl gX8_feed_X6_putFour_n41 w_X8_feed_3 w_X8_feed_4 w_X8_feed_5 rfl rfl 60 rfl dX8_feed_57 (fun d5 => ?_)
    refine r_aload_n 0 0 rfl rfl 61 rfl dX8_feed_60 ?_
    refine r_get (h0.1 0 (Nat.le_of_ble_eq_true rfl)) rfl (Nat.le_of_ble_eq_true rfl) rfl rfl w_X8_feed_1 4 (Nat.le_of_ble_eq_true rfl) rfl w_X8_feed_0 (.ref (E.2.1 + (o0 + 353))) rfl 64 rfl dX8_feed_61 ?_
    refine r_getN 1 37 rfl ((A_BT.tape h0) 0 (Nat.le_of_ble_eq_true rfl)) rfl (Nat.le_of_ble_eq_true rfl) rfl rfl w_X8_feed_2 (Nat.le_of_ble_eq_true rfl) rfl (.int (d5 (o0 + 353) 1)) rfl 67 rfl dX8_feed_64 ?_
    exact r_ireturn rfl rfl (Nat.le_of_ble_eq_true rfl) (Nat.le_of_ble_eq_true rfl) dX8_feed_67
  · refine r_iconst (-1) rfl 17 rfl dX8_feed_16 ?_
    exact r_ireturn rfl rfl (Nat.le_of_ble_eq_true rfl) (Nat.le_of_ble_eq_true rfl) dX8_feed_17
def Y_X8_end : z_Y := (RX8, cX8_end, 2, wsX8_end, (some .boolean), { frames := 1, cells := 0, slots := 0, locals := 22 }, 0, 0)
theorem ok_X8_end : z_Ok yX8_end Y_X8_end 1 := ⟨⟨_, rfl⟩, rfl, rfl, rfl, by decide +kernel, by decide +kernel⟩
theorem w_X8_end_0 : Cond.fieldLink RX8 33 "BunchTimes" "tape" "LBunchTimes$Tape;" ∈ wsX8_end := by decide +kernel
theorem w_X8_end_1 : ∀ w ∈ u_ws RX8 TX8 5, w ∈ wsX8_end := by decide +kernel
theorem w_X8_end_2 : ∀ w ∈ u_ws RX6 TX6 6, w ∈ wsX8_end := by decide +kernel
def f_X8_end (d : z_D) (o0 : Nat) (x1 : Int32) : Option (Int32 × z_D) := ((f_X8_within x1 0 (d (o0 + 353) 1)).bind fun v1 => (if v1 = 0 then (some (0, d)) else z_put d (o0 + 353) 1 x1 (fun d2 => (some (1, d2)))))
set_option maxHeartbeats 4000000 in
set_option maxRecDepth 100000 in
theorem c_X8_end {E : z_E} {l : Launch} {S : z_S} (d : z_D) (o0 : Nat) (h0 : A_BT S o0) (x1 : Int32) : z_Sp E l yX8_end Y_X8_end (cvX S) [.ref (E.2.1 + o0), .int x1] (S, d) (f_X8_end d o0 x1) := by
  refine z_entry (lv := [(0, .ref (E.2.1 + o0)), (1, .int x1)]) (by decide) rfl rfl (Nat.le_of_ble_eq_true rfl) rfl ?_
  unfold f_X8_end
  refine r_iload_n 1 1 rfl rfl 1 rfl dX8_end_0 ?_
  refine r_iconst 0 rfl 2 rfl dX8_end_1 ?_
  refine r_aload_n 0 0 rfl rfl 3 rfl dX8_end_2 ?_
  refine r_get (h0.1 0 (Nat.le_of_ble_eq_true rfl)) rfl (Nat.le_of_ble_eq_true rfl) rfl rfl w_X8_end_1 4 (Nat.le_of_ble_eq_true rfl) rfl w_X8_end_0 (.ref (E.2.1 + (o0 + 353))) rfl 6 rfl dX8_end_3 ?_
  refine r_getN 1 37 rfl ((A_BT.tape h0) 0 (Nat.le_of_ble_eq_true rfl)) rfl (Nat.le_of_ble_eq_true rfl) rfl rfl w_X8_end_2 (Nat.le_of_ble_eq_true rfl) rfl (.int (d (o0 + 353) 1)) rfl 9 rfl dX8_end_6 ?_
  refine r_callS_I (c_X8_within (E := E) (l := l) (S := S) d x1 0 (d (o0 + 353) 1)) ok_X8_within ⟨⟨(Nat.le_of_ble_eq_true rfl), (Nat.le_of_ble_eq_true rfl)⟩, (Nat.le_of_ble_eq_true rfl), (Nat.le_of_ble_eq_true rfl)⟩ rfl (Nat.le_of_ble_eq_true rfl) gX8_end_X8_within rfl rfl 12 rfl dX8_end_9 (fun v1 => ?_)
  refine r_if_ne 17 15 rfl rfl dX8_end_12 ?_ ?_
  · refine r_aload_n 0 0 rfl rfl 18 rfl dX8_end_17 ?_
    refine r_get (h0.1 0 (Nat.le_of_ble_eq_true rfl)) rfl (Nat.le_of_ble_eq_true rfl) rfl rfl w_X8_end_1 4 (Nat.le_of_ble_eq_true rfl) rfl w_X8_end_0 (.ref (E.2.1 + (o0 + 353))) rfl 21 rfl dX8_end_18 ?_
    refine r_iload_n 1 1 rfl rfl 22 rfl dX8_end_21 ?_
    refine r_putN 37 rfl ((A_BT.tape h0) 0 (Nat.le_of_ble_eq_true rfl)) rfl (Nat.le_of_ble_eq_true rfl) rfl rfl w_X8_end_2 tyX6 tyX6_ok nmX6 (Nat.le_of_ble_eq_true rfl) rfl rfl rfl rfl rfl rfl 25 rfl dX8_end_22 (fun d2 => ?_)
    refine r_iconst 1 rfl 26 rfl dX8_end_25 ?_
    exact r_zreturnc (by decide) rfl rfl (Nat.le_of_ble_eq_true rfl) (Nat.le_of_ble_eq_true rfl) dX8_end_26
  · refine r_iconst 0 rfl 16 rfl dX8_end_15 ?_
    exact r_zreturnc (by decide) rfl rfl (Nat.le_of_ble_eq_true rfl) (Nat.le_of_ble_eq_true rfl) dX8_end_16
def Y_X8_tell : z_Y := (RX8, cX8_tell, 3, wsX8_tell, (some .int), { frames := 9, cells := 0, slots := 0, locals := 241 }, 0, 0)
theorem ok_X8_tell : z_Ok yX8_tell Y_X8_tell 0 := ⟨⟨_, rfl⟩, rfl, rfl, rfl, by decide +kernel, by decide +kernel⟩
theorem w_X8_tell_0 : Cond.fieldLink RX8 16 "BunchTimes" "ahead" "LBunchTimes$Race;" ∈ wsX8_tell := by decide +kernel
theorem w_X8_tell_1 : ∀ w ∈ u_ws RX8 TX8 5, w ∈ wsX8_tell := by decide +kernel
theorem w_X8_tell_2 : Cond.fieldLink RX8 10 "BunchTimes" "race" "LBunchTimes$Race;" ∈ wsX8_tell := by decide +kernel
theorem w_X8_tell_3 : Cond.initialized RX3 ∈ wsX8_tell := by decide +kernel
theorem w_X8_tell_4 : Cond.instanceMethod yX3_copyFrom ∈ wsX8_tell := by decide +kernel
theorem w_X8_tell_5 : Cond.selects RX3 yX3_copyFrom yX3_copyFrom ∈ wsX8_tell := by decide +kernel
theorem w_X8_tell_6 : Cond.fieldLink RX8 33 "BunchTimes" "tape" "LBunchTimes$Tape;" ∈ wsX8_tell := by decide +kernel
theorem w_X8_tell_7 : Cond.initialized RX6 ∈ wsX8_tell := by decide +kernel
theorem w_X8_tell_8 : Cond.instanceMethod yX6_begin ∈ wsX8_tell := by decide +kernel
theorem w_X8_tell_9 : Cond.selects RX6 yX6_begin yX6_begin ∈ wsX8_tell := by decide +kernel
theorem w_X8_tell_10 : Cond.instanceMethod yX6_hasMore ∈ wsX8_tell := by decide +kernel
theorem w_X8_tell_11 : Cond.selects RX6 yX6_hasMore yX6_hasMore ∈ wsX8_tell := by decide +kernel
theorem w_X8_tell_12 : ∀ w ∈ u_ws RX6 TX6 6, w ∈ wsX8_tell := by decide +kernel
theorem w_X8_tell_13 : Cond.initialized RX7 ∈ wsX8_tell := by decide +kernel
theorem w_X8_tell_14 : Cond.static yX7_tellStatement ∈ wsX8_tell := by decide +kernel
theorem w_X8_tell_15 : Cond.instanceMethod yX6_endStatement ∈ wsX8_tell := by decide +kernel
theorem w_X8_tell_16 : Cond.selects RX6 yX6_endStatement yX6_endStatement ∈ wsX8_tell := by decide +kernel
def f_X8_tell_L20_b (o0 : Nat) (K : Int32 → z_D → Option (Int32 × z_D)) (R : Int32 → z_D → Option (Int32 × z_D)) (x1 : Int32) (d : z_D) : Option (Int32 × z_D) := (if 600 ≤ x1 then (K x1 d) else ((f_X6_hasMore d (o0 + 353)).bind fun v3 => (if v3 = 0 then (K x1 d) else z_nam (d (o0 + 353) 3) (fun v4 => z_bX (f_X7_tellStatement d (o0 + 1) (o0 + 353)) (fun v5 d6 => ((f_X6_endStatement d6 (o0 + 353) v4 v5).bind fun d7 => (R (x1 + 1) d7)))))))
def f_X8_tell_L20 (o0 : Nat) (K : Int32 → z_D → Option (Int32 × z_D)) : Nat → Int32 → z_D → Option (Int32 × z_D)
  | 0 => fun _ _ => none
  | n + 1 => f_X8_tell_L20_b o0 K (f_X8_tell_L20 o0 K n)
set_option maxHeartbeats 4000000 in
set_option maxRecDepth 100000 in
theorem g_X8_tell_L20 {E : z_E} {l : Launch} {S : z_S} {o0 : Nat} {K : Int32 → z_D → Option (Int32 × z_D)} (h0 : A_BT S o0) (hK : ∀ (y1 : Int32) (d9 : z_D), z_G E l Y_X8_tell (cvX S) (K y1 d9) 70 [(0, .ref (E.2.1 + o0)), (1, .int y1)] [] (S, d9) 0 0) : ∀ (n : Nat) (x1 : Int32) (d : z_D), z_G E l Y_X8_tell (cvX S) (f_X8_tell_L20 o0 K n x1 d) 20 [(0, .ref (E.2.1 + o0)), (1, .int x1)] [] (S, d) 0 0 := by
  intro n
  induction n with
  | zero => intro _ _; exact r_none
  | succ n ih =>
    intro x1 d
    show z_G E l Y_X8_tell (cvX S) (f_X8_tell_L20_b o0 K (f_X8_tell_L20 o0 K n) x1 d) 20 [(0, .ref (E.2.1 + o0)), (1, .int x1)] [] (S, d) 0 0
    unfold f_X8_tell_L20_b
    refine r_iload_n 1 1 rfl rfl 21 rfl dX8_tell_20 ?_
    refine r_sipush 600 rfl 24 rfl dX8_tell_21 ?_
    refine r_icmp_ge 70 27 rfl rfl dX8_tell_24 ?_ ?_
    · refine r_sub [0, 1] rfl ?_
      exact hK x1 d
    · refine r_aload_n 0 0 rfl rfl 28 rfl dX8_tell_27 ?_
      refine r_get (h0.1 0 (Nat.le_of_ble_eq_true rfl)) rfl (Nat.le_of_ble_eq_true rfl) rfl rfl w_X8_tell_1 4 (Nat.le_of_ble_eq_true rfl) rfl w_X8_tell_6 (.ref (E.2.1 + (o0 + 353))) rfl 31 rfl dX8_tell_28 ?_
      refine r_callVN_I (c_X6_hasMore (E := E) (l := l) (S := S) d (o0 + 353) (A_BT.tape h0)) ok_X6_hasMore ⟨⟨(Nat.le_of_ble_eq_true rfl), (Nat.le_of_ble_eq_true rfl)⟩, (Nat.le_of_ble_eq_true rfl), (Nat.le_of_ble_eq_true rfl)⟩ ((A_BT.tape h0) 0 (Nat.le_of_ble_eq_true rfl)) (Nat.le_of_ble_eq_true rfl) rfl rfl rfl (Nat.le_of_ble_eq_true rfl) 12 rfl gX8_tell_X6_hasMore_n56 w_X8_tell_7 w_X8_tell_10 w_X8_tell_11 rfl rfl 34 rfl dX8_tell_31 (fun v3 => ?_)
      refine r_if_eq 70 37 rfl rfl dX8_tell_34 ?_ ?_
      · refine r_sub [0, 1] rfl ?_
        exact hK x1 d
      · refine r_aload_n 0 0 rfl rfl 38 rfl dX8_tell_37 ?_
        refine r_get (h0.1 0 (Nat.le_of_ble_eq_true rfl)) rfl (Nat.le_of_ble_eq_true rfl) rfl rfl w_X8_tell_1 4 (Nat.le_of_ble_eq_true rfl) rfl w_X8_tell_6 (.ref (E.2.1 + (o0 + 353))) rfl 41 rfl dX8_tell_38 ?_
        refine r_getN 3 38 rfl ((A_BT.tape h0) 0 (Nat.le_of_ble_eq_true rfl)) rfl (Nat.le_of_ble_eq_true rfl) rfl rfl w_X8_tell_12 (Nat.le_of_ble_eq_true rfl) rfl (.int (d (o0 + 353) 3)) rfl 44 rfl dX8_tell_41 ?_
        refine r_nami (fun v4 => ?_)
        refine r_istore_n 2 rfl [(2, .int v4), (0, .ref (E.2.1 + o0)), (1, .int x1)] (Nat.le_of_ble_eq_true rfl) rfl 45 rfl dX8_tell_44 ?_
        refine r_aload_n 0 1 rfl rfl 46 rfl dX8_tell_45 ?_
        refine r_get (h0.1 0 (Nat.le_of_ble_eq_true rfl)) rfl (Nat.le_of_ble_eq_true rfl) rfl rfl w_X8_tell_1 4 (Nat.le_of_ble_eq_true rfl) rfl w_X8_tell_6 (.ref (E.2.1 + (o0 + 353))) rfl 49 rfl dX8_tell_46 ?_
        refine r_iload_n 2 0 rfl rfl 50 rfl dX8_tell_49 ?_
        refine r_aload_n 0 1 rfl rfl 51 rfl dX8_tell_50 ?_
        refine r_get (h0.1 0 (Nat.le_of_ble_eq_true rfl)) rfl (Nat.le_of_ble_eq_true rfl) rfl rfl w_X8_tell_1 0 (Nat.le_of_ble_eq_true rfl) rfl w_X8_tell_2 (.ref (E.2.1 + (o0 + 1))) rfl 54 rfl dX8_tell_51 ?_
        refine r_aload_n 0 1 rfl rfl 55 rfl dX8_tell_54 ?_
        refine r_get (h0.1 0 (Nat.le_of_ble_eq_true rfl)) rfl (Nat.le_of_ble_eq_true rfl) rfl rfl w_X8_tell_1 4 (Nat.le_of_ble_eq_true rfl) rfl w_X8_tell_6 (.ref (E.2.1 + (o0 + 353))) rfl 58 rfl dX8_tell_55 ?_
        refine r_callSN_X (c_X7_tellStatement (E := E) (l := l) (S := S) d (o0 + 1) (A_BT.race h0) (o0 + 353) (A_BT.tape h0)) ok_X7_tellStatement ⟨⟨(Nat.le_of_ble_eq_true rfl), (Nat.le_of_ble_eq_true rfl)⟩, (Nat.le_of_ble_eq_true rfl), (Nat.le_of_ble_eq_true rfl)⟩ rfl (Nat.le_of_ble_eq_true rfl) 13 rfl gX8_tell_X7_tellStatement_n63 w_X8_tell_13 w_X8_tell_14 rfl rfl 61 rfl dX8_tell_58 (fun v5 d6 => ?_)
        refine r_callVN_V (c_X6_endStatement (E := E) (l := l) (S := S) d6 (o0 + 353) (A_BT.tape h0) v4 v5) ok_X6_endStatement ⟨⟨(Nat.le_of_ble_eq_true rfl), (Nat.le_of_ble_eq_true rfl)⟩, (Nat.le_of_ble_eq_true rfl), (Nat.le_of_ble_eq_true rfl)⟩ ((A_BT.tape h0) 0 (Nat.le_of_ble_eq_true rfl)) (Nat.le_of_ble_eq_true rfl) rfl rfl rfl (Nat.le_of_ble_eq_true rfl) 54 rfl gX8_tell_X6_endStatement_n69 w_X8_tell_7 w_X8_tell_15 w_X8_tell_16 rfl rfl 64 rfl dX8_tell_61 (fun d7 => ?_)
        refine r_iinc (x1 + 1) 2 rfl rfl [(1, .int (x1 + 1)), (2, .int v4), (0, .ref (E.2.1 + o0))] (Nat.le_of_ble_eq_true rfl) rfl 67 rfl dX8_tell_64 ?_
        refine r_goto 20 rfl dX8_tell_67 ?_
        refine r_sub [2, 0] rfl ?_
        exact ih (x1 + 1) d7
def f_X8_tell (d : z_D) (o0 : Nat) : Option (Int32 × z_D) := ((f_X3_copyFrom d (o0 + 174) (o0 + 1)).bind fun d1 => ((f_X6_begin d1 (o0 + 353)).bind fun d2 => (f_X8_tell_L20 o0 (fun v9 d8 => z_put d8 (o0 + 353) 1 0 (fun d10 => (if (d10 (o0 + 353) 5) = 0 then (some (v9, d10)) else ((f_X3_copyFrom d10 (o0 + 1) (o0 + 174)).bind fun d11 => (some ((-1), d11)))))) z_N 0 d2)))
set_option maxHeartbeats 4000000 in
set_option maxRecDepth 100000 in
theorem c_X8_tell {E : z_E} {l : Launch} {S : z_S} (d : z_D) (o0 : Nat) (h0 : A_BT S o0) : z_Sp E l yX8_tell Y_X8_tell (cvX S) [.ref (E.2.1 + o0)] (S, d) (f_X8_tell d o0) := by
  refine z_entry (lv := [(0, .ref (E.2.1 + o0))]) (by decide) rfl rfl (Nat.le_of_ble_eq_true rfl) rfl ?_
  unfold f_X8_tell
  refine r_aload_n 0 0 rfl rfl 1 rfl dX8_tell_0 ?_
  refine r_get (h0.1 0 (Nat.le_of_ble_eq_true rfl)) rfl (Nat.le_of_ble_eq_true rfl) rfl rfl w_X8_tell_1 1 (Nat.le_of_ble_eq_true rfl) rfl w_X8_tell_0 (.ref (E.2.1 + (o0 + 174))) rfl 4 rfl dX8_tell_1 ?_
  refine r_aload_n 0 0 rfl rfl 5 rfl dX8_tell_4 ?_
  refine r_get (h0.1 0 (Nat.le_of_ble_eq_true rfl)) rfl (Nat.le_of_ble_eq_true rfl) rfl rfl w_X8_tell_1 0 (Nat.le_of_ble_eq_true rfl) rfl w_X8_tell_2 (.ref (E.2.1 + (o0 + 1))) rfl 8 rfl dX8_tell_5 ?_
  refine r_callVN_V (c_X3_copyFrom (E := E) (l := l) (S := S) d (o0 + 174) (A_BT.ahead h0) (o0 + 1) (A_BT.race h0)) ok_X3_copyFrom ⟨⟨(Nat.le_of_ble_eq_true rfl), (Nat.le_of_ble_eq_true rfl)⟩, (Nat.le_of_ble_eq_true rfl), (Nat.le_of_ble_eq_true rfl)⟩ ((A_BT.ahead h0).1 0 (Nat.le_of_ble_eq_true rfl)) (Nat.le_of_ble_eq_true rfl) rfl rfl rfl (Nat.le_of_ble_eq_true rfl) 7 rfl gX8_tell_X3_copyFrom_n49 w_X8_tell_3 w_X8_tell_4 w_X8_tell_5 rfl rfl 11 rfl dX8_tell_8 (fun d1 => ?_)
  refine r_aload_n 0 0 rfl rfl 12 rfl dX8_tell_11 ?_
  refine r_get (h0.1 0 (Nat.le_of_ble_eq_true rfl)) rfl (Nat.le_of_ble_eq_true rfl) rfl rfl w_X8_tell_1 4 (Nat.le_of_ble_eq_true rfl) rfl w_X8_tell_6 (.ref (E.2.1 + (o0 + 353))) rfl 15 rfl dX8_tell_12 ?_
  refine r_callVN_V (c_X6_begin (E := E) (l := l) (S := S) d1 (o0 + 353) (A_BT.tape h0)) ok_X6_begin ⟨⟨(Nat.le_of_ble_eq_true rfl), (Nat.le_of_ble_eq_true rfl)⟩, (Nat.le_of_ble_eq_true rfl), (Nat.le_of_ble_eq_true rfl)⟩ ((A_BT.tape h0) 0 (Nat.le_of_ble_eq_true rfl)) (Nat.le_of_ble_eq_true rfl) rfl rfl rfl (Nat.le_of_ble_eq_true rfl) 11 rfl gX8_tell_X6_begin_n53 w_X8_tell_7 w_X8_tell_8 w_X8_tell_9 rfl rfl 18 rfl dX8_tell_15 (fun d2 => ?_)
  refine r_iconst 0 rfl 19 rfl dX8_tell_18 ?_
  refine r_istore_n 1 rfl [(1, .int 0), (0, .ref (E.2.1 + o0))] (Nat.le_of_ble_eq_true rfl) rfl 20 rfl dX8_tell_19 ?_
  refine r_sub [1, 0] rfl ?_
  refine g_X8_tell_L20 h0 (fun v9 d8 => ?_) z_N 0 d2
  refine r_aload_n 0 0 rfl rfl 71 rfl dX8_tell_70 ?_
  refine r_get (h0.1 0 (Nat.le_of_ble_eq_true rfl)) rfl (Nat.le_of_ble_eq_true rfl) rfl rfl w_X8_tell_1 4 (Nat.le_of_ble_eq_true rfl) rfl w_X8_tell_6 (.ref (E.2.1 + (o0 + 353))) rfl 74 rfl dX8_tell_71 ?_
  refine r_iconst 0 rfl 75 rfl dX8_tell_74 ?_
  refine r_putN 37 rfl ((A_BT.tape h0) 0 (Nat.le_of_ble_eq_true rfl)) rfl (Nat.le_of_ble_eq_true rfl) rfl rfl w_X8_tell_12 tyX6 tyX6_ok nmX6 (Nat.le_of_ble_eq_true rfl) rfl rfl rfl rfl rfl rfl 78 rfl dX8_tell_75 (fun d10 => ?_)
  refine r_aload_n 0 0 rfl rfl 79 rfl dX8_tell_78 ?_
  refine r_get (h0.1 0 (Nat.le_of_ble_eq_true rfl)) rfl (Nat.le_of_ble_eq_true rfl) rfl rfl w_X8_tell_1 4 (Nat.le_of_ble_eq_true rfl) rfl w_X8_tell_6 (.ref (E.2.1 + (o0 + 353))) rfl 82 rfl dX8_tell_79 ?_
  refine r_getN 5 39 rfl ((A_BT.tape h0) 0 (Nat.le_of_ble_eq_true rfl)) rfl (Nat.le_of_ble_eq_true rfl) rfl rfl w_X8_tell_12 (Nat.le_of_ble_eq_true rfl) rfl (.int (d10 (o0 + 353) 5)) rfl 85 rfl dX8_tell_82 ?_
  refine r_if_ne 90 88 rfl rfl dX8_tell_85 ?_ ?_
  · refine r_aload_n 0 0 rfl rfl 91 rfl dX8_tell_90 ?_
    refine r_get (h0.1 0 (Nat.le_of_ble_eq_true rfl)) rfl (Nat.le_of_ble_eq_true rfl) rfl rfl w_X8_tell_1 0 (Nat.le_of_ble_eq_true rfl) rfl w_X8_tell_2 (.ref (E.2.1 + (o0 + 1))) rfl 94 rfl dX8_tell_91 ?_
    refine r_aload_n 0 0 rfl rfl 95 rfl dX8_tell_94 ?_
    refine r_get (h0.1 0 (Nat.le_of_ble_eq_true rfl)) rfl (Nat.le_of_ble_eq_true rfl) rfl rfl w_X8_tell_1 1 (Nat.le_of_ble_eq_true rfl) rfl w_X8_tell_0 (.ref (E.2.1 + (o0 + 174))) rfl 98 rfl dX8_tell_95 ?_
    refine r_callVN_V (c_X3_copyFrom (E := E) (l := l) (S := S) d10 (o0 + 1) (A_BT.race h0) (o0 + 174) (A_BT.ahead h0)) ok_X3_copyFrom ⟨⟨(Nat.le_of_ble_eq_true rfl), (Nat.le_of_ble_eq_true rfl)⟩, (Nat.le_of_ble_eq_true rfl), (Nat.le_of_ble_eq_true rfl)⟩ ((A_BT.race h0).1 0 (Nat.le_of_ble_eq_true rfl)) (Nat.le_of_ble_eq_true rfl) rfl rfl rfl (Nat.le_of_ble_eq_true rfl) 7 rfl gX8_tell_X3_copyFrom_n49 w_X8_tell_3 w_X8_tell_4 w_X8_tell_5 rfl rfl 101 rfl dX8_tell_98 (fun d11 => ?_)
    refine r_iconst (-1) rfl 102 rfl dX8_tell_101 ?_
    exact r_ireturn rfl rfl (Nat.le_of_ble_eq_true rfl) (Nat.le_of_ble_eq_true rfl) dX8_tell_102
  · refine r_iload_n 1 1 rfl rfl 89 rfl dX8_tell_88 ?_
    exact r_ireturn rfl rfl (Nat.le_of_ble_eq_true rfl) (Nat.le_of_ble_eq_true rfl) dX8_tell_89
def Y_X8_fault : z_Y := (RX8, cX8_fault, 1, wsX8_fault, (some .int), { frames := 0, cells := 0, slots := 0, locals := 0 }, 0, 0)
theorem ok_X8_fault : z_Ok yX8_fault Y_X8_fault 0 := ⟨⟨_, rfl⟩, rfl, rfl, rfl, by decide +kernel, by decide +kernel⟩
theorem w_X8_fault_0 : Cond.fieldLink RX8 33 "BunchTimes" "tape" "LBunchTimes$Tape;" ∈ wsX8_fault := by decide +kernel
theorem w_X8_fault_1 : ∀ w ∈ u_ws RX8 TX8 5, w ∈ wsX8_fault := by decide +kernel
theorem w_X8_fault_2 : ∀ w ∈ u_ws RX6 TX6 6, w ∈ wsX8_fault := by decide +kernel
def f_X8_fault (d : z_D) (o0 : Nat) : Option Int32 := (some (d (o0 + 353) 5))
set_option maxHeartbeats 4000000 in
set_option maxRecDepth 100000 in
theorem c_X8_fault {E : z_E} {l : Launch} {S : z_S} (d : z_D) (o0 : Nat) (h0 : A_BT S o0) : z_Sp E l yX8_fault Y_X8_fault (cvI S d) [.ref (E.2.1 + o0)] (S, d) (f_X8_fault d o0) := by
  refine z_entry (lv := [(0, .ref (E.2.1 + o0))]) (by decide) rfl rfl (Nat.le_of_ble_eq_true rfl) rfl ?_
  unfold f_X8_fault
  refine r_aload_n 0 0 rfl rfl 1 rfl dX8_fault_0 ?_
  refine r_get (h0.1 0 (Nat.le_of_ble_eq_true rfl)) rfl (Nat.le_of_ble_eq_true rfl) rfl rfl w_X8_fault_1 4 (Nat.le_of_ble_eq_true rfl) rfl w_X8_fault_0 (.ref (E.2.1 + (o0 + 353))) rfl 4 rfl dX8_fault_1 ?_
  refine r_getN 5 39 rfl ((A_BT.tape h0) 0 (Nat.le_of_ble_eq_true rfl)) rfl (Nat.le_of_ble_eq_true rfl) rfl rfl w_X8_fault_2 (Nat.le_of_ble_eq_true rfl) rfl (.int (d (o0 + 353) 5)) rfl 7 rfl dX8_fault_4 ?_
  exact r_ireturn rfl rfl (Nat.le_of_ble_eq_true rfl) (Nat.le_of_ble_eq_true rfl) dX8_fault_7
def Y_X8_team : z_Y := (RX8, cX8_team, 1, wsX8_team, (some .int), { frames := 1, cells := 0, slots := 0, locals := 20 }, 0, 0)
theorem ok_X8_team : z_Ok yX8_team Y_X8_team 0 := ⟨⟨_, rfl⟩, rfl, rfl, rfl, by decide +kernel, by decide +kernel⟩
theorem w_X8_team_0 : Cond.fieldLink RX8 10 "BunchTimes" "race" "LBunchTimes$Race;" ∈ wsX8_team := by decide +kernel
theorem w_X8_team_1 : ∀ w ∈ u_ws RX8 TX8 5, w ∈ wsX8_team := by decide +kernel
theorem w_X8_team_2 : Cond.initialized RX3 ∈ wsX8_team := by decide +kernel
theorem w_X8_team_3 : Cond.instanceMethod yX3_addTeam ∈ wsX8_team := by decide +kernel
theorem w_X8_team_4 : Cond.selects RX3 yX3_addTeam yX3_addTeam ∈ wsX8_team := by decide +kernel
def f_X8_team (d : z_D) (o0 : Nat) : Option (Int32 × z_D) := z_bX (f_X3_addTeam d (o0 + 1)) (fun v1 d2 => (some (v1, d2)))
set_option maxHeartbeats 4000000 in
set_option maxRecDepth 100000 in
theorem c_X8_team {E : z_E} {l : Launch} {S : z_S} (d : z_D) (o0 : Nat) (h0 : A_BT S o0) : z_Sp E l yX8_team Y_X8_team (cvX S) [.ref (E.2.1 + o0)] (S, d) (f_X8_team d o0) := by
  refine z_entry (lv := [(0, .ref (E.2.1 + o0))]) (by decide) rfl rfl (Nat.le_of_ble_eq_true rfl) rfl ?_
  unfold f_X8_team
  refine r_aload_n 0 0 rfl rfl 1 rfl dX8_team_0 ?_
  refine r_get (h0.1 0 (Nat.le_of_ble_eq_true rfl)) rfl (Nat.le_of_ble_eq_true rfl) rfl rfl w_X8_team_1 0 (Nat.le_of_ble_eq_true rfl) rfl w_X8_team_0 (.ref (E.2.1 + (o0 + 1))) rfl 4 rfl dX8_team_1 ?_
  refine r_callVN_X (c_X3_addTeam (E := E) (l := l) (S := S) d (o0 + 1) (A_BT.race h0)) ok_X3_addTeam ⟨⟨(Nat.le_of_ble_eq_true rfl), (Nat.le_of_ble_eq_true rfl)⟩, (Nat.le_of_ble_eq_true rfl), (Nat.le_of_ble_eq_true rfl)⟩ ((A_BT.race h0).1 0 (Nat.le_of_ble_eq_true rfl)) (Nat.le_of_ble_eq_true rfl) rfl rfl rfl (Nat.le_of_ble_eq_true rfl) 55 rfl gX8_team_X3_addTeam_n76 w_X8_team_2 w_X8_team_3 w_X8_team_4 rfl rfl 7 rfl dX8_team_4 (fun v1 d2 => ?_)
  exact r_ireturn rfl rfl (Nat.le_of_ble_eq_true rfl) (Nat.le_of_ble_eq_true rfl) dX8_team_7
def Y_X8_rider : z_Y := (RX8, cX8_rider, 3, wsX8_rider, (some .int), { frames := 2, cells := 0, slots := 0, locals := 44 }, 0, 0)
theorem ok_X8_rider : z_Ok yX8_rider Y_X8_rider 2 := ⟨⟨_, rfl⟩, rfl, rfl, rfl, by decide +kernel, by decide +kernel⟩
theorem w_X8_rider_0 : Cond.fieldLink RX8 10 "BunchTimes" "race" "LBunchTimes$Race;" ∈ wsX8_rider := by decide +kernel
theorem w_X8_rider_1 : ∀ w ∈ u_ws RX8 TX8 5, w ∈ wsX8_rider := by decide +kernel
theorem w_X8_rider_2 : Cond.initialized RX3 ∈ wsX8_rider := by decide +kernel
theorem w_X8_rider_3 : Cond.instanceMethod yX3_addRider ∈ wsX8_rider := by decide +kernel
theorem w_X8_rider_4 : Cond.selects RX3 yX3_addRider yX3_addRider ∈ wsX8_rider := by decide +kernel
def f_X8_rider (d : z_D) (o0 : Nat) (x1 : Int32) (x2 : Int32) : Option (Int32 × z_D) := z_bX (f_X3_addRider d (o0 + 1) x1 x2) (fun v1 d2 => (some (v1, d2)))
set_option maxHeartbeats 4000000 in
set_option maxRecDepth 100000 in
theorem c_X8_rider {E : z_E} {l : Launch} {S : z_S} (d : z_D) (o0 : Nat) (h0 : A_BT S o0) (x1 : Int32) (x2 : Int32) : z_Sp E l yX8_rider Y_X8_rider (cvX S) [.ref (E.2.1 + o0), .int x1, .int x2] (S, d) (f_X8_rider d o0 x1 x2) := by
  refine z_entry (lv := [(0, .ref (E.2.1 + o0)), (1, .int x1), (2, .int x2)]) (by decide) rfl rfl (Nat.le_of_ble_eq_true rfl) rfl ?_
  unfold f_X8_rider
  refine r_aload_n 0 0 rfl rfl 1 rfl dX8_rider_0 ?_
  refine r_get (h0.1 0 (Nat.le_of_ble_eq_true rfl)) rfl (Nat.le_of_ble_eq_true rfl) rfl rfl w_X8_rider_1 0 (Nat.le_of_ble_eq_true rfl) rfl w_X8_rider_0 (.ref (E.2.1 + (o0 + 1))) rfl 4 rfl dX8_rider_1 ?_
  refine r_iload_n 1 1 rfl rfl 5 rfl dX8_rider_4 ?_
  refine r_iload_n 2 2 rfl rfl 6 rfl dX8_rider_5 ?_
  refine r_callVN_X (c_X3_addRider (E := E) (l := l) (S := S) d (o0 + 1) (A_BT.race h0) x1 x2) ok_X3_addRider ⟨⟨(Nat.le_of_ble_eq_true rfl), (Nat.le_of_ble_eq_true rfl)⟩, (Nat.le_of_ble_eq_true rfl), (Nat.le_of_ble_eq_true rfl)⟩ ((A_BT.race h0).1 0 (Nat.le_of_ble_eq_true rfl)) (Nat.le_of_ble_eq_true rfl) rfl rfl rfl (Nat.le_of_ble_eq_true rfl) 56 rfl gX8_rider_X3_addRider_n80 w_X8_rider_2 w_X8_rider_3 w_X8_rider_4 rfl rfl 9 rfl dX8_rider_6 (fun v1 d2 => ?_)
  exact r_ireturn rfl rfl (Nat.le_of_ble_eq_true rfl) (Nat.le_of_ble_eq_true rfl) dX8_rider_9
def Y_X8_stage : z_Y := (RX8, cX8_stage, 3, wsX8_stage, (some .int), { frames := 4, cells := 0, slots := 0, locals := 91 }, 0, 0)
theorem ok_X8_stage : z_Ok yX8_stage Y_X8_stage 2 := ⟨⟨_, rfl⟩, rfl, rfl, rfl, by decide +kernel, by decide +kernel⟩
theorem w_X8_stage_0 : Cond.fieldLink RX8 10 "BunchTimes" "race" "LBunchTimes$Race;" ∈ wsX8_stage := by decide +kernel
theorem w_X8_stage_1 : ∀ w ∈ u_ws RX8 TX8 5, w ∈ wsX8_stage := by decide +kernel
theorem w_X8_stage_2 : Cond.initialized RX3 ∈ wsX8_stage := by decide +kernel
theorem w_X8_stage_3 : Cond.instanceMethod yX3_openStage ∈ wsX8_stage := by decide +kernel
theorem w_X8_stage_4 : Cond.selects RX3 yX3_openStage yX3_openStage ∈ wsX8_stage := by decide +kernel
def f_X8_stage (d : z_D) (o0 : Nat) (x1 : Int32) (x2 : Int32) : Option (Int32 × z_D) := z_bX (f_X3_openStage d (o0 + 1) x1 x2) (fun v1 d2 => (some (v1, d2)))
set_option maxHeartbeats 4000000 in
set_option maxRecDepth 100000 in
theorem c_X8_stage {E : z_E} {l : Launch} {S : z_S} (d : z_D) (o0 : Nat) (h0 : A_BT S o0) (x1 : Int32) (x2 : Int32) : z_Sp E l yX8_stage Y_X8_stage (cvX S) [.ref (E.2.1 + o0), .int x1, .int x2] (S, d) (f_X8_stage d o0 x1 x2) := by
  refine z_entry (lv := [(0, .ref (E.2.1 + o0)), (1, .int x1), (2, .int x2)]) (by decide) rfl rfl (Nat.le_of_ble_eq_true rfl) rfl ?_
  unfold f_X8_stage
  refine r_aload_n 0 0 rfl rfl 1 rfl dX8_stage_0 ?_
  refine r_get (h0.1 0 (Nat.le_of_ble_eq_true rfl)) rfl (Nat.le_of_ble_eq_true rfl) rfl rfl w_X8_stage_1 0 (Nat.le_of_ble_eq_true rfl) rfl w_X8_stage_0 (.ref (E.2.1 + (o0 + 1))) rfl 4 rfl dX8_stage_1 ?_
  refine r_iload_n 1 1 rfl rfl 5 rfl dX8_stage_4 ?_
  refine r_iload_n 2 2 rfl rfl 6 rfl dX8_stage_5 ?_
  refine r_callVN_X (c_X3_openStage (E := E) (l := l) (S := S) d (o0 + 1) (A_BT.race h0) x1 x2) ok_X3_openStage ⟨⟨(Nat.le_of_ble_eq_true rfl), (Nat.le_of_ble_eq_true rfl)⟩, (Nat.le_of_ble_eq_true rfl), (Nat.le_of_ble_eq_true rfl)⟩ ((A_BT.race h0).1 0 (Nat.le_of_ble_eq_true rfl)) (Nat.le_of_ble_eq_true rfl) rfl rfl rfl (Nat.le_of_ble_eq_true rfl) 57 rfl gX8_stage_X3_openStage_n84 w_X8_stage_2 w_X8_stage_3 w_X8_stage_4 rfl rfl 9 rfl dX8_stage_6 (fun v1 d2 => ?_)
  exact r_ireturn rfl rfl (Nat.le_of_ble_eq_true rfl) (Nat.le_of_ble_eq_true rfl) dX8_stage_9
def Y_X8_mark : z_Y := (RX8, cX8_mark, 3, wsX8_mark, (some .int), { frames := 3, cells := 0, slots := 0, locals := 67 }, 0, 0)
theorem ok_X8_mark : z_Ok yX8_mark Y_X8_mark 2 := ⟨⟨_, rfl⟩, rfl, rfl, rfl, by decide +kernel, by decide +kernel⟩
theorem w_X8_mark_0 : Cond.fieldLink RX8 10 "BunchTimes" "race" "LBunchTimes$Race;" ∈ wsX8_mark := by decide +kernel
theorem w_X8_mark_1 : ∀ w ∈ u_ws RX8 TX8 5, w ∈ wsX8_mark := by decide +kernel
theorem w_X8_mark_2 : Cond.initialized RX3 ∈ wsX8_mark := by decide +kernel
theorem w_X8_mark_3 : Cond.instanceMethod yX3_addMark ∈ wsX8_mark := by decide +kernel
theorem w_X8_mark_4 : Cond.selects RX3 yX3_addMark yX3_addMark ∈ wsX8_mark := by decide +kernel
def f_X8_mark (d : z_D) (o0 : Nat) (x1 : Int32) (x2 : Int32) : Option (Int32 × z_D) := z_bX (f_X3_addMark d (o0 + 1) x1 x2) (fun v1 d2 => (some (v1, d2)))
set_option maxHeartbeats 4000000 in
set_option maxRecDepth 100000 in
theorem c_X8_mark {E : z_E} {l : Launch} {S : z_S} (d : z_D) (o0 : Nat) (h0 : A_BT S o0) (x1 : Int32) (x2 : Int32) : z_Sp E l yX8_mark Y_X8_mark (cvX S) [.ref (E.2.1 + o0), .int x1, .int x2] (S, d) (f_X8_mark d o0 x1 x2) := by
  refine z_entry (lv := [(0, .ref (E.2.1 + o0)), (1, .int x1), (2, .int x2)]) (by decide) rfl rfl (Nat.le_of_ble_eq_true rfl) rfl ?_
  unfold f_X8_mark
  refine r_aload_n 0 0 rfl rfl 1 rfl dX8_mark_0 ?_
  refine r_get (h0.1 0 (Nat.le_of_ble_eq_true rfl)) rfl (Nat.le_of_ble_eq_true rfl) rfl rfl w_X8_mark_1 0 (Nat.le_of_ble_eq_true rfl) rfl w_X8_mark_0 (.ref (E.2.1 + (o0 + 1))) rfl 4 rfl dX8_mark_1 ?_
  refine r_iload_n 1 1 rfl rfl 5 rfl dX8_mark_4 ?_
  refine r_iload_n 2 2 rfl rfl 6 rfl dX8_mark_5 ?_
  refine r_callVN_X (c_X3_addMark (E := E) (l := l) (S := S) d (o0 + 1) (A_BT.race h0) x1 x2) ok_X3_addMark ⟨⟨(Nat.le_of_ble_eq_true rfl), (Nat.le_of_ble_eq_true rfl)⟩, (Nat.le_of_ble_eq_true rfl), (Nat.le_of_ble_eq_true rfl)⟩ ((A_BT.race h0).1 0 (Nat.le_of_ble_eq_true rfl)) (Nat.le_of_ble_eq_true rfl) rfl rfl rfl (Nat.le_of_ble_eq_true rfl) 58 rfl gX8_mark_X3_addMark_n87 w_X8_mark_2 w_X8_mark_3 w_X8_mark_4 rfl rfl 9 rfl dX8_mark_6 (fun v1 d2 => ?_)
  exact r_ireturn rfl rfl (Nat.le_of_ble_eq_true rfl) (Nat.le_of_ble_eq_true rfl) dX8_mark_9
def Y_X8_finish : z_Y := (RX8, cX8_finish, 3, wsX8_finish, (some .boolean), { frames := 4, cells := 0, slots := 0, locals := 86 }, 0, 0)
theorem ok_X8_finish : z_Ok yX8_finish Y_X8_finish 2 := ⟨⟨_, rfl⟩, rfl, rfl, rfl, by decide +kernel, by decide +kernel⟩
theorem w_X8_finish_0 : Cond.fieldLink RX8 10 "BunchTimes" "race" "LBunchTimes$Race;" ∈ wsX8_finish := by decide +kernel
theorem w_X8_finish_1 : ∀ w ∈ u_ws RX8 TX8 5, w ∈ wsX8_finish := by decide +kernel
theorem w_X8_finish_2 : Cond.initialized RX3 ∈ wsX8_finish := by decide +kernel
theorem w_X8_finish_3 : Cond.instanceMethod yX3_addFinish ∈ wsX8_finish := by decide +kernel
theorem w_X8_finish_4 : Cond.selects RX3 yX3_addFinish yX3_addFinish ∈ wsX8_finish := by decide +kernel
def f_X8_finish (d : z_D) (o0 : Nat) (x1 : Int32) (x2 : Int32) : Option (Int32 × z_D) := z_bX (f_X3_addFinish d (o0 + 1) x1 x2) (fun v1 d2 => (z_bool v1 (some (v1, d2))))
set_option maxHeartbeats 4000000 in
set_option maxRecDepth 100000 in
theorem c_X8_finish {E : z_E} {l : Launch} {S : z_S} (d : z_D) (o0 : Nat) (h0 : A_BT S o0) (x1 : Int32) (x2 : Int32) : z_Sp E l yX8_finish Y_X8_finish (cvX S) [.ref (E.2.1 + o0), .int x1, .int x2] (S, d) (f_X8_finish d o0 x1 x2) := by
  refine z_entry (lv := [(0, .ref (E.2.1 + o0)), (1, .int x1), (2, .int x2)]) (by decide) rfl rfl (Nat.le_of_ble_eq_true rfl) rfl ?_
  unfold f_X8_finish
  refine r_aload_n 0 0 rfl rfl 1 rfl dX8_finish_0 ?_
  refine r_get (h0.1 0 (Nat.le_of_ble_eq_true rfl)) rfl (Nat.le_of_ble_eq_true rfl) rfl rfl w_X8_finish_1 0 (Nat.le_of_ble_eq_true rfl) rfl w_X8_finish_0 (.ref (E.2.1 + (o0 + 1))) rfl 4 rfl dX8_finish_1 ?_
  refine r_iload_n 1 1 rfl rfl 5 rfl dX8_finish_4 ?_
  refine r_iload_n 2 2 rfl rfl 6 rfl dX8_finish_5 ?_
  refine r_callVN_X (c_X3_addFinish (E := E) (l := l) (S := S) d (o0 + 1) (A_BT.race h0) x1 x2) ok_X3_addFinish ⟨⟨(Nat.le_of_ble_eq_true rfl), (Nat.le_of_ble_eq_true rfl)⟩, (Nat.le_of_ble_eq_true rfl), (Nat.le_of_ble_eq_true rfl)⟩ ((A_BT.race h0).1 0 (Nat.le_of_ble_eq_true rfl)) (Nat.le_of_ble_eq_true rfl) rfl rfl rfl (Nat.le_of_ble_eq_true rfl) 59 rfl gX8_finish_X3_addFinish_n90 w_X8_finish_2 w_X8_finish_3 w_X8_finish_4 rfl rfl 9 rfl dX8_finish_6 (fun v1 d2 => ?_)
  exact r_zreturn rfl rfl (Nat.le_of_ble_eq_true rfl) (Nat.le_of_ble_eq_true rfl) dX8_finish_9
def Y_X8_over : z_Y := (RX8, cX8_over, 3, wsX8_over, (some .int), { frames := 4, cells := 0, slots := 0, locals := 86 }, 0, 0)
theorem ok_X8_over : z_Ok yX8_over Y_X8_over 2 := ⟨⟨_, rfl⟩, rfl, rfl, rfl, by decide +kernel, by decide +kernel⟩
theorem w_X8_over_0 : Cond.fieldLink RX8 10 "BunchTimes" "race" "LBunchTimes$Race;" ∈ wsX8_over := by decide +kernel
theorem w_X8_over_1 : ∀ w ∈ u_ws RX8 TX8 5, w ∈ wsX8_over := by decide +kernel
theorem w_X8_over_2 : Cond.initialized RX3 ∈ wsX8_over := by decide +kernel
theorem w_X8_over_3 : Cond.instanceMethod yX3_addCrossing ∈ wsX8_over := by decide +kernel
theorem w_X8_over_4 : Cond.selects RX3 yX3_addCrossing yX3_addCrossing ∈ wsX8_over := by decide +kernel
def f_X8_over (d : z_D) (o0 : Nat) (x1 : Int32) (x2 : Int32) : Option (Int32 × z_D) := z_bX (f_X3_addCrossing d (o0 + 1) x1 x2) (fun v1 d2 => (some (v1, d2)))
set_option maxHeartbeats 4000000 in
set_option maxRecDepth 100000 in
theorem c_X8_over {E : z_E} {l : Launch} {S : z_S} (d : z_D) (o0 : Nat) (h0 : A_BT S o0) (x1 : Int32) (x2 : Int32) : z_Sp E l yX8_over Y_X8_over (cvX S) [.ref (E.2.1 + o0), .int x1, .int x2] (S, d) (f_X8_over d o0 x1 x2) := by
  refine z_entry (lv := [(0, .ref (E.2.1 + o0)), (1, .int x1), (2, .int x2)]) (by decide) rfl rfl (Nat.le_of_ble_eq_true rfl) rfl ?_
  unfold f_X8_over
  refine r_aload_n 0 0 rfl rfl 1 rfl dX8_over_0 ?_
  refine r_get (h0.1 0 (Nat.le_of_ble_eq_true rfl)) rfl (Nat.le_of_ble_eq_true rfl) rfl rfl w_X8_over_1 0 (Nat.le_of_ble_eq_true rfl) rfl w_X8_over_0 (.ref (E.2.1 + (o0 + 1))) rfl 4 rfl dX8_over_1 ?_
  refine r_iload_n 1 1 rfl rfl 5 rfl dX8_over_4 ?_
  refine r_iload_n 2 2 rfl rfl 6 rfl dX8_over_5 ?_
  refine r_callVN_X (c_X3_addCrossing (E := E) (l := l) (S := S) d (o0 + 1) (A_BT.race h0) x1 x2) ok_X3_addCrossing ⟨⟨(Nat.le_of_ble_eq_true rfl), (Nat.le_of_ble_eq_true rfl)⟩, (Nat.le_of_ble_eq_true rfl), (Nat.le_of_ble_eq_true rfl)⟩ ((A_BT.race h0).1 0 (Nat.le_of_ble_eq_true rfl)) (Nat.le_of_ble_eq_true rfl) rfl rfl rfl (Nat.le_of_ble_eq_true rfl) 60 rfl gX8_over_X3_addCrossing_n94 w_X8_over_2 w_X8_over_3 w_X8_over_4 rfl rfl 9 rfl dX8_over_6 (fun v1 d2 => ?_)
  exact r_ireturn rfl rfl (Nat.le_of_ble_eq_true rfl) (Nat.le_of_ble_eq_true rfl) dX8_over_9
def Y_X8_fall : z_Y := (RX8, cX8_fall, 4, wsX8_fall, (some .boolean), { frames := 4, cells := 0, slots := 0, locals := 87 }, 0, 0)
theorem ok_X8_fall : z_Ok yX8_fall Y_X8_fall 3 := ⟨⟨_, rfl⟩, rfl, rfl, rfl, by decide +kernel, by decide +kernel⟩
theorem w_X8_fall_0 : Cond.fieldLink RX8 10 "BunchTimes" "race" "LBunchTimes$Race;" ∈ wsX8_fall := by decide +kernel
theorem w_X8_fall_1 : ∀ w ∈ u_ws RX8 TX8 5, w ∈ wsX8_fall := by decide +kernel
theorem w_X8_fall_2 : Cond.initialized RX3 ∈ wsX8_fall := by decide +kernel
theorem w_X8_fall_3 : Cond.instanceMethod yX3_addFall ∈ wsX8_fall := by decide +kernel
theorem w_X8_fall_4 : Cond.selects RX3 yX3_addFall yX3_addFall ∈ wsX8_fall := by decide +kernel
def f_X8_fall (d : z_D) (o0 : Nat) (x1 : Int32) (x2 : Int32) (x3 : Int32) : Option (Int32 × z_D) := z_bX (f_X3_addFall d (o0 + 1) x1 x2 x3) (fun v1 d2 => (z_bool v1 (some (v1, d2))))
set_option maxHeartbeats 4000000 in
set_option maxRecDepth 100000 in
theorem c_X8_fall {E : z_E} {l : Launch} {S : z_S} (d : z_D) (o0 : Nat) (h0 : A_BT S o0) (x1 : Int32) (x2 : Int32) (x3 : Int32) : z_Sp E l yX8_fall Y_X8_fall (cvX S) [.ref (E.2.1 + o0), .int x1, .int x2, .int x3] (S, d) (f_X8_fall d o0 x1 x2 x3) := by
  refine z_entry (lv := [(0, .ref (E.2.1 + o0)), (1, .int x1), (2, .int x2), (3, .int x3)]) (by decide) rfl rfl (Nat.le_of_ble_eq_true rfl) rfl ?_
  unfold f_X8_fall
  refine r_aload_n 0 0 rfl rfl 1 rfl dX8_fall_0 ?_
  refine r_get (h0.1 0 (Nat.le_of_ble_eq_true rfl)) rfl (Nat.le_of_ble_eq_true rfl) rfl rfl w_X8_fall_1 0 (Nat.le_of_ble_eq_true rfl) rfl w_X8_fall_0 (.ref (E.2.1 + (o0 + 1))) rfl 4 rfl dX8_fall_1 ?_
  refine r_iload_n 1 1 rfl rfl 5 rfl dX8_fall_4 ?_
  refine r_iload_n 2 2 rfl rfl 6 rfl dX8_fall_5 ?_
  refine r_iload_n 3 3 rfl rfl 7 rfl dX8_fall_6 ?_
  refine r_callVN_X (c_X3_addFall (E := E) (l := l) (S := S) d (o0 + 1) (A_BT.race h0) x1 x2 x3) ok_X3_addFall ⟨⟨(Nat.le_of_ble_eq_true rfl), (Nat.le_of_ble_eq_true rfl)⟩, (Nat.le_of_ble_eq_true rfl), (Nat.le_of_ble_eq_true rfl)⟩ ((A_BT.race h0).1 0 (Nat.le_of_ble_eq_true rfl)) (Nat.le_of_ble_eq_true rfl) rfl rfl rfl (Nat.le_of_ble_eq_true rfl) 61 rfl gX8_fall_X3_addFall_n97 w_X8_fall_2 w_X8_fall_3 w_X8_fall_4 rfl rfl 10 rfl dX8_fall_7 (fun v1 d2 => ?_)
  exact r_zreturn rfl rfl (Nat.le_of_ble_eq_true rfl) (Nat.le_of_ble_eq_true rfl) dX8_fall_10
def Y_X8_jury : z_Y := (RX8, cX8_jury, 3, wsX8_jury, (some .int), { frames := 4, cells := 0, slots := 0, locals := 86 }, 0, 0)
theorem ok_X8_jury : z_Ok yX8_jury Y_X8_jury 2 := ⟨⟨_, rfl⟩, rfl, rfl, rfl, by decide +kernel, by decide +kernel⟩
theorem w_X8_jury_0 : Cond.fieldLink RX8 10 "BunchTimes" "race" "LBunchTimes$Race;" ∈ wsX8_jury := by decide +kernel
theorem w_X8_jury_1 : ∀ w ∈ u_ws RX8 TX8 5, w ∈ wsX8_jury := by decide +kernel
theorem w_X8_jury_2 : Cond.initialized RX3 ∈ wsX8_jury := by decide +kernel
theorem w_X8_jury_3 : Cond.instanceMethod yX3_addJury ∈ wsX8_jury := by decide +kernel
theorem w_X8_jury_4 : Cond.selects RX3 yX3_addJury yX3_addJury ∈ wsX8_jury := by decide +kernel
def f_X8_jury (d : z_D) (o0 : Nat) (x1 : Int32) (x2 : Int32) : Option (Int32 × z_D) := z_bX (f_X3_addJury d (o0 + 1) x1 x2) (fun v1 d2 => (some (v1, d2)))
set_option maxHeartbeats 4000000 in
set_option maxRecDepth 100000 in
theorem c_X8_jury {E : z_E} {l : Launch} {S : z_S} (d : z_D) (o0 : Nat) (h0 : A_BT S o0) (x1 : Int32) (x2 : Int32) : z_Sp E l yX8_jury Y_X8_jury (cvX S) [.ref (E.2.1 + o0), .int x1, .int x2] (S, d) (f_X8_jury d o0 x1 x2) := by
  refine z_entry (lv := [(0, .ref (E.2.1 + o0)), (1, .int x1), (2, .int x2)]) (by decide) rfl rfl (Nat.le_of_ble_eq_true rfl) rfl ?_
  unfold f_X8_jury
  refine r_aload_n 0 0 rfl rfl 1 rfl dX8_jury_0 ?_
  refine r_get (h0.1 0 (Nat.le_of_ble_eq_true rfl)) rfl (Nat.le_of_ble_eq_true rfl) rfl rfl w_X8_jury_1 0 (Nat.le_of_ble_eq_true rfl) rfl w_X8_jury_0 (.ref (E.2.1 + (o0 + 1))) rfl 4 rfl dX8_jury_1 ?_
  refine r_iload_n 1 1 rfl rfl 5 rfl dX8_jury_4 ?_
  refine r_iload_n 2 2 rfl rfl 6 rfl dX8_jury_5 ?_
  refine r_callVN_X (c_X3_addJury (E := E) (l := l) (S := S) d (o0 + 1) (A_BT.race h0) x1 x2) ok_X3_addJury ⟨⟨(Nat.le_of_ble_eq_true rfl), (Nat.le_of_ble_eq_true rfl)⟩, (Nat.le_of_ble_eq_true rfl), (Nat.le_of_ble_eq_true rfl)⟩ ((A_BT.race h0).1 0 (Nat.le_of_ble_eq_true rfl)) (Nat.le_of_ble_eq_true rfl) rfl rfl rfl (Nat.le_of_ble_eq_true rfl) 62 rfl gX8_jury_X3_addJury_n100 w_X8_jury_2 w_X8_jury_3 w_X8_jury_4 rfl rfl 9 rfl dX8_jury_6 (fun v1 d2 => ?_)
  exact r_ireturn rfl rfl (Nat.le_of_ble_eq_true rfl) (Nat.le_of_ble_eq_true rfl) dX8_jury_9
def Y_X8_grace : z_Y := (RX8, cX8_grace, 2, wsX8_grace, (some .boolean), { frames := 4, cells := 0, slots := 0, locals := 85 }, 0, 0)
theorem ok_X8_grace : z_Ok yX8_grace Y_X8_grace 1 := ⟨⟨_, rfl⟩, rfl, rfl, rfl, by decide +kernel, by decide +kernel⟩
theorem w_X8_grace_0 : Cond.fieldLink RX8 10 "BunchTimes" "race" "LBunchTimes$Race;" ∈ wsX8_grace := by decide +kernel
theorem w_X8_grace_1 : ∀ w ∈ u_ws RX8 TX8 5, w ∈ wsX8_grace := by decide +kernel
theorem w_X8_grace_2 : Cond.initialized RX3 ∈ wsX8_grace := by decide +kernel
theorem w_X8_grace_3 : Cond.instanceMethod yX3_addGrace ∈ wsX8_grace := by decide +kernel
theorem w_X8_grace_4 : Cond.selects RX3 yX3_addGrace yX3_addGrace ∈ wsX8_grace := by decide +kernel
def f_X8_grace (d : z_D) (o0 : Nat) (x1 : Int32) : Option (Int32 × z_D) := z_bX (f_X3_addGrace d (o0 + 1) x1) (fun v1 d2 => (z_bool v1 (some (v1, d2))))
set_option maxHeartbeats 4000000 in
set_option maxRecDepth 100000 in
theorem c_X8_grace {E : z_E} {l : Launch} {S : z_S} (d : z_D) (o0 : Nat) (h0 : A_BT S o0) (x1 : Int32) : z_Sp E l yX8_grace Y_X8_grace (cvX S) [.ref (E.2.1 + o0), .int x1] (S, d) (f_X8_grace d o0 x1) := by
  refine z_entry (lv := [(0, .ref (E.2.1 + o0)), (1, .int x1)]) (by decide) rfl rfl (Nat.le_of_ble_eq_true rfl) rfl ?_
  unfold f_X8_grace
  refine r_aload_n 0 0 rfl rfl 1 rfl dX8_grace_0 ?_
  refine r_get (h0.1 0 (Nat.le_of_ble_eq_true rfl)) rfl (Nat.le_of_ble_eq_true rfl) rfl rfl w_X8_grace_1 0 (Nat.le_of_ble_eq_true rfl) rfl w_X8_grace_0 (.ref (E.2.1 + (o0 + 1))) rfl 4 rfl dX8_grace_1 ?_
  refine r_iload_n 1 1 rfl rfl 5 rfl dX8_grace_4 ?_
  refine r_callVN_X (c_X3_addGrace (E := E) (l := l) (S := S) d (o0 + 1) (A_BT.race h0) x1) ok_X3_addGrace ⟨⟨(Nat.le_of_ble_eq_true rfl), (Nat.le_of_ble_eq_true rfl)⟩, (Nat.le_of_ble_eq_true rfl), (Nat.le_of_ble_eq_true rfl)⟩ ((A_BT.race h0).1 0 (Nat.le_of_ble_eq_true rfl)) (Nat.le_of_ble_eq_true rfl) rfl rfl rfl (Nat.le_of_ble_eq_true rfl) 63 rfl gX8_grace_X3_addGrace_n103 w_X8_grace_2 w_X8_grace_3 w_X8_grace_4 rfl rfl 8 rfl dX8_grace_5 (fun v1 d2 => ?_)
  exact r_zreturn rfl rfl (Nat.le_of_ble_eq_true rfl) (Nat.le_of_ble_eq_true rfl) dX8_grace_8
def Y_X8_quit : z_Y := (RX8, cX8_quit, 2, wsX8_quit, (some .boolean), { frames := 4, cells := 0, slots := 0, locals := 85 }, 0, 0)
theorem ok_X8_quit : z_Ok yX8_quit Y_X8_quit 1 := ⟨⟨_, rfl⟩, rfl, rfl, rfl, by decide +kernel, by decide +kernel⟩
theorem w_X8_quit_0 : Cond.fieldLink RX8 10 "BunchTimes" "race" "LBunchTimes$Race;" ∈ wsX8_quit := by decide +kernel
theorem w_X8_quit_1 : ∀ w ∈ u_ws RX8 TX8 5, w ∈ wsX8_quit := by decide +kernel
theorem w_X8_quit_2 : Cond.initialized RX3 ∈ wsX8_quit := by decide +kernel
theorem w_X8_quit_3 : Cond.instanceMethod yX3_dropRider ∈ wsX8_quit := by decide +kernel
theorem w_X8_quit_4 : Cond.selects RX3 yX3_dropRider yX3_dropRider ∈ wsX8_quit := by decide +kernel
def f_X8_quit (d : z_D) (o0 : Nat) (x1 : Int32) : Option (Int32 × z_D) := z_bX (f_X3_dropRider d (o0 + 1) x1) (fun v1 d2 => (z_bool v1 (some (v1, d2))))
set_option maxHeartbeats 4000000 in
set_option maxRecDepth 100000 in
theorem c_X8_quit {E : z_E} {l : Launch} {S : z_S} (d : z_D) (o0 : Nat) (h0 : A_BT S o0) (x1 : Int32) : z_Sp E l yX8_quit Y_X8_quit (cvX S) [.ref (E.2.1 + o0), .int x1] (S, d) (f_X8_quit d o0 x1) := by
  refine z_entry (lv := [(0, .ref (E.2.1 + o0)), (1, .int x1)]) (by decide) rfl rfl (Nat.le_of_ble_eq_true rfl) rfl ?_
  unfold f_X8_quit
  refine r_aload_n 0 0 rfl rfl 1 rfl dX8_quit_0 ?_
  refine r_get (h0.1 0 (Nat.le_of_ble_eq_true rfl)) rfl (Nat.le_of_ble_eq_true rfl) rfl rfl w_X8_quit_1 0 (Nat.le_of_ble_eq_true rfl) rfl w_X8_quit_0 (.ref (E.2.1 + (o0 + 1))) rfl 4 rfl dX8_quit_1 ?_
  refine r_iload_n 1 1 rfl rfl 5 rfl dX8_quit_4 ?_
  refine r_callVN_X (c_X3_dropRider (E := E) (l := l) (S := S) d (o0 + 1) (A_BT.race h0) x1) ok_X3_dropRider ⟨⟨(Nat.le_of_ble_eq_true rfl), (Nat.le_of_ble_eq_true rfl)⟩, (Nat.le_of_ble_eq_true rfl), (Nat.le_of_ble_eq_true rfl)⟩ ((A_BT.race h0).1 0 (Nat.le_of_ble_eq_true rfl)) (Nat.le_of_ble_eq_true rfl) rfl rfl rfl (Nat.le_of_ble_eq_true rfl) 64 rfl gX8_quit_X3_dropRider_n107 w_X8_quit_2 w_X8_quit_3 w_X8_quit_4 rfl rfl 8 rfl dX8_quit_5 (fun v1 d2 => ?_)
  exact r_zreturn rfl rfl (Nat.le_of_ble_eq_true rfl) (Nat.le_of_ble_eq_true rfl) dX8_quit_8
def Y_X8_rule : z_Y := (RX8, cX8_rule, 3, wsX8_rule, (some .boolean), { frames := 2, cells := 0, slots := 0, locals := 43 }, 0, 0)
theorem ok_X8_rule : z_Ok yX8_rule Y_X8_rule 2 := ⟨⟨_, rfl⟩, rfl, rfl, rfl, by decide +kernel, by decide +kernel⟩
theorem w_X8_rule_0 : Cond.fieldLink RX8 10 "BunchTimes" "race" "LBunchTimes$Race;" ∈ wsX8_rule := by decide +kernel
theorem w_X8_rule_1 : ∀ w ∈ u_ws RX8 TX8 5, w ∈ wsX8_rule := by decide +kernel
theorem w_X8_rule_2 : ∀ w ∈ u_ws RX3 TX3 10, w ∈ wsX8_rule := by decide +kernel
theorem w_X8_rule_3 : Cond.initialized RX3 ∈ wsX8_rule := by decide +kernel
theorem w_X8_rule_4 : Cond.instanceMethod yX3_setZone ∈ wsX8_rule := by decide +kernel
theorem w_X8_rule_5 : Cond.selects RX3 yX3_setZone yX3_setZone ∈ wsX8_rule := by decide +kernel
theorem w_X8_rule_6 : Cond.instanceMethod yX3_setGap ∈ wsX8_rule := by decide +kernel
theorem w_X8_rule_7 : Cond.selects RX3 yX3_setGap yX3_setGap ∈ wsX8_rule := by decide +kernel
def f_X8_rule (d : z_D) (o0 : Nat) (x1 : Int32) (x2 : Int32) : Option (Int32 × z_D) := (if x1 = 0 then (if (d (o0 + 1) 4) = x2 then (some (0, d)) else z_bX (f_X3_setGap d (o0 + 1) x2) (fun v3 d4 => (if v3 = 0 then (some (0, d4)) else (some (1, d4))))) else (if x1 = 1 then (if (d (o0 + 1) 5) = x2 then (some (0, d)) else z_bX (f_X3_setZone d (o0 + 1) x2) (fun v1 d2 => (if v1 = 0 then (some (0, d2)) else (some (1, d2))))) else (some (0, d))))
set_option maxHeartbeats 4000000 in
set_option maxRecDepth 100000 in
theorem c_X8_rule {E : z_E} {l : Launch} {S : z_S} (d : z_D) (o0 : Nat) (h0 : A_BT S o0) (x1 : Int32) (x2 : Int32) : z_Sp E l yX8_rule Y_X8_rule (cvX S) [.ref (E.2.1 + o0), .int x1, .int x2] (S, d) (f_X8_rule d o0 x1 x2) := by
  refine z_entry (lv := [(0, .ref (E.2.1 + o0)), (1, .int x1), (2, .int x2)]) (by decide) rfl rfl (Nat.le_of_ble_eq_true rfl) rfl ?_
  unfold f_X8_rule
  refine r_iload_n 1 1 rfl rfl 1 rfl dX8_rule_0 ?_
  refine r_if_ne 32 4 rfl rfl dX8_rule_1 ?_ ?_
  · refine r_iload_n 1 1 rfl rfl 33 rfl dX8_rule_32 ?_
    refine r_iconst 1 rfl 34 rfl dX8_rule_33 ?_
    refine r_icmp_ne 63 37 rfl rfl dX8_rule_34 ?_ ?_
    · refine r_iconst 0 rfl 64 rfl dX8_rule_63 ?_
      exact r_zreturnc (by decide) rfl rfl (Nat.le_of_ble_eq_true rfl) (Nat.le_of_ble_eq_true rfl) dX8_rule_64
    · refine r_aload_n 0 0 rfl rfl 38 rfl dX8_rule_37 ?_
      refine r_get (h0.1 0 (Nat.le_of_ble_eq_true rfl)) rfl (Nat.le_of_ble_eq_true rfl) rfl rfl w_X8_rule_1 0 (Nat.le_of_ble_eq_true rfl) rfl w_X8_rule_0 (.ref (E.2.1 + (o0 + 1))) rfl 41 rfl dX8_rule_38 ?_
      refine r_getN 5 31 rfl ((A_BT.race h0).1 0 (Nat.le_of_ble_eq_true rfl)) rfl (Nat.le_of_ble_eq_true rfl) rfl rfl w_X8_rule_2 (Nat.le_of_ble_eq_true rfl) rfl (.int (d (o0 + 1) 5)) rfl 44 rfl dX8_rule_41 ?_
      refine r_iload_n 2 2 rfl rfl 45 rfl dX8_rule_44 ?_
      refine r_icmp_eq 63 48 rfl rfl dX8_rule_45 ?_ ?_
      · refine r_iconst 0 rfl 64 rfl dX8_rule_63 ?_
        exact r_zreturnc (by decide) rfl rfl (Nat.le_of_ble_eq_true rfl) (Nat.le_of_ble_eq_true rfl) dX8_rule_64
      · refine r_aload_n 0 0 rfl rfl 49 rfl dX8_rule_48 ?_
        refine r_get (h0.1 0 (Nat.le_of_ble_eq_true rfl)) rfl (Nat.le_of_ble_eq_true rfl) rfl rfl w_X8_rule_1 0 (Nat.le_of_ble_eq_true rfl) rfl w_X8_rule_0 (.ref (E.2.1 + (o0 + 1))) rfl 52 rfl dX8_rule_49 ?_
        refine r_iload_n 2 2 rfl rfl 53 rfl dX8_rule_52 ?_
        refine r_callVN_X (c_X3_setZone (E := E) (l := l) (S := S) d (o0 + 1) (A_BT.race h0) x2) ok_X3_setZone ⟨⟨(Nat.le_of_ble_eq_true rfl), (Nat.le_of_ble_eq_true rfl)⟩, (Nat.le_of_ble_eq_true rfl), (Nat.le_of_ble_eq_true rfl)⟩ ((A_BT.race h0).1 0 (Nat.le_of_ble_eq_true rfl)) (Nat.le_of_ble_eq_true rfl) rfl rfl rfl (Nat.le_of_ble_eq_true rfl) 66 rfl gX8_rule_X3_setZone_n119 w_X8_rule_3 w_X8_rule_4 w_X8_rule_5 rfl rfl 56 rfl dX8_rule_53 (fun v1 d2 => ?_)
        refine r_if_eq 63 59 rfl rfl dX8_rule_56 ?_ ?_
        · refine r_iconst 0 rfl 64 rfl dX8_rule_63 ?_
          exact r_zreturnc (by decide) rfl rfl (Nat.le_of_ble_eq_true rfl) (Nat.le_of_ble_eq_true rfl) dX8_rule_64
        · refine r_iconst 1 rfl 60 rfl dX8_rule_59 ?_
          refine r_goto 64 rfl dX8_rule_60 ?_
          exact r_zreturnc (by decide) rfl rfl (Nat.le_of_ble_eq_true rfl) (Nat.le_of_ble_eq_true rfl) dX8_rule_64
  · refine r_aload_n 0 0 rfl rfl 5 rfl dX8_rule_4 ?_
    refine r_get (h0.1 0 (Nat.le_of_ble_eq_true rfl)) rfl (Nat.le_of_ble_eq_true rfl) rfl rfl w_X8_rule_1 0 (Nat.le_of_ble_eq_true rfl) rfl w_X8_rule_0 (.ref (E.2.1 + (o0 + 1))) rfl 8 rfl dX8_rule_5 ?_
    refine r_getN 4 30 rfl ((A_BT.race h0).1 0 (Nat.le_of_ble_eq_true rfl)) rfl (Nat.le_of_ble_eq_true rfl) rfl rfl w_X8_rule_2 (Nat.le_of_ble_eq_true rfl) rfl (.int (d (o0 + 1) 4)) rfl 11 rfl dX8_rule_8 ?_
    refine r_iload_n 2 2 rfl rfl 12 rfl dX8_rule_11 ?_
    refine r_icmp_eq 30 15 rfl rfl dX8_rule_12 ?_ ?_
    · refine r_iconst 0 rfl 31 rfl dX8_rule_30 ?_
      exact r_zreturnc (by decide) rfl rfl (Nat.le_of_ble_eq_true rfl) (Nat.le_of_ble_eq_true rfl) dX8_rule_31
    · refine r_aload_n 0 0 rfl rfl 16 rfl dX8_rule_15 ?_
      refine r_get (h0.1 0 (Nat.le_of_ble_eq_true rfl)) rfl (Nat.le_of_ble_eq_true rfl) rfl rfl w_X8_rule_1 0 (Nat.le_of_ble_eq_true rfl) rfl w_X8_rule_0 (.ref (E.2.1 + (o0 + 1))) rfl 19 rfl dX8_rule_16 ?_
      refine r_iload_n 2 2 rfl rfl 20 rfl dX8_rule_19 ?_
      refine r_callVN_X (c_X3_setGap (E := E) (l := l) (S := S) d (o0 + 1) (A_BT.race h0) x2) ok_X3_setGap ⟨⟨(Nat.le_of_ble_eq_true rfl), (Nat.le_of_ble_eq_true rfl)⟩, (Nat.le_of_ble_eq_true rfl), (Nat.le_of_ble_eq_true rfl)⟩ ((A_BT.race h0).1 0 (Nat.le_of_ble_eq_true rfl)) (Nat.le_of_ble_eq_true rfl) rfl rfl rfl (Nat.le_of_ble_eq_true rfl) 65 rfl gX8_rule_X3_setGap_n113 w_X8_rule_3 w_X8_rule_6 w_X8_rule_7 rfl rfl 23 rfl dX8_rule_20 (fun v3 d4 => ?_)
      refine r_if_eq 30 26 rfl rfl dX8_rule_23 ?_ ?_
      · refine r_iconst 0 rfl 31 rfl dX8_rule_30 ?_
        exact r_zreturnc (by decide) rfl rfl (Nat.le_of_ble_eq_true rfl) (Nat.le_of_ble_eq_true rfl) dX8_rule_31
      · refine r_iconst 1 rfl 27 rfl dX8_rule_26 ?_
        refine r_goto 31 rfl dX8_rule_27 ?_
        exact r_zreturnc (by decide) rfl rfl (Nat.le_of_ble_eq_true rfl) (Nat.le_of_ble_eq_true rfl) dX8_rule_31
def Y_X8_close : z_Y := (RX8, cX8_close, 1, wsX8_close, (some .int), { frames := 5, cells := 0, slots := 0, locals := 112 }, 0, 0)
theorem ok_X8_close : z_Ok yX8_close Y_X8_close 0 := ⟨⟨_, rfl⟩, rfl, rfl, rfl, by decide +kernel, by decide +kernel⟩
theorem w_X8_close_0 : Cond.fieldLink RX8 10 "BunchTimes" "race" "LBunchTimes$Race;" ∈ wsX8_close := by decide +kernel
theorem w_X8_close_1 : ∀ w ∈ u_ws RX8 TX8 5, w ∈ wsX8_close := by decide +kernel
theorem w_X8_close_2 : Cond.initialized RX3 ∈ wsX8_close := by decide +kernel
theorem w_X8_close_3 : Cond.instanceMethod yX3_closeStage ∈ wsX8_close := by decide +kernel
theorem w_X8_close_4 : Cond.selects RX3 yX3_closeStage yX3_closeStage ∈ wsX8_close := by decide +kernel
def f_X8_close (d : z_D) (o0 : Nat) : Option (Int32 × z_D) := z_bX (f_X3_closeStage d (o0 + 1)) (fun v1 d2 => (some (v1, d2)))
set_option maxHeartbeats 4000000 in
set_option maxRecDepth 100000 in
theorem c_X8_close {E : z_E} {l : Launch} {S : z_S} (d : z_D) (o0 : Nat) (h0 : A_BT S o0) : z_Sp E l yX8_close Y_X8_close (cvX S) [.ref (E.2.1 + o0)] (S, d) (f_X8_close d o0) := by
  refine z_entry (lv := [(0, .ref (E.2.1 + o0))]) (by decide) rfl rfl (Nat.le_of_ble_eq_true rfl) rfl ?_
  unfold f_X8_close
  refine r_aload_n 0 0 rfl rfl 1 rfl dX8_close_0 ?_
  refine r_get (h0.1 0 (Nat.le_of_ble_eq_true rfl)) rfl (Nat.le_of_ble_eq_true rfl) rfl rfl w_X8_close_1 0 (Nat.le_of_ble_eq_true rfl) rfl w_X8_close_0 (.ref (E.2.1 + (o0 + 1))) rfl 4 rfl dX8_close_1 ?_
  refine r_callVN_X (c_X3_closeStage (E := E) (l := l) (S := S) d (o0 + 1) (A_BT.race h0)) ok_X3_closeStage ⟨⟨(Nat.le_of_ble_eq_true rfl), (Nat.le_of_ble_eq_true rfl)⟩, (Nat.le_of_ble_eq_true rfl), (Nat.le_of_ble_eq_true rfl)⟩ ((A_BT.race h0).1 0 (Nat.le_of_ble_eq_true rfl)) (Nat.le_of_ble_eq_true rfl) rfl rfl rfl (Nat.le_of_ble_eq_true rfl) 67 rfl gX8_close_X3_closeStage_n122 w_X8_close_2 w_X8_close_3 w_X8_close_4 rfl rfl 7 rfl dX8_close_4 (fun v1 d2 => ?_)
  exact r_ireturn rfl rfl (Nat.le_of_ble_eq_true rfl) (Nat.le_of_ble_eq_true rfl) dX8_close_7
def Y_X8_count : z_Y := (RX8, cX8_count, 2, wsX8_count, (some .int), { frames := 1, cells := 0, slots := 0, locals := 22 }, 0, 0)
theorem ok_X8_count : z_Ok yX8_count Y_X8_count 1 := ⟨⟨_, rfl⟩, rfl, rfl, rfl, by decide +kernel, by decide +kernel⟩
theorem w_X8_count_0 : Cond.fieldLink RX8 10 "BunchTimes" "race" "LBunchTimes$Race;" ∈ wsX8_count := by decide +kernel
theorem w_X8_count_1 : ∀ w ∈ u_ws RX8 TX8 5, w ∈ wsX8_count := by decide +kernel
theorem w_X8_count_2 : ∀ w ∈ u_ws RX3 TX3 10, w ∈ wsX8_count := by decide +kernel
theorem w_X8_count_3 : Cond.initialized RX3 ∈ wsX8_count := by decide +kernel
theorem w_X8_count_4 : Cond.instanceMethod yX3_countIn ∈ wsX8_count := by decide +kernel
theorem w_X8_count_5 : Cond.selects RX3 yX3_countIn yX3_countIn ∈ wsX8_count := by decide +kernel
theorem w_X8_count_6 : Cond.instanceMethod yX3_closed ∈ wsX8_count := by decide +kernel
theorem w_X8_count_7 : Cond.selects RX3 yX3_closed yX3_closed ∈ wsX8_count := by decide +kernel
theorem w_X8_count_8 : Cond.instanceMethod yX3_latestMarks ∈ wsX8_count := by decide +kernel
theorem w_X8_count_9 : Cond.selects RX3 yX3_latestMarks yX3_latestMarks ∈ wsX8_count := by decide +kernel
theorem w_X8_count_10 : Cond.instanceMethod yX3_latestFinishers ∈ wsX8_count := by decide +kernel
theorem w_X8_count_11 : Cond.selects RX3 yX3_latestFinishers yX3_latestFinishers ∈ wsX8_count := by decide +kernel
theorem w_X8_count_12 : Cond.fieldLink RX8 33 "BunchTimes" "tape" "LBunchTimes$Tape;" ∈ wsX8_count := by decide +kernel
theorem w_X8_count_13 : ∀ w ∈ u_ws RX6 TX6 6, w ∈ wsX8_count := by decide +kernel
def f_X8_count (d : z_D) (o0 : Nat) (x1 : Int32) : Option Int32 := (if x1 = 0 then (some (d (o0 + 1) 0)) else (if x1 = 1 then (some (d (o0 + 1) 1)) else (if x1 = 2 then ((f_X3_countIn d (o0 + 1)).bind fun v1 => (some v1)) else (if x1 = 3 then (some (d (o0 + 1) 2)) else (if x1 = 4 then ((f_X3_closed d (o0 + 1)).bind fun v2 => (some v2)) else (if x1 = 5 then ((f_X3_latestMarks d (o0 + 1)).bind fun v3 => (some v3)) else (if x1 = 6 then ((f_X3_latestFinishers d (o0 + 1)).bind fun v4 => (some v4)) else (if x1 = 7 then (some (d (o0 + 1) 4)) else (if x1 = 8 then (some (d (o0 + 1) 5)) else (if x1 = 9 then (some (d (o0 + 353) 1)) else (some (-1))))))))))))
set_option maxHeartbeats 4000000 in
set_option maxRecDepth 100000 in
theorem c_X8_count {E : z_E} {l : Launch} {S : z_S} (d : z_D) (o0 : Nat) (h0 : A_BT S o0) (x1 : Int32) : z_Sp E l yX8_count Y_X8_count (cvI S d) [.ref (E.2.1 + o0), .int x1] (S, d) (f_X8_count d o0 x1) := by
  refine z_entry (lv := [(0, .ref (E.2.1 + o0)), (1, .int x1)]) (by decide) rfl rfl (Nat.le_of_ble_eq_true rfl) rfl ?_
  unfold f_X8_count
  refine r_iload_n 1 1 rfl rfl 1 rfl dX8_count_0 ?_
  refine r_tsw 56 rfl rfl rfl rfl dX8_count_1 ?_ (fun hs0 => ?_)
  · refine r_aload_n 0 0 rfl rfl 57 rfl dX8_count_56 ?_
    refine r_get (h0.1 0 (Nat.le_of_ble_eq_true rfl)) rfl (Nat.le_of_ble_eq_true rfl) rfl rfl w_X8_count_1 0 (Nat.le_of_ble_eq_true rfl) rfl w_X8_count_0 (.ref (E.2.1 + (o0 + 1))) rfl 60 rfl dX8_count_57 ?_
    refine r_getN 0 25 rfl ((A_BT.race h0).1 0 (Nat.le_of_ble_eq_true rfl)) rfl (Nat.le_of_ble_eq_true rfl) rfl rfl w_X8_count_2 (Nat.le_of_ble_eq_true rfl) rfl (.int (d (o0 + 1) 0)) rfl 63 rfl dX8_count_60 ?_
    exact r_ireturn rfl rfl (Nat.le_of_ble_eq_true rfl) (Nat.le_of_ble_eq_true rfl) dX8_count_63
  refine r_tsw 64 rfl rfl rfl rfl dX8_count_1 ?_ (fun hs1 => ?_)
  · refine r_aload_n 0 0 rfl rfl 65 rfl dX8_count_64 ?_
    refine r_get (h0.1 0 (Nat.le_of_ble_eq_true rfl)) rfl (Nat.le_of_ble_eq_true rfl) rfl rfl w_X8_count_1 0 (Nat.le_of_ble_eq_true rfl) rfl w_X8_count_0 (.ref (E.2.1 + (o0 + 1))) rfl 68 rfl dX8_count_65 ?_
    refine r_getN 1 28 rfl ((A_BT.race h0).1 0 (Nat.le_of_ble_eq_true rfl)) rfl (Nat.le_of_ble_eq_true rfl) rfl rfl w_X8_count_2 (Nat.le_of_ble_eq_true rfl) rfl (.int (d (o0 + 1) 1)) rfl 71 rfl dX8_count_68 ?_
    exact r_ireturn rfl rfl (Nat.le_of_ble_eq_true rfl) (Nat.le_of_ble_eq_true rfl) dX8_count_71
  refine r_tsw 72 rfl rfl rfl rfl dX8_count_1 ?_ (fun hs2 => ?_)
  · refine r_aload_n 0 0 rfl rfl 73 rfl dX8_count_72 ?_
    refine r_get (h0.1 0 (Nat.le_of_ble_eq_true rfl)) rfl (Nat.le_of_ble_eq_true rfl) rfl rfl w_X8_count_1 0 (Nat.le_of_ble_eq_true rfl) rfl w_X8_count_0 (.ref (E.2.1 + (o0 + 1))) rfl 76 rfl dX8_count_73 ?_
    refine r_callVN_I (c_X3_countIn (E := E) (l := l) (S := S) d (o0 + 1) (A_BT.race h0)) ok_X3_countIn ⟨⟨(Nat.le_of_ble_eq_true rfl), (Nat.le_of_ble_eq_true rfl)⟩, (Nat.le_of_ble_eq_true rfl), (Nat.le_of_ble_eq_true rfl)⟩ ((A_BT.race h0).1 0 (Nat.le_of_ble_eq_true rfl)) (Nat.le_of_ble_eq_true rfl) rfl rfl rfl (Nat.le_of_ble_eq_true rfl) 68 rfl gX8_count_X3_countIn_n131 w_X8_count_3 w_X8_count_4 w_X8_count_5 rfl rfl 79 rfl dX8_count_76 (fun v1 => ?_)
    exact r_ireturn rfl rfl (Nat.le_of_ble_eq_true rfl) (Nat.le_of_ble_eq_true rfl) dX8_count_79
  refine r_tsw 80 rfl rfl rfl rfl dX8_count_1 ?_ (fun hs3 => ?_)
  · refine r_aload_n 0 0 rfl rfl 81 rfl dX8_count_80 ?_
    refine r_get (h0.1 0 (Nat.le_of_ble_eq_true rfl)) rfl (Nat.le_of_ble_eq_true rfl) rfl rfl w_X8_count_1 0 (Nat.le_of_ble_eq_true rfl) rfl w_X8_count_0 (.ref (E.2.1 + (o0 + 1))) rfl 84 rfl dX8_count_81 ?_
    refine r_getN 2 29 rfl ((A_BT.race h0).1 0 (Nat.le_of_ble_eq_true rfl)) rfl (Nat.le_of_ble_eq_true rfl) rfl rfl w_X8_count_2 (Nat.le_of_ble_eq_true rfl) rfl (.int (d (o0 + 1) 2)) rfl 87 rfl dX8_count_84 ?_
    exact r_ireturn rfl rfl (Nat.le_of_ble_eq_true rfl) (Nat.le_of_ble_eq_true rfl) dX8_count_87
  refine r_tsw 88 rfl rfl rfl rfl dX8_count_1 ?_ (fun hs4 => ?_)
  · refine r_aload_n 0 0 rfl rfl 89 rfl dX8_count_88 ?_
    refine r_get (h0.1 0 (Nat.le_of_ble_eq_true rfl)) rfl (Nat.le_of_ble_eq_true rfl) rfl rfl w_X8_count_1 0 (Nat.le_of_ble_eq_true rfl) rfl w_X8_count_0 (.ref (E.2.1 + (o0 + 1))) rfl 92 rfl dX8_count_89 ?_
    refine r_callVN_I (c_X3_closed (E := E) (l := l) (S := S) d (o0 + 1) (A_BT.race h0)) ok_X3_closed ⟨⟨(Nat.le_of_ble_eq_true rfl), (Nat.le_of_ble_eq_true rfl)⟩, (Nat.le_of_ble_eq_true rfl), (Nat.le_of_ble_eq_true rfl)⟩ ((A_BT.race h0).1 0 (Nat.le_of_ble_eq_true rfl)) (Nat.le_of_ble_eq_true rfl) rfl rfl rfl (Nat.le_of_ble_eq_true rfl) 69 rfl gX8_count_X3_closed_n137 w_X8_count_3 w_X8_count_6 w_X8_count_7 rfl rfl 95 rfl dX8_count_92 (fun v2 => ?_)
    exact r_ireturn rfl rfl (Nat.le_of_ble_eq_true rfl) (Nat.le_of_ble_eq_true rfl) dX8_count_95
  refine r_tsw 96 rfl rfl rfl rfl dX8_count_1 ?_ (fun hs5 => ?_)
  · refine r_aload_n 0 0 rfl rfl 97 rfl dX8_count_96 ?_
    refine r_get (h0.1 0 (Nat.le_of_ble_eq_true rfl)) rfl (Nat.le_of_ble_eq_true rfl) rfl rfl w_X8_count_1 0 (Nat.le_of_ble_eq_true rfl) rfl w_X8_count_0 (.ref (E.2.1 + (o0 + 1))) rfl 100 rfl dX8_count_97 ?_
    refine r_callVN_I (c_X3_latestMarks (E := E) (l := l) (S := S) d (o0 + 1) (A_BT.race h0)) ok_X3_latestMarks ⟨⟨(Nat.le_of_ble_eq_true rfl), (Nat.le_of_ble_eq_true rfl)⟩, (Nat.le_of_ble_eq_true rfl), (Nat.le_of_ble_eq_true rfl)⟩ ((A_BT.race h0).1 0 (Nat.le_of_ble_eq_true rfl)) (Nat.le_of_ble_eq_true rfl) rfl rfl rfl (Nat.le_of_ble_eq_true rfl) 70 rfl gX8_count_X3_latestMarks_n140 w_X8_count_3 w_X8_count_8 w_X8_count_9 rfl rfl 103 rfl dX8_count_100 (fun v3 => ?_)
    exact r_ireturn rfl rfl (Nat.le_of_ble_eq_true rfl) (Nat.le_of_ble_eq_true rfl) dX8_count_103
  refine r_tsw 104 rfl rfl rfl rfl dX8_count_1 ?_ (fun hs6 => ?_)
  · refine r_aload_n 0 0 rfl rfl 105 rfl dX8_count_104 ?_
    refine r_get (h0.1 0 (Nat.le_of_ble_eq_true rfl)) rfl (Nat.le_of_ble_eq_true rfl) rfl rfl w_X8_count_1 0 (Nat.le_of_ble_eq_true rfl) rfl w_X8_count_0 (.ref (E.2.1 + (o0 + 1))) rfl 108 rfl dX8_count_105 ?_
    refine r_callVN_I (c_X3_latestFinishers (E := E) (l := l) (S := S) d (o0 + 1) (A_BT.race h0)) ok_X3_latestFinishers ⟨⟨(Nat.le_of_ble_eq_true rfl), (Nat.le_of_ble_eq_true rfl)⟩, (Nat.le_of_ble_eq_true rfl), (Nat.le_of_ble_eq_true rfl)⟩ ((A_BT.race h0).1 0 (Nat.le_of_ble_eq_true rfl)) (Nat.le_of_ble_eq_true rfl) rfl rfl rfl (Nat.le_of_ble_eq_true rfl) 71 rfl gX8_count_X3_latestFinishers_n143 w_X8_count_3 w_X8_count_10 w_X8_count_11 rfl rfl 111 rfl dX8_count_108 (fun v4 => ?_)
    exact r_ireturn rfl rfl (Nat.le_of_ble_eq_true rfl) (Nat.le_of_ble_eq_true rfl) dX8_count_111
  refine r_tsw 112 rfl rfl rfl rfl dX8_count_1 ?_ (fun hs7 => ?_)
  · refine r_aload_n 0 0 rfl rfl 113 rfl dX8_count_112 ?_
    refine r_get (h0.1 0 (Nat.le_of_ble_eq_true rfl)) rfl (Nat.le_of_ble_eq_true rfl) rfl rfl w_X8_count_1 0 (Nat.le_of_ble_eq_true rfl) rfl w_X8_count_0 (.ref (E.2.1 + (o0 + 1))) rfl 116 rfl dX8_count_113 ?_
    refine r_getN 4 30 rfl ((A_BT.race h0).1 0 (Nat.le_of_ble_eq_true rfl)) rfl (Nat.le_of_ble_eq_true rfl) rfl rfl w_X8_count_2 (Nat.le_of_ble_eq_true rfl) rfl (.int (d (o0 + 1) 4)) rfl 119 rfl dX8_count_116 ?_
    exact r_ireturn rfl rfl (Nat.le_of_ble_eq_true rfl) (Nat.le_of_ble_eq_true rfl) dX8_count_119
  refine r_tsw 120 rfl rfl rfl rfl dX8_count_1 ?_ (fun hs8 => ?_)
  · refine r_aload_n 0 0 rfl rfl 121 rfl dX8_count_120 ?_
    refine r_get (h0.1 0 (Nat.le_of_ble_eq_true rfl)) rfl (Nat.le_of_ble_eq_true rfl) rfl rfl w_X8_count_1 0 (Nat.le_of_ble_eq_true rfl) rfl w_X8_count_0 (.ref (E.2.1 + (o0 + 1))) rfl 124 rfl dX8_count_121 ?_
    refine r_getN 5 31 rfl ((A_BT.race h0).1 0 (Nat.le_of_ble_eq_true rfl)) rfl (Nat.le_of_ble_eq_true rfl) rfl rfl w_X8_count_2 (Nat.le_of_ble_eq_true rfl) rfl (.int (d (o0 + 1) 5)) rfl 127 rfl dX8_count_124 ?_
    exact r_ireturn rfl rfl (Nat.le_of_ble_eq_true rfl) (Nat.le_of_ble_eq_true rfl) dX8_count_127
  refine r_tsw 128 rfl rfl rfl rfl dX8_count_1 ?_ (fun hs9 => ?_)
  · refine r_aload_n 0 0 rfl rfl 129 rfl dX8_count_128 ?_
    refine r_get (h0.1 0 (Nat.le_of_ble_eq_true rfl)) rfl (Nat.le_of_ble_eq_true rfl) rfl rfl w_X8_count_1 4 (Nat.le_of_ble_eq_true rfl) rfl w_X8_count_12 (.ref (E.2.1 + (o0 + 353))) rfl 132 rfl dX8_count_129 ?_
    refine r_getN 1 37 rfl ((A_BT.tape h0) 0 (Nat.le_of_ble_eq_true rfl)) rfl (Nat.le_of_ble_eq_true rfl) rfl rfl w_X8_count_13 (Nat.le_of_ble_eq_true rfl) rfl (.int (d (o0 + 353) 1)) rfl 135 rfl dX8_count_132 ?_
    exact r_ireturn rfl rfl (Nat.le_of_ble_eq_true rfl) (Nat.le_of_ble_eq_true rfl) dX8_count_135
  refine r_tswD (lo := 0) (hi := 9) 136 10 rfl (fun j hj => match j, hj with | 0, _ => hs0 | 1, _ => hs1 | 2, _ => hs2 | 3, _ => hs3 | 4, _ => hs4 | 5, _ => hs5 | 6, _ => hs6 | 7, _ => hs7 | 8, _ => hs8 | 9, _ => hs9) rfl dX8_count_1 ?_
  refine r_iconst (-1) rfl 137 rfl dX8_count_136 ?_
  exact r_ireturn rfl rfl (Nat.le_of_ble_eq_true rfl) (Nat.le_of_ble_eq_true rfl) dX8_count_137
def Y_X8_told : z_Y := (RX8, cX8_told, 4, wsX8_told, (some .int), { frames := 2, cells := 0, slots := 0, locals := 43 }, 0, 0)
theorem ok_X8_told : z_Ok yX8_told Y_X8_told 2 := ⟨⟨_, rfl⟩, rfl, rfl, rfl, by decide +kernel, by decide +kernel⟩
theorem w_X8_told_0 : Cond.fieldLink RX8 10 "BunchTimes" "race" "LBunchTimes$Race;" ∈ wsX8_told := by decide +kernel
theorem w_X8_told_1 : ∀ w ∈ u_ws RX8 TX8 5, w ∈ wsX8_told := by decide +kernel
theorem w_X8_told_2 : Cond.initialized RX3 ∈ wsX8_told := by decide +kernel
theorem w_X8_told_3 : Cond.instanceMethod yX3_closedStage ∈ wsX8_told := by decide +kernel
theorem w_X8_told_4 : Cond.selects RX3 yX3_closedStage yX3_closedStage ∈ wsX8_told := by decide +kernel
theorem w_X8_told_5 : Cond.initialized RX4 ∈ wsX8_told := by decide +kernel
theorem w_X8_told_6 : Cond.instanceMethod yX4_fact ∈ wsX8_told := by decide +kernel
theorem w_X8_told_7 : Cond.selects RX4 yX4_fact yX4_fact ∈ wsX8_told := by decide +kernel
def f_X8_told (d : z_D) (o0 : Nat) (x1 : Int32) (x2 : Int32) : Option Int32 := ((f_X3_closedStage d (o0 + 1) x1).bind fun q2 => z_nul q2 (some (-1)) (fun j1 => ((f_X4_fact d ((o0 + 1) + 5 + 21 * j1) x2).bind fun v3 => (some v3))))
set_option maxHeartbeats 4000000 in
set_option maxRecDepth 100000 in
theorem c_X8_told {E : z_E} {l : Launch} {S : z_S} (d : z_D) (o0 : Nat) (h0 : A_BT S o0) (x1 : Int32) (x2 : Int32) : z_Sp E l yX8_told Y_X8_told (cvI S d) [.ref (E.2.1 + o0), .int x1, .int x2] (S, d) (f_X8_told d o0 x1 x2) := by
  refine z_entry (lv := [(0, .ref (E.2.1 + o0)), (1, .int x1), (2, .int x2)]) (by decide) rfl rfl (Nat.le_of_ble_eq_true rfl) rfl ?_
  unfold f_X8_told
  refine r_aload_n 0 0 rfl rfl 1 rfl dX8_told_0 ?_
  refine r_get (h0.1 0 (Nat.le_of_ble_eq_true rfl)) rfl (Nat.le_of_ble_eq_true rfl) rfl rfl w_X8_told_1 0 (Nat.le_of_ble_eq_true rfl) rfl w_X8_told_0 (.ref (E.2.1 + (o0 + 1))) rfl 4 rfl dX8_told_1 ?_
  refine r_iload_n 1 1 rfl rfl 5 rfl dX8_told_4 ?_
  refine r_callVN_R (c_X3_closedStage (E := E) (l := l) (S := S) d (o0 + 1) (A_BT.race h0) x1) ok_X3_closedStage ⟨⟨(Nat.le_of_ble_eq_true rfl), (Nat.le_of_ble_eq_true rfl)⟩, (Nat.le_of_ble_eq_true rfl), (Nat.le_of_ble_eq_true rfl)⟩ ((A_BT.race h0).1 0 (Nat.le_of_ble_eq_true rfl)) (Nat.le_of_ble_eq_true rfl) rfl rfl rfl (Nat.le_of_ble_eq_true rfl) 72 rfl gX8_told_X3_closedStage_n166 w_X8_told_2 w_X8_told_3 w_X8_told_4 rfl rfl 8 rfl dX8_told_5 (fun q2 => ?_)
  refine r_nul ?_ (fun j1 hj1 => ?_)
  · refine r_astore_nN 3 rfl [(3, .null), (0, .ref (E.2.1 + o0)), (1, .int x1), (2, .int x2)] (Nat.le_of_ble_eq_true rfl) rfl 9 rfl dX8_told_8 ?_
    refine r_aload_nN 3 0 rfl rfl 10 rfl dX8_told_9 ?_
    refine r_ifnonnullN 13 rfl dX8_told_10 ?_
    refine r_iconst (-1) rfl 14 rfl dX8_told_13 ?_
    refine r_goto 22 rfl dX8_told_14 ?_
    exact r_ireturn rfl rfl (Nat.le_of_ble_eq_true rfl) (Nat.le_of_ble_eq_true rfl) dX8_told_22
  · refine r_astore_n 3 rfl [(3, .ref (E.2.1 + ((o0 + 1) + 5 + 21 * j1))), (0, .ref (E.2.1 + o0)), (1, .int x1), (2, .int x2)] (Nat.le_of_ble_eq_true rfl) rfl 9 rfl dX8_told_8 ?_
    refine r_aload_n 3 0 rfl rfl 10 rfl dX8_told_9 ?_
    refine r_ifnonnull 17 rfl dX8_told_10 ?_
    refine r_aload_n 3 0 rfl rfl 18 rfl dX8_told_17 ?_
    refine r_iload_n 2 3 rfl rfl 19 rfl dX8_told_18 ?_
    refine r_callVN_I (c_X4_fact (E := E) (l := l) (S := S) d ((o0 + 1) + 5 + 21 * j1) ((A_BT.race h0).2 j1 hj1) x2) ok_X4_fact ⟨⟨(Nat.le_of_ble_eq_true rfl), (Nat.le_of_ble_eq_true rfl)⟩, (Nat.le_of_ble_eq_true rfl), (Nat.le_of_ble_eq_true rfl)⟩ (((A_BT.race h0).2 j1 hj1) 0 (Nat.le_of_ble_eq_true rfl)) (Nat.le_of_ble_eq_true rfl) rfl rfl rfl (Nat.le_of_ble_eq_true rfl) 73 rfl gX8_told_X4_fact_n170 w_X8_told_5 w_X8_told_6 w_X8_told_7 rfl rfl 22 rfl dX8_told_19 (fun v3 => ?_)
    exact r_ireturn rfl rfl (Nat.le_of_ble_eq_true rfl) (Nat.le_of_ble_eq_true rfl) dX8_told_22
def Y_X8_order : z_Y := (RX8, cX8_order, 4, wsX8_order, (some .int), { frames := 2, cells := 0, slots := 0, locals := 43 }, 0, 0)
theorem ok_X8_order : z_Ok yX8_order Y_X8_order 2 := ⟨⟨_, rfl⟩, rfl, rfl, rfl, by decide +kernel, by decide +kernel⟩
theorem w_X8_order_0 : Cond.fieldLink RX8 10 "BunchTimes" "race" "LBunchTimes$Race;" ∈ wsX8_order := by decide +kernel
theorem w_X8_order_1 : ∀ w ∈ u_ws RX8 TX8 5, w ∈ wsX8_order := by decide +kernel
theorem w_X8_order_2 : Cond.initialized RX3 ∈ wsX8_order := by decide +kernel
theorem w_X8_order_3 : Cond.instanceMethod yX3_closedStage ∈ wsX8_order := by decide +kernel
theorem w_X8_order_4 : Cond.selects RX3 yX3_closedStage yX3_closedStage ∈ wsX8_order := by decide +kernel
theorem w_X8_order_5 : ∀ w ∈ u_ws RX4 TX4 20, w ∈ wsX8_order := by decide +kernel
def f_X8_order (d : z_D) (o0 : Nat) (x1 : Int32) (x2 : Int32) : Option Int32 := ((f_X3_closedStage d (o0 + 1) x1).bind fun q2 => z_nul q2 (some (-1)) (fun j1 => ((f_X8_within x2 0 ((d ((o0 + 1) + 5 + 21 * j1) 7) - 1)).bind fun v3 => (if v3 = 0 then (some (-1)) else z_ald d (((o0 + 1) + 5 + 21 * j1) + 15) 16 x2 (fun v4 => (some v4))))))
set_option maxHeartbeats 4000000 in
set_option maxRecDepth 100000 in
theorem c_X8_order {E : z_E} {l : Launch} {S : z_S} (d : z_D) (o0 : Nat) (h0 : A_BT S o0) (x1 : Int32) (x2 : Int32) : z_Sp E l yX8_order Y_X8_order (cvI S d) [.ref (E.2.1 + o0), .int x1, .int x2] (S, d) (f_X8_order d o0 x1 x2) := by
  refine z_entry (lv := [(0, .ref (E.2.1 + o0)), (1, .int x1), (2, .int x2)]) (by decide) rfl rfl (Nat.le_of_ble_eq_true rfl) rfl ?_
  unfold f_X8_order
  refine r_aload_n 0 0 rfl rfl 1 rfl dX8_order_0 ?_
  refine r_get (h0.1 0 (Nat.le_of_ble_eq_true rfl)) rfl (Nat.le_of_ble_eq_true rfl) rfl rfl w_X8_order_1 0 (Nat.le_of_ble_eq_true rfl) rfl w_X8_order_0 (.ref (E.2.1 + (o0 + 1))) rfl 4 rfl dX8_order_1 ?_
  refine r_iload_n 1 1 rfl rfl 5 rfl dX8_order_4 ?_
  refine r_callVN_R (c_X3_closedStage (E := E) (l := l) (S := S) d (o0 + 1) (A_BT.race h0) x1) ok_X3_closedStage ⟨⟨(Nat.le_of_ble_eq_true rfl), (Nat.le_of_ble_eq_true rfl)⟩, (Nat.le_of_ble_eq_true rfl), (Nat.le_of_ble_eq_true rfl)⟩ ((A_BT.race h0).1 0 (Nat.le_of_ble_eq_true rfl)) (Nat.le_of_ble_eq_true rfl) rfl rfl rfl (Nat.le_of_ble_eq_true rfl) 72 rfl gX8_order_X3_closedStage_n166 w_X8_order_2 w_X8_order_3 w_X8_order_4 rfl rfl 8 rfl dX8_order_5 (fun q2 => ?_)
  refine r_nul ?_ (fun j1 hj1 => ?_)
  · refine r_astore_nN 3 rfl [(3, .null), (0, .ref (E.2.1 + o0)), (1, .int x1), (2, .int x2)] (Nat.le_of_ble_eq_true rfl) rfl 9 rfl dX8_order_8 ?_
    refine r_aload_nN 3 0 rfl rfl 10 rfl dX8_order_9 ?_
    refine r_ifnullN 27 rfl dX8_order_10 ?_
    refine r_iconst (-1) rfl 28 rfl dX8_order_27 ?_
    exact r_ireturn rfl rfl (Nat.le_of_ble_eq_true rfl) (Nat.le_of_ble_eq_true rfl) dX8_order_28
  · refine r_astore_n 3 rfl [(3, .ref (E.2.1 + ((o0 + 1) + 5 + 21 * j1))), (0, .ref (E.2.1 + o0)), (1, .int x1), (2, .int x2)] (Nat.le_of_ble_eq_true rfl) rfl 9 rfl dX8_order_8 ?_
    refine r_aload_n 3 0 rfl rfl 10 rfl dX8_order_9 ?_
    refine r_ifnull 13 rfl dX8_order_10 ?_
    refine r_iload_n 2 3 rfl rfl 14 rfl dX8_order_13 ?_
    refine r_iconst 0 rfl 15 rfl dX8_order_14 ?_
    refine r_aload_n 3 0 rfl rfl 16 rfl dX8_order_15 ?_
    refine r_getN 7 19 rfl (((A_BT.race h0).2 j1 hj1) 0 (Nat.le_of_ble_eq_true rfl)) rfl (Nat.le_of_ble_eq_true rfl) rfl rfl w_X8_order_5 (Nat.le_of_ble_eq_true rfl) rfl (.int (d ((o0 + 1) + 5 + 21 * j1) 7)) rfl 19 rfl dX8_order_16 ?_
    refine r_iconst 1 rfl 20 rfl dX8_order_19 ?_
    refine r_isub 21 rfl dX8_order_20 ?_
    refine r_callS_I (c_X8_within (E := E) (l := l) (S := S) d x2 0 ((d ((o0 + 1) + 5 + 21 * j1) 7) - 1)) ok_X8_within ⟨⟨(Nat.le_of_ble_eq_true rfl), (Nat.le_of_ble_eq_true rfl)⟩, (Nat.le_of_ble_eq_true rfl), (Nat.le_of_ble_eq_true rfl)⟩ rfl (Nat.le_of_ble_eq_true rfl) gX8_order_X8_within rfl rfl 24 rfl dX8_order_21 (fun v3 => ?_)
    refine r_if_ne 29 27 rfl rfl dX8_order_24 ?_ ?_
    · refine r_aload_n 3 0 rfl rfl 30 rfl dX8_order_29 ?_
      refine r_getN 8 21 rfl (((A_BT.race h0).2 j1 hj1) 0 (Nat.le_of_ble_eq_true rfl)) rfl (Nat.le_of_ble_eq_true rfl) rfl rfl w_X8_order_5 (Nat.le_of_ble_eq_true rfl) rfl (.ref (E.2.1 + (((o0 + 1) + 5 + 21 * j1) + 15))) rfl 33 rfl dX8_order_30 ?_
      refine r_iload_n 2 3 rfl rfl 34 rfl dX8_order_33 ?_
      refine r_iald (((A_BT.race h0).2 j1 hj1) 15 (Nat.le_of_ble_eq_true rfl)) rfl rfl 35 rfl dX8_order_34 (fun v4 => ?_)
      exact r_ireturn rfl rfl (Nat.le_of_ble_eq_true rfl) (Nat.le_of_ble_eq_true rfl) dX8_order_35
    · refine r_iconst (-1) rfl 28 rfl dX8_order_27 ?_
      exact r_ireturn rfl rfl (Nat.le_of_ble_eq_true rfl) (Nat.le_of_ble_eq_true rfl) dX8_order_28
def Y_X8_result : z_Y := (RX8, cX8_result, 5, wsX8_result, (some .int), { frames := 2, cells := 0, slots := 0, locals := 43 }, 0, 0)
theorem ok_X8_result : z_Ok yX8_result Y_X8_result 3 := ⟨⟨_, rfl⟩, rfl, rfl, rfl, by decide +kernel, by decide +kernel⟩
theorem w_X8_result_0 : Cond.fieldLink RX8 10 "BunchTimes" "race" "LBunchTimes$Race;" ∈ wsX8_result := by decide +kernel
theorem w_X8_result_1 : ∀ w ∈ u_ws RX8 TX8 5, w ∈ wsX8_result := by decide +kernel
theorem w_X8_result_2 : Cond.initialized RX3 ∈ wsX8_result := by decide +kernel
theorem w_X8_result_3 : Cond.instanceMethod yX3_closedStage ∈ wsX8_result := by decide +kernel
theorem w_X8_result_4 : Cond.selects RX3 yX3_closedStage yX3_closedStage ∈ wsX8_result := by decide +kernel
theorem w_X8_result_5 : Cond.instanceMethod yX3_hasRider ∈ wsX8_result := by decide +kernel
theorem w_X8_result_6 : Cond.selects RX3 yX3_hasRider yX3_hasRider ∈ wsX8_result := by decide +kernel
theorem w_X8_result_7 : ∀ w ∈ u_ws RX4 TX4 20, w ∈ wsX8_result := by decide +kernel
theorem w_X8_result_8 : Cond.initialized RX4 ∈ wsX8_result := by decide +kernel
theorem w_X8_result_9 : Cond.instanceMethod yX4_resultOf ∈ wsX8_result := by decide +kernel
theorem w_X8_result_10 : Cond.selects RX4 yX4_resultOf yX4_resultOf ∈ wsX8_result := by decide +kernel
def f_X8_result (d : z_D) (o0 : Nat) (x1 : Int32) (x2 : Int32) (x3 : Int32) : Option Int32 := ((f_X3_closedStage d (o0 + 1) x1).bind fun q2 => z_nul q2 (some (-1)) (fun j1 => ((f_X3_hasRider d (o0 + 1) x2).bind fun v3 => (if v3 = 0 then (some (-1)) else z_ald d (((o0 + 1) + 5 + 21 * j1) + 10) 16 x2 (fun v4 => (if v4 = 0 then (some (-1)) else ((f_X4_resultOf d ((o0 + 1) + 5 + 21 * j1) x2 x3).bind fun v5 => (some v5))))))))
set_option maxHeartbeats 4000000 in
set_option maxRecDepth 100000 in
theorem c_X8_result {E : z_E} {l : Launch} {S : z_S} (d : z_D) (o0 : Nat) (h0 : A_BT S o0) (x1 : Int32) (x2 : Int32) (x3 : Int32) : z_Sp E l yX8_result Y_X8_result (cvI S d) [.ref (E.2.1 + o0), .int x1, .int x2, .int x3] (S, d) (f_X8_result d o0 x1 x2 x3) := by
  refine z_entry (lv := [(0, .ref (E.2.1 + o0)), (1, .int x1), (2, .int x2), (3, .int x3)]) (by decide) rfl rfl (Nat.le_of_ble_eq_true rfl) rfl ?_
  unfold f_X8_result
  refine r_aload_n 0 0 rfl rfl 1 rfl dX8_result_0 ?_
  refine r_get (h0.1 0 (Nat.le_of_ble_eq_true rfl)) rfl (Nat.le_of_ble_eq_true rfl) rfl rfl w_X8_result_1 0 (Nat.le_of_ble_eq_true rfl) rfl w_X8_result_0 (.ref (E.2.1 + (o0 + 1))) rfl 4 rfl dX8_result_1 ?_
  refine r_iload_n 1 1 rfl rfl 5 rfl dX8_result_4 ?_
  refine r_callVN_R (c_X3_closedStage (E := E) (l := l) (S := S) d (o0 + 1) (A_BT.race h0) x1) ok_X3_closedStage ⟨⟨(Nat.le_of_ble_eq_true rfl), (Nat.le_of_ble_eq_true rfl)⟩, (Nat.le_of_ble_eq_true rfl), (Nat.le_of_ble_eq_true rfl)⟩ ((A_BT.race h0).1 0 (Nat.le_of_ble_eq_true rfl)) (Nat.le_of_ble_eq_true rfl) rfl rfl rfl (Nat.le_of_ble_eq_true rfl) 72 rfl gX8_result_X3_closedStage_n166 w_X8_result_2 w_X8_result_3 w_X8_result_4 rfl rfl 8 rfl dX8_result_5 (fun q2 => ?_)
  refine r_nul ?_ (fun j1 hj1 => ?_)
  · refine r_astoreN 4 [(4, .null), (0, .ref (E.2.1 + o0)), (1, .int x1), (2, .int x2), (3, .int x3)] (Nat.le_of_ble_eq_true rfl) rfl 10 rfl dX8_result_8 ?_
    refine r_aloadN 4 0 rfl 12 rfl dX8_result_10 ?_
    refine r_ifnullN 36 rfl dX8_result_12 ?_
    refine r_iconst (-1) rfl 37 rfl dX8_result_36 ?_
    exact r_ireturn rfl rfl (Nat.le_of_ble_eq_true rfl) (Nat.le_of_ble_eq_true rfl) dX8_result_37
  · refine r_astore 4 [(4, .ref (E.2.1 + ((o0 + 1) + 5 + 21 * j1))), (0, .ref (E.2.1 + o0)), (1, .int x1), (2, .int x2), (3, .int x3)] (Nat.le_of_ble_eq_true rfl) rfl 10 rfl dX8_result_8 ?_
    refine r_aload 4 0 rfl 12 rfl dX8_result_10 ?_
    refine r_ifnull 15 rfl dX8_result_12 ?_
    refine r_aload_n 0 1 rfl rfl 16 rfl dX8_result_15 ?_
    refine r_get (h0.1 0 (Nat.le_of_ble_eq_true rfl)) rfl (Nat.le_of_ble_eq_true rfl) rfl rfl w_X8_result_1 0 (Nat.le_of_ble_eq_true rfl) rfl w_X8_result_0 (.ref (E.2.1 + (o0 + 1))) rfl 19 rfl dX8_result_16 ?_
    refine r_iload_n 2 3 rfl rfl 20 rfl dX8_result_19 ?_
    refine r_callVN_I (c_X3_hasRider (E := E) (l := l) (S := S) d (o0 + 1) (A_BT.race h0) x2) ok_X3_hasRider ⟨⟨(Nat.le_of_ble_eq_true rfl), (Nat.le_of_ble_eq_true rfl)⟩, (Nat.le_of_ble_eq_true rfl), (Nat.le_of_ble_eq_true rfl)⟩ ((A_BT.race h0).1 0 (Nat.le_of_ble_eq_true rfl)) (Nat.le_of_ble_eq_true rfl) rfl rfl rfl (Nat.le_of_ble_eq_true rfl) 74 rfl gX8_result_X3_hasRider_n146 w_X8_result_2 w_X8_result_5 w_X8_result_6 rfl rfl 23 rfl dX8_result_20 (fun v3 => ?_)
    refine r_if_eq 36 26 rfl rfl dX8_result_23 ?_ ?_
    · refine r_iconst (-1) rfl 37 rfl dX8_result_36 ?_
      exact r_ireturn rfl rfl (Nat.le_of_ble_eq_true rfl) (Nat.le_of_ble_eq_true rfl) dX8_result_37
    · refine r_aload 4 0 rfl 28 rfl dX8_result_26 ?_
      refine r_getN 2 16 rfl (((A_BT.race h0).2 j1 hj1) 0 (Nat.le_of_ble_eq_true rfl)) rfl (Nat.le_of_ble_eq_true rfl) rfl rfl w_X8_result_7 (Nat.le_of_ble_eq_true rfl) rfl (.ref (E.2.1 + (((o0 + 1) + 5 + 21 * j1) + 10))) rfl 31 rfl dX8_result_28 ?_
      refine r_iload_n 2 3 rfl rfl 32 rfl dX8_result_31 ?_
      refine r_iald (((A_BT.race h0).2 j1 hj1) 10 (Nat.le_of_ble_eq_true rfl)) rfl rfl 33 rfl dX8_result_32 (fun v4 => ?_)
      refine r_if_ne 38 36 rfl rfl dX8_result_33 ?_ ?_
      · refine r_aload 4 0 rfl 40 rfl dX8_result_38 ?_
        refine r_iload_n 2 3 rfl rfl 41 rfl dX8_result_40 ?_
        refine r_iload_n 3 4 rfl rfl 42 rfl dX8_result_41 ?_
        refine r_callVN_I (c_X4_resultOf (E := E) (l := l) (S := S) d ((o0 + 1) + 5 + 21 * j1) ((A_BT.race h0).2 j1 hj1) x2 x3) ok_X4_resultOf ⟨⟨(Nat.le_of_ble_eq_true rfl), (Nat.le_of_ble_eq_true rfl)⟩, (Nat.le_of_ble_eq_true rfl), (Nat.le_of_ble_eq_true rfl)⟩ (((A_BT.race h0).2 j1 hj1) 0 (Nat.le_of_ble_eq_true rfl)) (Nat.le_of_ble_eq_true rfl) rfl rfl rfl (Nat.le_of_ble_eq_true rfl) 75 rfl gX8_result_X4_resultOf_n185 w_X8_result_8 w_X8_result_9 w_X8_result_10 rfl rfl 45 rfl dX8_result_42 (fun v5 => ?_)
        exact r_ireturn rfl rfl (Nat.le_of_ble_eq_true rfl) (Nat.le_of_ble_eq_true rfl) dX8_result_45
      · refine r_iconst (-1) rfl 37 rfl dX8_result_36 ?_
        exact r_ireturn rfl rfl (Nat.le_of_ble_eq_true rfl) (Nat.le_of_ble_eq_true rfl) dX8_result_37
def Y_X8_parted : z_Y := (RX8, cX8_parted, 4, wsX8_parted, (some .int), { frames := 3, cells := 0, slots := 0, locals := 66 }, 0, 0)
theorem ok_X8_parted : z_Ok yX8_parted Y_X8_parted 2 := ⟨⟨_, rfl⟩, rfl, rfl, rfl, by decide +kernel, by decide +kernel⟩
theorem w_X8_parted_0 : Cond.fieldLink RX8 10 "BunchTimes" "race" "LBunchTimes$Race;" ∈ wsX8_parted := by decide +kernel
theorem w_X8_parted_1 : ∀ w ∈ u_ws RX8 TX8 5, w ∈ wsX8_parted := by decide +kernel
theorem w_X8_parted_2 : Cond.initialized RX3 ∈ wsX8_parted := by decide +kernel
theorem w_X8_parted_3 : Cond.instanceMethod yX3_closedStage ∈ wsX8_parted := by decide +kernel
theorem w_X8_parted_4 : Cond.selects RX3 yX3_closedStage yX3_closedStage ∈ wsX8_parted := by decide +kernel
theorem w_X8_parted_5 : Cond.initialized RX4 ∈ wsX8_parted := by decide +kernel
theorem w_X8_parted_6 : Cond.instanceMethod yX4_countBunches ∈ wsX8_parted := by decide +kernel
theorem w_X8_parted_7 : Cond.selects RX4 yX4_countBunches yX4_countBunches ∈ wsX8_parted := by decide +kernel
def f_X8_parted (d : z_D) (o0 : Nat) (x1 : Int32) (x2 : Int32) : Option Int32 := ((f_X3_closedStage d (o0 + 1) x1).bind fun q2 => z_nul q2 (some (-1)) (fun j1 => ((f_X8_within x2 1 99).bind fun v3 => (if v3 = 0 then (some (-1)) else ((f_X4_countBunches d ((o0 + 1) + 5 + 21 * j1) x2).bind fun v4 => (some v4))))))
set_option maxHeartbeats 4000000 in
set_option maxRecDepth 100000 in
theorem c_X8_parted {E : z_E} {l : Launch} {S : z_S} (d : z_D) (o0 : Nat) (h0 : A_BT S o0) (x1 : Int32) (x2 : Int32) : z_Sp E l yX8_parted Y_X8_parted (cvI S d) [.ref (E.2.1 + o0), .int x1, .int x2] (S, d) (f_X8_parted d o0 x1 x2) := by
  refine z_entry (lv := [(0, .ref (E.2.1 + o0)), (1, .int x1), (2, .int x2)]) (by decide) rfl rfl (Nat.le_of_ble_eq_true rfl) rfl ?_
  unfold f_X8_parted
  refine r_aload_n 0 0 rfl rfl 1 rfl dX8_parted_0 ?_
  refine r_get (h0.1 0 (Nat.le_of_ble_eq_true rfl)) rfl (Nat.le_of_ble_eq_true rfl) rfl rfl w_X8_parted_1 0 (Nat.le_of_ble_eq_true rfl) rfl w_X8_parted_0 (.ref (E.2.1 + (o0 + 1))) rfl 4 rfl dX8_parted_1 ?_
  refine r_iload_n 1 1 rfl rfl 5 rfl dX8_parted_4 ?_
  refine r_callVN_R (c_X3_closedStage (E := E) (l := l) (S := S) d (o0 + 1) (A_BT.race h0) x1) ok_X3_closedStage ⟨⟨(Nat.le_of_ble_eq_true rfl), (Nat.le_of_ble_eq_true rfl)⟩, (Nat.le_of_ble_eq_true rfl), (Nat.le_of_ble_eq_true rfl)⟩ ((A_BT.race h0).1 0 (Nat.le_of_ble_eq_true rfl)) (Nat.le_of_ble_eq_true rfl) rfl rfl rfl (Nat.le_of_ble_eq_true rfl) 72 rfl gX8_parted_X3_closedStage_n166 w_X8_parted_2 w_X8_parted_3 w_X8_parted_4 rfl rfl 8 rfl dX8_parted_5 (fun q2 => ?_)
  refine r_nul ?_ (fun j1 hj1 => ?_)
  · refine r_astore_nN 3 rfl [(3, .null), (0, .ref (E.2.1 + o0)), (1, .int x1), (2, .int x2)] (Nat.le_of_ble_eq_true rfl) rfl 9 rfl dX8_parted_8 ?_
    refine r_aload_nN 3 0 rfl rfl 10 rfl dX8_parted_9 ?_
    refine r_ifnullN 23 rfl dX8_parted_10 ?_
    refine r_iconst (-1) rfl 24 rfl dX8_parted_23 ?_
    refine r_goto 32 rfl dX8_parted_24 ?_
    exact r_ireturn rfl rfl (Nat.le_of_ble_eq_true rfl) (Nat.le_of_ble_eq_true rfl) dX8_parted_32
  · refine r_astore_n 3 rfl [(3, .ref (E.2.1 + ((o0 + 1) + 5 + 21 * j1))), (0, .ref (E.2.1 + o0)), (1, .int x1), (2, .int x2)] (Nat.le_of_ble_eq_true rfl) rfl 9 rfl dX8_parted_8 ?_
    refine r_aload_n 3 0 rfl rfl 10 rfl dX8_parted_9 ?_
    refine r_ifnull 13 rfl dX8_parted_10 ?_
    refine r_iload_n 2 3 rfl rfl 14 rfl dX8_parted_13 ?_
    refine r_iconst 1 rfl 15 rfl dX8_parted_14 ?_
    refine r_bipush 99 rfl 17 rfl dX8_parted_15 ?_
    refine r_callS_I (c_X8_within (E := E) (l := l) (S := S) d x2 1 99) ok_X8_within ⟨⟨(Nat.le_of_ble_eq_true rfl), (Nat.le_of_ble_eq_true rfl)⟩, (Nat.le_of_ble_eq_true rfl), (Nat.le_of_ble_eq_true rfl)⟩ rfl (Nat.le_of_ble_eq_true rfl) gX8_parted_X8_within rfl rfl 20 rfl dX8_parted_17 (fun v3 => ?_)
    refine r_if_ne 27 23 rfl rfl dX8_parted_20 ?_ ?_
    · refine r_aload_n 3 0 rfl rfl 28 rfl dX8_parted_27 ?_
      refine r_iload_n 2 3 rfl rfl 29 rfl dX8_parted_28 ?_
      refine r_callVN_I (c_X4_countBunches (E := E) (l := l) (S := S) d ((o0 + 1) + 5 + 21 * j1) ((A_BT.race h0).2 j1 hj1) x2) ok_X4_countBunches ⟨⟨(Nat.le_of_ble_eq_true rfl), (Nat.le_of_ble_eq_true rfl)⟩, (Nat.le_of_ble_eq_true rfl), (Nat.le_of_ble_eq_true rfl)⟩ (((A_BT.race h0).2 j1 hj1) 0 (Nat.le_of_ble_eq_true rfl)) (Nat.le_of_ble_eq_true rfl) rfl rfl rfl (Nat.le_of_ble_eq_true rfl) 76 rfl gX8_parted_X4_countBunches_n188 w_X8_parted_5 w_X8_parted_6 w_X8_parted_7 rfl rfl 32 rfl dX8_parted_29 (fun v4 => ?_)
      exact r_ireturn rfl rfl (Nat.le_of_ble_eq_true rfl) (Nat.le_of_ble_eq_true rfl) dX8_parted_32
    · refine r_iconst (-1) rfl 24 rfl dX8_parted_23 ?_
      refine r_goto 32 rfl dX8_parted_24 ?_
      exact r_ireturn rfl rfl (Nat.le_of_ble_eq_true rfl) (Nat.le_of_ble_eq_true rfl) dX8_parted_32
def Y_X8_together : z_Y := (RX8, cX8_together, 3, wsX8_together, (some .int), { frames := 2, cells := 0, slots := 0, locals := 43 }, 0, 0)
theorem ok_X8_together : z_Ok yX8_together Y_X8_together 1 := ⟨⟨_, rfl⟩, rfl, rfl, rfl, by decide +kernel, by decide +kernel⟩
theorem w_X8_together_0 : Cond.fieldLink RX8 10 "BunchTimes" "race" "LBunchTimes$Race;" ∈ wsX8_together := by decide +kernel
theorem w_X8_together_1 : ∀ w ∈ u_ws RX8 TX8 5, w ∈ wsX8_together := by decide +kernel
theorem w_X8_together_2 : Cond.initialized RX3 ∈ wsX8_together := by decide +kernel
theorem w_X8_together_3 : Cond.instanceMethod yX3_closedStage ∈ wsX8_together := by decide +kernel
theorem w_X8_together_4 : Cond.selects RX3 yX3_closedStage yX3_closedStage ∈ wsX8_together := by decide +kernel
theorem w_X8_together_5 : Cond.initialized RX4 ∈ wsX8_together := by decide +kernel
theorem w_X8_together_6 : Cond.instanceMethod yX4_joiningGap ∈ wsX8_together := by decide +kernel
theorem w_X8_together_7 : Cond.selects RX4 yX4_joiningGap yX4_joiningGap ∈ wsX8_together := by decide +kernel
def f_X8_together (d : z_D) (o0 : Nat) (x1 : Int32) : Option Int32 := ((f_X3_closedStage d (o0 + 1) x1).bind fun q2 => z_nul q2 (some (-1)) (fun j1 => ((f_X4_joiningGap d ((o0 + 1) + 5 + 21 * j1)).bind fun v3 => (some v3))))
set_option maxHeartbeats 4000000 in
set_option maxRecDepth 100000 in
theorem c_X8_together {E : z_E} {l : Launch} {S : z_S} (d : z_D) (o0 : Nat) (h0 : A_BT S o0) (x1 : Int32) : z_Sp E l yX8_together Y_X8_together (cvI S d) [.ref (E.2.1 + o0), .int x1] (S, d) (f_X8_together d o0 x1) := by
  refine z_entry (lv := [(0, .ref (E.2.1 + o0)), (1, .int x1)]) (by decide) rfl rfl (Nat.le_of_ble_eq_true rfl) rfl ?_
  unfold f_X8_together
  refine r_aload_n 0 0 rfl rfl 1 rfl dX8_together_0 ?_
  refine r_get (h0.1 0 (Nat.le_of_ble_eq_true rfl)) rfl (Nat.le_of_ble_eq_true rfl) rfl rfl w_X8_together_1 0 (Nat.le_of_ble_eq_true rfl) rfl w_X8_together_0 (.ref (E.2.1 + (o0 + 1))) rfl 4 rfl dX8_together_1 ?_
  refine r_iload_n 1 1 rfl rfl 5 rfl dX8_together_4 ?_
  refine r_callVN_R (c_X3_closedStage (E := E) (l := l) (S := S) d (o0 + 1) (A_BT.race h0) x1) ok_X3_closedStage ⟨⟨(Nat.le_of_ble_eq_true rfl), (Nat.le_of_ble_eq_true rfl)⟩, (Nat.le_of_ble_eq_true rfl), (Nat.le_of_ble_eq_true rfl)⟩ ((A_BT.race h0).1 0 (Nat.le_of_ble_eq_true rfl)) (Nat.le_of_ble_eq_true rfl) rfl rfl rfl (Nat.le_of_ble_eq_true rfl) 72 rfl gX8_together_X3_closedStage_n166 w_X8_together_2 w_X8_together_3 w_X8_together_4 rfl rfl 8 rfl dX8_together_5 (fun q2 => ?_)
  refine r_nul ?_ (fun j1 hj1 => ?_)
  · refine r_astore_nN 2 rfl [(2, .null), (0, .ref (E.2.1 + o0)), (1, .int x1)] (Nat.le_of_ble_eq_true rfl) rfl 9 rfl dX8_together_8 ?_
    refine r_aload_nN 2 0 rfl rfl 10 rfl dX8_together_9 ?_
    refine r_ifnonnullN 13 rfl dX8_together_10 ?_
    refine r_iconst (-1) rfl 14 rfl dX8_together_13 ?_
    refine r_goto 21 rfl dX8_together_14 ?_
    exact r_ireturn rfl rfl (Nat.le_of_ble_eq_true rfl) (Nat.le_of_ble_eq_true rfl) dX8_together_21
  · refine r_astore_n 2 rfl [(2, .ref (E.2.1 + ((o0 + 1) + 5 + 21 * j1))), (0, .ref (E.2.1 + o0)), (1, .int x1)] (Nat.le_of_ble_eq_true rfl) rfl 9 rfl dX8_together_8 ?_
    refine r_aload_n 2 0 rfl rfl 10 rfl dX8_together_9 ?_
    refine r_ifnonnull 17 rfl dX8_together_10 ?_
    refine r_aload_n 2 0 rfl rfl 18 rfl dX8_together_17 ?_
    refine r_callVN_I (c_X4_joiningGap (E := E) (l := l) (S := S) d ((o0 + 1) + 5 + 21 * j1) ((A_BT.race h0).2 j1 hj1)) ok_X4_joiningGap ⟨⟨(Nat.le_of_ble_eq_true rfl), (Nat.le_of_ble_eq_true rfl)⟩, (Nat.le_of_ble_eq_true rfl), (Nat.le_of_ble_eq_true rfl)⟩ (((A_BT.race h0).2 j1 hj1) 0 (Nat.le_of_ble_eq_true rfl)) (Nat.le_of_ble_eq_true rfl) rfl rfl rfl (Nat.le_of_ble_eq_true rfl) 77 rfl gX8_together_X4_joiningGap_n191 w_X8_together_5 w_X8_together_6 w_X8_together_7 rfl rfl 21 rfl dX8_together_18 (fun v3 => ?_)
    exact r_ireturn rfl rfl (Nat.le_of_ble_eq_true rfl) (Nat.le_of_ble_eq_true rfl) dX8_together_21
def Y_X8_escaped : z_Y := (RX8, cX8_escaped, 3, wsX8_escaped, (some .int), { frames := 2, cells := 0, slots := 0, locals := 44 }, 0, 0)
theorem ok_X8_escaped : z_Ok yX8_escaped Y_X8_escaped 1 := ⟨⟨_, rfl⟩, rfl, rfl, rfl, by decide +kernel, by decide +kernel⟩
theorem w_X8_escaped_0 : Cond.fieldLink RX8 10 "BunchTimes" "race" "LBunchTimes$Race;" ∈ wsX8_escaped := by decide +kernel
theorem w_X8_escaped_1 : ∀ w ∈ u_ws RX8 TX8 5, w ∈ wsX8_escaped := by decide +kernel
theorem w_X8_escaped_2 : Cond.initialized RX3 ∈ wsX8_escaped := by decide +kernel
theorem w_X8_escaped_3 : Cond.instanceMethod yX3_closedStage ∈ wsX8_escaped := by decide +kernel
theorem w_X8_escaped_4 : Cond.selects RX3 yX3_closedStage yX3_closedStage ∈ wsX8_escaped := by decide +kernel
theorem w_X8_escaped_5 : Cond.initialized RX4 ∈ wsX8_escaped := by decide +kernel
theorem w_X8_escaped_6 : Cond.instanceMethod yX4_aheadOfWidest ∈ wsX8_escaped := by decide +kernel
theorem w_X8_escaped_7 : Cond.selects RX4 yX4_aheadOfWidest yX4_aheadOfWidest ∈ wsX8_escaped := by decide +kernel
def f_X8_escaped (d : z_D) (o0 : Nat) (x1 : Int32) : Option Int32 := ((f_X3_closedStage d (o0 + 1) x1).bind fun q2 => z_nul q2 (some (-1)) (fun j1 => ((f_X4_aheadOfWidest d ((o0 + 1) + 5 + 21 * j1)).bind fun v3 => (some v3))))
set_option maxHeartbeats 4000000 in
set_option maxRecDepth 100000 in
theorem c_X8_escaped {E : z_E} {l : Launch} {S : z_S} (d : z_D) (o0 : Nat) (h0 : A_BT S o0) (x1 : Int32) : z_Sp E l yX8_escaped Y_X8_escaped (cvI S d) [.ref (E.2.1 + o0), .int x1] (S, d) (f_X8_escaped d o0 x1) := by
  refine z_entry (lv := [(0, .ref (E.2.1 + o0)), (1, .int x1)]) (by decide) rfl rfl (Nat.le_of_ble_eq_true rfl) rfl ?_
  unfold f_X8_escaped
  refine r_aload_n 0 0 rfl rfl 1 rfl dX8_escaped_0 ?_
  refine r_get (h0.1 0 (Nat.le_of_ble_eq_true rfl)) rfl (Nat.le_of_ble_eq_true rfl) rfl rfl w_X8_escaped_1 0 (Nat.le_of_ble_eq_true rfl) rfl w_X8_escaped_0 (.ref (E.2.1 + (o0 + 1))) rfl 4 rfl dX8_escaped_1 ?_
  refine r_iload_n 1 1 rfl rfl 5 rfl dX8_escaped_4 ?_
  refine r_callVN_R (c_X3_closedStage (E := E) (l := l) (S := S) d (o0 + 1) (A_BT.race h0) x1) ok_X3_closedStage ⟨⟨(Nat.le_of_ble_eq_true rfl), (Nat.le_of_ble_eq_true rfl)⟩, (Nat.le_of_ble_eq_true rfl), (Nat.le_of_ble_eq_true rfl)⟩ ((A_BT.race h0).1 0 (Nat.le_of_ble_eq_true rfl)) (Nat.le_of_ble_eq_true rfl) rfl rfl rfl (Nat.le_of_ble_eq_true rfl) 72 rfl gX8_escaped_X3_closedStage_n166 w_X8_escaped_2 w_X8_escaped_3 w_X8_escaped_4 rfl rfl 8 rfl dX8_escaped_5 (fun q2 => ?_)
  refine r_nul ?_ (fun j1 hj1 => ?_)
  · refine r_astore_nN 2 rfl [(2, .null), (0, .ref (E.2.1 + o0)), (1, .int x1)] (Nat.le_of_ble_eq_true rfl) rfl 9 rfl dX8_escaped_8 ?_
    refine r_aload_nN 2 0 rfl rfl 10 rfl dX8_escaped_9 ?_
    refine r_ifnonnullN 13 rfl dX8_escaped_10 ?_
    refine r_iconst (-1) rfl 14 rfl dX8_escaped_13 ?_
    refine r_goto 21 rfl dX8_escaped_14 ?_
    exact r_ireturn rfl rfl (Nat.le_of_ble_eq_true rfl) (Nat.le_of_ble_eq_true rfl) dX8_escaped_21
  · refine r_astore_n 2 rfl [(2, .ref (E.2.1 + ((o0 + 1) + 5 + 21 * j1))), (0, .ref (E.2.1 + o0)), (1, .int x1)] (Nat.le_of_ble_eq_true rfl) rfl 9 rfl dX8_escaped_8 ?_
    refine r_aload_n 2 0 rfl rfl 10 rfl dX8_escaped_9 ?_
    refine r_ifnonnull 17 rfl dX8_escaped_10 ?_
    refine r_aload_n 2 0 rfl rfl 18 rfl dX8_escaped_17 ?_
    refine r_callVN_I (c_X4_aheadOfWidest (E := E) (l := l) (S := S) d ((o0 + 1) + 5 + 21 * j1) ((A_BT.race h0).2 j1 hj1)) ok_X4_aheadOfWidest ⟨⟨(Nat.le_of_ble_eq_true rfl), (Nat.le_of_ble_eq_true rfl)⟩, (Nat.le_of_ble_eq_true rfl), (Nat.le_of_ble_eq_true rfl)⟩ (((A_BT.race h0).2 j1 hj1) 0 (Nat.le_of_ble_eq_true rfl)) (Nat.le_of_ble_eq_true rfl) rfl rfl rfl (Nat.le_of_ble_eq_true rfl) 78 rfl gX8_escaped_X4_aheadOfWidest_n194 w_X8_escaped_5 w_X8_escaped_6 w_X8_escaped_7 rfl rfl 21 rfl dX8_escaped_18 (fun v3 => ?_)
    exact r_ireturn rfl rfl (Nat.le_of_ble_eq_true rfl) (Nat.le_of_ble_eq_true rfl) dX8_escaped_21
def Y_X8_list : z_Y := (RX8, cX8_list, 3, wsX8_list, (some .int), { frames := 5, cells := 0, slots := 0, locals := 117 }, 0, 0)
theorem ok_X8_list : z_Ok yX8_list Y_X8_list 2 := ⟨⟨_, rfl⟩, rfl, rfl, rfl, by decide +kernel, by decide +kernel⟩
theorem w_X8_list_0 : Cond.fieldLink RX8 26 "BunchTimes" "standings" "LBunchTimes$Standings;" ∈ wsX8_list := by decide +kernel
theorem w_X8_list_1 : ∀ w ∈ u_ws RX8 TX8 5, w ∈ wsX8_list := by decide +kernel
theorem w_X8_list_2 : Cond.fieldLink RX8 10 "BunchTimes" "race" "LBunchTimes$Race;" ∈ wsX8_list := by decide +kernel
theorem w_X8_list_3 : Cond.initialized RX5 ∈ wsX8_list := by decide +kernel
theorem w_X8_list_4 : Cond.instanceMethod yX5_rankList ∈ wsX8_list := by decide +kernel
theorem w_X8_list_5 : Cond.selects RX5 yX5_rankList yX5_rankList ∈ wsX8_list := by decide +kernel
theorem w_X8_list_6 : Cond.instanceMethod yX5_entry ∈ wsX8_list := by decide +kernel
theorem w_X8_list_7 : Cond.selects RX5 yX5_entry yX5_entry ∈ wsX8_list := by decide +kernel
def f_X8_list (d : z_D) (o0 : Nat) (x1 : Int32) (x2 : Int32) : Option (Int32 × z_D) := ((f_X5_rankList d (o0 + 348) (o0 + 1) x1).bind fun d1 => ((f_X5_entry d1 (o0 + 348) x2).bind fun v2 => (some (v2, d1))))
set_option maxHeartbeats 4000000 in
set_option maxRecDepth 100000 in
theorem c_X8_list {E : z_E} {l : Launch} {S : z_S} (d : z_D) (o0 : Nat) (h0 : A_BT S o0) (x1 : Int32) (x2 : Int32) : z_Sp E l yX8_list Y_X8_list (cvX S) [.ref (E.2.1 + o0), .int x1, .int x2] (S, d) (f_X8_list d o0 x1 x2) := by
  refine z_entry (lv := [(0, .ref (E.2.1 + o0)), (1, .int x1), (2, .int x2)]) (by decide) rfl rfl (Nat.le_of_ble_eq_true rfl) rfl ?_
  unfold f_X8_list
  refine r_aload_n 0 0 rfl rfl 1 rfl dX8_list_0 ?_
  refine r_get (h0.1 0 (Nat.le_of_ble_eq_true rfl)) rfl (Nat.le_of_ble_eq_true rfl) rfl rfl w_X8_list_1 3 (Nat.le_of_ble_eq_true rfl) rfl w_X8_list_0 (.ref (E.2.1 + (o0 + 348))) rfl 4 rfl dX8_list_1 ?_
  refine r_aload_n 0 0 rfl rfl 5 rfl dX8_list_4 ?_
  refine r_get (h0.1 0 (Nat.le_of_ble_eq_true rfl)) rfl (Nat.le_of_ble_eq_true rfl) rfl rfl w_X8_list_1 0 (Nat.le_of_ble_eq_true rfl) rfl w_X8_list_2 (.ref (E.2.1 + (o0 + 1))) rfl 8 rfl dX8_list_5 ?_
  refine r_iload_n 1 1 rfl rfl 9 rfl dX8_list_8 ?_
  refine r_callVN_V (c_X5_rankList (E := E) (l := l) (S := S) d (o0 + 348) (A_BT.standings h0) (o0 + 1) (A_BT.race h0) x1) ok_X5_rankList ⟨⟨(Nat.le_of_ble_eq_true rfl), (Nat.le_of_ble_eq_true rfl)⟩, (Nat.le_of_ble_eq_true rfl), (Nat.le_of_ble_eq_true rfl)⟩ ((A_BT.standings h0) 0 (Nat.le_of_ble_eq_true rfl)) (Nat.le_of_ble_eq_true rfl) rfl rfl rfl (Nat.le_of_ble_eq_true rfl) 79 rfl gX8_list_X5_rankList_n197 w_X8_list_3 w_X8_list_4 w_X8_list_5 rfl rfl 12 rfl dX8_list_9 (fun d1 => ?_)
  refine r_aload_n 0 0 rfl rfl 13 rfl dX8_list_12 ?_
  refine r_get (h0.1 0 (Nat.le_of_ble_eq_true rfl)) rfl (Nat.le_of_ble_eq_true rfl) rfl rfl w_X8_list_1 3 (Nat.le_of_ble_eq_true rfl) rfl w_X8_list_0 (.ref (E.2.1 + (o0 + 348))) rfl 16 rfl dX8_list_13 ?_
  refine r_iload_n 2 2 rfl rfl 17 rfl dX8_list_16 ?_
  refine r_callVN_I (c_X5_entry (E := E) (l := l) (S := S) d1 (o0 + 348) (A_BT.standings h0) x2) ok_X5_entry ⟨⟨(Nat.le_of_ble_eq_true rfl), (Nat.le_of_ble_eq_true rfl)⟩, (Nat.le_of_ble_eq_true rfl), (Nat.le_of_ble_eq_true rfl)⟩ ((A_BT.standings h0) 0 (Nat.le_of_ble_eq_true rfl)) (Nat.le_of_ble_eq_true rfl) rfl rfl rfl (Nat.le_of_ble_eq_true rfl) 90 rfl gX8_list_X5_entry_n201 w_X8_list_3 w_X8_list_6 w_X8_list_7 rfl rfl 20 rfl dX8_list_17 (fun v2 => ?_)
  exact r_ireturn rfl rfl (Nat.le_of_ble_eq_true rfl) (Nat.le_of_ble_eq_true rfl) dX8_list_20
def Y_X8_total : z_Y := (RX8, cX8_total, 3, wsX8_total, (some .int), { frames := 3, cells := 0, slots := 0, locals := 72 }, 0, 0)
theorem ok_X8_total : z_Ok yX8_total Y_X8_total 2 := ⟨⟨_, rfl⟩, rfl, rfl, rfl, by decide +kernel, by decide +kernel⟩
theorem w_X8_total_0 : Cond.fieldLink RX8 10 "BunchTimes" "race" "LBunchTimes$Race;" ∈ wsX8_total := by decide +kernel
theorem w_X8_total_1 : ∀ w ∈ u_ws RX8 TX8 5, w ∈ wsX8_total := by decide +kernel
theorem w_X8_total_2 : Cond.initialized RX3 ∈ wsX8_total := by decide +kernel
theorem w_X8_total_3 : Cond.instanceMethod yX3_isRanked ∈ wsX8_total := by decide +kernel
theorem w_X8_total_4 : Cond.selects RX3 yX3_isRanked yX3_isRanked ∈ wsX8_total := by decide +kernel
theorem w_X8_total_5 : Cond.constant RX8 210 (-1000000) ∈ wsX8_total := by decide +kernel
theorem w_X8_total_6 : Cond.instanceMethod yX3_teamSum ∈ wsX8_total := by decide +kernel
theorem w_X8_total_7 : Cond.selects RX3 yX3_teamSum yX3_teamSum ∈ wsX8_total := by decide +kernel
theorem w_X8_total_8 : Cond.instanceMethod yX3_isIn ∈ wsX8_total := by decide +kernel
theorem w_X8_total_9 : Cond.selects RX3 yX3_isIn yX3_isIn ∈ wsX8_total := by decide +kernel
theorem w_X8_total_10 : Cond.instanceMethod yX3_sumOf ∈ wsX8_total := by decide +kernel
theorem w_X8_total_11 : Cond.selects RX3 yX3_sumOf yX3_sumOf ∈ wsX8_total := by decide +kernel
def f_X8_total (d : z_D) (o0 : Nat) (x1 : Int32) (x2 : Int32) : Option Int32 := (if x2 = 0 then ((f_X3_isIn d (o0 + 1) x1).bind fun v3 => (if v3 = 0 then (some (-1000000)) else ((f_X3_sumOf d (o0 + 1) x1 (-1)).bind fun v4 => (some v4)))) else ((f_X3_isRanked d (o0 + 1) x1).bind fun v1 => (if v1 = 0 then (some (-1000000)) else ((f_X3_teamSum d (o0 + 1) x1).bind fun v2 => (some v2)))))
set_option maxHeartbeats 4000000 in
set_option maxRecDepth 100000 in
theorem c_X8_total {E : z_E} {l : Launch} {S : z_S} (d : z_D) (o0 : Nat) (h0 : A_BT S o0) (x1 : Int32) (x2 : Int32) : z_Sp E l yX8_total Y_X8_total (cvI S d) [.ref (E.2.1 + o0), .int x1, .int x2] (S, d) (f_X8_total d o0 x1 x2) := by
  refine z_entry (lv := [(0, .ref (E.2.1 + o0)), (1, .int x1), (2, .int x2)]) (by decide) rfl rfl (Nat.le_of_ble_eq_true rfl) rfl ?_
  unfold f_X8_total
  refine r_iload_n 2 2 rfl rfl 1 rfl dX8_total_0 ?_
  refine r_if_ne 30 4 rfl rfl dX8_total_1 ?_ ?_
  · refine r_aload_n 0 0 rfl rfl 31 rfl dX8_total_30 ?_
    refine r_get (h0.1 0 (Nat.le_of_ble_eq_true rfl)) rfl (Nat.le_of_ble_eq_true rfl) rfl rfl w_X8_total_1 0 (Nat.le_of_ble_eq_true rfl) rfl w_X8_total_0 (.ref (E.2.1 + (o0 + 1))) rfl 34 rfl dX8_total_31 ?_
    refine r_iload_n 1 1 rfl rfl 35 rfl dX8_total_34 ?_
    refine r_callVN_I (c_X3_isRanked (E := E) (l := l) (S := S) d (o0 + 1) (A_BT.race h0) x1) ok_X3_isRanked ⟨⟨(Nat.le_of_ble_eq_true rfl), (Nat.le_of_ble_eq_true rfl)⟩, (Nat.le_of_ble_eq_true rfl), (Nat.le_of_ble_eq_true rfl)⟩ ((A_BT.race h0).1 0 (Nat.le_of_ble_eq_true rfl)) (Nat.le_of_ble_eq_true rfl) rfl rfl rfl (Nat.le_of_ble_eq_true rfl) 94 rfl gX8_total_X3_isRanked_n211 w_X8_total_2 w_X8_total_3 w_X8_total_4 rfl rfl 38 rfl dX8_total_35 (fun v1 => ?_)
    refine r_if_eq 52 41 rfl rfl dX8_total_38 ?_ ?_
    · refine r_ldc (v := (-1000000)) w_X8_total_5 54 rfl dX8_total_52 ?_
      exact r_ireturn rfl rfl (Nat.le_of_ble_eq_true rfl) (Nat.le_of_ble_eq_true rfl) dX8_total_54
    · refine r_aload_n 0 0 rfl rfl 42 rfl dX8_total_41 ?_
      refine r_get (h0.1 0 (Nat.le_of_ble_eq_true rfl)) rfl (Nat.le_of_ble_eq_true rfl) rfl rfl w_X8_total_1 0 (Nat.le_of_ble_eq_true rfl) rfl w_X8_total_0 (.ref (E.2.1 + (o0 + 1))) rfl 45 rfl dX8_total_42 ?_
      refine r_iload_n 1 1 rfl rfl 46 rfl dX8_total_45 ?_
      refine r_callVN_I (c_X3_teamSum (E := E) (l := l) (S := S) d (o0 + 1) (A_BT.race h0) x1) ok_X3_teamSum ⟨⟨(Nat.le_of_ble_eq_true rfl), (Nat.le_of_ble_eq_true rfl)⟩, (Nat.le_of_ble_eq_true rfl), (Nat.le_of_ble_eq_true rfl)⟩ ((A_BT.race h0).1 0 (Nat.le_of_ble_eq_true rfl)) (Nat.le_of_ble_eq_true rfl) rfl rfl rfl (Nat.le_of_ble_eq_true rfl) 95 rfl gX8_total_X3_teamSum_n214 w_X8_total_2 w_X8_total_6 w_X8_total_7 rfl rfl 49 rfl dX8_total_46 (fun v2 => ?_)
      refine r_goto 54 rfl dX8_total_49 ?_
      exact r_ireturn rfl rfl (Nat.le_of_ble_eq_true rfl) (Nat.le_of_ble_eq_true rfl) dX8_total_54
  · refine r_aload_n 0 0 rfl rfl 5 rfl dX8_total_4 ?_
    refine r_get (h0.1 0 (Nat.le_of_ble_eq_true rfl)) rfl (Nat.le_of_ble_eq_true rfl) rfl rfl w_X8_total_1 0 (Nat.le_of_ble_eq_true rfl) rfl w_X8_total_0 (.ref (E.2.1 + (o0 + 1))) rfl 8 rfl dX8_total_5 ?_
    refine r_iload_n 1 1 rfl rfl 9 rfl dX8_total_8 ?_
    refine r_callVN_I (c_X3_isIn (E := E) (l := l) (S := S) d (o0 + 1) (A_BT.race h0) x1) ok_X3_isIn ⟨⟨(Nat.le_of_ble_eq_true rfl), (Nat.le_of_ble_eq_true rfl)⟩, (Nat.le_of_ble_eq_true rfl), (Nat.le_of_ble_eq_true rfl)⟩ ((A_BT.race h0).1 0 (Nat.le_of_ble_eq_true rfl)) (Nat.le_of_ble_eq_true rfl) rfl rfl rfl (Nat.le_of_ble_eq_true rfl) 92 rfl gX8_total_X3_isIn_n204 w_X8_total_2 w_X8_total_8 w_X8_total_9 rfl rfl 12 rfl dX8_total_9 (fun v3 => ?_)
    refine r_if_eq 27 15 rfl rfl dX8_total_12 ?_ ?_
    · refine r_ldc (v := (-1000000)) w_X8_total_5 29 rfl dX8_total_27 ?_
      exact r_ireturn rfl rfl (Nat.le_of_ble_eq_true rfl) (Nat.le_of_ble_eq_true rfl) dX8_total_29
    · refine r_aload_n 0 0 rfl rfl 16 rfl dX8_total_15 ?_
      refine r_get (h0.1 0 (Nat.le_of_ble_eq_true rfl)) rfl (Nat.le_of_ble_eq_true rfl) rfl rfl w_X8_total_1 0 (Nat.le_of_ble_eq_true rfl) rfl w_X8_total_0 (.ref (E.2.1 + (o0 + 1))) rfl 19 rfl dX8_total_16 ?_
      refine r_iload_n 1 1 rfl rfl 20 rfl dX8_total_19 ?_
      refine r_iconst (-1) rfl 21 rfl dX8_total_20 ?_
      refine r_callVN_I (c_X3_sumOf (E := E) (l := l) (S := S) d (o0 + 1) (A_BT.race h0) x1 (-1)) ok_X3_sumOf ⟨⟨(Nat.le_of_ble_eq_true rfl), (Nat.le_of_ble_eq_true rfl)⟩, (Nat.le_of_ble_eq_true rfl), (Nat.le_of_ble_eq_true rfl)⟩ ((A_BT.race h0).1 0 (Nat.le_of_ble_eq_true rfl)) (Nat.le_of_ble_eq_true rfl) rfl rfl rfl (Nat.le_of_ble_eq_true rfl) 93 rfl gX8_total_X3_sumOf_n207 w_X8_total_2 w_X8_total_10 w_X8_total_11 rfl rfl 24 rfl dX8_total_21 (fun v4 => ?_)
      refine r_goto 29 rfl dX8_total_24 ?_
      exact r_ireturn rfl rfl (Nat.le_of_ble_eq_true rfl) (Nat.le_of_ble_eq_true rfl) dX8_total_29
def Y_X8_jersey : z_Y := (RX8, cX8_jersey, 3, wsX8_jersey, (some .int), { frames := 6, cells := 0, slots := 0, locals := 142 }, 0, 0)
theorem ok_X8_jersey : z_Ok yX8_jersey Y_X8_jersey 2 := ⟨⟨_, rfl⟩, rfl, rfl, rfl, by decide +kernel, by decide +kernel⟩
theorem w_X8_jersey_0 : Cond.fieldLink RX8 26 "BunchTimes" "standings" "LBunchTimes$Standings;" ∈ wsX8_jersey := by decide +kernel
theorem w_X8_jersey_1 : ∀ w ∈ u_ws RX8 TX8 5, w ∈ wsX8_jersey := by decide +kernel
theorem w_X8_jersey_2 : Cond.fieldLink RX8 10 "BunchTimes" "race" "LBunchTimes$Race;" ∈ wsX8_jersey := by decide +kernel
theorem w_X8_jersey_3 : Cond.initialized RX5 ∈ wsX8_jersey := by decide +kernel
theorem w_X8_jersey_4 : Cond.instanceMethod yX5_rankList ∈ wsX8_jersey := by decide +kernel
theorem w_X8_jersey_5 : Cond.selects RX5 yX5_rankList yX5_rankList ∈ wsX8_jersey := by decide +kernel
theorem w_X8_jersey_6 : Cond.instanceMethod yX5_entry ∈ wsX8_jersey := by decide +kernel
theorem w_X8_jersey_7 : Cond.selects RX5 yX5_entry yX5_entry ∈ wsX8_jersey := by decide +kernel
theorem w_X8_jersey_8 : Cond.instanceMethod yX5_wearer ∈ wsX8_jersey := by decide +kernel
theorem w_X8_jersey_9 : Cond.selects RX5 yX5_wearer yX5_wearer ∈ wsX8_jersey := by decide +kernel
def f_X8_jersey (d : z_D) (o0 : Nat) (x1 : Int32) (x2 : Int32) : Option (Int32 × z_D) := ((f_X8_within x1 0 3).bind fun v1 => (if v1 = 0 then (some ((-1), d)) else (if x2 = 0 then z_bX (f_X5_wearer d (o0 + 348) (o0 + 1) x1) (fun v4 d5 => (some (v4, d5))) else ((f_X5_rankList d (o0 + 348) (o0 + 1) x1).bind fun d2 => ((f_X5_entry d2 (o0 + 348) 0).bind fun v3 => (some (v3, d2)))))))
set_option maxHeartbeats 4000000 in
set_option maxRecDepth 100000 in
theorem c_X8_jersey {E : z_E} {l : Launch} {S : z_S} (d : z_D) (o0 : Nat) (h0 : A_BT S o0) (x1 : Int32) (x2 : Int32) : z_Sp E l yX8_jersey Y_X8_jersey (cvX S) [.ref (E.2.1 + o0), .int x1, .int x2] (S, d) (f_X8_jersey d o0 x1 x2) := by
  refine z_entry (lv := [(0, .ref (E.2.1 + o0)), (1, .int x1), (2, .int x2)]) (by decide) rfl rfl (Nat.le_of_ble_eq_true rfl) rfl ?_
  unfold f_X8_jersey
  refine r_iload_n 1 1 rfl rfl 1 rfl dX8_jersey_0 ?_
  refine r_iconst 0 rfl 2 rfl dX8_jersey_1 ?_
  refine r_iconst 3 rfl 3 rfl dX8_jersey_2 ?_
  refine r_callS_I (c_X8_within (E := E) (l := l) (S := S) d x1 0 3) ok_X8_within ⟨⟨(Nat.le_of_ble_eq_true rfl), (Nat.le_of_ble_eq_true rfl)⟩, (Nat.le_of_ble_eq_true rfl), (Nat.le_of_ble_eq_true rfl)⟩ rfl (Nat.le_of_ble_eq_true rfl) gX8_jersey_X8_within rfl rfl 6 rfl dX8_jersey_3 (fun v1 => ?_)
  refine r_if_ne 11 9 rfl rfl dX8_jersey_6 ?_ ?_
  · refine r_iload_n 2 2 rfl rfl 12 rfl dX8_jersey_11 ?_
    refine r_if_ne 28 15 rfl rfl dX8_jersey_12 ?_ ?_
    · refine r_aload_n 0 0 rfl rfl 29 rfl dX8_jersey_28 ?_
      refine r_get (h0.1 0 (Nat.le_of_ble_eq_true rfl)) rfl (Nat.le_of_ble_eq_true rfl) rfl rfl w_X8_jersey_1 3 (Nat.le_of_ble_eq_true rfl) rfl w_X8_jersey_0 (.ref (E.2.1 + (o0 + 348))) rfl 32 rfl dX8_jersey_29 ?_
      refine r_aload_n 0 0 rfl rfl 33 rfl dX8_jersey_32 ?_
      refine r_get (h0.1 0 (Nat.le_of_ble_eq_true rfl)) rfl (Nat.le_of_ble_eq_true rfl) rfl rfl w_X8_jersey_1 0 (Nat.le_of_ble_eq_true rfl) rfl w_X8_jersey_2 (.ref (E.2.1 + (o0 + 1))) rfl 36 rfl dX8_jersey_33 ?_
      refine r_iload_n 1 1 rfl rfl 37 rfl dX8_jersey_36 ?_
      refine r_callVN_V (c_X5_rankList (E := E) (l := l) (S := S) d (o0 + 348) (A_BT.standings h0) (o0 + 1) (A_BT.race h0) x1) ok_X5_rankList ⟨⟨(Nat.le_of_ble_eq_true rfl), (Nat.le_of_ble_eq_true rfl)⟩, (Nat.le_of_ble_eq_true rfl), (Nat.le_of_ble_eq_true rfl)⟩ ((A_BT.standings h0) 0 (Nat.le_of_ble_eq_true rfl)) (Nat.le_of_ble_eq_true rfl) rfl rfl rfl (Nat.le_of_ble_eq_true rfl) 79 rfl gX8_jersey_X5_rankList_n197 w_X8_jersey_3 w_X8_jersey_4 w_X8_jersey_5 rfl rfl 40 rfl dX8_jersey_37 (fun d2 => ?_)
      refine r_aload_n 0 0 rfl rfl 41 rfl dX8_jersey_40 ?_
      refine r_get (h0.1 0 (Nat.le_of_ble_eq_true rfl)) rfl (Nat.le_of_ble_eq_true rfl) rfl rfl w_X8_jersey_1 3 (Nat.le_of_ble_eq_true rfl) rfl w_X8_jersey_0 (.ref (E.2.1 + (o0 + 348))) rfl 44 rfl dX8_jersey_41 ?_
      refine r_iconst 0 rfl 45 rfl dX8_jersey_44 ?_
      refine r_callVN_I (c_X5_entry (E := E) (l := l) (S := S) d2 (o0 + 348) (A_BT.standings h0) 0) ok_X5_entry ⟨⟨(Nat.le_of_ble_eq_true rfl), (Nat.le_of_ble_eq_true rfl)⟩, (Nat.le_of_ble_eq_true rfl), (Nat.le_of_ble_eq_true rfl)⟩ ((A_BT.standings h0) 0 (Nat.le_of_ble_eq_true rfl)) (Nat.le_of_ble_eq_true rfl) rfl rfl rfl (Nat.le_of_ble_eq_true rfl) 90 rfl gX8_jersey_X5_entry_n201 w_X8_jersey_3 w_X8_jersey_6 w_X8_jersey_7 rfl rfl 48 rfl dX8_jersey_45 (fun v3 => ?_)
      exact r_ireturn rfl rfl (Nat.le_of_ble_eq_true rfl) (Nat.le_of_ble_eq_true rfl) dX8_jersey_48
    · refine r_aload_n 0 0 rfl rfl 16 rfl dX8_jersey_15 ?_
      refine r_get (h0.1 0 (Nat.le_of_ble_eq_true rfl)) rfl (Nat.le_of_ble_eq_true rfl) rfl rfl w_X8_jersey_1 3 (Nat.le_of_ble_eq_true rfl) rfl w_X8_jersey_0 (.ref (E.2.1 + (o0 + 348))) rfl 19 rfl dX8_jersey_16 ?_
      refine r_aload_n 0 0 rfl rfl 20 rfl dX8_jersey_19 ?_
      refine r_get (h0.1 0 (Nat.le_of_ble_eq_true rfl)) rfl (Nat.le_of_ble_eq_true rfl) rfl rfl w_X8_jersey_1 0 (Nat.le_of_ble_eq_true rfl) rfl w_X8_jersey_2 (.ref (E.2.1 + (o0 + 1))) rfl 23 rfl dX8_jersey_20 ?_
      refine r_iload_n 1 1 rfl rfl 24 rfl dX8_jersey_23 ?_
      refine r_callVN_X (c_X5_wearer (E := E) (l := l) (S := S) d (o0 + 348) (A_BT.standings h0) (o0 + 1) (A_BT.race h0) x1) ok_X5_wearer ⟨⟨(Nat.le_of_ble_eq_true rfl), (Nat.le_of_ble_eq_true rfl)⟩, (Nat.le_of_ble_eq_true rfl), (Nat.le_of_ble_eq_true rfl)⟩ ((A_BT.standings h0) 0 (Nat.le_of_ble_eq_true rfl)) (Nat.le_of_ble_eq_true rfl) rfl rfl rfl (Nat.le_of_ble_eq_true rfl) 96 rfl gX8_jersey_X5_wearer_n217 w_X8_jersey_3 w_X8_jersey_8 w_X8_jersey_9 rfl rfl 27 rfl dX8_jersey_24 (fun v4 d5 => ?_)
      exact r_ireturn rfl rfl (Nat.le_of_ble_eq_true rfl) (Nat.le_of_ble_eq_true rfl) dX8_jersey_27
  · refine r_iconst (-1) rfl 10 rfl dX8_jersey_9 ?_
    exact r_ireturn rfl rfl (Nat.le_of_ble_eq_true rfl) (Nat.le_of_ble_eq_true rfl) dX8_jersey_10
def Y_X8_needs : z_Y := (RX8, cX8_needs, 2, wsX8_needs, (some .int), { frames := 3, cells := 0, slots := 0, locals := 69 }, 0, 0)
theorem ok_X8_needs : z_Ok yX8_needs Y_X8_needs 1 := ⟨⟨_, rfl⟩, rfl, rfl, rfl, by decide +kernel, by decide +kernel⟩
theorem w_X8_needs_0 : Cond.fieldLink RX8 10 "BunchTimes" "race" "LBunchTimes$Race;" ∈ wsX8_needs := by decide +kernel
theorem w_X8_needs_1 : ∀ w ∈ u_ws RX8 TX8 5, w ∈ wsX8_needs := by decide +kernel
theorem w_X8_needs_2 : Cond.initialized RX3 ∈ wsX8_needs := by decide +kernel
theorem w_X8_needs_3 : Cond.instanceMethod yX3_isIn ∈ wsX8_needs := by decide +kernel
theorem w_X8_needs_4 : Cond.selects RX3 yX3_isIn yX3_isIn ∈ wsX8_needs := by decide +kernel
theorem w_X8_needs_5 : Cond.instanceMethod yX3_closed ∈ wsX8_needs := by decide +kernel
theorem w_X8_needs_6 : Cond.selects RX3 yX3_closed yX3_closed ∈ wsX8_needs := by decide +kernel
theorem w_X8_needs_7 : Cond.fieldLink RX8 26 "BunchTimes" "standings" "LBunchTimes$Standings;" ∈ wsX8_needs := by decide +kernel
theorem w_X8_needs_8 : Cond.initialized RX5 ∈ wsX8_needs := by decide +kernel
theorem w_X8_needs_9 : Cond.instanceMethod yX5_rankRiders ∈ wsX8_needs := by decide +kernel
theorem w_X8_needs_10 : Cond.selects RX5 yX5_rankRiders yX5_rankRiders ∈ wsX8_needs := by decide +kernel
theorem w_X8_needs_11 : Cond.instanceMethod yX5_lacking ∈ wsX8_needs := by decide +kernel
theorem w_X8_needs_12 : Cond.selects RX5 yX5_lacking yX5_lacking ∈ wsX8_needs := by decide +kernel
def f_X8_needs (d : z_D) (o0 : Nat) (x1 : Int32) : Option (Int32 × z_D) := ((f_X3_isIn d (o0 + 1) x1).bind fun v1 => (if v1 = 0 then (some ((-1), d)) else ((f_X3_closed d (o0 + 1)).bind fun v2 => (if v2 = 0 then (some ((-1), d)) else ((f_X5_rankRiders d (o0 + 348) (o0 + 1) (-1) 50).bind fun d3 => ((f_X5_lacking d3 (o0 + 348) x1).bind fun v4 => (some (v4, d3))))))))
set_option maxHeartbeats 4000000 in
set_option maxRecDepth 100000 in
theorem c_X8_needs {E : z_E} {l : Launch} {S : z_S} (d : z_D) (o0 : Nat) (h0 : A_BT S o0) (x1 : Int32) : z_Sp E l yX8_needs Y_X8_needs (cvX S) [.ref (E.2.1 + o0), .int x1] (S, d) (f_X8_needs d o0 x1) := by
  refine z_entry (lv := [(0, .ref (E.2.1 + o0)), (1, .int x1)]) (by decide) rfl rfl (Nat.le_of_ble_eq_true rfl) rfl ?_
  unfold f_X8_needs
  refine r_aload_n 0 0 rfl rfl 1 rfl dX8_needs_0 ?_
  refine r_get (h0.1 0 (Nat.le_of_ble_eq_true rfl)) rfl (Nat.le_of_ble_eq_true rfl) rfl rfl w_X8_needs_1 0 (Nat.le_of_ble_eq_true rfl) rfl w_X8_needs_0 (.ref (E.2.1 + (o0 + 1))) rfl 4 rfl dX8_needs_1 ?_
  refine r_iload_n 1 1 rfl rfl 5 rfl dX8_needs_4 ?_
  refine r_callVN_I (c_X3_isIn (E := E) (l := l) (S := S) d (o0 + 1) (A_BT.race h0) x1) ok_X3_isIn ⟨⟨(Nat.le_of_ble_eq_true rfl), (Nat.le_of_ble_eq_true rfl)⟩, (Nat.le_of_ble_eq_true rfl), (Nat.le_of_ble_eq_true rfl)⟩ ((A_BT.race h0).1 0 (Nat.le_of_ble_eq_true rfl)) (Nat.le_of_ble_eq_true rfl) rfl rfl rfl (Nat.le_of_ble_eq_true rfl) 92 rfl gX8_needs_X3_isIn_n204 w_X8_needs_2 w_X8_needs_3 w_X8_needs_4 rfl rfl 8 rfl dX8_needs_5 (fun v1 => ?_)
  refine r_if_eq 21 11 rfl rfl dX8_needs_8 ?_ ?_
  · refine r_iconst (-1) rfl 22 rfl dX8_needs_21 ?_
    exact r_ireturn rfl rfl (Nat.le_of_ble_eq_true rfl) (Nat.le_of_ble_eq_true rfl) dX8_needs_22
  · refine r_aload_n 0 0 rfl rfl 12 rfl dX8_needs_11 ?_
    refine r_get (h0.1 0 (Nat.le_of_ble_eq_true rfl)) rfl (Nat.le_of_ble_eq_true rfl) rfl rfl w_X8_needs_1 0 (Nat.le_of_ble_eq_true rfl) rfl w_X8_needs_0 (.ref (E.2.1 + (o0 + 1))) rfl 15 rfl dX8_needs_12 ?_
    refine r_callVN_I (c_X3_closed (E := E) (l := l) (S := S) d (o0 + 1) (A_BT.race h0)) ok_X3_closed ⟨⟨(Nat.le_of_ble_eq_true rfl), (Nat.le_of_ble_eq_true rfl)⟩, (Nat.le_of_ble_eq_true rfl), (Nat.le_of_ble_eq_true rfl)⟩ ((A_BT.race h0).1 0 (Nat.le_of_ble_eq_true rfl)) (Nat.le_of_ble_eq_true rfl) rfl rfl rfl (Nat.le_of_ble_eq_true rfl) 69 rfl gX8_needs_X3_closed_n137 w_X8_needs_2 w_X8_needs_5 w_X8_needs_6 rfl rfl 18 rfl dX8_needs_15 (fun v2 => ?_)
    refine r_if_ne 23 21 rfl rfl dX8_needs_18 ?_ ?_
    · refine r_aload_n 0 0 rfl rfl 24 rfl dX8_needs_23 ?_
      refine r_get (h0.1 0 (Nat.le_of_ble_eq_true rfl)) rfl (Nat.le_of_ble_eq_true rfl) rfl rfl w_X8_needs_1 3 (Nat.le_of_ble_eq_true rfl) rfl w_X8_needs_7 (.ref (E.2.1 + (o0 + 348))) rfl 27 rfl dX8_needs_24 ?_
      refine r_aload_n 0 0 rfl rfl 28 rfl dX8_needs_27 ?_
      refine r_get (h0.1 0 (Nat.le_of_ble_eq_true rfl)) rfl (Nat.le_of_ble_eq_true rfl) rfl rfl w_X8_needs_1 0 (Nat.le_of_ble_eq_true rfl) rfl w_X8_needs_0 (.ref (E.2.1 + (o0 + 1))) rfl 31 rfl dX8_needs_28 ?_
      refine r_iconst (-1) rfl 32 rfl dX8_needs_31 ?_
      refine r_bipush 50 rfl 34 rfl dX8_needs_32 ?_
      refine r_callVN_V (c_X5_rankRiders (E := E) (l := l) (S := S) d (o0 + 348) (A_BT.standings h0) (o0 + 1) (A_BT.race h0) (-1) 50) ok_X5_rankRiders ⟨⟨(Nat.le_of_ble_eq_true rfl), (Nat.le_of_ble_eq_true rfl)⟩, (Nat.le_of_ble_eq_true rfl), (Nat.le_of_ble_eq_true rfl)⟩ ((A_BT.standings h0) 0 (Nat.le_of_ble_eq_true rfl)) (Nat.le_of_ble_eq_true rfl) rfl rfl rfl (Nat.le_of_ble_eq_true rfl) 97 rfl gX8_needs_X5_rankRiders_n221 w_X8_needs_8 w_X8_needs_9 w_X8_needs_10 rfl rfl 37 rfl dX8_needs_34 (fun d3 => ?_)
      refine r_aload_n 0 0 rfl rfl 38 rfl dX8_needs_37 ?_
      refine r_get (h0.1 0 (Nat.le_of_ble_eq_true rfl)) rfl (Nat.le_of_ble_eq_true rfl) rfl rfl w_X8_needs_1 3 (Nat.le_of_ble_eq_true rfl) rfl w_X8_needs_7 (.ref (E.2.1 + (o0 + 348))) rfl 41 rfl dX8_needs_38 ?_
      refine r_iload_n 1 1 rfl rfl 42 rfl dX8_needs_41 ?_
      refine r_callVN_I (c_X5_lacking (E := E) (l := l) (S := S) d3 (o0 + 348) (A_BT.standings h0) x1) ok_X5_lacking ⟨⟨(Nat.le_of_ble_eq_true rfl), (Nat.le_of_ble_eq_true rfl)⟩, (Nat.le_of_ble_eq_true rfl), (Nat.le_of_ble_eq_true rfl)⟩ ((A_BT.standings h0) 0 (Nat.le_of_ble_eq_true rfl)) (Nat.le_of_ble_eq_true rfl) rfl rfl rfl (Nat.le_of_ble_eq_true rfl) 98 rfl gX8_needs_X5_lacking_n225 w_X8_needs_8 w_X8_needs_11 w_X8_needs_12 rfl rfl 45 rfl dX8_needs_42 (fun v4 => ?_)
      exact r_ireturn rfl rfl (Nat.le_of_ble_eq_true rfl) (Nat.le_of_ble_eq_true rfl) dX8_needs_45
    · refine r_iconst (-1) rfl 22 rfl dX8_needs_21 ?_
      exact r_ireturn rfl rfl (Nat.le_of_ble_eq_true rfl) (Nat.le_of_ble_eq_true rfl) dX8_needs_22
def Y_X8_without : z_Y := (RX8, cX8_without, 2, wsX8_without, (some .int), { frames := 3, cells := 0, slots := 0, locals := 69 }, 0, 0)
theorem ok_X8_without : z_Ok yX8_without Y_X8_without 1 := ⟨⟨_, rfl⟩, rfl, rfl, rfl, by decide +kernel, by decide +kernel⟩
theorem w_X8_without_0 : Cond.fieldLink RX8 10 "BunchTimes" "race" "LBunchTimes$Race;" ∈ wsX8_without := by decide +kernel
theorem w_X8_without_1 : ∀ w ∈ u_ws RX8 TX8 5, w ∈ wsX8_without := by decide +kernel
theorem w_X8_without_2 : Cond.initialized RX3 ∈ wsX8_without := by decide +kernel
theorem w_X8_without_3 : Cond.instanceMethod yX3_closedStage ∈ wsX8_without := by decide +kernel
theorem w_X8_without_4 : Cond.selects RX3 yX3_closedStage yX3_closedStage ∈ wsX8_without := by decide +kernel
theorem w_X8_without_5 : Cond.fieldLink RX8 26 "BunchTimes" "standings" "LBunchTimes$Standings;" ∈ wsX8_without := by decide +kernel
theorem w_X8_without_6 : Cond.initialized RX5 ∈ wsX8_without := by decide +kernel
theorem w_X8_without_7 : Cond.instanceMethod yX5_rankRiders ∈ wsX8_without := by decide +kernel
theorem w_X8_without_8 : Cond.selects RX5 yX5_rankRiders yX5_rankRiders ∈ wsX8_without := by decide +kernel
theorem w_X8_without_9 : Cond.instanceMethod yX5_entry ∈ wsX8_without := by decide +kernel
theorem w_X8_without_10 : Cond.selects RX5 yX5_entry yX5_entry ∈ wsX8_without := by decide +kernel
def f_X8_without (d : z_D) (o0 : Nat) (x1 : Int32) : Option (Int32 × z_D) := ((f_X3_closedStage d (o0 + 1) x1).bind fun q2 => z_nul q2 (some ((-1), d)) (fun j1 => ((f_X5_rankRiders d (o0 + 348) (o0 + 1) x1 50).bind fun d3 => ((f_X5_entry d3 (o0 + 348) 0).bind fun v4 => (some (v4, d3))))))
set_option maxHeartbeats 4000000 in
set_option maxRecDepth 100000 in
theorem c_X8_without {E : z_E} {l : Launch} {S : z_S} (d : z_D) (o0 : Nat) (h0 : A_BT S o0) (x1 : Int32) : z_Sp E l yX8_without Y_X8_without (cvX S) [.ref (E.2.1 + o0), .int x1] (S, d) (f_X8_without d o0 x1) := by
  refine z_entry (lv := [(0, .ref (E.2.1 + o0)), (1, .int x1)]) (by decide) rfl rfl (Nat.le_of_ble_eq_true rfl) rfl ?_
  unfold f_X8_without
  refine r_aload_n 0 0 rfl rfl 1 rfl dX8_without_0 ?_
  refine r_get (h0.1 0 (Nat.le_of_ble_eq_true rfl)) rfl (Nat.le_of_ble_eq_true rfl) rfl rfl w_X8_without_1 0 (Nat.le_of_ble_eq_true rfl) rfl w_X8_without_0 (.ref (E.2.1 + (o0 + 1))) rfl 4 rfl dX8_without_1 ?_
  refine r_iload_n 1 1 rfl rfl 5 rfl dX8_without_4 ?_
  refine r_callVN_R (c_X3_closedStage (E := E) (l := l) (S := S) d (o0 + 1) (A_BT.race h0) x1) ok_X3_closedStage ⟨⟨(Nat.le_of_ble_eq_true rfl), (Nat.le_of_ble_eq_true rfl)⟩, (Nat.le_of_ble_eq_true rfl), (Nat.le_of_ble_eq_true rfl)⟩ ((A_BT.race h0).1 0 (Nat.le_of_ble_eq_true rfl)) (Nat.le_of_ble_eq_true rfl) rfl rfl rfl (Nat.le_of_ble_eq_true rfl) 72 rfl gX8_without_X3_closedStage_n166 w_X8_without_2 w_X8_without_3 w_X8_without_4 rfl rfl 8 rfl dX8_without_5 (fun q2 => ?_)
  refine r_nul ?_ (fun j1 hj1 => ?_)
  · refine r_ifnonnullN 11 rfl dX8_without_8 ?_
    refine r_iconst (-1) rfl 12 rfl dX8_without_11 ?_
    exact r_ireturn rfl rfl (Nat.le_of_ble_eq_true rfl) (Nat.le_of_ble_eq_true rfl) dX8_without_12
  · refine r_ifnonnull 13 rfl dX8_without_8 ?_
    refine r_aload_n 0 0 rfl rfl 14 rfl dX8_without_13 ?_
    refine r_get (h0.1 0 (Nat.le_of_ble_eq_true rfl)) rfl (Nat.le_of_ble_eq_true rfl) rfl rfl w_X8_without_1 3 (Nat.le_of_ble_eq_true rfl) rfl w_X8_without_5 (.ref (E.2.1 + (o0 + 348))) rfl 17 rfl dX8_without_14 ?_
    refine r_aload_n 0 0 rfl rfl 18 rfl dX8_without_17 ?_
    refine r_get (h0.1 0 (Nat.le_of_ble_eq_true rfl)) rfl (Nat.le_of_ble_eq_true rfl) rfl rfl w_X8_without_1 0 (Nat.le_of_ble_eq_true rfl) rfl w_X8_without_0 (.ref (E.2.1 + (o0 + 1))) rfl 21 rfl dX8_without_18 ?_
    refine r_iload_n 1 1 rfl rfl 22 rfl dX8_without_21 ?_
    refine r_bipush 50 rfl 24 rfl dX8_without_22 ?_
    refine r_callVN_V (c_X5_rankRiders (E := E) (l := l) (S := S) d (o0 + 348) (A_BT.standings h0) (o0 + 1) (A_BT.race h0) x1 50) ok_X5_rankRiders ⟨⟨(Nat.le_of_ble_eq_true rfl), (Nat.le_of_ble_eq_true rfl)⟩, (Nat.le_of_ble_eq_true rfl), (Nat.le_of_ble_eq_true rfl)⟩ ((A_BT.standings h0) 0 (Nat.le_of_ble_eq_true rfl)) (Nat.le_of_ble_eq_true rfl) rfl rfl rfl (Nat.le_of_ble_eq_true rfl) 97 rfl gX8_without_X5_rankRiders_n221 w_X8_without_6 w_X8_without_7 w_X8_without_8 rfl rfl 27 rfl dX8_without_24 (fun d3 => ?_)
    refine r_aload_n 0 0 rfl rfl 28 rfl dX8_without_27 ?_
    refine r_get (h0.1 0 (Nat.le_of_ble_eq_true rfl)) rfl (Nat.le_of_ble_eq_true rfl) rfl rfl w_X8_without_1 3 (Nat.le_of_ble_eq_true rfl) rfl w_X8_without_5 (.ref (E.2.1 + (o0 + 348))) rfl 31 rfl dX8_without_28 ?_
    refine r_iconst 0 rfl 32 rfl dX8_without_31 ?_
    refine r_callVN_I (c_X5_entry (E := E) (l := l) (S := S) d3 (o0 + 348) (A_BT.standings h0) 0) ok_X5_entry ⟨⟨(Nat.le_of_ble_eq_true rfl), (Nat.le_of_ble_eq_true rfl)⟩, (Nat.le_of_ble_eq_true rfl), (Nat.le_of_ble_eq_true rfl)⟩ ((A_BT.standings h0) 0 (Nat.le_of_ble_eq_true rfl)) (Nat.le_of_ble_eq_true rfl) rfl rfl rfl (Nat.le_of_ble_eq_true rfl) 90 rfl gX8_without_X5_entry_n201 w_X8_without_6 w_X8_without_9 w_X8_without_10 rfl rfl 35 rfl dX8_without_32 (fun v4 => ?_)
    exact r_ireturn rfl rfl (Nat.le_of_ble_eq_true rfl) (Nat.le_of_ble_eq_true rfl) dX8_without_35
def Y_X8_caught : z_Y := (RX8, cX8_caught, 5, wsX8_caught, (some .int), { frames := 3, cells := 0, slots := 0, locals := 72 }, 0, 0)
theorem ok_X8_caught : z_Ok yX8_caught Y_X8_caught 4 := ⟨⟨_, rfl⟩, rfl, rfl, rfl, by decide +kernel, by decide +kernel⟩
theorem w_X8_caught_0 : Cond.initialized RX0 ∈ wsX8_caught := by decide +kernel
theorem w_X8_caught_1 : Cond.static yX0_canBe ∈ wsX8_caught := by decide +kernel
theorem w_X8_caught_2 : Cond.static yX0_metresLeft ∈ wsX8_caught := by decide +kernel
def f_X8_caught (o0 : Nat) (x1 : Int32) (x2 : Int32) (x3 : Int32) (x4 : Int32) : Option Int32 := ((f_X0_canBe x1 x3 x4).bind fun v1 => (if v1 = 0 then (some (-1)) else ((f_X8_within x2 0 3600).bind fun v2 => (if v2 = 0 then (some (-1)) else ((f_X0_metresLeft x1 x2 x3 x4).bind fun v3 => (some v3))))))
set_option maxHeartbeats 4000000 in
set_option maxRecDepth 100000 in
theorem c_X8_caught {E : z_E} {l : Launch} {S : z_S} (d : z_D) (o0 : Nat) (h0 : A_BT S o0) (x1 : Int32) (x2 : Int32) (x3 : Int32) (x4 : Int32) : z_Sp E l yX8_caught Y_X8_caught (cvI S d) [.ref (E.2.1 + o0), .int x1, .int x2, .int x3, .int x4] (S, d) (f_X8_caught o0 x1 x2 x3 x4) := by
  refine z_entry (lv := [(0, .ref (E.2.1 + o0)), (1, .int x1), (2, .int x2), (3, .int x3), (4, .int x4)]) (by decide) rfl rfl (Nat.le_of_ble_eq_true rfl) rfl ?_
  unfold f_X8_caught
  refine r_iload_n 1 1 rfl rfl 1 rfl dX8_caught_0 ?_
  refine r_iload_n 3 3 rfl rfl 2 rfl dX8_caught_1 ?_
  refine r_iload 4 4 rfl 4 rfl dX8_caught_2 ?_
  refine r_callSN_I (c_X0_canBe (E := E) (l := l) (S := S) d x1 x3 x4) ok_X0_canBe ⟨⟨(Nat.le_of_ble_eq_true rfl), (Nat.le_of_ble_eq_true rfl)⟩, (Nat.le_of_ble_eq_true rfl), (Nat.le_of_ble_eq_true rfl)⟩ rfl (Nat.le_of_ble_eq_true rfl) 99 rfl gX8_caught_X0_canBe_n228 w_X8_caught_0 w_X8_caught_1 rfl rfl 7 rfl dX8_caught_4 (fun v1 => ?_)
  refine r_if_eq 21 10 rfl rfl dX8_caught_7 ?_ ?_
  · refine r_iconst (-1) rfl 22 rfl dX8_caught_21 ?_
    exact r_ireturn rfl rfl (Nat.le_of_ble_eq_true rfl) (Nat.le_of_ble_eq_true rfl) dX8_caught_22
  · refine r_iload_n 2 2 rfl rfl 11 rfl dX8_caught_10 ?_
    refine r_iconst 0 rfl 12 rfl dX8_caught_11 ?_
    refine r_sipush 3600 rfl 15 rfl dX8_caught_12 ?_
    refine r_callS_I (c_X8_within (E := E) (l := l) (S := S) d x2 0 3600) ok_X8_within ⟨⟨(Nat.le_of_ble_eq_true rfl), (Nat.le_of_ble_eq_true rfl)⟩, (Nat.le_of_ble_eq_true rfl), (Nat.le_of_ble_eq_true rfl)⟩ rfl (Nat.le_of_ble_eq_true rfl) gX8_caught_X8_within rfl rfl 18 rfl dX8_caught_15 (fun v2 => ?_)
    refine r_if_ne 23 21 rfl rfl dX8_caught_18 ?_ ?_
    · refine r_iload_n 1 1 rfl rfl 24 rfl dX8_caught_23 ?_
      refine r_iload_n 2 2 rfl rfl 25 rfl dX8_caught_24 ?_
      refine r_iload_n 3 3 rfl rfl 26 rfl dX8_caught_25 ?_
      refine r_iload 4 4 rfl 28 rfl dX8_caught_26 ?_
      refine r_callSN_I (c_X0_metresLeft (E := E) (l := l) (S := S) d x1 x2 x3 x4) ok_X0_metresLeft ⟨⟨(Nat.le_of_ble_eq_true rfl), (Nat.le_of_ble_eq_true rfl)⟩, (Nat.le_of_ble_eq_true rfl), (Nat.le_of_ble_eq_true rfl)⟩ rfl (Nat.le_of_ble_eq_true rfl) 101 rfl gX8_caught_X0_metresLeft_n233 w_X8_caught_0 w_X8_caught_2 rfl rfl 31 rfl dX8_caught_28 (fun v3 => ?_)
      exact r_ireturn rfl rfl (Nat.le_of_ble_eq_true rfl) (Nat.le_of_ble_eq_true rfl) dX8_caught_31
    · refine r_iconst (-1) rfl 22 rfl dX8_caught_21 ?_
      exact r_ireturn rfl rfl (Nat.le_of_ble_eq_true rfl) (Nat.le_of_ble_eq_true rfl) dX8_caught_22
def Y_X8_holds : z_Y := (RX8, cX8_holds, 4, wsX8_holds, (some .int), { frames := 3, cells := 0, slots := 0, locals := 69 }, 0, 0)
theorem ok_X8_holds : z_Ok yX8_holds Y_X8_holds 3 := ⟨⟨_, rfl⟩, rfl, rfl, rfl, by decide +kernel, by decide +kernel⟩
theorem w_X8_holds_0 : Cond.initialized RX0 ∈ wsX8_holds := by decide +kernel
theorem w_X8_holds_1 : Cond.static yX0_canBe ∈ wsX8_holds := by decide +kernel
theorem w_X8_holds_2 : Cond.static yX0_leastAhead ∈ wsX8_holds := by decide +kernel
def f_X8_holds (o0 : Nat) (x1 : Int32) (x2 : Int32) (x3 : Int32) : Option Int32 := ((f_X0_canBe x1 x2 x3).bind fun v1 => (if v1 = 0 then (some (-1)) else ((f_X0_leastAhead x1 x2 x3).bind fun v2 => (some v2))))
set_option maxHeartbeats 4000000 in
set_option maxRecDepth 100000 in
theorem c_X8_holds {E : z_E} {l : Launch} {S : z_S} (d : z_D) (o0 : Nat) (h0 : A_BT S o0) (x1 : Int32) (x2 : Int32) (x3 : Int32) : z_Sp E l yX8_holds Y_X8_holds (cvI S d) [.ref (E.2.1 + o0), .int x1, .int x2, .int x3] (S, d) (f_X8_holds o0 x1 x2 x3) := by
  refine z_entry (lv := [(0, .ref (E.2.1 + o0)), (1, .int x1), (2, .int x2), (3, .int x3)]) (by decide) rfl rfl (Nat.le_of_ble_eq_true rfl) rfl ?_
  unfold f_X8_holds
  refine r_iload_n 1 1 rfl rfl 1 rfl dX8_holds_0 ?_
  refine r_iload_n 2 2 rfl rfl 2 rfl dX8_holds_1 ?_
  refine r_iload_n 3 3 rfl rfl 3 rfl dX8_holds_2 ?_
  refine r_callSN_I (c_X0_canBe (E := E) (l := l) (S := S) d x1 x2 x3) ok_X0_canBe ⟨⟨(Nat.le_of_ble_eq_true rfl), (Nat.le_of_ble_eq_true rfl)⟩, (Nat.le_of_ble_eq_true rfl), (Nat.le_of_ble_eq_true rfl)⟩ rfl (Nat.le_of_ble_eq_true rfl) 99 rfl gX8_holds_X0_canBe_n228 w_X8_holds_0 w_X8_holds_1 rfl rfl 6 rfl dX8_holds_3 (fun v1 => ?_)
  refine r_if_eq 18 9 rfl rfl dX8_holds_6 ?_ ?_
  · refine r_iconst (-1) rfl 19 rfl dX8_holds_18 ?_
    exact r_ireturn rfl rfl (Nat.le_of_ble_eq_true rfl) (Nat.le_of_ble_eq_true rfl) dX8_holds_19
  · refine r_iload_n 1 1 rfl rfl 10 rfl dX8_holds_9 ?_
    refine r_iload_n 2 2 rfl rfl 11 rfl dX8_holds_10 ?_
    refine r_iload_n 3 3 rfl rfl 12 rfl dX8_holds_11 ?_
    refine r_callSN_I (c_X0_leastAhead (E := E) (l := l) (S := S) d x1 x2 x3) ok_X0_leastAhead ⟨⟨(Nat.le_of_ble_eq_true rfl), (Nat.le_of_ble_eq_true rfl)⟩, (Nat.le_of_ble_eq_true rfl), (Nat.le_of_ble_eq_true rfl)⟩ rfl (Nat.le_of_ble_eq_true rfl) 102 rfl gX8_holds_X0_leastAhead_n237 w_X8_holds_0 w_X8_holds_2 rfl rfl 15 rfl dX8_holds_12 (fun v2 => ?_)
    refine r_goto 19 rfl dX8_holds_15 ?_
    exact r_ireturn rfl rfl (Nat.le_of_ble_eq_true rfl) (Nat.le_of_ble_eq_true rfl) dX8_holds_19
def Y_X8_chase : z_Y := (RX8, cX8_chase, 5, wsX8_chase, (some .int), { frames := 4, cells := 0, slots := 0, locals := 96 }, 0, 0)
theorem ok_X8_chase : z_Ok yX8_chase Y_X8_chase 3 := ⟨⟨_, rfl⟩, rfl, rfl, rfl, by decide +kernel, by decide +kernel⟩
def f_X8_chase_L3_b (o0 : Nat) (x1 : Int32) (x2 : Int32) (x3 : Int32) (K : Unit → Option Int32) (R : Int32 → Option Int32) (x4 : Int32) : Option Int32 := (if 16 < x4 then (K ()) else ((f_X8_caught o0 x1 x2 x3 x4).bind fun v1 => (if v1 = (-1) then (R (x4 + 1)) else (some x4))))
def f_X8_chase_L3 (o0 : Nat) (x1 : Int32) (x2 : Int32) (x3 : Int32) (K : Unit → Option Int32) : Nat → Int32 → Option Int32
  | 0 => fun _ => none
  | n + 1 => f_X8_chase_L3_b o0 x1 x2 x3 K (f_X8_chase_L3 o0 x1 x2 x3 K n)
set_option maxHeartbeats 4000000 in
set_option maxRecDepth 100000 in
theorem g_X8_chase_L3 {E : z_E} {l : Launch} {S : z_S} {d : z_D} {o0 : Nat} {x1 : Int32} {x2 : Int32} {x3 : Int32} {K : Unit → Option Int32} (h0 : A_BT S o0) (hK : ∀ y9 : Unit, z_G E l Y_X8_chase (cvI S d) (K y9) 32 [] [] (S, d) 0 0) : ∀ (n : Nat) (x4 : Int32), z_G E l Y_X8_chase (cvI S d) (f_X8_chase_L3 o0 x1 x2 x3 K n x4) 3 [(0, .ref (E.2.1 + o0)), (1, .int x1), (2, .int x2), (3, .int x3), (4, .int x4)] [] (S, d) 0 0 := by
  intro n
  induction n with
  | zero => intro _; exact r_none
  | succ n ih =>
    intro x4
    show z_G E l Y_X8_chase (cvI S d) (f_X8_chase_L3_b o0 x1 x2 x3 K (f_X8_chase_L3 o0 x1 x2 x3 K n) x4) 3 [(0, .ref (E.2.1 + o0)), (1, .int x1), (2, .int x2), (3, .int x3), (4, .int x4)] [] (S, d) 0 0
    unfold f_X8_chase_L3_b
    refine r_iload 4 4 rfl 5 rfl dX8_chase_3 ?_
    refine r_bipush 16 rfl 7 rfl dX8_chase_5 ?_
    refine r_icmp_gt 32 10 rfl rfl dX8_chase_7 ?_ ?_
    · refine r_sub [] rfl ?_
      exact hK ()
    · refine r_aload_n 0 0 rfl rfl 11 rfl dX8_chase_10 ?_
      refine r_iload_n 1 1 rfl rfl 12 rfl dX8_chase_11 ?_
      refine r_iload_n 2 2 rfl rfl 13 rfl dX8_chase_12 ?_
      refine r_iload_n 3 3 rfl rfl 14 rfl dX8_chase_13 ?_
      refine r_iload 4 4 rfl 16 rfl dX8_chase_14 ?_
      refine r_callV_I (c_X8_caught (E := E) (l := l) (S := S) d o0 h0 x1 x2 x3 x4) ok_X8_caught ⟨⟨(Nat.le_of_ble_eq_true rfl), (Nat.le_of_ble_eq_true rfl)⟩, (Nat.le_of_ble_eq_true rfl), (Nat.le_of_ble_eq_true rfl)⟩ (h0.1 0 (Nat.le_of_ble_eq_true rfl)) (Nat.le_of_ble_eq_true rfl) rfl rfl rfl (Nat.le_of_ble_eq_true rfl) gX8_chase_X8_caught rfl rfl 19 rfl dX8_chase_16 (fun v1 => ?_)
      refine r_iconst (-1) rfl 20 rfl dX8_chase_19 ?_
      refine r_icmp_eq 26 23 rfl rfl dX8_chase_20 ?_ ?_
      · refine r_iinc (x4 + 1) 4 rfl rfl [(4, .int (x4 + 1)), (0, .ref (E.2.1 + o0)), (1, .int x1), (2, .int x2), (3, .int x3)] (Nat.le_of_ble_eq_true rfl) rfl 29 rfl dX8_chase_26 ?_
        refine r_goto 3 rfl dX8_chase_29 ?_
        refine r_sub [1, 2, 3, 4, 0] rfl ?_
        exact ih (x4 + 1)
      · refine r_iload 4 4 rfl 25 rfl dX8_chase_23 ?_
        exact r_ireturn rfl rfl (Nat.le_of_ble_eq_true rfl) (Nat.le_of_ble_eq_true rfl) dX8_chase_25
def f_X8_chase (o0 : Nat) (x1 : Int32) (x2 : Int32) (x3 : Int32) : Option Int32 := (f_X8_chase_L3 o0 x1 x2 x3 (fun _ => (some (-1))) z_N 1)
set_option maxHeartbeats 4000000 in
set_option maxRecDepth 100000 in
theorem c_X8_chase {E : z_E} {l : Launch} {S : z_S} (d : z_D) (o0 : Nat) (h0 : A_BT S o0) (x1 : Int32) (x2 : Int32) (x3 : Int32) : z_Sp E l yX8_chase Y_X8_chase (cvI S d) [.ref (E.2.1 + o0), .int x1, .int x2, .int x3] (S, d) (f_X8_chase o0 x1 x2 x3) := by
  refine z_entry (lv := [(0, .ref (E.2.1 + o0)), (1, .int x1), (2, .int x2), (3, .int x3)]) (by decide) rfl rfl (Nat.le_of_ble_eq_true rfl) rfl ?_
  unfold f_X8_chase
  refine r_iconst 1 rfl 1 rfl dX8_chase_0 ?_
  refine r_istore 4 [(4, .int 1), (0, .ref (E.2.1 + o0)), (1, .int x1), (2, .int x2), (3, .int x3)] (Nat.le_of_ble_eq_true rfl) rfl 3 rfl dX8_chase_1 ?_
  refine r_sub [1, 2, 3, 4, 0] rfl ?_
  refine g_X8_chase_L3 h0 (fun _ => ?_) z_N 1
  refine r_iconst (-1) rfl 33 rfl dX8_chase_32 ?_
  exact r_ireturn rfl rfl (Nat.le_of_ble_eq_true rfl) (Nat.le_of_ble_eq_true rfl) dX8_chase_33
