/-! 3h.gen9: by gen/mk.py -/
def Y_X9_put : z_Y := (RX9, cX9_put, 3, wsX9_put, none, { frames := 0, cells := 0, slots := 0, locals := 0 }, 0, 0)
theorem ok_X9_put : z_Ok yX9_put Y_X9_put 1 := ⟨⟨_, rfl⟩, rfl, rfl, rfl, by decide +kernel, by decide +kernel⟩
theorem w_X9_put_0 : Cond.fieldLink RX9 32 "BunchTimesModel" "tape" "[B" ∈ wsX9_put := by decide +kernel
theorem w_X9_put_1 : ∀ w ∈ u_ws RX9 TX9 18, w ∈ wsX9_put := by decide +kernel
theorem w_X9_put_2 : Cond.fieldLink RX9 179 "BunchTimesModel" "taped" "I" ∈ wsX9_put := by decide +kernel
def f_X9_put_L3_b (o0 : Nat) (x1 : Int32) (K : z_D → Option z_D) (R : Int32 → z_D → Option z_D) (x2 : Int32) (d : z_D) : Option z_D := (if x2 < 0 then (K d) else z_ast d (o0 + 8) 600 (d o0 11) (((x1 >>> (x2 &&& 31)).toInt8.toInt32).toInt8.toInt32) (fun d1 => z_put d1 o0 11 ((d1 o0 11) + 1) (fun d2 => (R (x2 + (-8)) d2))))
def f_X9_put_L3 (o0 : Nat) (x1 : Int32) (K : z_D → Option z_D) : Nat → Int32 → z_D → Option z_D
  | 0 => fun _ _ => none
  | n + 1 => f_X9_put_L3_b o0 x1 K (f_X9_put_L3 o0 x1 K n)
set_option maxHeartbeats 4000000 in
set_option maxRecDepth 100000 in
theorem g_X9_put_L3 {E : z_E} {l : Launch} {S : z_S} {o0 : Nat} {x1 : Int32} {K : z_D → Option z_D} (h0 : A_Model S o0) (hK : ∀ (d9 : z_D), z_G E l Y_X9_put (cvV S) (K d9) 36 [] [] (S, d9) 0 0) : ∀ (n : Nat) (x2 : Int32) (d : z_D), z_G E l Y_X9_put (cvV S) (f_X9_put_L3 o0 x1 K n x2 d) 3 [(0, .ref (E.2.1 + o0)), (1, .int x1), (2, .int x2)] [] (S, d) 0 0 := by
  intro n
  induction n with
  | zero => intro _ _; exact r_none
  | succ n ih =>
    intro x2 d
    show z_G E l Y_X9_put (cvV S) (f_X9_put_L3_b o0 x1 K (f_X9_put_L3 o0 x1 K n) x2 d) 3 [(0, .ref (E.2.1 + o0)), (1, .int x1), (2, .int x2)] [] (S, d) 0 0
    unfold f_X9_put_L3_b
    refine r_iload_n 2 2 rfl rfl 4 rfl dX9_put_3 ?_
    refine r_if_lt 36 7 rfl rfl dX9_put_4 ?_ ?_
    · refine r_sub [] rfl ?_
      exact hK d
    · refine r_aload_n 0 0 rfl rfl 8 rfl dX9_put_7 ?_
      refine r_get (h0 0 (Nat.le_of_ble_eq_true rfl)) rfl (Nat.le_of_ble_eq_true rfl) rfl rfl w_X9_put_1 10 (Nat.le_of_ble_eq_true rfl) rfl w_X9_put_0 (.ref (E.2.1 + (o0 + 8))) rfl 11 rfl dX9_put_8 ?_
      refine r_aload_n 0 0 rfl rfl 12 rfl dX9_put_11 ?_
      refine r_get (h0 0 (Nat.le_of_ble_eq_true rfl)) rfl (Nat.le_of_ble_eq_true rfl) rfl rfl w_X9_put_1 11 (Nat.le_of_ble_eq_true rfl) rfl w_X9_put_2 (.int (d o0 11)) rfl 15 rfl dX9_put_12 ?_
      refine r_iload_n 1 1 rfl rfl 16 rfl dX9_put_15 ?_
      refine r_iload_n 2 2 rfl rfl 17 rfl dX9_put_16 ?_
      refine r_ishr 18 rfl dX9_put_17 ?_
      refine r_i2b 19 rfl dX9_put_18 ?_
      refine r_bast (h0 8 (Nat.le_of_ble_eq_true rfl)) rfl rfl 20 rfl dX9_put_19 (fun d1 => ?_)
      refine r_aload_n 0 0 rfl rfl 21 rfl dX9_put_20 ?_
      refine r_dup rfl 22 rfl dX9_put_21 ?_
      refine r_get (h0 0 (Nat.le_of_ble_eq_true rfl)) rfl (Nat.le_of_ble_eq_true rfl) rfl rfl w_X9_put_1 11 (Nat.le_of_ble_eq_true rfl) rfl w_X9_put_2 (.int (d1 o0 11)) rfl 25 rfl dX9_put_22 ?_
      refine r_iconst 1 rfl 26 rfl dX9_put_25 ?_
      refine r_iadd 27 rfl dX9_put_26 ?_
      refine r_put (h0 0 (Nat.le_of_ble_eq_true rfl)) rfl (Nat.le_of_ble_eq_true rfl) rfl rfl w_X9_put_1 tyX9 tyX9_ok nmX9 (Nat.le_of_ble_eq_true rfl) rfl w_X9_put_2 rfl rfl rfl rfl rfl 30 rfl dX9_put_27 (fun d2 => ?_)
      refine r_iinc (x2 + (-8)) 2 rfl (congrArg (fun y => x2 + y) (by decide)) [(2, .int (x2 + (-8))), (0, .ref (E.2.1 + o0)), (1, .int x1)] (Nat.le_of_ble_eq_true rfl) rfl 33 rfl dX9_put_30 ?_
      refine r_goto 3 rfl dX9_put_33 ?_
      refine r_sub [1, 2, 0] rfl ?_
      exact ih (x2 + (-8)) d2
def f_X9_put (d : z_D) (o0 : Nat) (x1 : Int32) : Option z_D := (f_X9_put_L3 o0 x1 (fun d3 => (some d3)) z_N 24 d)
set_option maxHeartbeats 4000000 in
set_option maxRecDepth 100000 in
theorem c_X9_put {E : z_E} {l : Launch} {S : z_S} (d : z_D) (o0 : Nat) (h0 : A_Model S o0) (x1 : Int32) : z_Sp E l yX9_put Y_X9_put (cvV S) [.ref (E.2.1 + o0), .int x1] (S, d) (f_X9_put d o0 x1) := by
  refine z_entry (lv := [(0, .ref (E.2.1 + o0)), (1, .int x1)]) (by decide) rfl rfl (Nat.le_of_ble_eq_true rfl) rfl ?_
  unfold f_X9_put
  refine r_bipush 24 rfl 2 rfl dX9_put_0 ?_
  refine r_istore_n 2 rfl [(2, .int 24), (0, .ref (E.2.1 + o0)), (1, .int x1)] (Nat.le_of_ble_eq_true rfl) rfl 3 rfl dX9_put_2 ?_
  refine r_sub [1, 2, 0] rfl ?_
  refine g_X9_put_L3 h0 (fun d3 => ?_) z_N 24 d
  exact r_return rfl rfl (Nat.le_of_ble_eq_true rfl) (Nat.le_of_ble_eq_true rfl) dX9_put_36
def Y_X9_feed : z_Y := (RX9, cX9_feed, 6, wsX9_feed, (some .int), { frames := 1, cells := 0, slots := 0, locals := 22 }, 0, 0)
theorem ok_X9_feed : z_Ok yX9_feed Y_X9_feed 5 := ⟨⟨_, rfl⟩, rfl, rfl, rfl, by decide +kernel, by decide +kernel⟩
theorem w_X9_feed_0 : Cond.fieldLink RX9 39 "BunchTimesModel" "thrown" "I" ∈ wsX9_feed := by decide +kernel
theorem w_X9_feed_1 : ∀ w ∈ u_ws RX9 TX9 18, w ∈ wsX9_feed := by decide +kernel
theorem w_X9_feed_2 : Cond.fieldLink RX9 179 "BunchTimesModel" "taped" "I" ∈ wsX9_feed := by decide +kernel
def f_X9_feed (d : z_D) (o0 : Nat) (x1 : Int32) (x2 : Int32) (x3 : Int32) (x4 : Int32) (x5 : Int32) : Option (Int32 × z_D) := z_put d o0 0 0 (fun d1 => (if ((d1 o0 11) + 20) ≤ 600 then ((f_X9_put d1 o0 x1).bind fun d2 => ((f_X9_put d2 o0 x2).bind fun d3 => ((f_X9_put d3 o0 x3).bind fun d4 => ((f_X9_put d4 o0 x4).bind fun d5 => ((f_X9_put d5 o0 x5).bind fun d6 => (some ((d6 o0 11), d6))))))) else (some ((-1), d1))))
set_option maxHeartbeats 4000000 in
set_option maxRecDepth 100000 in
theorem c_X9_feed {E : z_E} {l : Launch} {S : z_S} (d : z_D) (o0 : Nat) (h0 : A_Model S o0) (x1 : Int32) (x2 : Int32) (x3 : Int32) (x4 : Int32) (x5 : Int32) : z_Sp E l yX9_feed Y_X9_feed (cvX S) [.ref (E.2.1 + o0), .int x1, .int x2, .int x3, .int x4, .int x5] (S, d) (f_X9_feed d o0 x1 x2 x3 x4 x5) := by
  refine z_entry (lv := [(0, .ref (E.2.1 + o0)), (1, .int x1), (2, .int x2), (3, .int x3), (4, .int x4), (5, .int x5)]) (by decide) rfl rfl (Nat.le_of_ble_eq_true rfl) rfl ?_
  unfold f_X9_feed
  refine r_aload_n 0 0 rfl rfl 1 rfl dX9_feed_0 ?_
  refine r_iconst 0 rfl 2 rfl dX9_feed_1 ?_
  refine r_put (h0 0 (Nat.le_of_ble_eq_true rfl)) rfl (Nat.le_of_ble_eq_true rfl) rfl rfl w_X9_feed_1 tyX9 tyX9_ok nmX9 (Nat.le_of_ble_eq_true rfl) rfl w_X9_feed_0 rfl rfl rfl rfl rfl 5 rfl dX9_feed_2 (fun d1 => ?_)
  refine r_aload_n 0 0 rfl rfl 6 rfl dX9_feed_5 ?_
  refine r_get (h0 0 (Nat.le_of_ble_eq_true rfl)) rfl (Nat.le_of_ble_eq_true rfl) rfl rfl w_X9_feed_1 11 (Nat.le_of_ble_eq_true rfl) rfl w_X9_feed_2 (.int (d1 o0 11)) rfl 9 rfl dX9_feed_6 ?_
  refine r_bipush 20 rfl 11 rfl dX9_feed_9 ?_
  refine r_iadd 12 rfl dX9_feed_11 ?_
  refine r_sipush 600 rfl 15 rfl dX9_feed_12 ?_
  refine r_icmp_le 20 18 rfl rfl dX9_feed_15 ?_ ?_
  · refine r_aload_n 0 0 rfl rfl 21 rfl dX9_feed_20 ?_
    refine r_iload_n 1 1 rfl rfl 22 rfl dX9_feed_21 ?_
    refine r_callV_V (c_X9_put (E := E) (l := l) (S := S) d1 o0 h0 x1) ok_X9_put ⟨⟨(Nat.le_of_ble_eq_true rfl), (Nat.le_of_ble_eq_true rfl)⟩, (Nat.le_of_ble_eq_true rfl), (Nat.le_of_ble_eq_true rfl)⟩ (h0 0 (Nat.le_of_ble_eq_true rfl)) (Nat.le_of_ble_eq_true rfl) rfl rfl rfl (Nat.le_of_ble_eq_true rfl) gX9_feed_X9_put rfl rfl 25 rfl dX9_feed_22 (fun d2 => ?_)
    refine r_aload_n 0 0 rfl rfl 26 rfl dX9_feed_25 ?_
    refine r_iload_n 2 2 rfl rfl 27 rfl dX9_feed_26 ?_
    refine r_callV_V (c_X9_put (E := E) (l := l) (S := S) d2 o0 h0 x2) ok_X9_put ⟨⟨(Nat.le_of_ble_eq_true rfl), (Nat.le_of_ble_eq_true rfl)⟩, (Nat.le_of_ble_eq_true rfl), (Nat.le_of_ble_eq_true rfl)⟩ (h0 0 (Nat.le_of_ble_eq_true rfl)) (Nat.le_of_ble_eq_true rfl) rfl rfl rfl (Nat.le_of_ble_eq_true rfl) gX9_feed_X9_put rfl rfl 30 rfl dX9_feed_27 (fun d3 => ?_)
    refine r_aload_n 0 0 rfl rfl 31 rfl dX9_feed_30 ?_
    refine r_iload_n 3 3 rfl rfl 32 rfl dX9_feed_31 ?_
    refine r_callV_V (c_X9_put (E := E) (l := l) (S := S) d3 o0 h0 x3) ok_X9_put ⟨⟨(Nat.le_of_ble_eq_true rfl), (Nat.le_of_ble_eq_true rfl)⟩, (Nat.le_of_ble_eq_true rfl), (Nat.le_of_ble_eq_true rfl)⟩ (h0 0 (Nat.le_of_ble_eq_true rfl)) (Nat.le_of_ble_eq_true rfl) rfl rfl rfl (Nat.le_of_ble_eq_true rfl) gX9_feed_X9_put rfl rfl 35 rfl dX9_feed_32 (fun d4 => ?_)
    refine r_aload_n 0 0 rfl rfl 36 rfl dX9_feed_35 ?_
    refine r_iload 4 4 rfl 38 rfl dX9_feed_36 ?_
    refine r_callV_V (c_X9_put (E := E) (l := l) (S := S) d4 o0 h0 x4) ok_X9_put ⟨⟨(Nat.le_of_ble_eq_true rfl), (Nat.le_of_ble_eq_true rfl)⟩, (Nat.le_of_ble_eq_true rfl), (Nat.le_of_ble_eq_true rfl)⟩ (h0 0 (Nat.le_of_ble_eq_true rfl)) (Nat.le_of_ble_eq_true rfl) rfl rfl rfl (Nat.le_of_ble_eq_true rfl) gX9_feed_X9_put rfl rfl 41 rfl dX9_feed_38 (fun d5 => ?_)
    refine r_aload_n 0 0 rfl rfl 42 rfl dX9_feed_41 ?_
    refine r_iload 5 5 rfl 44 rfl dX9_feed_42 ?_
    refine r_callV_V (c_X9_put (E := E) (l := l) (S := S) d5 o0 h0 x5) ok_X9_put ⟨⟨(Nat.le_of_ble_eq_true rfl), (Nat.le_of_ble_eq_true rfl)⟩, (Nat.le_of_ble_eq_true rfl), (Nat.le_of_ble_eq_true rfl)⟩ (h0 0 (Nat.le_of_ble_eq_true rfl)) (Nat.le_of_ble_eq_true rfl) rfl rfl rfl (Nat.le_of_ble_eq_true rfl) gX9_feed_X9_put rfl rfl 47 rfl dX9_feed_44 (fun d6 => ?_)
    refine r_aload_n 0 0 rfl rfl 48 rfl dX9_feed_47 ?_
    refine r_get (h0 0 (Nat.le_of_ble_eq_true rfl)) rfl (Nat.le_of_ble_eq_true rfl) rfl rfl w_X9_feed_1 11 (Nat.le_of_ble_eq_true rfl) rfl w_X9_feed_2 (.int (d6 o0 11)) rfl 51 rfl dX9_feed_48 ?_
    exact r_ireturn rfl rfl (Nat.le_of_ble_eq_true rfl) (Nat.le_of_ble_eq_true rfl) dX9_feed_51
  · refine r_iconst (-1) rfl 19 rfl dX9_feed_18 ?_
    exact r_ireturn rfl rfl (Nat.le_of_ble_eq_true rfl) (Nat.le_of_ble_eq_true rfl) dX9_feed_19
def Y_X9_end : z_Y := (RX9, cX9_end, 2, wsX9_end, (some .boolean), { frames := 1, cells := 0, slots := 0, locals := 22 }, 0, 0)
theorem ok_X9_end : z_Ok yX9_end Y_X9_end 1 := ⟨⟨_, rfl⟩, rfl, rfl, rfl, by decide +kernel, by decide +kernel⟩
theorem w_X9_end_0 : Cond.fieldLink RX9 39 "BunchTimesModel" "thrown" "I" ∈ wsX9_end := by decide +kernel
theorem w_X9_end_1 : ∀ w ∈ u_ws RX9 TX9 18, w ∈ wsX9_end := by decide +kernel
theorem w_X9_end_2 : Cond.fieldLink RX9 179 "BunchTimesModel" "taped" "I" ∈ wsX9_end := by decide +kernel
def f_X9_end (d : z_D) (o0 : Nat) (x1 : Int32) : Option (Int32 × z_D) := z_put d o0 0 0 (fun d1 => ((f_X9_isIn x1 0 (d1 o0 11)).bind fun v2 => (if v2 = 0 then (some (0, d1)) else z_put d1 o0 11 x1 (fun d3 => (some (1, d3))))))
set_option maxHeartbeats 4000000 in
set_option maxRecDepth 100000 in
theorem c_X9_end {E : z_E} {l : Launch} {S : z_S} (d : z_D) (o0 : Nat) (h0 : A_Model S o0) (x1 : Int32) : z_Sp E l yX9_end Y_X9_end (cvX S) [.ref (E.2.1 + o0), .int x1] (S, d) (f_X9_end d o0 x1) := by
  refine z_entry (lv := [(0, .ref (E.2.1 + o0)), (1, .int x1)]) (by decide) rfl rfl (Nat.le_of_ble_eq_true rfl) rfl ?_
  unfold f_X9_end
  refine r_aload_n 0 0 rfl rfl 1 rfl dX9_end_0 ?_
  refine r_iconst 0 rfl 2 rfl dX9_end_1 ?_
  refine r_put (h0 0 (Nat.le_of_ble_eq_true rfl)) rfl (Nat.le_of_ble_eq_true rfl) rfl rfl w_X9_end_1 tyX9 tyX9_ok nmX9 (Nat.le_of_ble_eq_true rfl) rfl w_X9_end_0 rfl rfl rfl rfl rfl 5 rfl dX9_end_2 (fun d1 => ?_)
  refine r_iload_n 1 1 rfl rfl 6 rfl dX9_end_5 ?_
  refine r_iconst 0 rfl 7 rfl dX9_end_6 ?_
  refine r_aload_n 0 0 rfl rfl 8 rfl dX9_end_7 ?_
  refine r_get (h0 0 (Nat.le_of_ble_eq_true rfl)) rfl (Nat.le_of_ble_eq_true rfl) rfl rfl w_X9_end_1 11 (Nat.le_of_ble_eq_true rfl) rfl w_X9_end_2 (.int (d1 o0 11)) rfl 11 rfl dX9_end_8 ?_
  refine r_callS_I (c_X9_isIn (E := E) (l := l) (S := S) d1 x1 0 (d1 o0 11)) ok_X9_isIn ⟨⟨(Nat.le_of_ble_eq_true rfl), (Nat.le_of_ble_eq_true rfl)⟩, (Nat.le_of_ble_eq_true rfl), (Nat.le_of_ble_eq_true rfl)⟩ rfl (Nat.le_of_ble_eq_true rfl) gX9_end_X9_isIn rfl rfl 14 rfl dX9_end_11 (fun v2 => ?_)
  refine r_if_ne 19 17 rfl rfl dX9_end_14 ?_ ?_
  · refine r_aload_n 0 0 rfl rfl 20 rfl dX9_end_19 ?_
    refine r_iload_n 1 1 rfl rfl 21 rfl dX9_end_20 ?_
    refine r_put (h0 0 (Nat.le_of_ble_eq_true rfl)) rfl (Nat.le_of_ble_eq_true rfl) rfl rfl w_X9_end_1 tyX9 tyX9_ok nmX9 (Nat.le_of_ble_eq_true rfl) rfl w_X9_end_2 rfl rfl rfl rfl rfl 24 rfl dX9_end_21 (fun d3 => ?_)
    refine r_iconst 1 rfl 25 rfl dX9_end_24 ?_
    exact r_zreturnc (by decide) rfl rfl (Nat.le_of_ble_eq_true rfl) (Nat.le_of_ble_eq_true rfl) dX9_end_25
  · refine r_iconst 0 rfl 18 rfl dX9_end_17 ?_
    exact r_zreturnc (by decide) rfl rfl (Nat.le_of_ble_eq_true rfl) (Nat.le_of_ble_eq_true rfl) dX9_end_18
def Y_X9_here : z_Y := (RX9, cX9_here, 1, wsX9_here, (some .int), { frames := 0, cells := 0, slots := 0, locals := 0 }, 0, 0)
theorem ok_X9_here : z_Ok yX9_here Y_X9_here 0 := ⟨⟨_, rfl⟩, rfl, rfl, rfl, by decide +kernel, by decide +kernel⟩
theorem w_X9_here_0 : Cond.fieldLink RX9 255 "BunchTimesModel" "place" "I" ∈ wsX9_here := by decide +kernel
theorem w_X9_here_1 : ∀ w ∈ u_ws RX9 TX9 18, w ∈ wsX9_here := by decide +kernel
theorem w_X9_here_2 : Cond.fieldLink RX9 258 "BunchTimesModel" "length" "I" ∈ wsX9_here := by decide +kernel
theorem w_X9_here_3 : Cond.fieldLink RX9 32 "BunchTimesModel" "tape" "[B" ∈ wsX9_here := by decide +kernel
def f_X9_here_L0_b (o0 : Nat) (K : z_D → Option (Int32 × z_D)) (R : z_D → Option (Int32 × z_D)) (d : z_D) : Option (Int32 × z_D) := (if (d o0 12) ≤ (d o0 13) then (K d) else z_ald d (o0 + 8) 600 (d o0 13) (fun v1 => z_let (fun x_39 : Unit => z_put d o0 13 ((d o0 13) + 1) (fun d2 => (R d2))) (fun J39 => (if v1 = 32 then (J39 ()) else z_ald d (o0 + 8) 600 (d o0 13) (fun v3 => (if v3 = 10 then (J39 ()) else (K d)))))))
def f_X9_here_L0 (o0 : Nat) (K : z_D → Option (Int32 × z_D)) : Nat → z_D → Option (Int32 × z_D)
  | 0 => fun _ => none
  | n + 1 => f_X9_here_L0_b o0 K (f_X9_here_L0 o0 K n)
set_option maxHeartbeats 4000000 in
set_option maxRecDepth 100000 in
theorem g_X9_here_L0 {E : z_E} {l : Launch} {S : z_S} {o0 : Nat} {K : z_D → Option (Int32 × z_D)} (h0 : A_Model S o0) (hK : ∀ (d9 : z_D), z_G E l Y_X9_here (cvX S) (K d9) 52 [(0, .ref (E.2.1 + o0))] [] (S, d9) 0 0) : ∀ (n : Nat) (d : z_D), z_G E l Y_X9_here (cvX S) (f_X9_here_L0 o0 K n d) 0 [(0, .ref (E.2.1 + o0))] [] (S, d) 0 0 := by
  intro n
  induction n with
  | zero => intro _; exact r_none
  | succ n ih =>
    intro d
    show z_G E l Y_X9_here (cvX S) (f_X9_here_L0_b o0 K (f_X9_here_L0 o0 K n) d) 0 [(0, .ref (E.2.1 + o0))] [] (S, d) 0 0
    unfold f_X9_here_L0_b
    refine r_aload_n 0 0 rfl rfl 1 rfl dX9_here_0 ?_
    refine r_get (h0 0 (Nat.le_of_ble_eq_true rfl)) rfl (Nat.le_of_ble_eq_true rfl) rfl rfl w_X9_here_1 13 (Nat.le_of_ble_eq_true rfl) rfl w_X9_here_0 (.int (d o0 13)) rfl 4 rfl dX9_here_1 ?_
    refine r_aload_n 0 0 rfl rfl 5 rfl dX9_here_4 ?_
    refine r_get (h0 0 (Nat.le_of_ble_eq_true rfl)) rfl (Nat.le_of_ble_eq_true rfl) rfl rfl w_X9_here_1 12 (Nat.le_of_ble_eq_true rfl) rfl w_X9_here_2 (.int (d o0 12)) rfl 8 rfl dX9_here_5 ?_
    refine r_icmp_ge 52 11 rfl rfl dX9_here_8 ?_ ?_
    · refine r_sub [0] rfl ?_
      exact hK d
    · refine r_aload_n 0 0 rfl rfl 12 rfl dX9_here_11 ?_
      refine r_get (h0 0 (Nat.le_of_ble_eq_true rfl)) rfl (Nat.le_of_ble_eq_true rfl) rfl rfl w_X9_here_1 10 (Nat.le_of_ble_eq_true rfl) rfl w_X9_here_3 (.ref (E.2.1 + (o0 + 8))) rfl 15 rfl dX9_here_12 ?_
      refine r_aload_n 0 0 rfl rfl 16 rfl dX9_here_15 ?_
      refine r_get (h0 0 (Nat.le_of_ble_eq_true rfl)) rfl (Nat.le_of_ble_eq_true rfl) rfl rfl w_X9_here_1 13 (Nat.le_of_ble_eq_true rfl) rfl w_X9_here_0 (.int (d o0 13)) rfl 19 rfl dX9_here_16 ?_
      refine r_bald (h0 8 (Nat.le_of_ble_eq_true rfl)) rfl rfl 20 rfl dX9_here_19 (fun v1 => ?_)
      refine r_bipush 32 rfl 22 rfl dX9_here_20 ?_
      refine r_let 39 (f := fun x_39 : Unit => [(0, .ref (E.2.1 + o0))]) (g := fun x_39 : Unit => []) (ww := fun x_39 : Unit => (S, d)) (fun x_39 => ?_) (fun J39 hJ39 => ?_)
      · refine r_aload_n 0 0 rfl rfl 40 rfl dX9_here_39 ?_
        refine r_dup rfl 41 rfl dX9_here_40 ?_
        refine r_get (h0 0 (Nat.le_of_ble_eq_true rfl)) rfl (Nat.le_of_ble_eq_true rfl) rfl rfl w_X9_here_1 13 (Nat.le_of_ble_eq_true rfl) rfl w_X9_here_0 (.int (d o0 13)) rfl 44 rfl dX9_here_41 ?_
        refine r_iconst 1 rfl 45 rfl dX9_here_44 ?_
        refine r_iadd 46 rfl dX9_here_45 ?_
        refine r_put (h0 0 (Nat.le_of_ble_eq_true rfl)) rfl (Nat.le_of_ble_eq_true rfl) rfl rfl w_X9_here_1 tyX9 tyX9_ok nmX9 (Nat.le_of_ble_eq_true rfl) rfl w_X9_here_0 rfl rfl rfl rfl rfl 49 rfl dX9_here_46 (fun d2 => ?_)
        refine r_goto 0 rfl dX9_here_49 ?_
        refine r_sub [0] rfl ?_
        exact ih d2
      refine r_icmp_eq 39 25 rfl rfl dX9_here_22 ?_ ?_
      · refine r_sub [0] rfl ?_
        exact hJ39 ()
      · refine r_aload_n 0 0 rfl rfl 26 rfl dX9_here_25 ?_
        refine r_get (h0 0 (Nat.le_of_ble_eq_true rfl)) rfl (Nat.le_of_ble_eq_true rfl) rfl rfl w_X9_here_1 10 (Nat.le_of_ble_eq_true rfl) rfl w_X9_here_3 (.ref (E.2.1 + (o0 + 8))) rfl 29 rfl dX9_here_26 ?_
        refine r_aload_n 0 0 rfl rfl 30 rfl dX9_here_29 ?_
        refine r_get (h0 0 (Nat.le_of_ble_eq_true rfl)) rfl (Nat.le_of_ble_eq_true rfl) rfl rfl w_X9_here_1 13 (Nat.le_of_ble_eq_true rfl) rfl w_X9_here_0 (.int (d o0 13)) rfl 33 rfl dX9_here_30 ?_
        refine r_bald (h0 8 (Nat.le_of_ble_eq_true rfl)) rfl rfl 34 rfl dX9_here_33 (fun v3 => ?_)
        refine r_bipush 10 rfl 36 rfl dX9_here_34 ?_
        refine r_icmp_ne 52 39 rfl rfl dX9_here_36 ?_ ?_
        · refine r_sub [0] rfl ?_
          exact hK d
        · refine r_sub [0] rfl ?_
          exact hJ39 ()
def f_X9_here (d : z_D) (o0 : Nat) : Option (Int32 × z_D) := (f_X9_here_L0 o0 (fun d4 => (if (d4 o0 12) ≤ (d4 o0 13) then (some ((-1), d4)) else z_ald d4 (o0 + 8) 600 (d4 o0 13) (fun v5 => (some ((v5 &&& 255), d4))))) z_N d)
set_option maxHeartbeats 4000000 in
set_option maxRecDepth 100000 in
theorem c_X9_here {E : z_E} {l : Launch} {S : z_S} (d : z_D) (o0 : Nat) (h0 : A_Model S o0) : z_Sp E l yX9_here Y_X9_here (cvX S) [.ref (E.2.1 + o0)] (S, d) (f_X9_here d o0) := by
  refine z_entry (lv := [(0, .ref (E.2.1 + o0))]) (by decide) rfl rfl (Nat.le_of_ble_eq_true rfl) rfl ?_
  unfold f_X9_here
  refine r_sub [0] rfl ?_
  refine g_X9_here_L0 h0 (fun d4 => ?_) z_N d
  refine r_aload_n 0 0 rfl rfl 53 rfl dX9_here_52 ?_
  refine r_get (h0 0 (Nat.le_of_ble_eq_true rfl)) rfl (Nat.le_of_ble_eq_true rfl) rfl rfl w_X9_here_1 13 (Nat.le_of_ble_eq_true rfl) rfl w_X9_here_0 (.int (d4 o0 13)) rfl 56 rfl dX9_here_53 ?_
  refine r_aload_n 0 0 rfl rfl 57 rfl dX9_here_56 ?_
  refine r_get (h0 0 (Nat.le_of_ble_eq_true rfl)) rfl (Nat.le_of_ble_eq_true rfl) rfl rfl w_X9_here_1 12 (Nat.le_of_ble_eq_true rfl) rfl w_X9_here_2 (.int (d4 o0 12)) rfl 60 rfl dX9_here_57 ?_
  refine r_icmp_ge 79 63 rfl rfl dX9_here_60 ?_ ?_
  · refine r_iconst (-1) rfl 80 rfl dX9_here_79 ?_
    exact r_ireturn rfl rfl (Nat.le_of_ble_eq_true rfl) (Nat.le_of_ble_eq_true rfl) dX9_here_80
  · refine r_aload_n 0 0 rfl rfl 64 rfl dX9_here_63 ?_
    refine r_get (h0 0 (Nat.le_of_ble_eq_true rfl)) rfl (Nat.le_of_ble_eq_true rfl) rfl rfl w_X9_here_1 10 (Nat.le_of_ble_eq_true rfl) rfl w_X9_here_3 (.ref (E.2.1 + (o0 + 8))) rfl 67 rfl dX9_here_64 ?_
    refine r_aload_n 0 0 rfl rfl 68 rfl dX9_here_67 ?_
    refine r_get (h0 0 (Nat.le_of_ble_eq_true rfl)) rfl (Nat.le_of_ble_eq_true rfl) rfl rfl w_X9_here_1 13 (Nat.le_of_ble_eq_true rfl) rfl w_X9_here_0 (.int (d4 o0 13)) rfl 71 rfl dX9_here_68 ?_
    refine r_bald (h0 8 (Nat.le_of_ble_eq_true rfl)) rfl rfl 72 rfl dX9_here_71 (fun v5 => ?_)
    refine r_sipush 255 rfl 75 rfl dX9_here_72 ?_
    refine r_iand 76 rfl dX9_here_75 ?_
    refine r_goto 80 rfl dX9_here_76 ?_
    exact r_ireturn rfl rfl (Nat.le_of_ble_eq_true rfl) (Nat.le_of_ble_eq_true rfl) dX9_here_80
def Y_X9_fails : z_Y := (RX9, cX9_fails, 3, wsX9_fails, none, { frames := 0, cells := 0, slots := 0, locals := 0 }, 0, 0)
theorem ok_X9_fails : z_Ok yX9_fails Y_X9_fails 2 := ⟨⟨_, rfl⟩, rfl, rfl, rfl, by decide +kernel, by decide +kernel⟩
theorem w_X9_fails_0 : Cond.fieldLink RX9 261 "BunchTimesModel" "fault" "I" ∈ wsX9_fails := by decide +kernel
theorem w_X9_fails_1 : ∀ w ∈ u_ws RX9 TX9 18, w ∈ wsX9_fails := by decide +kernel
def f_X9_fails (d : z_D) (o0 : Nat) (x1 : Int32) (x2 : Int32) : Option z_D := (if (d o0 15) = 0 then z_put d o0 15 (x1 + (8 * x2)) (fun d1 => (some d1)) else (some d))
set_option maxHeartbeats 4000000 in
set_option maxRecDepth 100000 in
theorem c_X9_fails {E : z_E} {l : Launch} {S : z_S} (d : z_D) (o0 : Nat) (h0 : A_Model S o0) (x1 : Int32) (x2 : Int32) : z_Sp E l yX9_fails Y_X9_fails (cvV S) [.ref (E.2.1 + o0), .int x1, .int x2] (S, d) (f_X9_fails d o0 x1 x2) := by
  refine z_entry (lv := [(0, .ref (E.2.1 + o0)), (1, .int x1), (2, .int x2)]) (by decide) rfl rfl (Nat.le_of_ble_eq_true rfl) rfl ?_
  unfold f_X9_fails
  refine r_aload_n 0 0 rfl rfl 1 rfl dX9_fails_0 ?_
  refine r_get (h0 0 (Nat.le_of_ble_eq_true rfl)) rfl (Nat.le_of_ble_eq_true rfl) rfl rfl w_X9_fails_1 15 (Nat.le_of_ble_eq_true rfl) rfl w_X9_fails_0 (.int (d o0 15)) rfl 4 rfl dX9_fails_1 ?_
  refine r_if_ne 17 7 rfl rfl dX9_fails_4 ?_ ?_
  · exact r_return rfl rfl (Nat.le_of_ble_eq_true rfl) (Nat.le_of_ble_eq_true rfl) dX9_fails_17
  · refine r_aload_n 0 0 rfl rfl 8 rfl dX9_fails_7 ?_
    refine r_iload_n 1 1 rfl rfl 9 rfl dX9_fails_8 ?_
    refine r_bipush 8 rfl 11 rfl dX9_fails_9 ?_
    refine r_iload_n 2 2 rfl rfl 12 rfl dX9_fails_11 ?_
    refine r_imul 13 rfl dX9_fails_12 ?_
    refine r_iadd 14 rfl dX9_fails_13 ?_
    refine r_put (h0 0 (Nat.le_of_ble_eq_true rfl)) rfl (Nat.le_of_ble_eq_true rfl) rfl rfl w_X9_fails_1 tyX9 tyX9_ok nmX9 (Nat.le_of_ble_eq_true rfl) rfl w_X9_fails_0 rfl rfl rfl rfl rfl 17 rfl dX9_fails_14 (fun d1 => ?_)
    exact r_return rfl rfl (Nat.le_of_ble_eq_true rfl) (Nat.le_of_ble_eq_true rfl) dX9_fails_17
def Y_X9_isDigit : z_Y := (RX9, cX9_isDigit, 1, wsX9_isDigit, (some .boolean), { frames := 1, cells := 0, slots := 0, locals := 22 }, 0, 0)
theorem ok_X9_isDigit : z_Ok yX9_isDigit Y_X9_isDigit 0 := ⟨⟨_, rfl⟩, rfl, rfl, rfl, by decide +kernel, by decide +kernel⟩
def f_X9_isDigit (d : z_D) (o0 : Nat) : Option (Int32 × z_D) := z_bX (f_X9_here d o0) (fun v1 d2 => ((f_X9_isIn v1 48 57).bind fun v3 => (z_bool v3 (some (v3, d2)))))
set_option maxHeartbeats 4000000 in
set_option maxRecDepth 100000 in
theorem c_X9_isDigit {E : z_E} {l : Launch} {S : z_S} (d : z_D) (o0 : Nat) (h0 : A_Model S o0) : z_Sp E l yX9_isDigit Y_X9_isDigit (cvX S) [.ref (E.2.1 + o0)] (S, d) (f_X9_isDigit d o0) := by
  refine z_entry (lv := [(0, .ref (E.2.1 + o0))]) (by decide) rfl rfl (Nat.le_of_ble_eq_true rfl) rfl ?_
  unfold f_X9_isDigit
  refine r_aload_n 0 0 rfl rfl 1 rfl dX9_isDigit_0 ?_
  refine r_callV_X (c_X9_here (E := E) (l := l) (S := S) d o0 h0) ok_X9_here ⟨⟨(Nat.le_of_ble_eq_true rfl), (Nat.le_of_ble_eq_true rfl)⟩, (Nat.le_of_ble_eq_true rfl), (Nat.le_of_ble_eq_true rfl)⟩ (h0 0 (Nat.le_of_ble_eq_true rfl)) (Nat.le_of_ble_eq_true rfl) rfl rfl rfl (Nat.le_of_ble_eq_true rfl) gX9_isDigit_X9_here rfl rfl 4 rfl dX9_isDigit_1 (fun v1 d2 => ?_)
  refine r_bipush 48 rfl 6 rfl dX9_isDigit_4 ?_
  refine r_bipush 57 rfl 8 rfl dX9_isDigit_6 ?_
  refine r_callS_I (c_X9_isIn (E := E) (l := l) (S := S) d2 v1 48 57) ok_X9_isIn ⟨⟨(Nat.le_of_ble_eq_true rfl), (Nat.le_of_ble_eq_true rfl)⟩, (Nat.le_of_ble_eq_true rfl), (Nat.le_of_ble_eq_true rfl)⟩ rfl (Nat.le_of_ble_eq_true rfl) gX9_isDigit_X9_isIn rfl rfl 11 rfl dX9_isDigit_8 (fun v3 => ?_)
  exact r_zreturn rfl rfl (Nat.le_of_ble_eq_true rfl) (Nat.le_of_ble_eq_true rfl) dX9_isDigit_11
def Y_X9_number : z_Y := (RX9, cX9_number, 5, wsX9_number, none, { frames := 2, cells := 0, slots := 0, locals := 42 }, 0, 0)
theorem ok_X9_number : z_Ok yX9_number Y_X9_number 2 := ⟨⟨_, rfl⟩, rfl, rfl, rfl, by decide +kernel, by decide +kernel⟩
theorem w_X9_number_0 : Cond.fieldLink RX9 261 "BunchTimesModel" "fault" "I" ∈ wsX9_number := by decide +kernel
theorem w_X9_number_1 : ∀ w ∈ u_ws RX9 TX9 18, w ∈ wsX9_number := by decide +kernel
theorem w_X9_number_2 : Cond.fieldLink RX9 255 "BunchTimesModel" "place" "I" ∈ wsX9_number := by decide +kernel
theorem w_X9_number_3 : Cond.fieldLink RX9 270 "BunchTimesModel" "from" "I" ∈ wsX9_number := by decide +kernel
theorem w_X9_number_4 : Cond.fieldLink RX9 258 "BunchTimesModel" "length" "I" ∈ wsX9_number := by decide +kernel
theorem w_X9_number_5 : Cond.fieldLink RX9 32 "BunchTimesModel" "tape" "[B" ∈ wsX9_number := by decide +kernel
theorem w_X9_number_6 : Cond.fieldLink RX9 36 "BunchTimesModel" "told" "[I" ∈ wsX9_number := by decide +kernel
theorem w_X9_number_7 : Cond.fieldLink RX9 277 "BunchTimesModel" "toldMany" "I" ∈ wsX9_number := by decide +kernel
def f_X9_number_L24_b (o0 : Nat) (x1 : Int32) (x2 : Int32) (x3 : Int32) (K : Int32 → z_D → Option z_D) (R : Int32 → z_D → Option z_D) (x4 : Int32) (d : z_D) : Option z_D := (if x3 = 0 then (K x4 d) else (if (d o0 12) ≤ (d o0 13) then (K x4 d) else z_ald d (o0 + 8) 600 (d o0 13) (fun v4 => ((f_X9_isIn v4 48 57).bind fun v5 => (if v5 = 0 then (K x4 d) else z_let (fun x_95 : Int32 => z_put d o0 13 ((d o0 13) + 1) (fun d6 => (R x_95 d6))) (fun J95 => (if 6 ≤ ((d o0 13) - (d o0 14)) then (J95 x4) else z_ald d (o0 + 8) 600 (d o0 13) (fun v7 => (J95 (((10 * x4) + v7) - 48))))))))))
def f_X9_number_L24 (o0 : Nat) (x1 : Int32) (x2 : Int32) (x3 : Int32) (K : Int32 → z_D → Option z_D) : Nat → Int32 → z_D → Option z_D
  | 0 => fun _ _ => none
  | n + 1 => f_X9_number_L24_b o0 x1 x2 x3 K (f_X9_number_L24 o0 x1 x2 x3 K n)
set_option maxHeartbeats 4000000 in
set_option maxRecDepth 100000 in
theorem g_X9_number_L24 {E : z_E} {l : Launch} {S : z_S} {o0 : Nat} {x1 : Int32} {x2 : Int32} {x3 : Int32} {K : Int32 → z_D → Option z_D} (h0 : A_Model S o0) (hK : ∀ (y4 : Int32) (d9 : z_D), z_G E l Y_X9_number (cvV S) (K y4 d9) 110 [(0, .ref (E.2.1 + o0)), (1, .int x1), (2, .int x2), (4, .int y4)] [] (S, d9) 0 0) : ∀ (n : Nat) (x4 : Int32) (d : z_D), z_G E l Y_X9_number (cvV S) (f_X9_number_L24 o0 x1 x2 x3 K n x4 d) 24 [(0, .ref (E.2.1 + o0)), (1, .int x1), (2, .int x2), (3, .int x3), (4, .int x4)] [] (S, d) 0 0 := by
  intro n
  induction n with
  | zero => intro _ _; exact r_none
  | succ n ih =>
    intro x4 d
    show z_G E l Y_X9_number (cvV S) (f_X9_number_L24_b o0 x1 x2 x3 K (f_X9_number_L24 o0 x1 x2 x3 K n) x4 d) 24 [(0, .ref (E.2.1 + o0)), (1, .int x1), (2, .int x2), (3, .int x3), (4, .int x4)] [] (S, d) 0 0
    unfold f_X9_number_L24_b
    refine r_iload_n 3 3 rfl rfl 25 rfl dX9_number_24 ?_
    refine r_if_eq 110 28 rfl rfl dX9_number_25 ?_ ?_
    · refine r_sub [0, 1, 2, 4] rfl ?_
      exact hK x4 d
    · refine r_aload_n 0 0 rfl rfl 29 rfl dX9_number_28 ?_
      refine r_get (h0 0 (Nat.le_of_ble_eq_true rfl)) rfl (Nat.le_of_ble_eq_true rfl) rfl rfl w_X9_number_1 13 (Nat.le_of_ble_eq_true rfl) rfl w_X9_number_2 (.int (d o0 13)) rfl 32 rfl dX9_number_29 ?_
      refine r_aload_n 0 0 rfl rfl 33 rfl dX9_number_32 ?_
      refine r_get (h0 0 (Nat.le_of_ble_eq_true rfl)) rfl (Nat.le_of_ble_eq_true rfl) rfl rfl w_X9_number_1 12 (Nat.le_of_ble_eq_true rfl) rfl w_X9_number_4 (.int (d o0 12)) rfl 36 rfl dX9_number_33 ?_
      refine r_icmp_ge 110 39 rfl rfl dX9_number_36 ?_ ?_
      · refine r_sub [0, 1, 2, 4] rfl ?_
        exact hK x4 d
      · refine r_aload_n 0 0 rfl rfl 40 rfl dX9_number_39 ?_
        refine r_get (h0 0 (Nat.le_of_ble_eq_true rfl)) rfl (Nat.le_of_ble_eq_true rfl) rfl rfl w_X9_number_1 10 (Nat.le_of_ble_eq_true rfl) rfl w_X9_number_5 (.ref (E.2.1 + (o0 + 8))) rfl 43 rfl dX9_number_40 ?_
        refine r_aload_n 0 0 rfl rfl 44 rfl dX9_number_43 ?_
        refine r_get (h0 0 (Nat.le_of_ble_eq_true rfl)) rfl (Nat.le_of_ble_eq_true rfl) rfl rfl w_X9_number_1 13 (Nat.le_of_ble_eq_true rfl) rfl w_X9_number_2 (.int (d o0 13)) rfl 47 rfl dX9_number_44 ?_
        refine r_bald (h0 8 (Nat.le_of_ble_eq_true rfl)) rfl rfl 48 rfl dX9_number_47 (fun v4 => ?_)
        refine r_bipush 48 rfl 50 rfl dX9_number_48 ?_
        refine r_bipush 57 rfl 52 rfl dX9_number_50 ?_
        refine r_callS_I (c_X9_isIn (E := E) (l := l) (S := S) d v4 48 57) ok_X9_isIn ⟨⟨(Nat.le_of_ble_eq_true rfl), (Nat.le_of_ble_eq_true rfl)⟩, (Nat.le_of_ble_eq_true rfl), (Nat.le_of_ble_eq_true rfl)⟩ rfl (Nat.le_of_ble_eq_true rfl) gX9_number_X9_isIn rfl rfl 55 rfl dX9_number_52 (fun v5 => ?_)
        refine r_if_eq 110 58 rfl rfl dX9_number_55 ?_ ?_
        · refine r_sub [0, 1, 2, 4] rfl ?_
          exact hK x4 d
        · refine r_aload_n 0 0 rfl rfl 59 rfl dX9_number_58 ?_
          refine r_get (h0 0 (Nat.le_of_ble_eq_true rfl)) rfl (Nat.le_of_ble_eq_true rfl) rfl rfl w_X9_number_1 13 (Nat.le_of_ble_eq_true rfl) rfl w_X9_number_2 (.int (d o0 13)) rfl 62 rfl dX9_number_59 ?_
          refine r_aload_n 0 0 rfl rfl 63 rfl dX9_number_62 ?_
          refine r_get (h0 0 (Nat.le_of_ble_eq_true rfl)) rfl (Nat.le_of_ble_eq_true rfl) rfl rfl w_X9_number_1 14 (Nat.le_of_ble_eq_true rfl) rfl w_X9_number_3 (.int (d o0 14)) rfl 66 rfl dX9_number_63 ?_
          refine r_isub 67 rfl dX9_number_66 ?_
          refine r_bipush 6 rfl 69 rfl dX9_number_67 ?_
          refine r_let 95 (f := fun x_95 : Int32 => [(0, .ref (E.2.1 + o0)), (1, .int x1), (2, .int x2), (3, .int x3)]) (g := fun x_95 : Int32 => [.int x_95]) (ww := fun x_95 : Int32 => (S, d)) (fun x_95 => ?_) (fun J95 hJ95 => ?_)
          · refine r_istore 4 [(4, .int x_95), (0, .ref (E.2.1 + o0)), (1, .int x1), (2, .int x2), (3, .int x3)] (Nat.le_of_ble_eq_true rfl) rfl 97 rfl dX9_number_95 ?_
            refine r_aload_n 0 1 rfl rfl 98 rfl dX9_number_97 ?_
            refine r_dup rfl 99 rfl dX9_number_98 ?_
            refine r_get (h0 0 (Nat.le_of_ble_eq_true rfl)) rfl (Nat.le_of_ble_eq_true rfl) rfl rfl w_X9_number_1 13 (Nat.le_of_ble_eq_true rfl) rfl w_X9_number_2 (.int (d o0 13)) rfl 102 rfl dX9_number_99 ?_
            refine r_iconst 1 rfl 103 rfl dX9_number_102 ?_
            refine r_iadd 104 rfl dX9_number_103 ?_
            refine r_put (h0 0 (Nat.le_of_ble_eq_true rfl)) rfl (Nat.le_of_ble_eq_true rfl) rfl rfl w_X9_number_1 tyX9 tyX9_ok nmX9 (Nat.le_of_ble_eq_true rfl) rfl w_X9_number_2 rfl rfl rfl rfl rfl 107 rfl dX9_number_104 (fun d6 => ?_)
            refine r_goto 24 rfl dX9_number_107 ?_
            refine r_sub [1, 2, 3, 4, 0] rfl ?_
            exact ih x_95 d6
          refine r_icmp_ge 93 72 rfl rfl dX9_number_69 ?_ ?_
          · refine r_iload 4 4 rfl 95 rfl dX9_number_93 ?_
            refine r_sub [0, 1, 2, 3] rfl ?_
            exact hJ95 x4
          · refine r_bipush 10 rfl 74 rfl dX9_number_72 ?_
            refine r_iload 4 4 rfl 76 rfl dX9_number_74 ?_
            refine r_imul 77 rfl dX9_number_76 ?_
            refine r_aload_n 0 0 rfl rfl 78 rfl dX9_number_77 ?_
            refine r_get (h0 0 (Nat.le_of_ble_eq_true rfl)) rfl (Nat.le_of_ble_eq_true rfl) rfl rfl w_X9_number_1 10 (Nat.le_of_ble_eq_true rfl) rfl w_X9_number_5 (.ref (E.2.1 + (o0 + 8))) rfl 81 rfl dX9_number_78 ?_
            refine r_aload_n 0 0 rfl rfl 82 rfl dX9_number_81 ?_
            refine r_get (h0 0 (Nat.le_of_ble_eq_true rfl)) rfl (Nat.le_of_ble_eq_true rfl) rfl rfl w_X9_number_1 13 (Nat.le_of_ble_eq_true rfl) rfl w_X9_number_2 (.int (d o0 13)) rfl 85 rfl dX9_number_82 ?_
            refine r_bald (h0 8 (Nat.le_of_ble_eq_true rfl)) rfl rfl 86 rfl dX9_number_85 (fun v7 => ?_)
            refine r_iadd 87 rfl dX9_number_86 ?_
            refine r_bipush 48 rfl 89 rfl dX9_number_87 ?_
            refine r_isub 90 rfl dX9_number_89 ?_
            refine r_goto 95 rfl dX9_number_90 ?_
            refine r_sub [0, 1, 2, 3] rfl ?_
            exact hJ95 (((10 * x4) + v7) - 48)
def f_X9_number (d : z_D) (o0 : Nat) (x1 : Int32) (x2 : Int32) : Option z_D := (if (d o0 15) = 0 then z_bX (f_X9_isDigit d o0) (fun v1 d2 => z_put d2 o0 14 (d2 o0 13) (fun d3 => (f_X9_number_L24 o0 x1 x2 v1 (fun v9 d8 => ((f_X9_isIn ((d8 o0 13) - (d8 o0 14)) 1 6).bind fun v10 => z_let (fun x_137 : z_D => ((f_X9_isIn v9 x1 x2).bind fun v11 => z_let (fun x_156 : z_D => z_ast x_156 (o0 + 9) 600 (x_156 o0 17) v9 (fun d12 => z_put d12 o0 17 ((d12 o0 17) + 1) (fun d13 => (some d13)))) (fun J156 => (if v11 = 0 then ((f_X9_fails x_137 o0 2 (x_137 o0 14)).bind fun d14 => (J156 d14)) else (J156 x_137))))) (fun J137 => (if v10 = 0 then ((f_X9_fails d8 o0 1 (d8 o0 14)).bind fun d15 => (J137 d15)) else (J137 d8))))) z_N 0 d3))) else (some d))
set_option maxHeartbeats 4000000 in
set_option maxRecDepth 100000 in
theorem c_X9_number {E : z_E} {l : Launch} {S : z_S} (d : z_D) (o0 : Nat) (h0 : A_Model S o0) (x1 : Int32) (x2 : Int32) : z_Sp E l yX9_number Y_X9_number (cvV S) [.ref (E.2.1 + o0), .int x1, .int x2] (S, d) (f_X9_number d o0 x1 x2) := by
  refine z_entry (lv := [(0, .ref (E.2.1 + o0)), (1, .int x1), (2, .int x2)]) (by decide) rfl rfl (Nat.le_of_ble_eq_true rfl) rfl ?_
  unfold f_X9_number
  refine r_aload_n 0 0 rfl rfl 1 rfl dX9_number_0 ?_
  refine r_get (h0 0 (Nat.le_of_ble_eq_true rfl)) rfl (Nat.le_of_ble_eq_true rfl) rfl rfl w_X9_number_1 15 (Nat.le_of_ble_eq_true rfl) rfl w_X9_number_0 (.int (d o0 15)) rfl 4 rfl dX9_number_1 ?_
  refine r_if_eq 8 7 rfl rfl dX9_number_4 ?_ ?_
  · refine r_aload_n 0 0 rfl rfl 9 rfl dX9_number_8 ?_
    refine r_callV_X (c_X9_isDigit (E := E) (l := l) (S := S) d o0 h0) ok_X9_isDigit ⟨⟨(Nat.le_of_ble_eq_true rfl), (Nat.le_of_ble_eq_true rfl)⟩, (Nat.le_of_ble_eq_true rfl), (Nat.le_of_ble_eq_true rfl)⟩ (h0 0 (Nat.le_of_ble_eq_true rfl)) (Nat.le_of_ble_eq_true rfl) rfl rfl rfl (Nat.le_of_ble_eq_true rfl) gX9_number_X9_isDigit rfl rfl 12 rfl dX9_number_9 (fun v1 d2 => ?_)
    refine r_istore_n 3 rfl [(3, .int v1), (0, .ref (E.2.1 + o0)), (1, .int x1), (2, .int x2)] (Nat.le_of_ble_eq_true rfl) rfl 13 rfl dX9_number_12 ?_
    refine r_aload_n 0 1 rfl rfl 14 rfl dX9_number_13 ?_
    refine r_aload_n 0 1 rfl rfl 15 rfl dX9_number_14 ?_
    refine r_get (h0 0 (Nat.le_of_ble_eq_true rfl)) rfl (Nat.le_of_ble_eq_true rfl) rfl rfl w_X9_number_1 13 (Nat.le_of_ble_eq_true rfl) rfl w_X9_number_2 (.int (d2 o0 13)) rfl 18 rfl dX9_number_15 ?_
    refine r_put (h0 0 (Nat.le_of_ble_eq_true rfl)) rfl (Nat.le_of_ble_eq_true rfl) rfl rfl w_X9_number_1 tyX9 tyX9_ok nmX9 (Nat.le_of_ble_eq_true rfl) rfl w_X9_number_3 rfl rfl rfl rfl rfl 21 rfl dX9_number_18 (fun d3 => ?_)
    refine r_iconst 0 rfl 22 rfl dX9_number_21 ?_
    refine r_istore 4 [(4, .int 0), (3, .int v1), (0, .ref (E.2.1 + o0)), (1, .int x1), (2, .int x2)] (Nat.le_of_ble_eq_true rfl) rfl 24 rfl dX9_number_22 ?_
    refine r_sub [2, 3, 4, 1, 0] rfl ?_
    refine g_X9_number_L24 h0 (fun v9 d8 => ?_) z_N 0 d3
    refine r_aload_n 0 0 rfl rfl 111 rfl dX9_number_110 ?_
    refine r_get (h0 0 (Nat.le_of_ble_eq_true rfl)) rfl (Nat.le_of_ble_eq_true rfl) rfl rfl w_X9_number_1 13 (Nat.le_of_ble_eq_true rfl) rfl w_X9_number_2 (.int (d8 o0 13)) rfl 114 rfl dX9_number_111 ?_
    refine r_aload_n 0 0 rfl rfl 115 rfl dX9_number_114 ?_
    refine r_get (h0 0 (Nat.le_of_ble_eq_true rfl)) rfl (Nat.le_of_ble_eq_true rfl) rfl rfl w_X9_number_1 14 (Nat.le_of_ble_eq_true rfl) rfl w_X9_number_3 (.int (d8 o0 14)) rfl 118 rfl dX9_number_115 ?_
    refine r_isub 119 rfl dX9_number_118 ?_
    refine r_iconst 1 rfl 120 rfl dX9_number_119 ?_
    refine r_bipush 6 rfl 122 rfl dX9_number_120 ?_
    refine r_callS_I (c_X9_isIn (E := E) (l := l) (S := S) d8 ((d8 o0 13) - (d8 o0 14)) 1 6) ok_X9_isIn ⟨⟨(Nat.le_of_ble_eq_true rfl), (Nat.le_of_ble_eq_true rfl)⟩, (Nat.le_of_ble_eq_true rfl), (Nat.le_of_ble_eq_true rfl)⟩ rfl (Nat.le_of_ble_eq_true rfl) gX9_number_X9_isIn rfl rfl 125 rfl dX9_number_122 (fun v10 => ?_)
    refine r_let 137 (f := fun x_137 : z_D => [(0, .ref (E.2.1 + o0)), (1, .int x1), (2, .int x2), (4, .int v9)]) (g := fun x_137 : z_D => []) (ww := fun x_137 : z_D => (S, x_137)) (fun x_137 => ?_) (fun J137 hJ137 => ?_)
    · refine r_iload 4 3 rfl 139 rfl dX9_number_137 ?_
      refine r_iload_n 1 1 rfl rfl 140 rfl dX9_number_139 ?_
      refine r_iload_n 2 2 rfl rfl 141 rfl dX9_number_140 ?_
      refine r_callS_I (c_X9_isIn (E := E) (l := l) (S := S) x_137 v9 x1 x2) ok_X9_isIn ⟨⟨(Nat.le_of_ble_eq_true rfl), (Nat.le_of_ble_eq_true rfl)⟩, (Nat.le_of_ble_eq_true rfl), (Nat.le_of_ble_eq_true rfl)⟩ rfl (Nat.le_of_ble_eq_true rfl) gX9_number_X9_isIn rfl rfl 144 rfl dX9_number_141 (fun v11 => ?_)
      refine r_let 156 (f := fun x_156 : z_D => [(0, .ref (E.2.1 + o0)), (4, .int v9)]) (g := fun x_156 : z_D => []) (ww := fun x_156 : z_D => (S, x_156)) (fun x_156 => ?_) (fun J156 hJ156 => ?_)
      · refine r_aload_n 0 0 rfl rfl 157 rfl dX9_number_156 ?_
        refine r_get (h0 0 (Nat.le_of_ble_eq_true rfl)) rfl (Nat.le_of_ble_eq_true rfl) rfl rfl w_X9_number_1 16 (Nat.le_of_ble_eq_true rfl) rfl w_X9_number_6 (.ref (E.2.1 + (o0 + 9))) rfl 160 rfl dX9_number_157 ?_
        refine r_aload_n 0 0 rfl rfl 161 rfl dX9_number_160 ?_
        refine r_get (h0 0 (Nat.le_of_ble_eq_true rfl)) rfl (Nat.le_of_ble_eq_true rfl) rfl rfl w_X9_number_1 17 (Nat.le_of_ble_eq_true rfl) rfl w_X9_number_7 (.int (x_156 o0 17)) rfl 164 rfl dX9_number_161 ?_
        refine r_iload 4 1 rfl 166 rfl dX9_number_164 ?_
        refine r_iast (h0 9 (Nat.le_of_ble_eq_true rfl)) rfl rfl 167 rfl dX9_number_166 (fun d12 => ?_)
        refine r_aload_n 0 0 rfl rfl 168 rfl dX9_number_167 ?_
        refine r_dup rfl 169 rfl dX9_number_168 ?_
        refine r_get (h0 0 (Nat.le_of_ble_eq_true rfl)) rfl (Nat.le_of_ble_eq_true rfl) rfl rfl w_X9_number_1 17 (Nat.le_of_ble_eq_true rfl) rfl w_X9_number_7 (.int (d12 o0 17)) rfl 172 rfl dX9_number_169 ?_
        refine r_iconst 1 rfl 173 rfl dX9_number_172 ?_
        refine r_iadd 174 rfl dX9_number_173 ?_
        refine r_put (h0 0 (Nat.le_of_ble_eq_true rfl)) rfl (Nat.le_of_ble_eq_true rfl) rfl rfl w_X9_number_1 tyX9 tyX9_ok nmX9 (Nat.le_of_ble_eq_true rfl) rfl w_X9_number_7 rfl rfl rfl rfl rfl 177 rfl dX9_number_174 (fun d13 => ?_)
        exact r_return rfl rfl (Nat.le_of_ble_eq_true rfl) (Nat.le_of_ble_eq_true rfl) dX9_number_177
      refine r_if_ne 156 147 rfl rfl dX9_number_144 ?_ ?_
      · refine r_sub [0, 3] rfl ?_
        exact hJ156 x_137
      · refine r_aload_n 0 0 rfl rfl 148 rfl dX9_number_147 ?_
        refine r_iconst 2 rfl 149 rfl dX9_number_148 ?_
        refine r_aload_n 0 0 rfl rfl 150 rfl dX9_number_149 ?_
        refine r_get (h0 0 (Nat.le_of_ble_eq_true rfl)) rfl (Nat.le_of_ble_eq_true rfl) rfl rfl w_X9_number_1 14 (Nat.le_of_ble_eq_true rfl) rfl w_X9_number_3 (.int (x_137 o0 14)) rfl 153 rfl dX9_number_150 ?_
        refine r_callV_V (c_X9_fails (E := E) (l := l) (S := S) x_137 o0 h0 2 (x_137 o0 14)) ok_X9_fails ⟨⟨(Nat.le_of_ble_eq_true rfl), (Nat.le_of_ble_eq_true rfl)⟩, (Nat.le_of_ble_eq_true rfl), (Nat.le_of_ble_eq_true rfl)⟩ (h0 0 (Nat.le_of_ble_eq_true rfl)) (Nat.le_of_ble_eq_true rfl) rfl rfl rfl (Nat.le_of_ble_eq_true rfl) gX9_number_X9_fails rfl rfl 156 rfl dX9_number_153 (fun d14 => ?_)
        refine r_sub [0, 3] rfl ?_
        exact hJ156 d14
    refine r_if_ne 137 128 rfl rfl dX9_number_125 ?_ ?_
    · refine r_sub [0, 1, 2, 3] rfl ?_
      exact hJ137 d8
    · refine r_aload_n 0 0 rfl rfl 129 rfl dX9_number_128 ?_
      refine r_iconst 1 rfl 130 rfl dX9_number_129 ?_
      refine r_aload_n 0 0 rfl rfl 131 rfl dX9_number_130 ?_
      refine r_get (h0 0 (Nat.le_of_ble_eq_true rfl)) rfl (Nat.le_of_ble_eq_true rfl) rfl rfl w_X9_number_1 14 (Nat.le_of_ble_eq_true rfl) rfl w_X9_number_3 (.int (d8 o0 14)) rfl 134 rfl dX9_number_131 ?_
      refine r_callV_V (c_X9_fails (E := E) (l := l) (S := S) d8 o0 h0 1 (d8 o0 14)) ok_X9_fails ⟨⟨(Nat.le_of_ble_eq_true rfl), (Nat.le_of_ble_eq_true rfl)⟩, (Nat.le_of_ble_eq_true rfl), (Nat.le_of_ble_eq_true rfl)⟩ (h0 0 (Nat.le_of_ble_eq_true rfl)) (Nat.le_of_ble_eq_true rfl) rfl rfl rfl (Nat.le_of_ble_eq_true rfl) gX9_number_X9_fails rfl rfl 137 rfl dX9_number_134 (fun d15 => ?_)
      refine r_sub [0, 1, 2, 3] rfl ?_
      exact hJ137 d15
  · exact r_return rfl rfl (Nat.le_of_ble_eq_true rfl) (Nat.le_of_ble_eq_true rfl) dX9_number_7
def Y_X9_word : z_Y := (RX9, cX9_word, 3, wsX9_word, (some .long), { frames := 1, cells := 0, slots := 0, locals := 22 }, 0, 0)
theorem ok_X9_word : z_Ok yX9_word Y_X9_word 0 := ⟨⟨_, rfl⟩, rfl, rfl, rfl, by decide +kernel, by decide +kernel⟩
theorem w_X9_word_0 : Cond.fieldLink RX9 255 "BunchTimesModel" "place" "I" ∈ wsX9_word := by decide +kernel
theorem w_X9_word_1 : ∀ w ∈ u_ws RX9 TX9 18, w ∈ wsX9_word := by decide +kernel
theorem w_X9_word_2 : Cond.fieldLink RX9 270 "BunchTimesModel" "from" "I" ∈ wsX9_word := by decide +kernel
theorem w_X9_word_3 : Cond.fieldLink RX9 258 "BunchTimesModel" "length" "I" ∈ wsX9_word := by decide +kernel
theorem w_X9_word_4 : Cond.fieldLink RX9 32 "BunchTimesModel" "tape" "[B" ∈ wsX9_word := by decide +kernel
theorem w_X9_word_5 : Cond.constantLong RX9 280 27 ∈ wsX9_word := by decide +kernel
theorem w_X9_word_6 : Cond.constantLong RX9 282 96 ∈ wsX9_word := by decide +kernel
def f_X9_word_L15_b (o0 : Nat) (K : Int64 → z_D → Option (Int64 × z_D)) (R : Int64 → z_D → Option (Int64 × z_D)) (x1 : Int64) (d : z_D) : Option (Int64 × z_D) := (if (d o0 12) ≤ (d o0 13) then (K x1 d) else z_ald d (o0 + 8) 600 (d o0 13) (fun v4 => ((f_X9_isIn v4 97 122).bind fun v5 => (if v5 = 0 then (K x1 d) else z_let (fun x_83 : Int64 => z_put d o0 13 ((d o0 13) + 1) (fun d6 => (R x_83 d6))) (fun J83 => (if 7 ≤ ((d o0 13) - (d o0 14)) then (J83 0) else z_ald d (o0 + 8) 600 (d o0 13) (fun v7 => (J83 (((27 * x1) + (v7.toInt64)) - 96)))))))))
def f_X9_word_L15 (o0 : Nat) (K : Int64 → z_D → Option (Int64 × z_D)) : Nat → Int64 → z_D → Option (Int64 × z_D)
  | 0 => fun _ _ => none
  | n + 1 => f_X9_word_L15_b o0 K (f_X9_word_L15 o0 K n)
set_option maxHeartbeats 4000000 in
set_option maxRecDepth 100000 in
theorem g_X9_word_L15 {E : z_E} {l : Launch} {S : z_S} {o0 : Nat} {K : Int64 → z_D → Option (Int64 × z_D)} (h0 : A_Model S o0) (hK : ∀ (y1 : Int64) (d9 : z_D), z_G E l Y_X9_word (cvY S) (K y1 d9) 97 [(1, .long y1)] [] (S, d9) 0 0) : ∀ (n : Nat) (x1 : Int64) (d : z_D), z_G E l Y_X9_word (cvY S) (f_X9_word_L15 o0 K n x1 d) 15 [(0, .ref (E.2.1 + o0)), (1, .long x1)] [] (S, d) 0 0 := by
  intro n
  induction n with
  | zero => intro _ _; exact r_none
  | succ n ih =>
    intro x1 d
    show z_G E l Y_X9_word (cvY S) (f_X9_word_L15_b o0 K (f_X9_word_L15 o0 K n) x1 d) 15 [(0, .ref (E.2.1 + o0)), (1, .long x1)] [] (S, d) 0 0
    unfold f_X9_word_L15_b
    refine r_aload_n 0 0 rfl rfl 16 rfl dX9_word_15 ?_
    refine r_get (h0 0 (Nat.le_of_ble_eq_true rfl)) rfl (Nat.le_of_ble_eq_true rfl) rfl rfl w_X9_word_1 13 (Nat.le_of_ble_eq_true rfl) rfl w_X9_word_0 (.int (d o0 13)) rfl 19 rfl dX9_word_16 ?_
    refine r_aload_n 0 0 rfl rfl 20 rfl dX9_word_19 ?_
    refine r_get (h0 0 (Nat.le_of_ble_eq_true rfl)) rfl (Nat.le_of_ble_eq_true rfl) rfl rfl w_X9_word_1 12 (Nat.le_of_ble_eq_true rfl) rfl w_X9_word_3 (.int (d o0 12)) rfl 23 rfl dX9_word_20 ?_
    refine r_icmp_ge 97 26 rfl rfl dX9_word_23 ?_ ?_
    · refine r_sub [1] rfl ?_
      exact hK x1 d
    · refine r_aload_n 0 0 rfl rfl 27 rfl dX9_word_26 ?_
      refine r_get (h0 0 (Nat.le_of_ble_eq_true rfl)) rfl (Nat.le_of_ble_eq_true rfl) rfl rfl w_X9_word_1 10 (Nat.le_of_ble_eq_true rfl) rfl w_X9_word_4 (.ref (E.2.1 + (o0 + 8))) rfl 30 rfl dX9_word_27 ?_
      refine r_aload_n 0 0 rfl rfl 31 rfl dX9_word_30 ?_
      refine r_get (h0 0 (Nat.le_of_ble_eq_true rfl)) rfl (Nat.le_of_ble_eq_true rfl) rfl rfl w_X9_word_1 13 (Nat.le_of_ble_eq_true rfl) rfl w_X9_word_0 (.int (d o0 13)) rfl 34 rfl dX9_word_31 ?_
      refine r_bald (h0 8 (Nat.le_of_ble_eq_true rfl)) rfl rfl 35 rfl dX9_word_34 (fun v4 => ?_)
      refine r_bipush 97 rfl 37 rfl dX9_word_35 ?_
      refine r_bipush 122 rfl 39 rfl dX9_word_37 ?_
      refine r_callS_I (c_X9_isIn (E := E) (l := l) (S := S) d v4 97 122) ok_X9_isIn ⟨⟨(Nat.le_of_ble_eq_true rfl), (Nat.le_of_ble_eq_true rfl)⟩, (Nat.le_of_ble_eq_true rfl), (Nat.le_of_ble_eq_true rfl)⟩ rfl (Nat.le_of_ble_eq_true rfl) gX9_word_X9_isIn rfl rfl 42 rfl dX9_word_39 (fun v5 => ?_)
      refine r_if_eq 97 45 rfl rfl dX9_word_42 ?_ ?_
      · refine r_sub [1] rfl ?_
        exact hK x1 d
      · refine r_aload_n 0 0 rfl rfl 46 rfl dX9_word_45 ?_
        refine r_get (h0 0 (Nat.le_of_ble_eq_true rfl)) rfl (Nat.le_of_ble_eq_true rfl) rfl rfl w_X9_word_1 13 (Nat.le_of_ble_eq_true rfl) rfl w_X9_word_0 (.int (d o0 13)) rfl 49 rfl dX9_word_46 ?_
        refine r_aload_n 0 0 rfl rfl 50 rfl dX9_word_49 ?_
        refine r_get (h0 0 (Nat.le_of_ble_eq_true rfl)) rfl (Nat.le_of_ble_eq_true rfl) rfl rfl w_X9_word_1 14 (Nat.le_of_ble_eq_true rfl) rfl w_X9_word_2 (.int (d o0 14)) rfl 53 rfl dX9_word_50 ?_
        refine r_isub 54 rfl dX9_word_53 ?_
        refine r_bipush 7 rfl 56 rfl dX9_word_54 ?_
        refine r_let 83 (f := fun x_83 : Int64 => [(0, .ref (E.2.1 + o0))]) (g := fun x_83 : Int64 => [.long x_83]) (ww := fun x_83 : Int64 => (S, d)) (fun x_83 => ?_) (fun J83 hJ83 => ?_)
        · refine r_lstore_n 1 rfl [(1, .long x_83), (0, .ref (E.2.1 + o0))] (Nat.le_of_ble_eq_true rfl) rfl 84 rfl dX9_word_83 ?_
          refine r_aload_n 0 1 rfl rfl 85 rfl dX9_word_84 ?_
          refine r_dup rfl 86 rfl dX9_word_85 ?_
          refine r_get (h0 0 (Nat.le_of_ble_eq_true rfl)) rfl (Nat.le_of_ble_eq_true rfl) rfl rfl w_X9_word_1 13 (Nat.le_of_ble_eq_true rfl) rfl w_X9_word_0 (.int (d o0 13)) rfl 89 rfl dX9_word_86 ?_
          refine r_iconst 1 rfl 90 rfl dX9_word_89 ?_
          refine r_iadd 91 rfl dX9_word_90 ?_
          refine r_put (h0 0 (Nat.le_of_ble_eq_true rfl)) rfl (Nat.le_of_ble_eq_true rfl) rfl rfl w_X9_word_1 tyX9 tyX9_ok nmX9 (Nat.le_of_ble_eq_true rfl) rfl w_X9_word_0 rfl rfl rfl rfl rfl 94 rfl dX9_word_91 (fun d6 => ?_)
          refine r_goto 15 rfl dX9_word_94 ?_
          refine r_sub [1, 0] rfl ?_
          exact ih x_83 d6
        refine r_icmp_ge 82 59 rfl rfl dX9_word_56 ?_ ?_
        · refine r_lconst 0 rfl 83 rfl dX9_word_82 ?_
          refine r_sub [0] rfl ?_
          exact hJ83 0
        · refine r_ldc2 (v := 27) w_X9_word_5 62 rfl dX9_word_59 ?_
          refine r_lload_n 1 1 rfl rfl 63 rfl dX9_word_62 ?_
          refine r_lmul 64 rfl dX9_word_63 ?_
          refine r_aload_n 0 0 rfl rfl 65 rfl dX9_word_64 ?_
          refine r_get (h0 0 (Nat.le_of_ble_eq_true rfl)) rfl (Nat.le_of_ble_eq_true rfl) rfl rfl w_X9_word_1 10 (Nat.le_of_ble_eq_true rfl) rfl w_X9_word_4 (.ref (E.2.1 + (o0 + 8))) rfl 68 rfl dX9_word_65 ?_
          refine r_aload_n 0 0 rfl rfl 69 rfl dX9_word_68 ?_
          refine r_get (h0 0 (Nat.le_of_ble_eq_true rfl)) rfl (Nat.le_of_ble_eq_true rfl) rfl rfl w_X9_word_1 13 (Nat.le_of_ble_eq_true rfl) rfl w_X9_word_0 (.int (d o0 13)) rfl 72 rfl dX9_word_69 ?_
          refine r_bald (h0 8 (Nat.le_of_ble_eq_true rfl)) rfl rfl 73 rfl dX9_word_72 (fun v7 => ?_)
          refine r_i2l 74 rfl dX9_word_73 ?_
          refine r_ladd 75 rfl dX9_word_74 ?_
          refine r_ldc2 (v := 96) w_X9_word_6 78 rfl dX9_word_75 ?_
          refine r_lsub 79 rfl dX9_word_78 ?_
          refine r_goto 83 rfl dX9_word_79 ?_
          refine r_sub [0] rfl ?_
          exact hJ83 (((27 * x1) + (v7.toInt64)) - 96)
def f_X9_word (d : z_D) (o0 : Nat) : Option (Int64 × z_D) := z_bX (f_X9_here d o0) (fun v1 d2 => z_put d2 o0 14 (d2 o0 13) (fun d3 => (f_X9_word_L15 o0 (fun v9 d8 => (some (v9, d8))) z_N 0 d3)))
set_option maxHeartbeats 4000000 in
set_option maxRecDepth 100000 in
theorem c_X9_word {E : z_E} {l : Launch} {S : z_S} (d : z_D) (o0 : Nat) (h0 : A_Model S o0) : z_Sp E l yX9_word Y_X9_word (cvY S) [.ref (E.2.1 + o0)] (S, d) (f_X9_word d o0) := by
  refine z_entry (lv := [(0, .ref (E.2.1 + o0))]) (by decide) rfl rfl (Nat.le_of_ble_eq_true rfl) rfl ?_
  unfold f_X9_word
  refine r_aload_n 0 0 rfl rfl 1 rfl dX9_word_0 ?_
  refine r_callV_X (c_X9_here (E := E) (l := l) (S := S) d o0 h0) ok_X9_here ⟨⟨(Nat.le_of_ble_eq_true rfl), (Nat.le_of_ble_eq_true rfl)⟩, (Nat.le_of_ble_eq_true rfl), (Nat.le_of_ble_eq_true rfl)⟩ (h0 0 (Nat.le_of_ble_eq_true rfl)) (Nat.le_of_ble_eq_true rfl) rfl rfl rfl (Nat.le_of_ble_eq_true rfl) gX9_word_X9_here rfl rfl 4 rfl dX9_word_1 (fun v1 d2 => ?_)
  refine r_pop rfl 5 rfl dX9_word_4 ?_
  refine r_aload_n 0 0 rfl rfl 6 rfl dX9_word_5 ?_
  refine r_aload_n 0 0 rfl rfl 7 rfl dX9_word_6 ?_
  refine r_get (h0 0 (Nat.le_of_ble_eq_true rfl)) rfl (Nat.le_of_ble_eq_true rfl) rfl rfl w_X9_word_1 13 (Nat.le_of_ble_eq_true rfl) rfl w_X9_word_0 (.int (d2 o0 13)) rfl 10 rfl dX9_word_7 ?_
  refine r_put (h0 0 (Nat.le_of_ble_eq_true rfl)) rfl (Nat.le_of_ble_eq_true rfl) rfl rfl w_X9_word_1 tyX9 tyX9_ok nmX9 (Nat.le_of_ble_eq_true rfl) rfl w_X9_word_2 rfl rfl rfl rfl rfl 13 rfl dX9_word_10 (fun d3 => ?_)
  refine r_lconst 0 rfl 14 rfl dX9_word_13 ?_
  refine r_lstore_n 1 rfl [(1, .long 0), (0, .ref (E.2.1 + o0))] (Nat.le_of_ble_eq_true rfl) rfl 15 rfl dX9_word_14 ?_
  refine r_sub [1, 0] rfl ?_
  refine g_X9_word_L15 h0 (fun v9 d8 => ?_) z_N 0 d3
  refine r_lload_n 1 0 rfl rfl 98 rfl dX9_word_97 ?_
  exact r_lreturn rfl rfl (Nat.le_of_ble_eq_true rfl) (Nat.le_of_ble_eq_true rfl) dX9_word_98
def Y_X9_isWord : z_Y := (RX9, cX9_isWord, 5, wsX9_isWord, (some .boolean), { frames := 2, cells := 0, slots := 0, locals := 44 }, 0, 0)
theorem ok_X9_isWord : z_Ok yX9_isWord Y_X9_isWord 1 := ⟨⟨_, rfl⟩, rfl, rfl, rfl, by decide +kernel, by decide +kernel⟩
theorem w_X9_isWord_0 : Cond.fieldLink RX9 255 "BunchTimesModel" "place" "I" ∈ wsX9_isWord := by decide +kernel
theorem w_X9_isWord_1 : ∀ w ∈ u_ws RX9 TX9 18, w ∈ wsX9_isWord := by decide +kernel
def f_X9_isWord (d : z_D) (o0 : Nat) (x1 : Int64) : Option (Int32 × z_D) := z_nam (d o0 13) (fun v1 => z_bY (f_X9_word d o0) (fun v2 d3 => z_let (fun x_19 : Int32 => z_put d3 o0 13 v1 (fun d4 => (z_bool x_19 (some (x_19, d4))))) (fun J19 => (if (lg_cmp v2 x1) = 0 then (J19 1) else (J19 0)))))
set_option maxHeartbeats 4000000 in
set_option maxRecDepth 100000 in
theorem c_X9_isWord {E : z_E} {l : Launch} {S : z_S} (d : z_D) (o0 : Nat) (h0 : A_Model S o0) (x1 : Int64) : z_Sp E l yX9_isWord Y_X9_isWord (cvX S) [.ref (E.2.1 + o0), .long x1] (S, d) (f_X9_isWord d o0 x1) := by
  refine z_entry (lv := [(0, .ref (E.2.1 + o0)), (1, .long x1)]) (by decide) rfl rfl (Nat.le_of_ble_eq_true rfl) rfl ?_
  unfold f_X9_isWord
  refine r_aload_n 0 0 rfl rfl 1 rfl dX9_isWord_0 ?_
  refine r_get (h0 0 (Nat.le_of_ble_eq_true rfl)) rfl (Nat.le_of_ble_eq_true rfl) rfl rfl w_X9_isWord_1 13 (Nat.le_of_ble_eq_true rfl) rfl w_X9_isWord_0 (.int (d o0 13)) rfl 4 rfl dX9_isWord_1 ?_
  refine r_nami (fun v1 => ?_)
  refine r_istore_n 3 rfl [(3, .int v1), (0, .ref (E.2.1 + o0)), (1, .long x1)] (Nat.le_of_ble_eq_true rfl) rfl 5 rfl dX9_isWord_4 ?_
  refine r_aload_n 0 1 rfl rfl 6 rfl dX9_isWord_5 ?_
  refine r_callV_Y (c_X9_word (E := E) (l := l) (S := S) d o0 h0) ok_X9_word ⟨⟨(Nat.le_of_ble_eq_true rfl), (Nat.le_of_ble_eq_true rfl)⟩, (Nat.le_of_ble_eq_true rfl), (Nat.le_of_ble_eq_true rfl)⟩ (h0 0 (Nat.le_of_ble_eq_true rfl)) (Nat.le_of_ble_eq_true rfl) rfl rfl rfl (Nat.le_of_ble_eq_true rfl) gX9_isWord_X9_word rfl rfl 9 rfl dX9_isWord_6 (fun v2 d3 => ?_)
  refine r_lload_n 1 2 rfl rfl 10 rfl dX9_isWord_9 ?_
  refine r_lcmp 11 rfl dX9_isWord_10 ?_
  refine r_let 19 (f := fun x_19 : Int32 => [(0, .ref (E.2.1 + o0)), (3, .int v1)]) (g := fun x_19 : Int32 => [.int x_19]) (ww := fun x_19 : Int32 => (S, d3)) (fun x_19 => ?_) (fun J19 hJ19 => ?_)
  · refine r_istore 4 [(4, .int x_19), (0, .ref (E.2.1 + o0)), (3, .int v1)] (Nat.le_of_ble_eq_true rfl) rfl 21 rfl dX9_isWord_19 ?_
    refine r_aload_n 0 1 rfl rfl 22 rfl dX9_isWord_21 ?_
    refine r_iload_n 3 2 rfl rfl 23 rfl dX9_isWord_22 ?_
    refine r_put (h0 0 (Nat.le_of_ble_eq_true rfl)) rfl (Nat.le_of_ble_eq_true rfl) rfl rfl w_X9_isWord_1 tyX9 tyX9_ok nmX9 (Nat.le_of_ble_eq_true rfl) rfl w_X9_isWord_0 rfl rfl rfl rfl rfl 26 rfl dX9_isWord_23 (fun d4 => ?_)
    refine r_iload 4 0 rfl 28 rfl dX9_isWord_26 ?_
    exact r_zreturn rfl rfl (Nat.le_of_ble_eq_true rfl) (Nat.le_of_ble_eq_true rfl) dX9_isWord_28
  refine r_if_ne 18 14 rfl rfl dX9_isWord_11 ?_ ?_
  · refine r_iconst 0 rfl 19 rfl dX9_isWord_18 ?_
    refine r_sub [1, 0] rfl ?_
    exact hJ19 0
  · refine r_iconst 1 rfl 15 rfl dX9_isWord_14 ?_
    refine r_goto 19 rfl dX9_isWord_15 ?_
    refine r_sub [1, 0] rfl ?_
    exact hJ19 1
def Y_X9_ends : z_Y := (RX9, cX9_ends, 1, wsX9_ends, (some .boolean), { frames := 1, cells := 0, slots := 0, locals := 22 }, 0, 0)
theorem ok_X9_ends : z_Ok yX9_ends Y_X9_ends 0 := ⟨⟨_, rfl⟩, rfl, rfl, rfl, by decide +kernel, by decide +kernel⟩
theorem w_X9_ends_0 : Cond.fieldLink RX9 261 "BunchTimesModel" "fault" "I" ∈ wsX9_ends := by decide +kernel
theorem w_X9_ends_1 : ∀ w ∈ u_ws RX9 TX9 18, w ∈ wsX9_ends := by decide +kernel
theorem w_X9_ends_2 : Cond.fieldLink RX9 255 "BunchTimesModel" "place" "I" ∈ wsX9_ends := by decide +kernel
def f_X9_ends (d : z_D) (o0 : Nat) : Option (Int32 × z_D) := z_let (fun x_25 : z_D => z_put x_25 o0 13 ((x_25 o0 13) + 1) (fun d1 => (if (d1 o0 15) = 0 then (some (1, d1)) else (some (0, d1))))) (fun J25 => (if (d o0 15) = 0 then z_bX (f_X9_here d o0) (fun v2 d3 => (if v2 = 59 then (J25 d3) else ((f_X9_fails d3 o0 1 (d3 o0 13)).bind fun d4 => (J25 d4)))) else (J25 d)))
set_option maxHeartbeats 4000000 in
set_option maxRecDepth 100000 in
theorem c_X9_ends {E : z_E} {l : Launch} {S : z_S} (d : z_D) (o0 : Nat) (h0 : A_Model S o0) : z_Sp E l yX9_ends Y_X9_ends (cvX S) [.ref (E.2.1 + o0)] (S, d) (f_X9_ends d o0) := by
  refine z_entry (lv := [(0, .ref (E.2.1 + o0))]) (by decide) rfl rfl (Nat.le_of_ble_eq_true rfl) rfl ?_
  unfold f_X9_ends
  refine r_aload_n 0 0 rfl rfl 1 rfl dX9_ends_0 ?_
  refine r_get (h0 0 (Nat.le_of_ble_eq_true rfl)) rfl (Nat.le_of_ble_eq_true rfl) rfl rfl w_X9_ends_1 15 (Nat.le_of_ble_eq_true rfl) rfl w_X9_ends_0 (.int (d o0 15)) rfl 4 rfl dX9_ends_1 ?_
  refine r_let 25 (f := fun x_25 : z_D => [(0, .ref (E.2.1 + o0))]) (g := fun x_25 : z_D => []) (ww := fun x_25 : z_D => (S, x_25)) (fun x_25 => ?_) (fun J25 hJ25 => ?_)
  · refine r_aload_n 0 0 rfl rfl 26 rfl dX9_ends_25 ?_
    refine r_dup rfl 27 rfl dX9_ends_26 ?_
    refine r_get (h0 0 (Nat.le_of_ble_eq_true rfl)) rfl (Nat.le_of_ble_eq_true rfl) rfl rfl w_X9_ends_1 13 (Nat.le_of_ble_eq_true rfl) rfl w_X9_ends_2 (.int (x_25 o0 13)) rfl 30 rfl dX9_ends_27 ?_
    refine r_iconst 1 rfl 31 rfl dX9_ends_30 ?_
    refine r_iadd 32 rfl dX9_ends_31 ?_
    refine r_put (h0 0 (Nat.le_of_ble_eq_true rfl)) rfl (Nat.le_of_ble_eq_true rfl) rfl rfl w_X9_ends_1 tyX9 tyX9_ok nmX9 (Nat.le_of_ble_eq_true rfl) rfl w_X9_ends_2 rfl rfl rfl rfl rfl 35 rfl dX9_ends_32 (fun d1 => ?_)
    refine r_aload_n 0 0 rfl rfl 36 rfl dX9_ends_35 ?_
    refine r_get (h0 0 (Nat.le_of_ble_eq_true rfl)) rfl (Nat.le_of_ble_eq_true rfl) rfl rfl w_X9_ends_1 15 (Nat.le_of_ble_eq_true rfl) rfl w_X9_ends_0 (.int (d1 o0 15)) rfl 39 rfl dX9_ends_36 ?_
    refine r_if_ne 46 42 rfl rfl dX9_ends_39 ?_ ?_
    · refine r_iconst 0 rfl 47 rfl dX9_ends_46 ?_
      exact r_zreturnc (by decide) rfl rfl (Nat.le_of_ble_eq_true rfl) (Nat.le_of_ble_eq_true rfl) dX9_ends_47
    · refine r_iconst 1 rfl 43 rfl dX9_ends_42 ?_
      refine r_goto 47 rfl dX9_ends_43 ?_
      exact r_zreturnc (by decide) rfl rfl (Nat.le_of_ble_eq_true rfl) (Nat.le_of_ble_eq_true rfl) dX9_ends_47
  refine r_if_ne 25 7 rfl rfl dX9_ends_4 ?_ ?_
  · refine r_sub [0] rfl ?_
    exact hJ25 d
  · refine r_aload_n 0 0 rfl rfl 8 rfl dX9_ends_7 ?_
    refine r_callV_X (c_X9_here (E := E) (l := l) (S := S) d o0 h0) ok_X9_here ⟨⟨(Nat.le_of_ble_eq_true rfl), (Nat.le_of_ble_eq_true rfl)⟩, (Nat.le_of_ble_eq_true rfl), (Nat.le_of_ble_eq_true rfl)⟩ (h0 0 (Nat.le_of_ble_eq_true rfl)) (Nat.le_of_ble_eq_true rfl) rfl rfl rfl (Nat.le_of_ble_eq_true rfl) gX9_ends_X9_here rfl rfl 11 rfl dX9_ends_8 (fun v2 d3 => ?_)
    refine r_bipush 59 rfl 13 rfl dX9_ends_11 ?_
    refine r_icmp_eq 25 16 rfl rfl dX9_ends_13 ?_ ?_
    · refine r_sub [0] rfl ?_
      exact hJ25 d3
    · refine r_aload_n 0 0 rfl rfl 17 rfl dX9_ends_16 ?_
      refine r_iconst 1 rfl 18 rfl dX9_ends_17 ?_
      refine r_aload_n 0 0 rfl rfl 19 rfl dX9_ends_18 ?_
      refine r_get (h0 0 (Nat.le_of_ble_eq_true rfl)) rfl (Nat.le_of_ble_eq_true rfl) rfl rfl w_X9_ends_1 13 (Nat.le_of_ble_eq_true rfl) rfl w_X9_ends_2 (.int (d3 o0 13)) rfl 22 rfl dX9_ends_19 ?_
      refine r_callV_V (c_X9_fails (E := E) (l := l) (S := S) d3 o0 h0 1 (d3 o0 13)) ok_X9_fails ⟨⟨(Nat.le_of_ble_eq_true rfl), (Nat.le_of_ble_eq_true rfl)⟩, (Nat.le_of_ble_eq_true rfl), (Nat.le_of_ble_eq_true rfl)⟩ (h0 0 (Nat.le_of_ble_eq_true rfl)) (Nat.le_of_ble_eq_true rfl) rfl rfl rfl (Nat.le_of_ble_eq_true rfl) gX9_ends_X9_fails rfl rfl 25 rfl dX9_ends_22 (fun d4 => ?_)
      refine r_sub [0] rfl ?_
      exact hJ25 d4
def Y_X9_can : z_Y := (RX9, cX9_can, 3, wsX9_can, none, { frames := 1, cells := 0, slots := 0, locals := 22 }, 0, 0)
theorem ok_X9_can : z_Ok yX9_can Y_X9_can 2 := ⟨⟨_, rfl⟩, rfl, rfl, rfl, by decide +kernel, by decide +kernel⟩
def f_X9_can (d : z_D) (o0 : Nat) (x1 : Int32) (x2 : Int32) : Option z_D := (if x1 = 0 then ((f_X9_fails d o0 3 x2).bind fun d1 => (some d1)) else (some d))
set_option maxHeartbeats 4000000 in
set_option maxRecDepth 100000 in
theorem c_X9_can {E : z_E} {l : Launch} {S : z_S} (d : z_D) (o0 : Nat) (h0 : A_Model S o0) (x1 : Int32) (x2 : Int32) : z_Sp E l yX9_can Y_X9_can (cvV S) [.ref (E.2.1 + o0), .int x1, .int x2] (S, d) (f_X9_can d o0 x1 x2) := by
  refine z_entry (lv := [(0, .ref (E.2.1 + o0)), (1, .int x1), (2, .int x2)]) (by decide) rfl rfl (Nat.le_of_ble_eq_true rfl) rfl ?_
  unfold f_X9_can
  refine r_iload_n 1 1 rfl rfl 1 rfl dX9_can_0 ?_
  refine r_if_ne 10 4 rfl rfl dX9_can_1 ?_ ?_
  · exact r_return rfl rfl (Nat.le_of_ble_eq_true rfl) (Nat.le_of_ble_eq_true rfl) dX9_can_10
  · refine r_aload_n 0 0 rfl rfl 5 rfl dX9_can_4 ?_
    refine r_iconst 3 rfl 6 rfl dX9_can_5 ?_
    refine r_iload_n 2 2 rfl rfl 7 rfl dX9_can_6 ?_
    refine r_callV_V (c_X9_fails (E := E) (l := l) (S := S) d o0 h0 3 x2) ok_X9_fails ⟨⟨(Nat.le_of_ble_eq_true rfl), (Nat.le_of_ble_eq_true rfl)⟩, (Nat.le_of_ble_eq_true rfl), (Nat.le_of_ble_eq_true rfl)⟩ (h0 0 (Nat.le_of_ble_eq_true rfl)) (Nat.le_of_ble_eq_true rfl) rfl rfl rfl (Nat.le_of_ble_eq_true rfl) gX9_can_X9_fails rfl rfl 10 rfl dX9_can_7 (fun d1 => ?_)
    exact r_return rfl rfl (Nat.le_of_ble_eq_true rfl) (Nat.le_of_ble_eq_true rfl) dX9_can_10
def Y_X9_lastRider : z_Y := (RX9, cX9_lastRider, 1, wsX9_lastRider, (some .int), { frames := 0, cells := 0, slots := 0, locals := 0 }, 0, 0)
theorem ok_X9_lastRider : z_Ok yX9_lastRider Y_X9_lastRider 0 := ⟨⟨_, rfl⟩, rfl, rfl, rfl, by decide +kernel, by decide +kernel⟩
theorem w_X9_lastRider_0 : Cond.fieldLink RX9 7 "BunchTimesModel" "row" "[I" ∈ wsX9_lastRider := by decide +kernel
theorem w_X9_lastRider_1 : ∀ w ∈ u_ws RX9 TX9 18, w ∈ wsX9_lastRider := by decide +kernel
def f_X9_lastRider (d : z_D) (o0 : Nat) : Option Int32 := z_ald d (o0 + 1) 2656 1 (fun v1 => (some (v1 - 1)))
set_option maxHeartbeats 4000000 in
set_option maxRecDepth 100000 in
theorem c_X9_lastRider {E : z_E} {l : Launch} {S : z_S} (d : z_D) (o0 : Nat) (h0 : A_Model S o0) : z_Sp E l yX9_lastRider Y_X9_lastRider (cvI S d) [.ref (E.2.1 + o0)] (S, d) (f_X9_lastRider d o0) := by
  refine z_entry (lv := [(0, .ref (E.2.1 + o0))]) (by decide) rfl rfl (Nat.le_of_ble_eq_true rfl) rfl ?_
  unfold f_X9_lastRider
  refine r_aload_n 0 0 rfl rfl 1 rfl dX9_lastRider_0 ?_
  refine r_get (h0 0 (Nat.le_of_ble_eq_true rfl)) rfl (Nat.le_of_ble_eq_true rfl) rfl rfl w_X9_lastRider_1 1 (Nat.le_of_ble_eq_true rfl) rfl w_X9_lastRider_0 (.ref (E.2.1 + (o0 + 1))) rfl 4 rfl dX9_lastRider_1 ?_
  refine r_iconst 1 rfl 5 rfl dX9_lastRider_4 ?_
  refine r_iald (h0 1 (Nat.le_of_ble_eq_true rfl)) rfl rfl 6 rfl dX9_lastRider_5 (fun v1 => ?_)
  refine r_iconst 1 rfl 7 rfl dX9_lastRider_6 ?_
  refine r_isub 8 rfl dX9_lastRider_7 ?_
  exact r_ireturn rfl rfl (Nat.le_of_ble_eq_true rfl) (Nat.le_of_ble_eq_true rfl) dX9_lastRider_8
