/-! 21.gen1: by gen/mk.py -/
def Y_X1_begin : z_Y := (RX1, cX1_begin, 3, wsX1_begin, none, { frames := 0, cells := 0, slots := 0, locals := 0 }, 0, 0)
theorem ok_X1_begin : z_Ok yX1_begin Y_X1_begin 2 := ⟨⟨_, rfl⟩, rfl, rfl, rfl, by decide +kernel, by decide +kernel⟩
theorem w_X1_begin_0 : Cond.fieldLink RX1 24 "BunchTimes$Course" "kind" "I" ∈ wsX1_begin := by decide +kernel
theorem w_X1_begin_1 : ∀ w ∈ u_ws RX1 TX1 7, w ∈ wsX1_begin := by decide +kernel
theorem w_X1_begin_2 : Cond.fieldLink RX1 28 "BunchTimes$Course" "length" "I" ∈ wsX1_begin := by decide +kernel
theorem w_X1_begin_3 : Cond.fieldLink RX1 31 "BunchTimes$Course" "marks" "I" ∈ wsX1_begin := by decide +kernel
def f_X1_begin (d : z_D) (o0 : Nat) (x1 : Int32) (x2 : Int32) : Option z_D := z_put d o0 0 x1 (fun d1 => z_put d1 o0 1 x2 (fun d2 => z_put d2 o0 2 0 (fun d3 => (some d3))))
set_option maxHeartbeats 4000000 in
set_option maxRecDepth 100000 in
theorem c_X1_begin {E : z_E} {l : Launch} {S : z_S} (d : z_D) (o0 : Nat) (h0 : A_Course S o0) (x1 : Int32) (x2 : Int32) : z_Sp E l yX1_begin Y_X1_begin (cvV S) [.ref (E.2.1 + o0), .int x1, .int x2] (S, d) (f_X1_begin d o0 x1 x2) := by
  refine z_entry (lv := [(0, .ref (E.2.1 + o0)), (1, .int x1), (2, .int x2)]) (by decide) rfl rfl (Nat.le_of_ble_eq_true rfl) rfl ?_
  unfold f_X1_begin
  refine r_aload_n 0 0 rfl rfl 1 rfl dX1_begin_0 ?_
  refine r_iload_n 1 1 rfl rfl 2 rfl dX1_begin_1 ?_
  refine r_put (h0 0 (Nat.le_of_ble_eq_true rfl)) rfl (Nat.le_of_ble_eq_true rfl) rfl rfl w_X1_begin_1 tyX1 tyX1_ok nmX1 (Nat.le_of_ble_eq_true rfl) rfl w_X1_begin_0 rfl rfl rfl rfl rfl 5 rfl dX1_begin_2 (fun d1 => ?_)
  refine r_aload_n 0 0 rfl rfl 6 rfl dX1_begin_5 ?_
  refine r_iload_n 2 2 rfl rfl 7 rfl dX1_begin_6 ?_
  refine r_put (h0 0 (Nat.le_of_ble_eq_true rfl)) rfl (Nat.le_of_ble_eq_true rfl) rfl rfl w_X1_begin_1 tyX1 tyX1_ok nmX1 (Nat.le_of_ble_eq_true rfl) rfl w_X1_begin_2 rfl rfl rfl rfl rfl 10 rfl dX1_begin_7 (fun d2 => ?_)
  refine r_aload_n 0 0 rfl rfl 11 rfl dX1_begin_10 ?_
  refine r_iconst 0 rfl 12 rfl dX1_begin_11 ?_
  refine r_put (h0 0 (Nat.le_of_ble_eq_true rfl)) rfl (Nat.le_of_ble_eq_true rfl) rfl rfl w_X1_begin_1 tyX1 tyX1_ok nmX1 (Nat.le_of_ble_eq_true rfl) rfl w_X1_begin_3 rfl rfl rfl rfl rfl 15 rfl dX1_begin_12 (fun d3 => ?_)
  exact r_return rfl rfl (Nat.le_of_ble_eq_true rfl) (Nat.le_of_ble_eq_true rfl) dX1_begin_15
def Y_X1_copyFrom : z_Y := (RX1, cX1_copyFrom, 2, wsX1_copyFrom, none, { frames := 1, cells := 0, slots := 0, locals := 48 }, 0, 0)
theorem ok_X1_copyFrom : z_Ok yX1_copyFrom Y_X1_copyFrom 1 := ⟨⟨_, rfl⟩, rfl, rfl, rfl, by decide +kernel, by decide +kernel⟩
theorem w_X1_copyFrom_0 : Cond.fieldLink RX1 24 "BunchTimes$Course" "kind" "I" ∈ wsX1_copyFrom := by decide +kernel
theorem w_X1_copyFrom_1 : ∀ w ∈ u_ws RX1 TX1 7, w ∈ wsX1_copyFrom := by decide +kernel
theorem w_X1_copyFrom_2 : Cond.fieldLink RX1 28 "BunchTimes$Course" "length" "I" ∈ wsX1_copyFrom := by decide +kernel
theorem w_X1_copyFrom_3 : Cond.fieldLink RX1 31 "BunchTimes$Course" "marks" "I" ∈ wsX1_copyFrom := by decide +kernel
theorem w_X1_copyFrom_4 : Cond.fieldLink RX1 9 "BunchTimes$Course" "km" "[I" ∈ wsX1_copyFrom := by decide +kernel
theorem w_X1_copyFrom_5 : Cond.methodLink RX1 34 arraycopyName ∈ wsX1_copyFrom := by decide +kernel
theorem w_X1_copyFrom_6 : Cond.native arraycopyName ∈ wsX1_copyFrom := by decide +kernel
theorem w_X1_copyFrom_7 : Cond.static arraycopyName ∈ wsX1_copyFrom := by decide +kernel
theorem w_X1_copyFrom_8 : Cond.initialized "java/lang/System" ∈ wsX1_copyFrom := by decide +kernel
theorem w_X1_copyFrom_9 : Cond.fieldLink RX1 15 "BunchTimes$Course" "how" "[I" ∈ wsX1_copyFrom := by decide +kernel
theorem w_X1_copyFrom_10 : Cond.fieldLink RX1 18 "BunchTimes$Course" "crossed" "[I" ∈ wsX1_copyFrom := by decide +kernel
theorem w_X1_copyFrom_11 : Cond.fieldLink RX1 21 "BunchTimes$Course" "crossing" "[I" ∈ wsX1_copyFrom := by decide +kernel
def f_X1_copyFrom (d : z_D) (o0 : Nat) (o1 : Nat) : Option z_D := z_put d o0 0 (d o1 0) (fun d1 => z_put d1 o0 1 (d1 o1 1) (fun d2 => z_put d2 o0 2 (d2 o1 2) (fun d3 => z_cpy d3 (o1 + 1) (o0 + 1) 6 (fun d4 => z_cpy d4 (o1 + 2) (o0 + 2) 6 (fun d5 => z_cpy d5 (o1 + 3) (o0 + 3) 6 (fun d6 => z_cpy d6 (o1 + 4) (o0 + 4) 96 (fun d7 => (some d7))))))))
set_option maxHeartbeats 4000000 in
set_option maxRecDepth 100000 in
theorem c_X1_copyFrom {E : z_E} {l : Launch} {S : z_S} (d : z_D) (o0 : Nat) (h0 : A_Course S o0) (o1 : Nat) (h1 : A_Course S o1) : z_Sp E l yX1_copyFrom Y_X1_copyFrom (cvV S) [.ref (E.2.1 + o0), .ref (E.2.1 + o1)] (S, d) (f_X1_copyFrom d o0 o1) := by
  refine z_entry (lv := [(0, .ref (E.2.1 + o0)), (1, .ref (E.2.1 + o1))]) (by decide) rfl rfl (Nat.le_of_ble_eq_true rfl) rfl ?_
  unfold f_X1_copyFrom
  refine r_aload_n 0 0 rfl rfl 1 rfl dX1_copyFrom_0 ?_
  refine r_aload_n 1 1 rfl rfl 2 rfl dX1_copyFrom_1 ?_
  refine r_get (h1 0 (Nat.le_of_ble_eq_true rfl)) rfl (Nat.le_of_ble_eq_true rfl) rfl rfl w_X1_copyFrom_1 0 (Nat.le_of_ble_eq_true rfl) rfl w_X1_copyFrom_0 (.int (d o1 0)) rfl 5 rfl dX1_copyFrom_2 ?_
  refine r_put (h0 0 (Nat.le_of_ble_eq_true rfl)) rfl (Nat.le_of_ble_eq_true rfl) rfl rfl w_X1_copyFrom_1 tyX1 tyX1_ok nmX1 (Nat.le_of_ble_eq_true rfl) rfl w_X1_copyFrom_0 rfl rfl rfl rfl rfl 8 rfl dX1_copyFrom_5 (fun d1 => ?_)
  refine r_aload_n 0 0 rfl rfl 9 rfl dX1_copyFrom_8 ?_
  refine r_aload_n 1 1 rfl rfl 10 rfl dX1_copyFrom_9 ?_
  refine r_get (h1 0 (Nat.le_of_ble_eq_true rfl)) rfl (Nat.le_of_ble_eq_true rfl) rfl rfl w_X1_copyFrom_1 1 (Nat.le_of_ble_eq_true rfl) rfl w_X1_copyFrom_2 (.int (d1 o1 1)) rfl 13 rfl dX1_copyFrom_10 ?_
  refine r_put (h0 0 (Nat.le_of_ble_eq_true rfl)) rfl (Nat.le_of_ble_eq_true rfl) rfl rfl w_X1_copyFrom_1 tyX1 tyX1_ok nmX1 (Nat.le_of_ble_eq_true rfl) rfl w_X1_copyFrom_2 rfl rfl rfl rfl rfl 16 rfl dX1_copyFrom_13 (fun d2 => ?_)
  refine r_aload_n 0 0 rfl rfl 17 rfl dX1_copyFrom_16 ?_
  refine r_aload_n 1 1 rfl rfl 18 rfl dX1_copyFrom_17 ?_
  refine r_get (h1 0 (Nat.le_of_ble_eq_true rfl)) rfl (Nat.le_of_ble_eq_true rfl) rfl rfl w_X1_copyFrom_1 2 (Nat.le_of_ble_eq_true rfl) rfl w_X1_copyFrom_3 (.int (d2 o1 2)) rfl 21 rfl dX1_copyFrom_18 ?_
  refine r_put (h0 0 (Nat.le_of_ble_eq_true rfl)) rfl (Nat.le_of_ble_eq_true rfl) rfl rfl w_X1_copyFrom_1 tyX1 tyX1_ok nmX1 (Nat.le_of_ble_eq_true rfl) rfl w_X1_copyFrom_3 rfl rfl rfl rfl rfl 24 rfl dX1_copyFrom_21 (fun d3 => ?_)
  refine r_aload_n 1 1 rfl rfl 25 rfl dX1_copyFrom_24 ?_
  refine r_get (h1 0 (Nat.le_of_ble_eq_true rfl)) rfl (Nat.le_of_ble_eq_true rfl) rfl rfl w_X1_copyFrom_1 3 (Nat.le_of_ble_eq_true rfl) rfl w_X1_copyFrom_4 (.ref (E.2.1 + (o1 + 1))) rfl 28 rfl dX1_copyFrom_25 ?_
  refine r_iconst 0 rfl 29 rfl dX1_copyFrom_28 ?_
  refine r_aload_n 0 0 rfl rfl 30 rfl dX1_copyFrom_29 ?_
  refine r_get (h0 0 (Nat.le_of_ble_eq_true rfl)) rfl (Nat.le_of_ble_eq_true rfl) rfl rfl w_X1_copyFrom_1 3 (Nat.le_of_ble_eq_true rfl) rfl w_X1_copyFrom_4 (.ref (E.2.1 + (o0 + 1))) rfl 33 rfl dX1_copyFrom_30 ?_
  refine r_iconst 0 rfl 34 rfl dX1_copyFrom_33 ?_
  refine r_bipush 6 rfl 36 rfl dX1_copyFrom_34 ?_
  refine r_cpy w_X1_copyFrom_5 w_X1_copyFrom_6 w_X1_copyFrom_7 w_X1_copyFrom_8 (h1 1 (Nat.le_of_ble_eq_true rfl)) (h0 1 (Nat.le_of_ble_eq_true rfl)) rfl rfl (by decide) rfl (Nat.le_of_ble_eq_true rfl) (Nat.le_of_ble_eq_true rfl) (Nat.le_of_ble_eq_true rfl) (Nat.le_of_ble_eq_true rfl) 39 rfl dX1_copyFrom_36 (fun d4 => ?_)
  refine r_aload_n 1 1 rfl rfl 40 rfl dX1_copyFrom_39 ?_
  refine r_get (h1 0 (Nat.le_of_ble_eq_true rfl)) rfl (Nat.le_of_ble_eq_true rfl) rfl rfl w_X1_copyFrom_1 4 (Nat.le_of_ble_eq_true rfl) rfl w_X1_copyFrom_9 (.ref (E.2.1 + (o1 + 2))) rfl 43 rfl dX1_copyFrom_40 ?_
  refine r_iconst 0 rfl 44 rfl dX1_copyFrom_43 ?_
  refine r_aload_n 0 0 rfl rfl 45 rfl dX1_copyFrom_44 ?_
  refine r_get (h0 0 (Nat.le_of_ble_eq_true rfl)) rfl (Nat.le_of_ble_eq_true rfl) rfl rfl w_X1_copyFrom_1 4 (Nat.le_of_ble_eq_true rfl) rfl w_X1_copyFrom_9 (.ref (E.2.1 + (o0 + 2))) rfl 48 rfl dX1_copyFrom_45 ?_
  refine r_iconst 0 rfl 49 rfl dX1_copyFrom_48 ?_
  refine r_bipush 6 rfl 51 rfl dX1_copyFrom_49 ?_
  refine r_cpy w_X1_copyFrom_5 w_X1_copyFrom_6 w_X1_copyFrom_7 w_X1_copyFrom_8 (h1 2 (Nat.le_of_ble_eq_true rfl)) (h0 2 (Nat.le_of_ble_eq_true rfl)) rfl rfl (by decide) rfl (Nat.le_of_ble_eq_true rfl) (Nat.le_of_ble_eq_true rfl) (Nat.le_of_ble_eq_true rfl) (Nat.le_of_ble_eq_true rfl) 54 rfl dX1_copyFrom_51 (fun d5 => ?_)
  refine r_aload_n 1 1 rfl rfl 55 rfl dX1_copyFrom_54 ?_
  refine r_get (h1 0 (Nat.le_of_ble_eq_true rfl)) rfl (Nat.le_of_ble_eq_true rfl) rfl rfl w_X1_copyFrom_1 5 (Nat.le_of_ble_eq_true rfl) rfl w_X1_copyFrom_10 (.ref (E.2.1 + (o1 + 3))) rfl 58 rfl dX1_copyFrom_55 ?_
  refine r_iconst 0 rfl 59 rfl dX1_copyFrom_58 ?_
  refine r_aload_n 0 0 rfl rfl 60 rfl dX1_copyFrom_59 ?_
  refine r_get (h0 0 (Nat.le_of_ble_eq_true rfl)) rfl (Nat.le_of_ble_eq_true rfl) rfl rfl w_X1_copyFrom_1 5 (Nat.le_of_ble_eq_true rfl) rfl w_X1_copyFrom_10 (.ref (E.2.1 + (o0 + 3))) rfl 63 rfl dX1_copyFrom_60 ?_
  refine r_iconst 0 rfl 64 rfl dX1_copyFrom_63 ?_
  refine r_bipush 6 rfl 66 rfl dX1_copyFrom_64 ?_
  refine r_cpy w_X1_copyFrom_5 w_X1_copyFrom_6 w_X1_copyFrom_7 w_X1_copyFrom_8 (h1 3 (Nat.le_of_ble_eq_true rfl)) (h0 3 (Nat.le_of_ble_eq_true rfl)) rfl rfl (by decide) rfl (Nat.le_of_ble_eq_true rfl) (Nat.le_of_ble_eq_true rfl) (Nat.le_of_ble_eq_true rfl) (Nat.le_of_ble_eq_true rfl) 69 rfl dX1_copyFrom_66 (fun d6 => ?_)
  refine r_aload_n 1 1 rfl rfl 70 rfl dX1_copyFrom_69 ?_
  refine r_get (h1 0 (Nat.le_of_ble_eq_true rfl)) rfl (Nat.le_of_ble_eq_true rfl) rfl rfl w_X1_copyFrom_1 6 (Nat.le_of_ble_eq_true rfl) rfl w_X1_copyFrom_11 (.ref (E.2.1 + (o1 + 4))) rfl 73 rfl dX1_copyFrom_70 ?_
  refine r_iconst 0 rfl 74 rfl dX1_copyFrom_73 ?_
  refine r_aload_n 0 0 rfl rfl 75 rfl dX1_copyFrom_74 ?_
  refine r_get (h0 0 (Nat.le_of_ble_eq_true rfl)) rfl (Nat.le_of_ble_eq_true rfl) rfl rfl w_X1_copyFrom_1 6 (Nat.le_of_ble_eq_true rfl) rfl w_X1_copyFrom_11 (.ref (E.2.1 + (o0 + 4))) rfl 78 rfl dX1_copyFrom_75 ?_
  refine r_iconst 0 rfl 79 rfl dX1_copyFrom_78 ?_
  refine r_bipush 96 rfl 81 rfl dX1_copyFrom_79 ?_
  refine r_cpy w_X1_copyFrom_5 w_X1_copyFrom_6 w_X1_copyFrom_7 w_X1_copyFrom_8 (h1 4 (Nat.le_of_ble_eq_true rfl)) (h0 4 (Nat.le_of_ble_eq_true rfl)) rfl rfl (by decide) rfl (Nat.le_of_ble_eq_true rfl) (Nat.le_of_ble_eq_true rfl) (Nat.le_of_ble_eq_true rfl) (Nat.le_of_ble_eq_true rfl) 84 rfl dX1_copyFrom_81 (fun d7 => ?_)
  exact r_return rfl rfl (Nat.le_of_ble_eq_true rfl) (Nat.le_of_ble_eq_true rfl) dX1_copyFrom_84
def Y_X1_addMark : z_Y := (RX1, cX1_addMark, 4, wsX1_addMark, (some .int), { frames := 1, cells := 0, slots := 0, locals := 22 }, 0, 0)
theorem ok_X1_addMark : z_Ok yX1_addMark Y_X1_addMark 2 := ⟨⟨_, rfl⟩, rfl, rfl, rfl, by decide +kernel, by decide +kernel⟩
theorem w_X1_addMark_0 : Cond.fieldLink RX1 31 "BunchTimes$Course" "marks" "I" ∈ wsX1_addMark := by decide +kernel
theorem w_X1_addMark_1 : ∀ w ∈ u_ws RX1 TX1 7, w ∈ wsX1_addMark := by decide +kernel
theorem w_X1_addMark_2 : Cond.initialized RX8 ∈ wsX1_addMark := by decide +kernel
theorem w_X1_addMark_3 : Cond.static yX8_within ∈ wsX1_addMark := by decide +kernel
theorem w_X1_addMark_4 : Cond.fieldLink RX1 28 "BunchTimes$Course" "length" "I" ∈ wsX1_addMark := by decide +kernel
theorem w_X1_addMark_5 : Cond.fieldLink RX1 9 "BunchTimes$Course" "km" "[I" ∈ wsX1_addMark := by decide +kernel
theorem w_X1_addMark_6 : Cond.fieldLink RX1 15 "BunchTimes$Course" "how" "[I" ∈ wsX1_addMark := by decide +kernel
theorem w_X1_addMark_7 : Cond.fieldLink RX1 18 "BunchTimes$Course" "crossed" "[I" ∈ wsX1_addMark := by decide +kernel
def f_X1_addMark (d : z_D) (o0 : Nat) (x1 : Int32) (x2 : Int32) : Option (Int32 × z_D) := (if 6 ≤ (d o0 2) then (some ((-1), d)) else ((f_X8_within x2 0 4).bind fun v1 => (if v1 = 0 then (some ((-1), d)) else z_let (fun x_42 : Int32 => (if x1 ≤ x_42 then (some ((-1), d)) else (if x1 < (d o0 1) then z_ast d (o0 + 1) 6 (d o0 2) x1 (fun d2 => z_ast d2 (o0 + 2) 6 (d2 o0 2) x2 (fun d3 => z_ast d3 (o0 + 3) 6 (d3 o0 2) 0 (fun d4 => z_put d4 o0 2 ((d4 o0 2) + 1) (fun d5 => (some (((d5 o0 2) - 1), d5)))))) else (some ((-1), d))))) (fun J42 => (if (d o0 2) = 0 then (J42 0) else z_ald d (o0 + 1) 6 ((d o0 2) - 1) (fun v6 => (J42 v6)))))))
set_option maxHeartbeats 4000000 in
set_option maxRecDepth 100000 in
theorem c_X1_addMark {E : z_E} {l : Launch} {S : z_S} (d : z_D) (o0 : Nat) (h0 : A_Course S o0) (x1 : Int32) (x2 : Int32) : z_Sp E l yX1_addMark Y_X1_addMark (cvX S) [.ref (E.2.1 + o0), .int x1, .int x2] (S, d) (f_X1_addMark d o0 x1 x2) := by
  refine z_entry (lv := [(0, .ref (E.2.1 + o0)), (1, .int x1), (2, .int x2)]) (by decide) rfl rfl (Nat.le_of_ble_eq_true rfl) rfl ?_
  unfold f_X1_addMark
  refine r_aload_n 0 0 rfl rfl 1 rfl dX1_addMark_0 ?_
  refine r_get (h0 0 (Nat.le_of_ble_eq_true rfl)) rfl (Nat.le_of_ble_eq_true rfl) rfl rfl w_X1_addMark_1 2 (Nat.le_of_ble_eq_true rfl) rfl w_X1_addMark_0 (.int (d o0 2)) rfl 4 rfl dX1_addMark_1 ?_
  refine r_bipush 6 rfl 6 rfl dX1_addMark_4 ?_
  refine r_icmp_ge 18 9 rfl rfl dX1_addMark_6 ?_ ?_
  · refine r_iconst (-1) rfl 19 rfl dX1_addMark_18 ?_
    exact r_ireturn rfl rfl (Nat.le_of_ble_eq_true rfl) (Nat.le_of_ble_eq_true rfl) dX1_addMark_19
  · refine r_iload_n 2 2 rfl rfl 10 rfl dX1_addMark_9 ?_
    refine r_iconst 0 rfl 11 rfl dX1_addMark_10 ?_
    refine r_iconst 4 rfl 12 rfl dX1_addMark_11 ?_
    refine r_callSN_I (c_X8_within (E := E) (l := l) (S := S) d x2 0 4) ok_X8_within ⟨⟨(Nat.le_of_ble_eq_true rfl), (Nat.le_of_ble_eq_true rfl)⟩, (Nat.le_of_ble_eq_true rfl), (Nat.le_of_ble_eq_true rfl)⟩ rfl (Nat.le_of_ble_eq_true rfl) 27 rfl gX1_addMark_X8_within_n40 w_X1_addMark_2 w_X1_addMark_3 rfl rfl 15 rfl dX1_addMark_12 (fun v1 => ?_)
    refine r_if_ne 20 18 rfl rfl dX1_addMark_15 ?_ ?_
    · refine r_aload_n 0 0 rfl rfl 21 rfl dX1_addMark_20 ?_
      refine r_get (h0 0 (Nat.le_of_ble_eq_true rfl)) rfl (Nat.le_of_ble_eq_true rfl) rfl rfl w_X1_addMark_1 2 (Nat.le_of_ble_eq_true rfl) rfl w_X1_addMark_0 (.int (d o0 2)) rfl 24 rfl dX1_addMark_21 ?_
      refine r_let 42 (f := fun x_42 : Int32 => [(0, .ref (E.2.1 + o0)), (1, .int x1), (2, .int x2)]) (g := fun x_42 : Int32 => [.int x_42]) (ww := fun x_42 : Int32 => (S, d)) (fun x_42 => ?_) (fun J42 hJ42 => ?_)
      · refine r_istore_n 3 rfl [(3, .int x_42), (0, .ref (E.2.1 + o0)), (1, .int x1), (2, .int x2)] (Nat.le_of_ble_eq_true rfl) rfl 43 rfl dX1_addMark_42 ?_
        refine r_iload_n 1 2 rfl rfl 44 rfl dX1_addMark_43 ?_
        refine r_iload_n 3 0 rfl rfl 45 rfl dX1_addMark_44 ?_
        refine r_icmp_le 56 48 rfl rfl dX1_addMark_45 ?_ ?_
        · refine r_iconst (-1) rfl 57 rfl dX1_addMark_56 ?_
          exact r_ireturn rfl rfl (Nat.le_of_ble_eq_true rfl) (Nat.le_of_ble_eq_true rfl) dX1_addMark_57
        · refine r_iload_n 1 2 rfl rfl 49 rfl dX1_addMark_48 ?_
          refine r_aload_n 0 1 rfl rfl 50 rfl dX1_addMark_49 ?_
          refine r_get (h0 0 (Nat.le_of_ble_eq_true rfl)) rfl (Nat.le_of_ble_eq_true rfl) rfl rfl w_X1_addMark_1 1 (Nat.le_of_ble_eq_true rfl) rfl w_X1_addMark_4 (.int (d o0 1)) rfl 53 rfl dX1_addMark_50 ?_
          refine r_icmp_lt 58 56 rfl rfl dX1_addMark_53 ?_ ?_
          · refine r_aload_n 0 1 rfl rfl 59 rfl dX1_addMark_58 ?_
            refine r_get (h0 0 (Nat.le_of_ble_eq_true rfl)) rfl (Nat.le_of_ble_eq_true rfl) rfl rfl w_X1_addMark_1 3 (Nat.le_of_ble_eq_true rfl) rfl w_X1_addMark_5 (.ref (E.2.1 + (o0 + 1))) rfl 62 rfl dX1_addMark_59 ?_
            refine r_aload_n 0 1 rfl rfl 63 rfl dX1_addMark_62 ?_
            refine r_get (h0 0 (Nat.le_of_ble_eq_true rfl)) rfl (Nat.le_of_ble_eq_true rfl) rfl rfl w_X1_addMark_1 2 (Nat.le_of_ble_eq_true rfl) rfl w_X1_addMark_0 (.int (d o0 2)) rfl 66 rfl dX1_addMark_63 ?_
            refine r_iload_n 1 2 rfl rfl 67 rfl dX1_addMark_66 ?_
            refine r_iast (h0 1 (Nat.le_of_ble_eq_true rfl)) rfl rfl 68 rfl dX1_addMark_67 (fun d2 => ?_)
            refine r_aload_n 0 1 rfl rfl 69 rfl dX1_addMark_68 ?_
            refine r_get (h0 0 (Nat.le_of_ble_eq_true rfl)) rfl (Nat.le_of_ble_eq_true rfl) rfl rfl w_X1_addMark_1 4 (Nat.le_of_ble_eq_true rfl) rfl w_X1_addMark_6 (.ref (E.2.1 + (o0 + 2))) rfl 72 rfl dX1_addMark_69 ?_
            refine r_aload_n 0 1 rfl rfl 73 rfl dX1_addMark_72 ?_
            refine r_get (h0 0 (Nat.le_of_ble_eq_true rfl)) rfl (Nat.le_of_ble_eq_true rfl) rfl rfl w_X1_addMark_1 2 (Nat.le_of_ble_eq_true rfl) rfl w_X1_addMark_0 (.int (d2 o0 2)) rfl 76 rfl dX1_addMark_73 ?_
            refine r_iload_n 2 3 rfl rfl 77 rfl dX1_addMark_76 ?_
            refine r_iast (h0 2 (Nat.le_of_ble_eq_true rfl)) rfl rfl 78 rfl dX1_addMark_77 (fun d3 => ?_)
            refine r_aload_n 0 1 rfl rfl 79 rfl dX1_addMark_78 ?_
            refine r_get (h0 0 (Nat.le_of_ble_eq_true rfl)) rfl (Nat.le_of_ble_eq_true rfl) rfl rfl w_X1_addMark_1 5 (Nat.le_of_ble_eq_true rfl) rfl w_X1_addMark_7 (.ref (E.2.1 + (o0 + 3))) rfl 82 rfl dX1_addMark_79 ?_
            refine r_aload_n 0 1 rfl rfl 83 rfl dX1_addMark_82 ?_
            refine r_get (h0 0 (Nat.le_of_ble_eq_true rfl)) rfl (Nat.le_of_ble_eq_true rfl) rfl rfl w_X1_addMark_1 2 (Nat.le_of_ble_eq_true rfl) rfl w_X1_addMark_0 (.int (d3 o0 2)) rfl 86 rfl dX1_addMark_83 ?_
            refine r_iconst 0 rfl 87 rfl dX1_addMark_86 ?_
            refine r_iast (h0 3 (Nat.le_of_ble_eq_true rfl)) rfl rfl 88 rfl dX1_addMark_87 (fun d4 => ?_)
            refine r_aload_n 0 1 rfl rfl 89 rfl dX1_addMark_88 ?_
            refine r_dup rfl 90 rfl dX1_addMark_89 ?_
            refine r_get (h0 0 (Nat.le_of_ble_eq_true rfl)) rfl (Nat.le_of_ble_eq_true rfl) rfl rfl w_X1_addMark_1 2 (Nat.le_of_ble_eq_true rfl) rfl w_X1_addMark_0 (.int (d4 o0 2)) rfl 93 rfl dX1_addMark_90 ?_
            refine r_iconst 1 rfl 94 rfl dX1_addMark_93 ?_
            refine r_iadd 95 rfl dX1_addMark_94 ?_
            refine r_put (h0 0 (Nat.le_of_ble_eq_true rfl)) rfl (Nat.le_of_ble_eq_true rfl) rfl rfl w_X1_addMark_1 tyX1 tyX1_ok nmX1 (Nat.le_of_ble_eq_true rfl) rfl w_X1_addMark_0 rfl rfl rfl rfl rfl 98 rfl dX1_addMark_95 (fun d5 => ?_)
            refine r_aload_n 0 1 rfl rfl 99 rfl dX1_addMark_98 ?_
            refine r_get (h0 0 (Nat.le_of_ble_eq_true rfl)) rfl (Nat.le_of_ble_eq_true rfl) rfl rfl w_X1_addMark_1 2 (Nat.le_of_ble_eq_true rfl) rfl w_X1_addMark_0 (.int (d5 o0 2)) rfl 102 rfl dX1_addMark_99 ?_
            refine r_iconst 1 rfl 103 rfl dX1_addMark_102 ?_
            refine r_isub 104 rfl dX1_addMark_103 ?_
            exact r_ireturn rfl rfl (Nat.le_of_ble_eq_true rfl) (Nat.le_of_ble_eq_true rfl) dX1_addMark_104
          · refine r_iconst (-1) rfl 57 rfl dX1_addMark_56 ?_
            exact r_ireturn rfl rfl (Nat.le_of_ble_eq_true rfl) (Nat.le_of_ble_eq_true rfl) dX1_addMark_57
      refine r_if_ne 31 27 rfl rfl dX1_addMark_24 ?_ ?_
      · refine r_aload_n 0 0 rfl rfl 32 rfl dX1_addMark_31 ?_
        refine r_get (h0 0 (Nat.le_of_ble_eq_true rfl)) rfl (Nat.le_of_ble_eq_true rfl) rfl rfl w_X1_addMark_1 3 (Nat.le_of_ble_eq_true rfl) rfl w_X1_addMark_5 (.ref (E.2.1 + (o0 + 1))) rfl 35 rfl dX1_addMark_32 ?_
        refine r_aload_n 0 0 rfl rfl 36 rfl dX1_addMark_35 ?_
        refine r_get (h0 0 (Nat.le_of_ble_eq_true rfl)) rfl (Nat.le_of_ble_eq_true rfl) rfl rfl w_X1_addMark_1 2 (Nat.le_of_ble_eq_true rfl) rfl w_X1_addMark_0 (.int (d o0 2)) rfl 39 rfl dX1_addMark_36 ?_
        refine r_iconst 1 rfl 40 rfl dX1_addMark_39 ?_
        refine r_isub 41 rfl dX1_addMark_40 ?_
        refine r_iald (h0 1 (Nat.le_of_ble_eq_true rfl)) rfl rfl 42 rfl dX1_addMark_41 (fun v6 => ?_)
        refine r_sub [0, 1, 2] rfl ?_
        exact hJ42 v6
      · refine r_iconst 0 rfl 28 rfl dX1_addMark_27 ?_
        refine r_goto 42 rfl dX1_addMark_28 ?_
        refine r_sub [0, 1, 2] rfl ?_
        exact hJ42 0
    · refine r_iconst (-1) rfl 19 rfl dX1_addMark_18 ?_
      exact r_ireturn rfl rfl (Nat.le_of_ble_eq_true rfl) (Nat.le_of_ble_eq_true rfl) dX1_addMark_19
def Y_X1_hasCrossed : z_Y := (RX1, cX1_hasCrossed, 4, wsX1_hasCrossed, (some .boolean), { frames := 0, cells := 0, slots := 0, locals := 0 }, 0, 0)
theorem ok_X1_hasCrossed : z_Ok yX1_hasCrossed Y_X1_hasCrossed 2 := ⟨⟨_, rfl⟩, rfl, rfl, rfl, by decide +kernel, by decide +kernel⟩
theorem w_X1_hasCrossed_0 : Cond.fieldLink RX1 18 "BunchTimes$Course" "crossed" "[I" ∈ wsX1_hasCrossed := by decide +kernel
theorem w_X1_hasCrossed_1 : ∀ w ∈ u_ws RX1 TX1 7, w ∈ wsX1_hasCrossed := by decide +kernel
theorem w_X1_hasCrossed_2 : Cond.fieldLink RX1 21 "BunchTimes$Course" "crossing" "[I" ∈ wsX1_hasCrossed := by decide +kernel
def f_X1_hasCrossed_L2_b (d : z_D) (o0 : Nat) (x1 : Int32) (x2 : Int32) (K : Unit → Option Int32) (R : Int32 → Option Int32) (x3 : Int32) : Option Int32 := z_ald d (o0 + 3) 6 x1 (fun v1 => (if v1 ≤ x3 then (K ()) else z_ald d (o0 + 4) 96 ((x1 * 16) + x3) (fun v2 => (if v2 = x2 then (some 1) else (R (x3 + 1))))))
def f_X1_hasCrossed_L2 (d : z_D) (o0 : Nat) (x1 : Int32) (x2 : Int32) (K : Unit → Option Int32) : Nat → Int32 → Option Int32
  | 0 => fun _ => none
  | n + 1 => f_X1_hasCrossed_L2_b d o0 x1 x2 K (f_X1_hasCrossed_L2 d o0 x1 x2 K n)
set_option maxHeartbeats 4000000 in
set_option maxRecDepth 100000 in
theorem g_X1_hasCrossed_L2 {E : z_E} {l : Launch} {S : z_S} {d : z_D} {o0 : Nat} {x1 : Int32} {x2 : Int32} {K : Unit → Option Int32} (h0 : A_Course S o0) (hK : ∀ y9 : Unit, z_G E l Y_X1_hasCrossed (cvI S d) (K y9) 35 [] [] (S, d) 0 0) : ∀ (n : Nat) (x3 : Int32), z_G E l Y_X1_hasCrossed (cvI S d) (f_X1_hasCrossed_L2 d o0 x1 x2 K n x3) 2 [(0, .ref (E.2.1 + o0)), (1, .int x1), (2, .int x2), (3, .int x3)] [] (S, d) 0 0 := by
  intro n
  induction n with
  | zero => intro _; exact r_none
  | succ n ih =>
    intro x3
    show z_G E l Y_X1_hasCrossed (cvI S d) (f_X1_hasCrossed_L2_b d o0 x1 x2 K (f_X1_hasCrossed_L2 d o0 x1 x2 K n) x3) 2 [(0, .ref (E.2.1 + o0)), (1, .int x1), (2, .int x2), (3, .int x3)] [] (S, d) 0 0
    unfold f_X1_hasCrossed_L2_b
    refine r_iload_n 3 3 rfl rfl 3 rfl dX1_hasCrossed_2 ?_
    refine r_aload_n 0 0 rfl rfl 4 rfl dX1_hasCrossed_3 ?_
    refine r_get (h0 0 (Nat.le_of_ble_eq_true rfl)) rfl (Nat.le_of_ble_eq_true rfl) rfl rfl w_X1_hasCrossed_1 5 (Nat.le_of_ble_eq_true rfl) rfl w_X1_hasCrossed_0 (.ref (E.2.1 + (o0 + 3))) rfl 7 rfl dX1_hasCrossed_4 ?_
    refine r_iload_n 1 1 rfl rfl 8 rfl dX1_hasCrossed_7 ?_
    refine r_iald (h0 3 (Nat.le_of_ble_eq_true rfl)) rfl rfl 9 rfl dX1_hasCrossed_8 (fun v1 => ?_)
    refine r_icmp_ge 35 12 rfl rfl dX1_hasCrossed_9 ?_ ?_
    · refine r_sub [] rfl ?_
      exact hK ()
    · refine r_aload_n 0 0 rfl rfl 13 rfl dX1_hasCrossed_12 ?_
      refine r_get (h0 0 (Nat.le_of_ble_eq_true rfl)) rfl (Nat.le_of_ble_eq_true rfl) rfl rfl w_X1_hasCrossed_1 6 (Nat.le_of_ble_eq_true rfl) rfl w_X1_hasCrossed_2 (.ref (E.2.1 + (o0 + 4))) rfl 16 rfl dX1_hasCrossed_13 ?_
      refine r_iload_n 1 1 rfl rfl 17 rfl dX1_hasCrossed_16 ?_
      refine r_bipush 16 rfl 19 rfl dX1_hasCrossed_17 ?_
      refine r_imul 20 rfl dX1_hasCrossed_19 ?_
      refine r_iload_n 3 3 rfl rfl 21 rfl dX1_hasCrossed_20 ?_
      refine r_iadd 22 rfl dX1_hasCrossed_21 ?_
      refine r_iald (h0 4 (Nat.le_of_ble_eq_true rfl)) rfl rfl 23 rfl dX1_hasCrossed_22 (fun v2 => ?_)
      refine r_iload_n 2 2 rfl rfl 24 rfl dX1_hasCrossed_23 ?_
      refine r_icmp_ne 29 27 rfl rfl dX1_hasCrossed_24 ?_ ?_
      · refine r_iinc (x3 + 1) 3 rfl rfl [(3, .int (x3 + 1)), (0, .ref (E.2.1 + o0)), (1, .int x1), (2, .int x2)] (Nat.le_of_ble_eq_true rfl) rfl 32 rfl dX1_hasCrossed_29 ?_
        refine r_goto 2 rfl dX1_hasCrossed_32 ?_
        refine r_sub [1, 2, 3, 0] rfl ?_
        exact ih (x3 + 1)
      · refine r_iconst 1 rfl 28 rfl dX1_hasCrossed_27 ?_
        exact r_zreturnc (by decide) rfl rfl (Nat.le_of_ble_eq_true rfl) (Nat.le_of_ble_eq_true rfl) dX1_hasCrossed_28
def f_X1_hasCrossed (d : z_D) (o0 : Nat) (x1 : Int32) (x2 : Int32) : Option Int32 := (f_X1_hasCrossed_L2 d o0 x1 x2 (fun _ => (some 0)) z_N 0)
set_option maxHeartbeats 4000000 in
set_option maxRecDepth 100000 in
theorem c_X1_hasCrossed {E : z_E} {l : Launch} {S : z_S} (d : z_D) (o0 : Nat) (h0 : A_Course S o0) (x1 : Int32) (x2 : Int32) : z_Sp E l yX1_hasCrossed Y_X1_hasCrossed (cvI S d) [.ref (E.2.1 + o0), .int x1, .int x2] (S, d) (f_X1_hasCrossed d o0 x1 x2) := by
  refine z_entry (lv := [(0, .ref (E.2.1 + o0)), (1, .int x1), (2, .int x2)]) (by decide) rfl rfl (Nat.le_of_ble_eq_true rfl) rfl ?_
  unfold f_X1_hasCrossed
  refine r_iconst 0 rfl 1 rfl dX1_hasCrossed_0 ?_
  refine r_istore_n 3 rfl [(3, .int 0), (0, .ref (E.2.1 + o0)), (1, .int x1), (2, .int x2)] (Nat.le_of_ble_eq_true rfl) rfl 2 rfl dX1_hasCrossed_1 ?_
  refine r_sub [1, 2, 3, 0] rfl ?_
  refine g_X1_hasCrossed_L2 h0 (fun _ => ?_) z_N 0
  refine r_iconst 0 rfl 36 rfl dX1_hasCrossed_35 ?_
  exact r_zreturnc (by decide) rfl rfl (Nat.le_of_ble_eq_true rfl) (Nat.le_of_ble_eq_true rfl) dX1_hasCrossed_36
def Y_X1_addCrossing : z_Y := (RX1, cX1_addCrossing, 3, wsX1_addCrossing, (some .int), { frames := 1, cells := 0, slots := 0, locals := 23 }, 0, 0)
theorem ok_X1_addCrossing : z_Ok yX1_addCrossing Y_X1_addCrossing 2 := ⟨⟨_, rfl⟩, rfl, rfl, rfl, by decide +kernel, by decide +kernel⟩
theorem w_X1_addCrossing_0 : Cond.fieldLink RX1 31 "BunchTimes$Course" "marks" "I" ∈ wsX1_addCrossing := by decide +kernel
theorem w_X1_addCrossing_1 : ∀ w ∈ u_ws RX1 TX1 7, w ∈ wsX1_addCrossing := by decide +kernel
theorem w_X1_addCrossing_2 : Cond.initialized RX8 ∈ wsX1_addCrossing := by decide +kernel
theorem w_X1_addCrossing_3 : Cond.static yX8_within ∈ wsX1_addCrossing := by decide +kernel
theorem w_X1_addCrossing_4 : Cond.fieldLink RX1 18 "BunchTimes$Course" "crossed" "[I" ∈ wsX1_addCrossing := by decide +kernel
theorem w_X1_addCrossing_5 : Cond.fieldLink RX1 21 "BunchTimes$Course" "crossing" "[I" ∈ wsX1_addCrossing := by decide +kernel
def f_X1_addCrossing (d : z_D) (o0 : Nat) (x1 : Int32) (x2 : Int32) : Option (Int32 × z_D) := ((f_X8_within x1 0 ((d o0 2) - 1)).bind fun v1 => (if v1 = 0 then (some ((-1), d)) else z_ald d (o0 + 3) 6 x1 (fun v2 => (if 16 ≤ v2 then (some ((-1), d)) else ((f_X1_hasCrossed d o0 x1 x2).bind fun v3 => (if v3 = 0 then z_ald d (o0 + 3) 6 x1 (fun v4 => z_ast d (o0 + 4) 96 ((x1 * 16) + v4) x2 (fun d5 => z_ald d5 (o0 + 3) 6 x1 (fun v6 => z_ast d5 (o0 + 3) 6 x1 (v6 + 1) (fun d7 => z_ald d7 (o0 + 3) 6 x1 (fun v8 => (some (v8, d7))))))) else (some ((-1), d))))))))
set_option maxHeartbeats 4000000 in
set_option maxRecDepth 100000 in
theorem c_X1_addCrossing {E : z_E} {l : Launch} {S : z_S} (d : z_D) (o0 : Nat) (h0 : A_Course S o0) (x1 : Int32) (x2 : Int32) : z_Sp E l yX1_addCrossing Y_X1_addCrossing (cvX S) [.ref (E.2.1 + o0), .int x1, .int x2] (S, d) (f_X1_addCrossing d o0 x1 x2) := by
  refine z_entry (lv := [(0, .ref (E.2.1 + o0)), (1, .int x1), (2, .int x2)]) (by decide) rfl rfl (Nat.le_of_ble_eq_true rfl) rfl ?_
  unfold f_X1_addCrossing
  refine r_iload_n 1 1 rfl rfl 1 rfl dX1_addCrossing_0 ?_
  refine r_iconst 0 rfl 2 rfl dX1_addCrossing_1 ?_
  refine r_aload_n 0 0 rfl rfl 3 rfl dX1_addCrossing_2 ?_
  refine r_get (h0 0 (Nat.le_of_ble_eq_true rfl)) rfl (Nat.le_of_ble_eq_true rfl) rfl rfl w_X1_addCrossing_1 2 (Nat.le_of_ble_eq_true rfl) rfl w_X1_addCrossing_0 (.int (d o0 2)) rfl 6 rfl dX1_addCrossing_3 ?_
  refine r_iconst 1 rfl 7 rfl dX1_addCrossing_6 ?_
  refine r_isub 8 rfl dX1_addCrossing_7 ?_
  refine r_callSN_I (c_X8_within (E := E) (l := l) (S := S) d x1 0 ((d o0 2) - 1)) ok_X8_within ⟨⟨(Nat.le_of_ble_eq_true rfl), (Nat.le_of_ble_eq_true rfl)⟩, (Nat.le_of_ble_eq_true rfl), (Nat.le_of_ble_eq_true rfl)⟩ rfl (Nat.le_of_ble_eq_true rfl) 27 rfl gX1_addCrossing_X8_within_n40 w_X1_addCrossing_2 w_X1_addCrossing_3 rfl rfl 11 rfl dX1_addCrossing_8 (fun v1 => ?_)
  refine r_if_eq 34 14 rfl rfl dX1_addCrossing_11 ?_ ?_
  · refine r_iconst (-1) rfl 35 rfl dX1_addCrossing_34 ?_
    exact r_ireturn rfl rfl (Nat.le_of_ble_eq_true rfl) (Nat.le_of_ble_eq_true rfl) dX1_addCrossing_35
  · refine r_aload_n 0 0 rfl rfl 15 rfl dX1_addCrossing_14 ?_
    refine r_get (h0 0 (Nat.le_of_ble_eq_true rfl)) rfl (Nat.le_of_ble_eq_true rfl) rfl rfl w_X1_addCrossing_1 5 (Nat.le_of_ble_eq_true rfl) rfl w_X1_addCrossing_4 (.ref (E.2.1 + (o0 + 3))) rfl 18 rfl dX1_addCrossing_15 ?_
    refine r_iload_n 1 1 rfl rfl 19 rfl dX1_addCrossing_18 ?_
    refine r_iald (h0 3 (Nat.le_of_ble_eq_true rfl)) rfl rfl 20 rfl dX1_addCrossing_19 (fun v2 => ?_)
    refine r_bipush 16 rfl 22 rfl dX1_addCrossing_20 ?_
    refine r_icmp_ge 34 25 rfl rfl dX1_addCrossing_22 ?_ ?_
    · refine r_iconst (-1) rfl 35 rfl dX1_addCrossing_34 ?_
      exact r_ireturn rfl rfl (Nat.le_of_ble_eq_true rfl) (Nat.le_of_ble_eq_true rfl) dX1_addCrossing_35
    · refine r_aload_n 0 0 rfl rfl 26 rfl dX1_addCrossing_25 ?_
      refine r_iload_n 1 1 rfl rfl 27 rfl dX1_addCrossing_26 ?_
      refine r_iload_n 2 2 rfl rfl 28 rfl dX1_addCrossing_27 ?_
      refine r_callV_I (c_X1_hasCrossed (E := E) (l := l) (S := S) d o0 h0 x1 x2) ok_X1_hasCrossed ⟨⟨(Nat.le_of_ble_eq_true rfl), (Nat.le_of_ble_eq_true rfl)⟩, (Nat.le_of_ble_eq_true rfl), (Nat.le_of_ble_eq_true rfl)⟩ (h0 0 (Nat.le_of_ble_eq_true rfl)) (Nat.le_of_ble_eq_true rfl) rfl rfl rfl (Nat.le_of_ble_eq_true rfl) gX1_addCrossing_X1_hasCrossed rfl rfl 31 rfl dX1_addCrossing_28 (fun v3 => ?_)
      refine r_if_eq 36 34 rfl rfl dX1_addCrossing_31 ?_ ?_
      · refine r_aload_n 0 0 rfl rfl 37 rfl dX1_addCrossing_36 ?_
        refine r_get (h0 0 (Nat.le_of_ble_eq_true rfl)) rfl (Nat.le_of_ble_eq_true rfl) rfl rfl w_X1_addCrossing_1 6 (Nat.le_of_ble_eq_true rfl) rfl w_X1_addCrossing_5 (.ref (E.2.1 + (o0 + 4))) rfl 40 rfl dX1_addCrossing_37 ?_
        refine r_iload_n 1 1 rfl rfl 41 rfl dX1_addCrossing_40 ?_
        refine r_bipush 16 rfl 43 rfl dX1_addCrossing_41 ?_
        refine r_imul 44 rfl dX1_addCrossing_43 ?_
        refine r_aload_n 0 0 rfl rfl 45 rfl dX1_addCrossing_44 ?_
        refine r_get (h0 0 (Nat.le_of_ble_eq_true rfl)) rfl (Nat.le_of_ble_eq_true rfl) rfl rfl w_X1_addCrossing_1 5 (Nat.le_of_ble_eq_true rfl) rfl w_X1_addCrossing_4 (.ref (E.2.1 + (o0 + 3))) rfl 48 rfl dX1_addCrossing_45 ?_
        refine r_iload_n 1 1 rfl rfl 49 rfl dX1_addCrossing_48 ?_
        refine r_iald (h0 3 (Nat.le_of_ble_eq_true rfl)) rfl rfl 50 rfl dX1_addCrossing_49 (fun v4 => ?_)
        refine r_iadd 51 rfl dX1_addCrossing_50 ?_
        refine r_iload_n 2 2 rfl rfl 52 rfl dX1_addCrossing_51 ?_
        refine r_iast (h0 4 (Nat.le_of_ble_eq_true rfl)) rfl rfl 53 rfl dX1_addCrossing_52 (fun d5 => ?_)
        refine r_aload_n 0 0 rfl rfl 54 rfl dX1_addCrossing_53 ?_
        refine r_get (h0 0 (Nat.le_of_ble_eq_true rfl)) rfl (Nat.le_of_ble_eq_true rfl) rfl rfl w_X1_addCrossing_1 5 (Nat.le_of_ble_eq_true rfl) rfl w_X1_addCrossing_4 (.ref (E.2.1 + (o0 + 3))) rfl 57 rfl dX1_addCrossing_54 ?_
        refine r_iload_n 1 1 rfl rfl 58 rfl dX1_addCrossing_57 ?_
        refine r_dup2 rfl rfl 59 rfl dX1_addCrossing_58 ?_
        refine r_iald (h0 3 (Nat.le_of_ble_eq_true rfl)) rfl rfl 60 rfl dX1_addCrossing_59 (fun v6 => ?_)
        refine r_iconst 1 rfl 61 rfl dX1_addCrossing_60 ?_
        refine r_iadd 62 rfl dX1_addCrossing_61 ?_
        refine r_iast (h0 3 (Nat.le_of_ble_eq_true rfl)) rfl rfl 63 rfl dX1_addCrossing_62 (fun d7 => ?_)
        refine r_aload_n 0 0 rfl rfl 64 rfl dX1_addCrossing_63 ?_
        refine r_get (h0 0 (Nat.le_of_ble_eq_true rfl)) rfl (Nat.le_of_ble_eq_true rfl) rfl rfl w_X1_addCrossing_1 5 (Nat.le_of_ble_eq_true rfl) rfl w_X1_addCrossing_4 (.ref (E.2.1 + (o0 + 3))) rfl 67 rfl dX1_addCrossing_64 ?_
        refine r_iload_n 1 1 rfl rfl 68 rfl dX1_addCrossing_67 ?_
        refine r_iald (h0 3 (Nat.le_of_ble_eq_true rfl)) rfl rfl 69 rfl dX1_addCrossing_68 (fun v8 => ?_)
        exact r_ireturn rfl rfl (Nat.le_of_ble_eq_true rfl) (Nat.le_of_ble_eq_true rfl) dX1_addCrossing_69
      · refine r_iconst (-1) rfl 35 rfl dX1_addCrossing_34 ?_
        exact r_ireturn rfl rfl (Nat.le_of_ble_eq_true rfl) (Nat.le_of_ble_eq_true rfl) dX1_addCrossing_35
def Y_X1_forget : z_Y := (RX1, cX1_forget, 6, wsX1_forget, none, { frames := 0, cells := 0, slots := 0, locals := 0 }, 0, 0)
theorem ok_X1_forget : z_Ok yX1_forget Y_X1_forget 1 := ⟨⟨_, rfl⟩, rfl, rfl, rfl, by decide +kernel, by decide +kernel⟩
theorem w_X1_forget_0 : Cond.fieldLink RX1 31 "BunchTimes$Course" "marks" "I" ∈ wsX1_forget := by decide +kernel
theorem w_X1_forget_1 : ∀ w ∈ u_ws RX1 TX1 7, w ∈ wsX1_forget := by decide +kernel
theorem w_X1_forget_2 : Cond.fieldLink RX1 18 "BunchTimes$Course" "crossed" "[I" ∈ wsX1_forget := by decide +kernel
theorem w_X1_forget_3 : Cond.fieldLink RX1 21 "BunchTimes$Course" "crossing" "[I" ∈ wsX1_forget := by decide +kernel
def f_X1_forget_L15_b (o0 : Nat) (x1 : Int32) (x2 : Int32) (K : Int32 → z_D → Option z_D) (R : Int32 → Int32 → z_D → Option z_D) (x3 : Int32) (x4 : Int32) (d : z_D) : Option z_D := z_ald d (o0 + 3) 6 x2 (fun v1 => (if v1 ≤ x4 then (K x3 d) else z_ald d (o0 + 4) 96 ((x2 * 16) + x4) (fun v2 => (if v2 = x1 then (R x3 (x4 + 1) d) else z_ast d (o0 + 4) 96 ((x2 * 16) + x3) v2 (fun d3 => (R (x3 + 1) (x4 + 1) d3))))))
def f_X1_forget_L15 (o0 : Nat) (x1 : Int32) (x2 : Int32) (K : Int32 → z_D → Option z_D) : Nat → Int32 → Int32 → z_D → Option z_D
  | 0 => fun _ _ _ => none
  | n + 1 => f_X1_forget_L15_b o0 x1 x2 K (f_X1_forget_L15 o0 x1 x2 K n)
set_option maxHeartbeats 4000000 in
set_option maxRecDepth 100000 in
theorem g_X1_forget_L15 {E : z_E} {l : Launch} {S : z_S} {o0 : Nat} {x1 : Int32} {x2 : Int32} {K : Int32 → z_D → Option z_D} (h0 : A_Course S o0) (hK : ∀ (y3 : Int32) (d9 : z_D), z_G E l Y_X1_forget (cvV S) (K y3 d9) 68 [(0, .ref (E.2.1 + o0)), (1, .int x1), (2, .int x2), (3, .int y3)] [] (S, d9) 0 0) : ∀ (n : Nat) (x3 : Int32) (x4 : Int32) (d : z_D), z_G E l Y_X1_forget (cvV S) (f_X1_forget_L15 o0 x1 x2 K n x3 x4 d) 15 [(0, .ref (E.2.1 + o0)), (1, .int x1), (2, .int x2), (3, .int x3), (4, .int x4)] [] (S, d) 0 0 := by
  intro n
  induction n with
  | zero => intro _ _ _; exact r_none
  | succ n ih =>
    intro x3 x4 d
    show z_G E l Y_X1_forget (cvV S) (f_X1_forget_L15_b o0 x1 x2 K (f_X1_forget_L15 o0 x1 x2 K n) x3 x4 d) 15 [(0, .ref (E.2.1 + o0)), (1, .int x1), (2, .int x2), (3, .int x3), (4, .int x4)] [] (S, d) 0 0
    unfold f_X1_forget_L15_b
    refine r_iload 4 4 rfl 17 rfl dX1_forget_15 ?_
    refine r_aload_n 0 0 rfl rfl 18 rfl dX1_forget_17 ?_
    refine r_get (h0 0 (Nat.le_of_ble_eq_true rfl)) rfl (Nat.le_of_ble_eq_true rfl) rfl rfl w_X1_forget_1 5 (Nat.le_of_ble_eq_true rfl) rfl w_X1_forget_2 (.ref (E.2.1 + (o0 + 3))) rfl 21 rfl dX1_forget_18 ?_
    refine r_iload_n 2 2 rfl rfl 22 rfl dX1_forget_21 ?_
    refine r_iald (h0 3 (Nat.le_of_ble_eq_true rfl)) rfl rfl 23 rfl dX1_forget_22 (fun v1 => ?_)
    refine r_icmp_ge 68 26 rfl rfl dX1_forget_23 ?_ ?_
    · refine r_sub [0, 1, 2, 3] rfl ?_
      exact hK x3 d
    · refine r_aload_n 0 0 rfl rfl 27 rfl dX1_forget_26 ?_
      refine r_get (h0 0 (Nat.le_of_ble_eq_true rfl)) rfl (Nat.le_of_ble_eq_true rfl) rfl rfl w_X1_forget_1 6 (Nat.le_of_ble_eq_true rfl) rfl w_X1_forget_3 (.ref (E.2.1 + (o0 + 4))) rfl 30 rfl dX1_forget_27 ?_
      refine r_iload_n 2 2 rfl rfl 31 rfl dX1_forget_30 ?_
      refine r_bipush 16 rfl 33 rfl dX1_forget_31 ?_
      refine r_imul 34 rfl dX1_forget_33 ?_
      refine r_iload 4 4 rfl 36 rfl dX1_forget_34 ?_
      refine r_iadd 37 rfl dX1_forget_36 ?_
      refine r_iald (h0 4 (Nat.le_of_ble_eq_true rfl)) rfl rfl 38 rfl dX1_forget_37 (fun v2 => ?_)
      refine r_istore 5 [(5, .int v2), (0, .ref (E.2.1 + o0)), (1, .int x1), (2, .int x2), (3, .int x3), (4, .int x4)] (Nat.le_of_ble_eq_true rfl) rfl 40 rfl dX1_forget_38 ?_
      refine r_iload 5 0 rfl 42 rfl dX1_forget_40 ?_
      refine r_iload_n 1 2 rfl rfl 43 rfl dX1_forget_42 ?_
      refine r_icmp_eq 62 46 rfl rfl dX1_forget_43 ?_ ?_
      · refine r_iinc (x4 + 1) 5 rfl rfl [(4, .int (x4 + 1)), (5, .int v2), (0, .ref (E.2.1 + o0)), (1, .int x1), (2, .int x2), (3, .int x3)] (Nat.le_of_ble_eq_true rfl) rfl 65 rfl dX1_forget_62 ?_
        refine r_goto 15 rfl dX1_forget_65 ?_
        refine r_sub [2, 3, 4, 5, 0] rfl ?_
        exact ih x3 (x4 + 1) d
      · refine r_aload_n 0 1 rfl rfl 47 rfl dX1_forget_46 ?_
        refine r_get (h0 0 (Nat.le_of_ble_eq_true rfl)) rfl (Nat.le_of_ble_eq_true rfl) rfl rfl w_X1_forget_1 6 (Nat.le_of_ble_eq_true rfl) rfl w_X1_forget_3 (.ref (E.2.1 + (o0 + 4))) rfl 50 rfl dX1_forget_47 ?_
        refine r_iload_n 2 3 rfl rfl 51 rfl dX1_forget_50 ?_
        refine r_bipush 16 rfl 53 rfl dX1_forget_51 ?_
        refine r_imul 54 rfl dX1_forget_53 ?_
        refine r_iload_n 3 4 rfl rfl 55 rfl dX1_forget_54 ?_
        refine r_iadd 56 rfl dX1_forget_55 ?_
        refine r_iload 5 0 rfl 58 rfl dX1_forget_56 ?_
        refine r_iast (h0 4 (Nat.le_of_ble_eq_true rfl)) rfl rfl 59 rfl dX1_forget_58 (fun d3 => ?_)
        refine r_iinc (x3 + 1) 4 rfl rfl [(3, .int (x3 + 1)), (5, .int v2), (0, .ref (E.2.1 + o0)), (1, .int x1), (2, .int x2), (4, .int x4)] (Nat.le_of_ble_eq_true rfl) rfl 62 rfl dX1_forget_59 ?_
        refine r_iinc (x4 + 1) 5 rfl rfl [(4, .int (x4 + 1)), (3, .int (x3 + 1)), (5, .int v2), (0, .ref (E.2.1 + o0)), (1, .int x1), (2, .int x2)] (Nat.le_of_ble_eq_true rfl) rfl 65 rfl dX1_forget_62 ?_
        refine r_goto 15 rfl dX1_forget_65 ?_
        refine r_sub [3, 4, 5, 1, 0] rfl ?_
        exact ih (x3 + 1) (x4 + 1) d3
def f_X1_forget_L2_b (o0 : Nat) (x1 : Int32) (K : z_D → Option z_D) (R : Int32 → z_D → Option z_D) (x2 : Int32) (d : z_D) : Option z_D := (if (d o0 2) ≤ x2 then (K d) else (f_X1_forget_L15 o0 x1 x2 (fun v5 d4 => z_ast d4 (o0 + 3) 6 x2 v5 (fun d6 => (R (x2 + 1) d6))) z_N 0 0 d))
def f_X1_forget_L2 (o0 : Nat) (x1 : Int32) (K : z_D → Option z_D) : Nat → Int32 → z_D → Option z_D
  | 0 => fun _ _ => none
  | n + 1 => f_X1_forget_L2_b o0 x1 K (f_X1_forget_L2 o0 x1 K n)
set_option maxHeartbeats 4000000 in
set_option maxRecDepth 100000 in
theorem g_X1_forget_L2 {E : z_E} {l : Launch} {S : z_S} {o0 : Nat} {x1 : Int32} {K : z_D → Option z_D} (h0 : A_Course S o0) (hK : ∀ (d9 : z_D), z_G E l Y_X1_forget (cvV S) (K d9) 81 [] [] (S, d9) 0 0) : ∀ (n : Nat) (x2 : Int32) (d : z_D), z_G E l Y_X1_forget (cvV S) (f_X1_forget_L2 o0 x1 K n x2 d) 2 [(0, .ref (E.2.1 + o0)), (1, .int x1), (2, .int x2)] [] (S, d) 0 0 := by
  intro n
  induction n with
  | zero => intro _ _; exact r_none
  | succ n ih =>
    intro x2 d
    show z_G E l Y_X1_forget (cvV S) (f_X1_forget_L2_b o0 x1 K (f_X1_forget_L2 o0 x1 K n) x2 d) 2 [(0, .ref (E.2.1 + o0)), (1, .int x1), (2, .int x2)] [] (S, d) 0 0
    unfold f_X1_forget_L2_b
    refine r_iload_n 2 2 rfl rfl 3 rfl dX1_forget_2 ?_
    refine r_aload_n 0 0 rfl rfl 4 rfl dX1_forget_3 ?_
    refine r_get (h0 0 (Nat.le_of_ble_eq_true rfl)) rfl (Nat.le_of_ble_eq_true rfl) rfl rfl w_X1_forget_1 2 (Nat.le_of_ble_eq_true rfl) rfl w_X1_forget_0 (.int (d o0 2)) rfl 7 rfl dX1_forget_4 ?_
    refine r_icmp_ge 81 10 rfl rfl dX1_forget_7 ?_ ?_
    · refine r_sub [] rfl ?_
      exact hK d
    · refine r_iconst 0 rfl 11 rfl dX1_forget_10 ?_
      refine r_istore_n 3 rfl [(3, .int 0), (0, .ref (E.2.1 + o0)), (1, .int x1), (2, .int x2)] (Nat.le_of_ble_eq_true rfl) rfl 12 rfl dX1_forget_11 ?_
      refine r_iconst 0 rfl 13 rfl dX1_forget_12 ?_
      refine r_istore 4 [(4, .int 0), (3, .int 0), (0, .ref (E.2.1 + o0)), (1, .int x1), (2, .int x2)] (Nat.le_of_ble_eq_true rfl) rfl 15 rfl dX1_forget_13 ?_
      refine r_sub [2, 3, 4, 1, 0] rfl ?_
      refine g_X1_forget_L15 h0 (fun v5 d4 => ?_) z_N 0 0 d
      refine r_aload_n 0 0 rfl rfl 69 rfl dX1_forget_68 ?_
      refine r_get (h0 0 (Nat.le_of_ble_eq_true rfl)) rfl (Nat.le_of_ble_eq_true rfl) rfl rfl w_X1_forget_1 5 (Nat.le_of_ble_eq_true rfl) rfl w_X1_forget_2 (.ref (E.2.1 + (o0 + 3))) rfl 72 rfl dX1_forget_69 ?_
      refine r_iload_n 2 2 rfl rfl 73 rfl dX1_forget_72 ?_
      refine r_iload_n 3 3 rfl rfl 74 rfl dX1_forget_73 ?_
      refine r_iast (h0 3 (Nat.le_of_ble_eq_true rfl)) rfl rfl 75 rfl dX1_forget_74 (fun d6 => ?_)
      refine r_iinc (x2 + 1) 2 rfl rfl [(2, .int (x2 + 1)), (0, .ref (E.2.1 + o0)), (1, .int x1), (3, .int v5)] (Nat.le_of_ble_eq_true rfl) rfl 78 rfl dX1_forget_75 ?_
      refine r_goto 2 rfl dX1_forget_78 ?_
      refine r_sub [1, 2, 0] rfl ?_
      exact ih (x2 + 1) d6
def f_X1_forget (d : z_D) (o0 : Nat) (x1 : Int32) : Option z_D := (f_X1_forget_L2 o0 x1 (fun d7 => (some d7)) z_N 0 d)
set_option maxHeartbeats 4000000 in
set_option maxRecDepth 100000 in
theorem c_X1_forget {E : z_E} {l : Launch} {S : z_S} (d : z_D) (o0 : Nat) (h0 : A_Course S o0) (x1 : Int32) : z_Sp E l yX1_forget Y_X1_forget (cvV S) [.ref (E.2.1 + o0), .int x1] (S, d) (f_X1_forget d o0 x1) := by
  refine z_entry (lv := [(0, .ref (E.2.1 + o0)), (1, .int x1)]) (by decide) rfl rfl (Nat.le_of_ble_eq_true rfl) rfl ?_
  unfold f_X1_forget
  refine r_iconst 0 rfl 1 rfl dX1_forget_0 ?_
  refine r_istore_n 2 rfl [(2, .int 0), (0, .ref (E.2.1 + o0)), (1, .int x1)] (Nat.le_of_ble_eq_true rfl) rfl 2 rfl dX1_forget_1 ?_
  refine r_sub [1, 2, 0] rfl ?_
  refine g_X1_forget_L2 h0 (fun d7 => ?_) z_N 0 d
  exact r_return rfl rfl (Nat.le_of_ble_eq_true rfl) (Nat.le_of_ble_eq_true rfl) dX1_forget_81
def Y_X2_copyFrom : z_Y := (RX2, cX2_copyFrom, 2, wsX2_copyFrom, none, { frames := 1, cells := 0, slots := 0, locals := 48 }, 0, 0)
theorem ok_X2_copyFrom : z_Ok yX2_copyFrom Y_X2_copyFrom 1 := ⟨⟨_, rfl⟩, rfl, rfl, rfl, by decide +kernel, by decide +kernel⟩
theorem w_X2_copyFrom_0 : Cond.fieldLink RX2 9 "BunchTimes$Prizes" "bonus" "[I" ∈ wsX2_copyFrom := by decide +kernel
theorem w_X2_copyFrom_1 : ∀ w ∈ u_ws RX2 TX2 3, w ∈ wsX2_copyFrom := by decide +kernel
theorem w_X2_copyFrom_2 : Cond.methodLink RX2 21 arraycopyName ∈ wsX2_copyFrom := by decide +kernel
theorem w_X2_copyFrom_3 : Cond.native arraycopyName ∈ wsX2_copyFrom := by decide +kernel
theorem w_X2_copyFrom_4 : Cond.static arraycopyName ∈ wsX2_copyFrom := by decide +kernel
theorem w_X2_copyFrom_5 : Cond.initialized "java/lang/System" ∈ wsX2_copyFrom := by decide +kernel
theorem w_X2_copyFrom_6 : Cond.fieldLink RX2 15 "BunchTimes$Prizes" "points" "[I" ∈ wsX2_copyFrom := by decide +kernel
theorem w_X2_copyFrom_7 : Cond.fieldLink RX2 18 "BunchTimes$Prizes" "dots" "[I" ∈ wsX2_copyFrom := by decide +kernel
def f_X2_copyFrom (d : z_D) (o0 : Nat) (o1 : Nat) : Option z_D := z_cpy d (o1 + 1) (o0 + 1) 16 (fun d1 => z_cpy d1 (o1 + 2) (o0 + 2) 16 (fun d2 => z_cpy d2 (o1 + 3) (o0 + 3) 16 (fun d3 => (some d3))))
set_option maxHeartbeats 4000000 in
set_option maxRecDepth 100000 in
theorem c_X2_copyFrom {E : z_E} {l : Launch} {S : z_S} (d : z_D) (o0 : Nat) (h0 : A_Prizes S o0) (o1 : Nat) (h1 : A_Prizes S o1) : z_Sp E l yX2_copyFrom Y_X2_copyFrom (cvV S) [.ref (E.2.1 + o0), .ref (E.2.1 + o1)] (S, d) (f_X2_copyFrom d o0 o1) := by
  refine z_entry (lv := [(0, .ref (E.2.1 + o0)), (1, .ref (E.2.1 + o1))]) (by decide) rfl rfl (Nat.le_of_ble_eq_true rfl) rfl ?_
  unfold f_X2_copyFrom
  refine r_aload_n 1 1 rfl rfl 1 rfl dX2_copyFrom_0 ?_
  refine r_get (h1 0 (Nat.le_of_ble_eq_true rfl)) rfl (Nat.le_of_ble_eq_true rfl) rfl rfl w_X2_copyFrom_1 0 (Nat.le_of_ble_eq_true rfl) rfl w_X2_copyFrom_0 (.ref (E.2.1 + (o1 + 1))) rfl 4 rfl dX2_copyFrom_1 ?_
  refine r_iconst 0 rfl 5 rfl dX2_copyFrom_4 ?_
  refine r_aload_n 0 0 rfl rfl 6 rfl dX2_copyFrom_5 ?_
  refine r_get (h0 0 (Nat.le_of_ble_eq_true rfl)) rfl (Nat.le_of_ble_eq_true rfl) rfl rfl w_X2_copyFrom_1 0 (Nat.le_of_ble_eq_true rfl) rfl w_X2_copyFrom_0 (.ref (E.2.1 + (o0 + 1))) rfl 9 rfl dX2_copyFrom_6 ?_
  refine r_iconst 0 rfl 10 rfl dX2_copyFrom_9 ?_
  refine r_bipush 16 rfl 12 rfl dX2_copyFrom_10 ?_
  refine r_cpy w_X2_copyFrom_2 w_X2_copyFrom_3 w_X2_copyFrom_4 w_X2_copyFrom_5 (h1 1 (Nat.le_of_ble_eq_true rfl)) (h0 1 (Nat.le_of_ble_eq_true rfl)) rfl rfl (by decide) rfl (Nat.le_of_ble_eq_true rfl) (Nat.le_of_ble_eq_true rfl) (Nat.le_of_ble_eq_true rfl) (Nat.le_of_ble_eq_true rfl) 15 rfl dX2_copyFrom_12 (fun d1 => ?_)
  refine r_aload_n 1 1 rfl rfl 16 rfl dX2_copyFrom_15 ?_
  refine r_get (h1 0 (Nat.le_of_ble_eq_true rfl)) rfl (Nat.le_of_ble_eq_true rfl) rfl rfl w_X2_copyFrom_1 1 (Nat.le_of_ble_eq_true rfl) rfl w_X2_copyFrom_6 (.ref (E.2.1 + (o1 + 2))) rfl 19 rfl dX2_copyFrom_16 ?_
  refine r_iconst 0 rfl 20 rfl dX2_copyFrom_19 ?_
  refine r_aload_n 0 0 rfl rfl 21 rfl dX2_copyFrom_20 ?_
  refine r_get (h0 0 (Nat.le_of_ble_eq_true rfl)) rfl (Nat.le_of_ble_eq_true rfl) rfl rfl w_X2_copyFrom_1 1 (Nat.le_of_ble_eq_true rfl) rfl w_X2_copyFrom_6 (.ref (E.2.1 + (o0 + 2))) rfl 24 rfl dX2_copyFrom_21 ?_
  refine r_iconst 0 rfl 25 rfl dX2_copyFrom_24 ?_
  refine r_bipush 16 rfl 27 rfl dX2_copyFrom_25 ?_
  refine r_cpy w_X2_copyFrom_2 w_X2_copyFrom_3 w_X2_copyFrom_4 w_X2_copyFrom_5 (h1 2 (Nat.le_of_ble_eq_true rfl)) (h0 2 (Nat.le_of_ble_eq_true rfl)) rfl rfl (by decide) rfl (Nat.le_of_ble_eq_true rfl) (Nat.le_of_ble_eq_true rfl) (Nat.le_of_ble_eq_true rfl) (Nat.le_of_ble_eq_true rfl) 30 rfl dX2_copyFrom_27 (fun d2 => ?_)
  refine r_aload_n 1 1 rfl rfl 31 rfl dX2_copyFrom_30 ?_
  refine r_get (h1 0 (Nat.le_of_ble_eq_true rfl)) rfl (Nat.le_of_ble_eq_true rfl) rfl rfl w_X2_copyFrom_1 2 (Nat.le_of_ble_eq_true rfl) rfl w_X2_copyFrom_7 (.ref (E.2.1 + (o1 + 3))) rfl 34 rfl dX2_copyFrom_31 ?_
  refine r_iconst 0 rfl 35 rfl dX2_copyFrom_34 ?_
  refine r_aload_n 0 0 rfl rfl 36 rfl dX2_copyFrom_35 ?_
  refine r_get (h0 0 (Nat.le_of_ble_eq_true rfl)) rfl (Nat.le_of_ble_eq_true rfl) rfl rfl w_X2_copyFrom_1 2 (Nat.le_of_ble_eq_true rfl) rfl w_X2_copyFrom_7 (.ref (E.2.1 + (o0 + 3))) rfl 39 rfl dX2_copyFrom_36 ?_
  refine r_iconst 0 rfl 40 rfl dX2_copyFrom_39 ?_
  refine r_bipush 16 rfl 42 rfl dX2_copyFrom_40 ?_
  refine r_cpy w_X2_copyFrom_2 w_X2_copyFrom_3 w_X2_copyFrom_4 w_X2_copyFrom_5 (h1 3 (Nat.le_of_ble_eq_true rfl)) (h0 3 (Nat.le_of_ble_eq_true rfl)) rfl rfl (by decide) rfl (Nat.le_of_ble_eq_true rfl) (Nat.le_of_ble_eq_true rfl) (Nat.le_of_ble_eq_true rfl) (Nat.le_of_ble_eq_true rfl) 45 rfl dX2_copyFrom_42 (fun d3 => ?_)
  exact r_return rfl rfl (Nat.le_of_ble_eq_true rfl) (Nat.le_of_ble_eq_true rfl) dX2_copyFrom_45
def Y_X2_awardOrder : z_Y := (RX2, cX2_awardOrder, 5, wsX2_awardOrder, none, { frames := 0, cells := 0, slots := 0, locals := 0 }, 0, 0)
theorem ok_X2_awardOrder : z_Ok yX2_awardOrder Y_X2_awardOrder 1 := ⟨⟨_, rfl⟩, rfl, rfl, rfl, by decide +kernel, by decide +kernel⟩
theorem w_X2_awardOrder_0 : Cond.fieldLink RX2 9 "BunchTimes$Prizes" "bonus" "[I" ∈ wsX2_awardOrder := by decide +kernel
theorem w_X2_awardOrder_1 : ∀ w ∈ u_ws RX2 TX2 3, w ∈ wsX2_awardOrder := by decide +kernel
theorem w_X2_awardOrder_2 : Cond.fieldLink RX2 15 "BunchTimes$Prizes" "points" "[I" ∈ wsX2_awardOrder := by decide +kernel
theorem w_X2_awardOrder_3 : Cond.fieldLink RX2 18 "BunchTimes$Prizes" "dots" "[I" ∈ wsX2_awardOrder := by decide +kernel
theorem w_X2_awardOrder_4 : ∀ w ∈ u_ws RX4 TX4 20, w ∈ wsX2_awardOrder := by decide +kernel
theorem w_X2_awardOrder_5 : ∀ w ∈ u_ws RX1 TX1 7, w ∈ wsX2_awardOrder := by decide +kernel
theorem w_X2_awardOrder_6 : Cond.fieldLink RX2 45 "BunchTimes$Prizes" "ORDER_BONUS" "[I" ∈ wsX2_awardOrder := by decide +kernel
theorem w_X2_awardOrder_7 : Cond.fieldLink RX2 52 "BunchTimes$Prizes" "ORDER_POINTS" "[I" ∈ wsX2_awardOrder := by decide +kernel
def f_X2_awardOrder_L2_b (o0 : Nat) (o1 : Nat) (K : z_D → Option z_D) (R : Int32 → z_D → Option z_D) (x2 : Int32) (d : z_D) : Option z_D := (if 16 ≤ x2 then (K d) else z_ast d (o0 + 1) 16 x2 0 (fun d1 => z_ast d1 (o0 + 2) 16 x2 0 (fun d2 => z_ast d2 (o0 + 3) 16 x2 0 (fun d3 => (R (x2 + 1) d3)))))
def f_X2_awardOrder_L2 (o0 : Nat) (o1 : Nat) (K : z_D → Option z_D) : Nat → Int32 → z_D → Option z_D
  | 0 => fun _ _ => none
  | n + 1 => f_X2_awardOrder_L2_b o0 o1 K (f_X2_awardOrder_L2 o0 o1 K n)
set_option maxHeartbeats 4000000 in
set_option maxRecDepth 100000 in
theorem g_X2_awardOrder_L2 {E : z_E} {l : Launch} {S : z_S} {o0 : Nat} {o1 : Nat} {K : z_D → Option z_D} (h0 : A_Prizes S o0) (h1 : A_Stage S o1) (hK : ∀ (d9 : z_D), z_G E l Y_X2_awardOrder (cvV S) (K d9) 35 [(0, .ref (E.2.1 + o0)), (1, .ref (E.2.1 + o1))] [] (S, d9) 0 0) : ∀ (n : Nat) (x2 : Int32) (d : z_D), z_G E l Y_X2_awardOrder (cvV S) (f_X2_awardOrder_L2 o0 o1 K n x2 d) 2 [(0, .ref (E.2.1 + o0)), (1, .ref (E.2.1 + o1)), (2, .int x2)] [] (S, d) 0 0 := by
  intro n
  induction n with
  | zero => intro _ _; exact r_none
  | succ n ih =>
    intro x2 d
    show z_G E l Y_X2_awardOrder (cvV S) (f_X2_awardOrder_L2_b o0 o1 K (f_X2_awardOrder_L2 o0 o1 K n) x2 d) 2 [(0, .ref (E.2.1 + o0)), (1, .ref (E.2.1 + o1)), (2, .int x2)] [] (S, d) 0 0
    unfold f_X2_awardOrder_L2_b
    refine r_iload_n 2 2 rfl rfl 3 rfl dX2_awardOrder_2 ?_
    refine r_bipush 16 rfl 5 rfl dX2_awardOrder_3 ?_
    refine r_icmp_ge 35 8 rfl rfl dX2_awardOrder_5 ?_ ?_
    · refine r_sub [0, 1] rfl ?_
      exact hK d
    · refine r_aload_n 0 0 rfl rfl 9 rfl dX2_awardOrder_8 ?_
      refine r_get (h0 0 (Nat.le_of_ble_eq_true rfl)) rfl (Nat.le_of_ble_eq_true rfl) rfl rfl w_X2_awardOrder_1 0 (Nat.le_of_ble_eq_true rfl) rfl w_X2_awardOrder_0 (.ref (E.2.1 + (o0 + 1))) rfl 12 rfl dX2_awardOrder_9 ?_
      refine r_iload_n 2 2 rfl rfl 13 rfl dX2_awardOrder_12 ?_
      refine r_iconst 0 rfl 14 rfl dX2_awardOrder_13 ?_
      refine r_iast (h0 1 (Nat.le_of_ble_eq_true rfl)) rfl rfl 15 rfl dX2_awardOrder_14 (fun d1 => ?_)
      refine r_aload_n 0 0 rfl rfl 16 rfl dX2_awardOrder_15 ?_
      refine r_get (h0 0 (Nat.le_of_ble_eq_true rfl)) rfl (Nat.le_of_ble_eq_true rfl) rfl rfl w_X2_awardOrder_1 1 (Nat.le_of_ble_eq_true rfl) rfl w_X2_awardOrder_2 (.ref (E.2.1 + (o0 + 2))) rfl 19 rfl dX2_awardOrder_16 ?_
      refine r_iload_n 2 2 rfl rfl 20 rfl dX2_awardOrder_19 ?_
      refine r_iconst 0 rfl 21 rfl dX2_awardOrder_20 ?_
      refine r_iast (h0 2 (Nat.le_of_ble_eq_true rfl)) rfl rfl 22 rfl dX2_awardOrder_21 (fun d2 => ?_)
      refine r_aload_n 0 0 rfl rfl 23 rfl dX2_awardOrder_22 ?_
      refine r_get (h0 0 (Nat.le_of_ble_eq_true rfl)) rfl (Nat.le_of_ble_eq_true rfl) rfl rfl w_X2_awardOrder_1 2 (Nat.le_of_ble_eq_true rfl) rfl w_X2_awardOrder_3 (.ref (E.2.1 + (o0 + 3))) rfl 26 rfl dX2_awardOrder_23 ?_
      refine r_iload_n 2 2 rfl rfl 27 rfl dX2_awardOrder_26 ?_
      refine r_iconst 0 rfl 28 rfl dX2_awardOrder_27 ?_
      refine r_iast (h0 3 (Nat.le_of_ble_eq_true rfl)) rfl rfl 29 rfl dX2_awardOrder_28 (fun d3 => ?_)
      refine r_iinc (x2 + 1) 2 rfl rfl [(2, .int (x2 + 1)), (0, .ref (E.2.1 + o0)), (1, .ref (E.2.1 + o1))] (Nat.le_of_ble_eq_true rfl) rfl 32 rfl dX2_awardOrder_29 ?_
      refine r_goto 2 rfl dX2_awardOrder_32 ?_
      refine r_sub [1, 2, 0] rfl ?_
      exact ih (x2 + 1) d3
def f_X2_awardOrder_L45_b (o0 : Nat) (o1 : Nat) (x2 : Int32) (K : z_D → Option z_D) (R : Int32 → z_D → Option z_D) (x3 : Int32) (d : z_D) : Option z_D := (if (d o1 7) ≤ x3 then (K d) else z_ald d (o1 + 15) 16 x3 (fun v6 => z_let (fun x_89 : z_D => (if 5 ≤ x3 then (R (x3 + 1) x_89) else z_ald x_89 (o1 + 20) 16 v6 (fun v7 => (if v7 = 0 then z_ald x_89 (o0 + 2) 16 v6 (fun v8 => z_tab [25, 20, 16, 13, 10, 15, 12, 9, 7, 5, 10, 8, 6, 4, 2, 10, 8, 6, 4, 2] ((x2 * 5) + x3) (fun v9 => z_ast x_89 (o0 + 2) 16 v6 (v8 + v9) (fun d10 => (R (x3 + 1) d10)))) else (R (x3 + 1) x_89))))) (fun J89 => (if 3 ≤ x3 then (J89 d) else (if x2 = 3 then (J89 d) else z_ald d (o0 + 1) 16 v6 (fun v11 => z_tab [10, 6, 4] x3 (fun v12 => z_ast d (o0 + 1) 16 v6 (v11 + v12) (fun d13 => (J89 d13)))))))))
def f_X2_awardOrder_L45 (o0 : Nat) (o1 : Nat) (x2 : Int32) (K : z_D → Option z_D) : Nat → Int32 → z_D → Option z_D
  | 0 => fun _ _ => none
  | n + 1 => f_X2_awardOrder_L45_b o0 o1 x2 K (f_X2_awardOrder_L45 o0 o1 x2 K n)
set_option maxHeartbeats 4000000 in
set_option maxRecDepth 100000 in
theorem g_X2_awardOrder_L45 {E : z_E} {l : Launch} {S : z_S} {o0 : Nat} {o1 : Nat} {x2 : Int32} {K : z_D → Option z_D} (h0 : A_Prizes S o0) (h1 : A_Stage S o1) (hK : ∀ (d9 : z_D), z_G E l Y_X2_awardOrder (cvV S) (K d9) 129 [] [] (S, d9) 0 0) : ∀ (n : Nat) (x3 : Int32) (d : z_D), z_G E l Y_X2_awardOrder (cvV S) (f_X2_awardOrder_L45 o0 o1 x2 K n x3 d) 45 [(0, .ref (E.2.1 + o0)), (1, .ref (E.2.1 + o1)), (2, .int x2), (3, .int x3)] [] (S, d) 0 0 := by
  intro n
  induction n with
  | zero => intro _ _; exact r_none
  | succ n ih =>
    intro x3 d
    show z_G E l Y_X2_awardOrder (cvV S) (f_X2_awardOrder_L45_b o0 o1 x2 K (f_X2_awardOrder_L45 o0 o1 x2 K n) x3 d) 45 [(0, .ref (E.2.1 + o0)), (1, .ref (E.2.1 + o1)), (2, .int x2), (3, .int x3)] [] (S, d) 0 0
    unfold f_X2_awardOrder_L45_b
    refine r_iload_n 3 3 rfl rfl 46 rfl dX2_awardOrder_45 ?_
    refine r_aload_n 1 1 rfl rfl 47 rfl dX2_awardOrder_46 ?_
    refine r_getN 7 17 rfl (h1 0 (Nat.le_of_ble_eq_true rfl)) rfl (Nat.le_of_ble_eq_true rfl) rfl rfl w_X2_awardOrder_4 (Nat.le_of_ble_eq_true rfl) rfl (.int (d o1 7)) rfl 50 rfl dX2_awardOrder_47 ?_
    refine r_icmp_ge 129 53 rfl rfl dX2_awardOrder_50 ?_ ?_
    · refine r_sub [] rfl ?_
      exact hK d
    · refine r_aload_n 1 1 rfl rfl 54 rfl dX2_awardOrder_53 ?_
      refine r_getN 8 20 rfl (h1 0 (Nat.le_of_ble_eq_true rfl)) rfl (Nat.le_of_ble_eq_true rfl) rfl rfl w_X2_awardOrder_4 (Nat.le_of_ble_eq_true rfl) rfl (.ref (E.2.1 + (o1 + 15))) rfl 57 rfl dX2_awardOrder_54 ?_
      refine r_iload_n 3 3 rfl rfl 58 rfl dX2_awardOrder_57 ?_
      refine r_iald (h1 15 (Nat.le_of_ble_eq_true rfl)) rfl rfl 59 rfl dX2_awardOrder_58 (fun v6 => ?_)
      refine r_istore 4 [(4, .int v6), (0, .ref (E.2.1 + o0)), (1, .ref (E.2.1 + o1)), (2, .int x2), (3, .int x3)] (Nat.le_of_ble_eq_true rfl) rfl 61 rfl dX2_awardOrder_59 ?_
      refine r_iload_n 3 4 rfl rfl 62 rfl dX2_awardOrder_61 ?_
      refine r_gets 1 rfl w_X2_awardOrder_6 65 rfl dX2_awardOrder_62 ?_
      refine r_tlen 1 (v := 3) rfl rfl 66 rfl dX2_awardOrder_65 ?_
      refine r_let 89 (f := fun x_89 : z_D => [(0, .ref (E.2.1 + o0)), (1, .ref (E.2.1 + o1)), (2, .int x2), (3, .int x3), (4, .int v6)]) (g := fun x_89 : z_D => []) (ww := fun x_89 : z_D => (S, x_89)) (fun x_89 => ?_) (fun J89 hJ89 => ?_)
      · refine r_iload_n 3 3 rfl rfl 90 rfl dX2_awardOrder_89 ?_
        refine r_iconst 5 rfl 91 rfl dX2_awardOrder_90 ?_
        refine r_icmp_ge 123 94 rfl rfl dX2_awardOrder_91 ?_ ?_
        · refine r_iinc (x3 + 1) 3 rfl rfl [(3, .int (x3 + 1)), (0, .ref (E.2.1 + o0)), (1, .ref (E.2.1 + o1)), (2, .int x2), (4, .int v6)] (Nat.le_of_ble_eq_true rfl) rfl 126 rfl dX2_awardOrder_123 ?_
          refine r_goto 45 rfl dX2_awardOrder_126 ?_
          refine r_sub [1, 2, 3, 0] rfl ?_
          exact ih (x3 + 1) x_89
        · refine r_aload_n 1 1 rfl rfl 95 rfl dX2_awardOrder_94 ?_
          refine r_getN 13 22 rfl (h1 0 (Nat.le_of_ble_eq_true rfl)) rfl (Nat.le_of_ble_eq_true rfl) rfl rfl w_X2_awardOrder_4 (Nat.le_of_ble_eq_true rfl) rfl (.ref (E.2.1 + (o1 + 20))) rfl 98 rfl dX2_awardOrder_95 ?_
          refine r_iload 4 4 rfl 100 rfl dX2_awardOrder_98 ?_
          refine r_zald (h1 20 (Nat.le_of_ble_eq_true rfl)) rfl rfl 101 rfl dX2_awardOrder_100 (fun v7 => ?_)
          refine r_if_ne 123 104 rfl rfl dX2_awardOrder_101 ?_ ?_
          · refine r_iinc (x3 + 1) 3 rfl rfl [(3, .int (x3 + 1)), (0, .ref (E.2.1 + o0)), (1, .ref (E.2.1 + o1)), (2, .int x2), (4, .int v6)] (Nat.le_of_ble_eq_true rfl) rfl 126 rfl dX2_awardOrder_123 ?_
            refine r_goto 45 rfl dX2_awardOrder_126 ?_
            refine r_sub [1, 2, 3, 0] rfl ?_
            exact ih (x3 + 1) x_89
          · refine r_aload_n 0 0 rfl rfl 105 rfl dX2_awardOrder_104 ?_
            refine r_get (h0 0 (Nat.le_of_ble_eq_true rfl)) rfl (Nat.le_of_ble_eq_true rfl) rfl rfl w_X2_awardOrder_1 1 (Nat.le_of_ble_eq_true rfl) rfl w_X2_awardOrder_2 (.ref (E.2.1 + (o0 + 2))) rfl 108 rfl dX2_awardOrder_105 ?_
            refine r_iload 4 4 rfl 110 rfl dX2_awardOrder_108 ?_
            refine r_dup2 rfl rfl 111 rfl dX2_awardOrder_110 ?_
            refine r_iald (h0 2 (Nat.le_of_ble_eq_true rfl)) rfl rfl 112 rfl dX2_awardOrder_111 (fun v8 => ?_)
            refine r_gets 2 rfl w_X2_awardOrder_7 115 rfl dX2_awardOrder_112 ?_
            refine r_iload_n 2 2 rfl rfl 116 rfl dX2_awardOrder_115 ?_
            refine r_iconst 5 rfl 117 rfl dX2_awardOrder_116 ?_
            refine r_imul 118 rfl dX2_awardOrder_117 ?_
            refine r_iload_n 3 3 rfl rfl 119 rfl dX2_awardOrder_118 ?_
            refine r_iadd 120 rfl dX2_awardOrder_119 ?_
            refine r_tald 2 rfl rfl 121 rfl dX2_awardOrder_120 (fun v9 => ?_)
            refine r_iadd 122 rfl dX2_awardOrder_121 ?_
            refine r_iast (h0 2 (Nat.le_of_ble_eq_true rfl)) rfl rfl 123 rfl dX2_awardOrder_122 (fun d10 => ?_)
            refine r_iinc (x3 + 1) 3 rfl rfl [(3, .int (x3 + 1)), (0, .ref (E.2.1 + o0)), (1, .ref (E.2.1 + o1)), (2, .int x2), (4, .int v6)] (Nat.le_of_ble_eq_true rfl) rfl 126 rfl dX2_awardOrder_123 ?_
            refine r_goto 45 rfl dX2_awardOrder_126 ?_
            refine r_sub [1, 2, 3, 0] rfl ?_
            exact ih (x3 + 1) d10
      refine r_icmp_ge 89 69 rfl rfl dX2_awardOrder_66 ?_ ?_
      · refine r_sub [1, 2, 3, 4, 0] rfl ?_
        exact hJ89 d
      · refine r_iload_n 2 3 rfl rfl 70 rfl dX2_awardOrder_69 ?_
        refine r_iconst 3 rfl 71 rfl dX2_awardOrder_70 ?_
        refine r_icmp_eq 89 74 rfl rfl dX2_awardOrder_71 ?_ ?_
        · refine r_sub [1, 2, 3, 4, 0] rfl ?_
          exact hJ89 d
        · refine r_aload_n 0 1 rfl rfl 75 rfl dX2_awardOrder_74 ?_
          refine r_get (h0 0 (Nat.le_of_ble_eq_true rfl)) rfl (Nat.le_of_ble_eq_true rfl) rfl rfl w_X2_awardOrder_1 0 (Nat.le_of_ble_eq_true rfl) rfl w_X2_awardOrder_0 (.ref (E.2.1 + (o0 + 1))) rfl 78 rfl dX2_awardOrder_75 ?_
          refine r_iload 4 0 rfl 80 rfl dX2_awardOrder_78 ?_
          refine r_dup2 rfl rfl 81 rfl dX2_awardOrder_80 ?_
          refine r_iald (h0 1 (Nat.le_of_ble_eq_true rfl)) rfl rfl 82 rfl dX2_awardOrder_81 (fun v11 => ?_)
          refine r_gets 1 rfl w_X2_awardOrder_6 85 rfl dX2_awardOrder_82 ?_
          refine r_iload_n 3 4 rfl rfl 86 rfl dX2_awardOrder_85 ?_
          refine r_tald 1 rfl rfl 87 rfl dX2_awardOrder_86 (fun v12 => ?_)
          refine r_iadd 88 rfl dX2_awardOrder_87 ?_
          refine r_iast (h0 1 (Nat.le_of_ble_eq_true rfl)) rfl rfl 89 rfl dX2_awardOrder_88 (fun d13 => ?_)
          refine r_sub [1, 2, 3, 4, 0] rfl ?_
          exact hJ89 d13
def f_X2_awardOrder (d : z_D) (o0 : Nat) (o1 : Nat) : Option z_D := (f_X2_awardOrder_L2 o0 o1 (fun d4 => z_nam (d4 (o1 + 1) 0) (fun v5 => (f_X2_awardOrder_L45 o0 o1 v5 (fun d14 => (some d14)) z_N 0 d4))) z_N 0 d)
set_option maxHeartbeats 4000000 in
set_option maxRecDepth 100000 in
theorem c_X2_awardOrder {E : z_E} {l : Launch} {S : z_S} (d : z_D) (o0 : Nat) (h0 : A_Prizes S o0) (o1 : Nat) (h1 : A_Stage S o1) : z_Sp E l yX2_awardOrder Y_X2_awardOrder (cvV S) [.ref (E.2.1 + o0), .ref (E.2.1 + o1)] (S, d) (f_X2_awardOrder d o0 o1) := by
  refine z_entry (lv := [(0, .ref (E.2.1 + o0)), (1, .ref (E.2.1 + o1))]) (by decide) rfl rfl (Nat.le_of_ble_eq_true rfl) rfl ?_
  unfold f_X2_awardOrder
  refine r_iconst 0 rfl 1 rfl dX2_awardOrder_0 ?_
  refine r_istore_n 2 rfl [(2, .int 0), (0, .ref (E.2.1 + o0)), (1, .ref (E.2.1 + o1))] (Nat.le_of_ble_eq_true rfl) rfl 2 rfl dX2_awardOrder_1 ?_
  refine r_sub [1, 2, 0] rfl ?_
  refine g_X2_awardOrder_L2 h0 h1 (fun d4 => ?_) z_N 0 d
  refine r_aload_n 1 1 rfl rfl 36 rfl dX2_awardOrder_35 ?_
  refine r_getN 0 12 rfl (h1 0 (Nat.le_of_ble_eq_true rfl)) rfl (Nat.le_of_ble_eq_true rfl) rfl rfl w_X2_awardOrder_4 (Nat.le_of_ble_eq_true rfl) rfl (.ref (E.2.1 + (o1 + 1))) rfl 39 rfl dX2_awardOrder_36 ?_
  refine r_getN 0 0 rfl ((A_Stage.course h1) 0 (Nat.le_of_ble_eq_true rfl)) rfl (Nat.le_of_ble_eq_true rfl) rfl rfl w_X2_awardOrder_5 (Nat.le_of_ble_eq_true rfl) rfl (.int (d4 (o1 + 1) 0)) rfl 42 rfl dX2_awardOrder_39 ?_
  refine r_nami (fun v5 => ?_)
  refine r_istore_n 2 rfl [(2, .int v5), (0, .ref (E.2.1 + o0)), (1, .ref (E.2.1 + o1))] (Nat.le_of_ble_eq_true rfl) rfl 43 rfl dX2_awardOrder_42 ?_
  refine r_iconst 0 rfl 44 rfl dX2_awardOrder_43 ?_
  refine r_istore_n 3 rfl [(3, .int 0), (2, .int v5), (0, .ref (E.2.1 + o0)), (1, .ref (E.2.1 + o1))] (Nat.le_of_ble_eq_true rfl) rfl 45 rfl dX2_awardOrder_44 ?_
  refine r_sub [2, 3, 1, 0] rfl ?_
  refine g_X2_awardOrder_L45 h0 h1 (fun d14 => ?_) z_N 0 d4
  exact r_return rfl rfl (Nat.le_of_ble_eq_true rfl) (Nat.le_of_ble_eq_true rfl) dX2_awardOrder_129
def Y_X2_awardOver : z_Y := (RX2, cX2_awardOver, 5, wsX2_awardOver, none, { frames := 0, cells := 0, slots := 0, locals := 0 }, 0, 0)
theorem ok_X2_awardOver : z_Ok yX2_awardOver Y_X2_awardOver 4 := ⟨⟨_, rfl⟩, rfl, rfl, rfl, by decide +kernel, by decide +kernel⟩
theorem w_X2_awardOver_0 : Cond.fieldLink RX2 77 "BunchTimes$Prizes" "SPRINT_BONUS" "[I" ∈ wsX2_awardOver := by decide +kernel
theorem w_X2_awardOver_1 : Cond.fieldLink RX2 80 "BunchTimes$Prizes" "SPRINT_POINTS" "[I" ∈ wsX2_awardOver := by decide +kernel
theorem w_X2_awardOver_2 : Cond.fieldLink RX2 15 "BunchTimes$Prizes" "points" "[I" ∈ wsX2_awardOver := by decide +kernel
theorem w_X2_awardOver_3 : ∀ w ∈ u_ws RX2 TX2 3, w ∈ wsX2_awardOver := by decide +kernel
theorem w_X2_awardOver_4 : Cond.fieldLink RX2 9 "BunchTimes$Prizes" "bonus" "[I" ∈ wsX2_awardOver := by decide +kernel
theorem w_X2_awardOver_5 : Cond.fieldLink RX2 18 "BunchTimes$Prizes" "dots" "[I" ∈ wsX2_awardOver := by decide +kernel
theorem w_X2_awardOver_6 : Cond.fieldLink RX2 74 "BunchTimes$Prizes" "CLIMB_DOTS" "[I" ∈ wsX2_awardOver := by decide +kernel
def f_X2_awardOver (d : z_D) (o0 : Nat) (x1 : Int32) (x2 : Int32) (x3 : Int32) (x4 : Int32) : Option z_D := (if x1 = 0 then z_let (fun x_57 : z_D => (if 4 ≤ x2 then (some x_57) else (if x4 = 0 then z_ald x_57 (o0 + 2) 16 x3 (fun v1 => z_tab [10, 7, 4, 2] x2 (fun v2 => z_ast x_57 (o0 + 2) 16 x3 (v1 + v2) (fun d3 => (some d3)))) else (some x_57)))) (fun J57 => (if 3 ≤ x2 then (J57 d) else z_ald d (o0 + 1) 16 x3 (fun v4 => z_tab [3, 2, 1] x2 (fun v5 => z_ast d (o0 + 1) 16 x3 (v4 + v5) (fun d6 => (J57 d6)))))) else (if 4 ≤ x2 then (some d) else (if x4 = 0 then z_ald d (o0 + 3) 16 x3 (fun v7 => z_tab [10, 8, 6, 4, 5, 3, 2, 1, 2, 1, 0, 0, 1, 0, 0, 0] (((x1 - 1) * 4) + x2) (fun v8 => z_ast d (o0 + 3) 16 x3 (v7 + v8) (fun d9 => (some d9)))) else (some d))))
set_option maxHeartbeats 4000000 in
set_option maxRecDepth 100000 in
theorem c_X2_awardOver {E : z_E} {l : Launch} {S : z_S} (d : z_D) (o0 : Nat) (h0 : A_Prizes S o0) (x1 : Int32) (x2 : Int32) (x3 : Int32) (x4 : Int32) : z_Sp E l yX2_awardOver Y_X2_awardOver (cvV S) [.ref (E.2.1 + o0), .int x1, .int x2, .int x3, .int x4] (S, d) (f_X2_awardOver d o0 x1 x2 x3 x4) := by
  refine z_entry (lv := [(0, .ref (E.2.1 + o0)), (1, .int x1), (2, .int x2), (3, .int x3), (4, .int x4)]) (by decide) rfl rfl (Nat.le_of_ble_eq_true rfl) rfl ?_
  unfold f_X2_awardOver
  refine r_iload_n 1 1 rfl rfl 1 rfl dX2_awardOver_0 ?_
  refine r_if_eq 35 4 rfl rfl dX2_awardOver_1 ?_ ?_
  · refine r_iload_n 2 2 rfl rfl 36 rfl dX2_awardOver_35 ?_
    refine r_gets 4 rfl w_X2_awardOver_0 39 rfl dX2_awardOver_36 ?_
    refine r_tlen 4 (v := 3) rfl rfl 40 rfl dX2_awardOver_39 ?_
    refine r_let 57 (f := fun x_57 : z_D => [(0, .ref (E.2.1 + o0)), (2, .int x2), (3, .int x3), (4, .int x4)]) (g := fun x_57 : z_D => []) (ww := fun x_57 : z_D => (S, x_57)) (fun x_57 => ?_) (fun J57 hJ57 => ?_)
    · refine r_iload_n 2 1 rfl rfl 58 rfl dX2_awardOver_57 ?_
      refine r_gets 5 rfl w_X2_awardOver_1 61 rfl dX2_awardOver_58 ?_
      refine r_tlen 5 (v := 4) rfl rfl 62 rfl dX2_awardOver_61 ?_
      refine r_icmp_ge 84 65 rfl rfl dX2_awardOver_62 ?_ ?_
      · exact r_return rfl rfl (Nat.le_of_ble_eq_true rfl) (Nat.le_of_ble_eq_true rfl) dX2_awardOver_84
      · refine r_iload 4 3 rfl 67 rfl dX2_awardOver_65 ?_
        refine r_if_ne 84 70 rfl rfl dX2_awardOver_67 ?_ ?_
        · exact r_return rfl rfl (Nat.le_of_ble_eq_true rfl) (Nat.le_of_ble_eq_true rfl) dX2_awardOver_84
        · refine r_aload_n 0 0 rfl rfl 71 rfl dX2_awardOver_70 ?_
          refine r_get (h0 0 (Nat.le_of_ble_eq_true rfl)) rfl (Nat.le_of_ble_eq_true rfl) rfl rfl w_X2_awardOver_3 1 (Nat.le_of_ble_eq_true rfl) rfl w_X2_awardOver_2 (.ref (E.2.1 + (o0 + 2))) rfl 74 rfl dX2_awardOver_71 ?_
          refine r_iload_n 3 2 rfl rfl 75 rfl dX2_awardOver_74 ?_
          refine r_dup2 rfl rfl 76 rfl dX2_awardOver_75 ?_
          refine r_iald (h0 2 (Nat.le_of_ble_eq_true rfl)) rfl rfl 77 rfl dX2_awardOver_76 (fun v1 => ?_)
          refine r_gets 5 rfl w_X2_awardOver_1 80 rfl dX2_awardOver_77 ?_
          refine r_iload_n 2 1 rfl rfl 81 rfl dX2_awardOver_80 ?_
          refine r_tald 5 rfl rfl 82 rfl dX2_awardOver_81 (fun v2 => ?_)
          refine r_iadd 83 rfl dX2_awardOver_82 ?_
          refine r_iast (h0 2 (Nat.le_of_ble_eq_true rfl)) rfl rfl 84 rfl dX2_awardOver_83 (fun d3 => ?_)
          exact r_return rfl rfl (Nat.le_of_ble_eq_true rfl) (Nat.le_of_ble_eq_true rfl) dX2_awardOver_84
    refine r_icmp_ge 57 43 rfl rfl dX2_awardOver_40 ?_ ?_
    · refine r_sub [0, 2, 3, 4] rfl ?_
      exact hJ57 d
    · refine r_aload_n 0 0 rfl rfl 44 rfl dX2_awardOver_43 ?_
      refine r_get (h0 0 (Nat.le_of_ble_eq_true rfl)) rfl (Nat.le_of_ble_eq_true rfl) rfl rfl w_X2_awardOver_3 0 (Nat.le_of_ble_eq_true rfl) rfl w_X2_awardOver_4 (.ref (E.2.1 + (o0 + 1))) rfl 47 rfl dX2_awardOver_44 ?_
      refine r_iload_n 3 3 rfl rfl 48 rfl dX2_awardOver_47 ?_
      refine r_dup2 rfl rfl 49 rfl dX2_awardOver_48 ?_
      refine r_iald (h0 1 (Nat.le_of_ble_eq_true rfl)) rfl rfl 50 rfl dX2_awardOver_49 (fun v4 => ?_)
      refine r_gets 4 rfl w_X2_awardOver_0 53 rfl dX2_awardOver_50 ?_
      refine r_iload_n 2 2 rfl rfl 54 rfl dX2_awardOver_53 ?_
      refine r_tald 4 rfl rfl 55 rfl dX2_awardOver_54 (fun v5 => ?_)
      refine r_iadd 56 rfl dX2_awardOver_55 ?_
      refine r_iast (h0 1 (Nat.le_of_ble_eq_true rfl)) rfl rfl 57 rfl dX2_awardOver_56 (fun d6 => ?_)
      refine r_sub [0, 2, 3, 4] rfl ?_
      exact hJ57 d6
  · refine r_iload_n 2 2 rfl rfl 5 rfl dX2_awardOver_4 ?_
    refine r_iconst 4 rfl 6 rfl dX2_awardOver_5 ?_
    refine r_icmp_ge 34 9 rfl rfl dX2_awardOver_6 ?_ ?_
    · exact r_return rfl rfl (Nat.le_of_ble_eq_true rfl) (Nat.le_of_ble_eq_true rfl) dX2_awardOver_34
    · refine r_iload 4 4 rfl 11 rfl dX2_awardOver_9 ?_
      refine r_if_ne 34 14 rfl rfl dX2_awardOver_11 ?_ ?_
      · exact r_return rfl rfl (Nat.le_of_ble_eq_true rfl) (Nat.le_of_ble_eq_true rfl) dX2_awardOver_34
      · refine r_aload_n 0 0 rfl rfl 15 rfl dX2_awardOver_14 ?_
        refine r_get (h0 0 (Nat.le_of_ble_eq_true rfl)) rfl (Nat.le_of_ble_eq_true rfl) rfl rfl w_X2_awardOver_3 2 (Nat.le_of_ble_eq_true rfl) rfl w_X2_awardOver_5 (.ref (E.2.1 + (o0 + 3))) rfl 18 rfl dX2_awardOver_15 ?_
        refine r_iload_n 3 3 rfl rfl 19 rfl dX2_awardOver_18 ?_
        refine r_dup2 rfl rfl 20 rfl dX2_awardOver_19 ?_
        refine r_iald (h0 3 (Nat.le_of_ble_eq_true rfl)) rfl rfl 21 rfl dX2_awardOver_20 (fun v7 => ?_)
        refine r_gets 3 rfl w_X2_awardOver_6 24 rfl dX2_awardOver_21 ?_
        refine r_iload_n 1 1 rfl rfl 25 rfl dX2_awardOver_24 ?_
        refine r_iconst 1 rfl 26 rfl dX2_awardOver_25 ?_
        refine r_isub 27 rfl dX2_awardOver_26 ?_
        refine r_iconst 4 rfl 28 rfl dX2_awardOver_27 ?_
        refine r_imul 29 rfl dX2_awardOver_28 ?_
        refine r_iload_n 2 2 rfl rfl 30 rfl dX2_awardOver_29 ?_
        refine r_iadd 31 rfl dX2_awardOver_30 ?_
        refine r_tald 3 rfl rfl 32 rfl dX2_awardOver_31 (fun v8 => ?_)
        refine r_iadd 33 rfl dX2_awardOver_32 ?_
        refine r_iast (h0 3 (Nat.le_of_ble_eq_true rfl)) rfl rfl 34 rfl dX2_awardOver_33 (fun d9 => ?_)
        exact r_return rfl rfl (Nat.le_of_ble_eq_true rfl) (Nat.le_of_ble_eq_true rfl) dX2_awardOver_34
def Y_X2_awardMarks : z_Y := (RX2, cX2_awardMarks, 7, wsX2_awardMarks, none, { frames := 1, cells := 0, slots := 0, locals := 24 }, 0, 0)
theorem ok_X2_awardMarks : z_Ok yX2_awardMarks Y_X2_awardMarks 1 := ⟨⟨_, rfl⟩, rfl, rfl, rfl, by decide +kernel, by decide +kernel⟩
theorem w_X2_awardMarks_0 : ∀ w ∈ u_ws RX4 TX4 20, w ∈ wsX2_awardMarks := by decide +kernel
theorem w_X2_awardMarks_1 : ∀ w ∈ u_ws RX1 TX1 7, w ∈ wsX2_awardMarks := by decide +kernel
def f_X2_awardMarks_L21_b (o0 : Nat) (o1 : Nat) (o2 : Nat) (x3 : Int32) (K : z_D → Option z_D) (R : Int32 → Int32 → z_D → Option z_D) (x4 : Int32) (x5 : Int32) (d : z_D) : Option z_D := z_ald d (o2 + 3) 6 x3 (fun v1 => (if v1 ≤ x5 then (K d) else z_ald d (o2 + 4) 96 ((x3 * 16) + x5) (fun v2 => z_ald d (o1 + 10) 16 v2 (fun v3 => (if v3 = 0 then (R x4 (x5 + 1) d) else z_ald d (o2 + 2) 6 x3 (fun v4 => z_ald d (o1 + 20) 16 v2 (fun v5 => ((f_X2_awardOver d o0 v4 x4 v2 v5).bind fun d6 => (R (x4 + 1) (x5 + 1) d6)))))))))
def f_X2_awardMarks_L21 (o0 : Nat) (o1 : Nat) (o2 : Nat) (x3 : Int32) (K : z_D → Option z_D) : Nat → Int32 → Int32 → z_D → Option z_D
  | 0 => fun _ _ _ => none
  | n + 1 => f_X2_awardMarks_L21_b o0 o1 o2 x3 K (f_X2_awardMarks_L21 o0 o1 o2 x3 K n)
set_option maxHeartbeats 4000000 in
set_option maxRecDepth 100000 in
theorem g_X2_awardMarks_L21 {E : z_E} {l : Launch} {S : z_S} {o0 : Nat} {o1 : Nat} {o2 : Nat} {x3 : Int32} {K : z_D → Option z_D} (h0 : A_Prizes S o0) (h1 : A_Stage S o1) (h2 : A_Course S o2) (hK : ∀ (d9 : z_D), z_G E l Y_X2_awardMarks (cvV S) (K d9) 86 [(0, .ref (E.2.1 + o0)), (1, .ref (E.2.1 + o1)), (2, .ref (E.2.1 + o2)), (3, .int x3)] [] (S, d9) 0 0) : ∀ (n : Nat) (x4 : Int32) (x5 : Int32) (d : z_D), z_G E l Y_X2_awardMarks (cvV S) (f_X2_awardMarks_L21 o0 o1 o2 x3 K n x4 x5 d) 21 [(0, .ref (E.2.1 + o0)), (1, .ref (E.2.1 + o1)), (2, .ref (E.2.1 + o2)), (3, .int x3), (4, .int x4), (5, .int x5)] [] (S, d) 0 0 := by
  intro n
  induction n with
  | zero => intro _ _ _; exact r_none
  | succ n ih =>
    intro x4 x5 d
    show z_G E l Y_X2_awardMarks (cvV S) (f_X2_awardMarks_L21_b o0 o1 o2 x3 K (f_X2_awardMarks_L21 o0 o1 o2 x3 K n) x4 x5 d) 21 [(0, .ref (E.2.1 + o0)), (1, .ref (E.2.1 + o1)), (2, .ref (E.2.1 + o2)), (3, .int x3), (4, .int x4), (5, .int x5)] [] (S, d) 0 0
    unfold f_X2_awardMarks_L21_b
    refine r_iload 5 5 rfl 23 rfl dX2_awardMarks_21 ?_
    refine r_aload_n 2 2 rfl rfl 24 rfl dX2_awardMarks_23 ?_
    refine r_getN 5 7 rfl (h2 0 (Nat.le_of_ble_eq_true rfl)) rfl (Nat.le_of_ble_eq_true rfl) rfl rfl w_X2_awardMarks_1 (Nat.le_of_ble_eq_true rfl) rfl (.ref (E.2.1 + (o2 + 3))) rfl 27 rfl dX2_awardMarks_24 ?_
    refine r_iload_n 3 3 rfl rfl 28 rfl dX2_awardMarks_27 ?_
    refine r_iald (h2 3 (Nat.le_of_ble_eq_true rfl)) rfl rfl 29 rfl dX2_awardMarks_28 (fun v1 => ?_)
    refine r_icmp_ge 86 32 rfl rfl dX2_awardMarks_29 ?_ ?_
    · refine r_sub [0, 1, 2, 3] rfl ?_
      exact hK d
    · refine r_aload_n 2 2 rfl rfl 33 rfl dX2_awardMarks_32 ?_
      refine r_getN 6 8 rfl (h2 0 (Nat.le_of_ble_eq_true rfl)) rfl (Nat.le_of_ble_eq_true rfl) rfl rfl w_X2_awardMarks_1 (Nat.le_of_ble_eq_true rfl) rfl (.ref (E.2.1 + (o2 + 4))) rfl 36 rfl dX2_awardMarks_33 ?_
      refine r_iload_n 3 3 rfl rfl 37 rfl dX2_awardMarks_36 ?_
      refine r_bipush 16 rfl 39 rfl dX2_awardMarks_37 ?_
      refine r_imul 40 rfl dX2_awardMarks_39 ?_
      refine r_iload 5 5 rfl 42 rfl dX2_awardMarks_40 ?_
      refine r_iadd 43 rfl dX2_awardMarks_42 ?_
      refine r_iald (h2 4 (Nat.le_of_ble_eq_true rfl)) rfl rfl 44 rfl dX2_awardMarks_43 (fun v2 => ?_)
      refine r_istore 6 [(6, .int v2), (0, .ref (E.2.1 + o0)), (1, .ref (E.2.1 + o1)), (2, .ref (E.2.1 + o2)), (3, .int x3), (4, .int x4), (5, .int x5)] (Nat.le_of_ble_eq_true rfl) rfl 46 rfl dX2_awardMarks_44 ?_
      refine r_aload_n 1 2 rfl rfl 47 rfl dX2_awardMarks_46 ?_
      refine r_getN 2 15 rfl (h1 0 (Nat.le_of_ble_eq_true rfl)) rfl (Nat.le_of_ble_eq_true rfl) rfl rfl w_X2_awardMarks_0 (Nat.le_of_ble_eq_true rfl) rfl (.ref (E.2.1 + (o1 + 10))) rfl 50 rfl dX2_awardMarks_47 ?_
      refine r_iload 6 0 rfl 52 rfl dX2_awardMarks_50 ?_
      refine r_iald (h1 10 (Nat.le_of_ble_eq_true rfl)) rfl rfl 53 rfl dX2_awardMarks_52 (fun v3 => ?_)
      refine r_if_eq 80 56 rfl rfl dX2_awardMarks_53 ?_ ?_
      · refine r_iinc (x5 + 1) 6 rfl rfl [(5, .int (x5 + 1)), (6, .int v2), (0, .ref (E.2.1 + o0)), (1, .ref (E.2.1 + o1)), (2, .ref (E.2.1 + o2)), (3, .int x3), (4, .int x4)] (Nat.le_of_ble_eq_true rfl) rfl 83 rfl dX2_awardMarks_80 ?_
        refine r_goto 21 rfl dX2_awardMarks_83 ?_
        refine r_sub [2, 3, 4, 5, 6, 0] rfl ?_
        exact ih x4 (x5 + 1) d
      · refine r_aload_n 0 1 rfl rfl 57 rfl dX2_awardMarks_56 ?_
        refine r_aload_n 2 3 rfl rfl 58 rfl dX2_awardMarks_57 ?_
        refine r_getN 4 6 rfl (h2 0 (Nat.le_of_ble_eq_true rfl)) rfl (Nat.le_of_ble_eq_true rfl) rfl rfl w_X2_awardMarks_1 (Nat.le_of_ble_eq_true rfl) rfl (.ref (E.2.1 + (o2 + 2))) rfl 61 rfl dX2_awardMarks_58 ?_
        refine r_iload_n 3 4 rfl rfl 62 rfl dX2_awardMarks_61 ?_
        refine r_iald (h2 2 (Nat.le_of_ble_eq_true rfl)) rfl rfl 63 rfl dX2_awardMarks_62 (fun v4 => ?_)
        refine r_iload 4 5 rfl 65 rfl dX2_awardMarks_63 ?_
        refine r_iload 6 0 rfl 67 rfl dX2_awardMarks_65 ?_
        refine r_aload_n 1 2 rfl rfl 68 rfl dX2_awardMarks_67 ?_
        refine r_getN 13 22 rfl (h1 0 (Nat.le_of_ble_eq_true rfl)) rfl (Nat.le_of_ble_eq_true rfl) rfl rfl w_X2_awardMarks_0 (Nat.le_of_ble_eq_true rfl) rfl (.ref (E.2.1 + (o1 + 20))) rfl 71 rfl dX2_awardMarks_68 ?_
        refine r_iload 6 0 rfl 73 rfl dX2_awardMarks_71 ?_
        refine r_zald (h1 20 (Nat.le_of_ble_eq_true rfl)) rfl rfl 74 rfl dX2_awardMarks_73 (fun v5 => ?_)
        refine r_callV_V (c_X2_awardOver (E := E) (l := l) (S := S) d o0 h0 v4 x4 v2 v5) ok_X2_awardOver ⟨⟨(Nat.le_of_ble_eq_true rfl), (Nat.le_of_ble_eq_true rfl)⟩, (Nat.le_of_ble_eq_true rfl), (Nat.le_of_ble_eq_true rfl)⟩ (h0 0 (Nat.le_of_ble_eq_true rfl)) (Nat.le_of_ble_eq_true rfl) rfl rfl rfl (Nat.le_of_ble_eq_true rfl) gX2_awardMarks_X2_awardOver rfl rfl 77 rfl dX2_awardMarks_74 (fun d6 => ?_)
        refine r_iinc (x4 + 1) 5 rfl rfl [(4, .int (x4 + 1)), (6, .int v2), (0, .ref (E.2.1 + o0)), (1, .ref (E.2.1 + o1)), (2, .ref (E.2.1 + o2)), (3, .int x3), (5, .int x5)] (Nat.le_of_ble_eq_true rfl) rfl 80 rfl dX2_awardMarks_77 ?_
        refine r_iinc (x5 + 1) 6 rfl rfl [(5, .int (x5 + 1)), (4, .int (x4 + 1)), (6, .int v2), (0, .ref (E.2.1 + o0)), (1, .ref (E.2.1 + o1)), (2, .ref (E.2.1 + o2)), (3, .int x3)] (Nat.le_of_ble_eq_true rfl) rfl 83 rfl dX2_awardMarks_80 ?_
        refine r_goto 21 rfl dX2_awardMarks_83 ?_
        refine r_sub [3, 4, 5, 6, 1, 0] rfl ?_
        exact ih (x4 + 1) (x5 + 1) d6
def f_X2_awardMarks_L7_b (o0 : Nat) (o1 : Nat) (o2 : Nat) (K : z_D → Option z_D) (R : Int32 → z_D → Option z_D) (x3 : Int32) (d : z_D) : Option z_D := (if (d o2 2) ≤ x3 then (K d) else (f_X2_awardMarks_L21 o0 o1 o2 x3 (fun d7 => (R (x3 + 1) d7)) z_N 0 0 d))
def f_X2_awardMarks_L7 (o0 : Nat) (o1 : Nat) (o2 : Nat) (K : z_D → Option z_D) : Nat → Int32 → z_D → Option z_D
  | 0 => fun _ _ => none
  | n + 1 => f_X2_awardMarks_L7_b o0 o1 o2 K (f_X2_awardMarks_L7 o0 o1 o2 K n)
set_option maxHeartbeats 4000000 in
set_option maxRecDepth 100000 in
theorem g_X2_awardMarks_L7 {E : z_E} {l : Launch} {S : z_S} {o0 : Nat} {o1 : Nat} {o2 : Nat} {K : z_D → Option z_D} (h0 : A_Prizes S o0) (h1 : A_Stage S o1) (h2 : A_Course S o2) (hK : ∀ (d9 : z_D), z_G E l Y_X2_awardMarks (cvV S) (K d9) 92 [] [] (S, d9) 0 0) : ∀ (n : Nat) (x3 : Int32) (d : z_D), z_G E l Y_X2_awardMarks (cvV S) (f_X2_awardMarks_L7 o0 o1 o2 K n x3 d) 7 [(0, .ref (E.2.1 + o0)), (1, .ref (E.2.1 + o1)), (2, .ref (E.2.1 + o2)), (3, .int x3)] [] (S, d) 0 0 := by
  intro n
  induction n with
  | zero => intro _ _; exact r_none
  | succ n ih =>
    intro x3 d
    show z_G E l Y_X2_awardMarks (cvV S) (f_X2_awardMarks_L7_b o0 o1 o2 K (f_X2_awardMarks_L7 o0 o1 o2 K n) x3 d) 7 [(0, .ref (E.2.1 + o0)), (1, .ref (E.2.1 + o1)), (2, .ref (E.2.1 + o2)), (3, .int x3)] [] (S, d) 0 0
    unfold f_X2_awardMarks_L7_b
    refine r_iload_n 3 3 rfl rfl 8 rfl dX2_awardMarks_7 ?_
    refine r_aload_n 2 2 rfl rfl 9 rfl dX2_awardMarks_8 ?_
    refine r_getN 2 4 rfl (h2 0 (Nat.le_of_ble_eq_true rfl)) rfl (Nat.le_of_ble_eq_true rfl) rfl rfl w_X2_awardMarks_1 (Nat.le_of_ble_eq_true rfl) rfl (.int (d o2 2)) rfl 12 rfl dX2_awardMarks_9 ?_
    refine r_icmp_ge 92 15 rfl rfl dX2_awardMarks_12 ?_ ?_
    · refine r_sub [] rfl ?_
      exact hK d
    · refine r_iconst 0 rfl 16 rfl dX2_awardMarks_15 ?_
      refine r_istore 4 [(4, .int 0), (0, .ref (E.2.1 + o0)), (1, .ref (E.2.1 + o1)), (2, .ref (E.2.1 + o2)), (3, .int x3)] (Nat.le_of_ble_eq_true rfl) rfl 18 rfl dX2_awardMarks_16 ?_
      refine r_iconst 0 rfl 19 rfl dX2_awardMarks_18 ?_
      refine r_istore 5 [(5, .int 0), (4, .int 0), (0, .ref (E.2.1 + o0)), (1, .ref (E.2.1 + o1)), (2, .ref (E.2.1 + o2)), (3, .int x3)] (Nat.le_of_ble_eq_true rfl) rfl 21 rfl dX2_awardMarks_19 ?_
      refine r_sub [2, 3, 4, 5, 1, 0] rfl ?_
      refine g_X2_awardMarks_L21 h0 h1 h2 (fun d7 => ?_) z_N 0 0 d
      refine r_iinc (x3 + 1) 3 rfl rfl [(3, .int (x3 + 1)), (0, .ref (E.2.1 + o0)), (1, .ref (E.2.1 + o1)), (2, .ref (E.2.1 + o2))] (Nat.le_of_ble_eq_true rfl) rfl 89 rfl dX2_awardMarks_86 ?_
      refine r_goto 7 rfl dX2_awardMarks_89 ?_
      refine r_sub [1, 2, 3, 0] rfl ?_
      exact ih (x3 + 1) d7
def f_X2_awardMarks (d : z_D) (o0 : Nat) (o1 : Nat) : Option z_D := (f_X2_awardMarks_L7 o0 o1 (o1 + 1) (fun d8 => (some d8)) z_N 0 d)
set_option maxHeartbeats 4000000 in
set_option maxRecDepth 100000 in
theorem c_X2_awardMarks {E : z_E} {l : Launch} {S : z_S} (d : z_D) (o0 : Nat) (h0 : A_Prizes S o0) (o1 : Nat) (h1 : A_Stage S o1) : z_Sp E l yX2_awardMarks Y_X2_awardMarks (cvV S) [.ref (E.2.1 + o0), .ref (E.2.1 + o1)] (S, d) (f_X2_awardMarks d o0 o1) := by
  refine z_entry (lv := [(0, .ref (E.2.1 + o0)), (1, .ref (E.2.1 + o1))]) (by decide) rfl rfl (Nat.le_of_ble_eq_true rfl) rfl ?_
  unfold f_X2_awardMarks
  refine r_aload_n 1 1 rfl rfl 1 rfl dX2_awardMarks_0 ?_
  refine r_getN 0 12 rfl (h1 0 (Nat.le_of_ble_eq_true rfl)) rfl (Nat.le_of_ble_eq_true rfl) rfl rfl w_X2_awardMarks_0 (Nat.le_of_ble_eq_true rfl) rfl (.ref (E.2.1 + (o1 + 1))) rfl 4 rfl dX2_awardMarks_1 ?_
  refine r_astore_n 2 rfl [(2, .ref (E.2.1 + (o1 + 1))), (0, .ref (E.2.1 + o0)), (1, .ref (E.2.1 + o1))] (Nat.le_of_ble_eq_true rfl) rfl 5 rfl dX2_awardMarks_4 ?_
  refine r_iconst 0 rfl 6 rfl dX2_awardMarks_5 ?_
  refine r_istore_n 3 rfl [(3, .int 0), (2, .ref (E.2.1 + (o1 + 1))), (0, .ref (E.2.1 + o0)), (1, .ref (E.2.1 + o1))] (Nat.le_of_ble_eq_true rfl) rfl 7 rfl dX2_awardMarks_6 ?_
  refine r_sub [2, 3, 1, 0] rfl ?_
  refine g_X2_awardMarks_L7 h0 h1 (A_Stage.course h1) (fun d8 => ?_) z_N 0 d
  exact r_return rfl rfl (Nat.le_of_ble_eq_true rfl) (Nat.le_of_ble_eq_true rfl) dX2_awardMarks_92
