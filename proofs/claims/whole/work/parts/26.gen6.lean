/-! 26.gen6: by gen/mk.py -/
def Y_X6_putFour : z_Y := (RX6, cX6_putFour, 3, wsX6_putFour, none, { frames := 0, cells := 0, slots := 0, locals := 0 }, 0, 0)
theorem ok_X6_putFour : z_Ok yX6_putFour Y_X6_putFour 1 := ⟨⟨_, rfl⟩, rfl, rfl, rfl, by decide +kernel, by decide +kernel⟩
theorem w_X6_putFour_0 : Cond.fieldLink RX6 15 "BunchTimes$Tape" "length" "I" ∈ wsX6_putFour := by decide +kernel
theorem w_X6_putFour_1 : ∀ w ∈ u_ws RX6 TX6 6, w ∈ wsX6_putFour := by decide +kernel
theorem w_X6_putFour_2 : Cond.fieldLink RX6 9 "BunchTimes$Tape" "bytes" "[B" ∈ wsX6_putFour := by decide +kernel
def f_X6_putFour_L3_b (o0 : Nat) (x1 : Int32) (K : z_D → Option z_D) (R : Int32 → z_D → Option z_D) (x2 : Int32) (d : z_D) : Option z_D := (if x2 < 0 then (K d) else (if 600 ≤ (d o0 1) then (K d) else z_ast d (o0 + 1) 600 (d o0 1) (((x1 >>> (x2 &&& 31)).toInt8.toInt32).toInt8.toInt32) (fun d1 => z_put d1 o0 1 ((d1 o0 1) + 1) (fun d2 => (R (x2 + (-8)) d2)))))
def f_X6_putFour_L3 (o0 : Nat) (x1 : Int32) (K : z_D → Option z_D) : Nat → Int32 → z_D → Option z_D
  | 0 => fun _ _ => none
  | n + 1 => f_X6_putFour_L3_b o0 x1 K (f_X6_putFour_L3 o0 x1 K n)
set_option maxHeartbeats 4000000 in
set_option maxRecDepth 100000 in
theorem g_X6_putFour_L3 {E : z_E} {l : Launch} {S : z_S} {o0 : Nat} {x1 : Int32} {K : z_D → Option z_D} (h0 : A_Tape S o0) (hK : ∀ (d9 : z_D), z_G E l Y_X6_putFour (cvV S) (K d9) 46 [] [] (S, d9) 0 0) : ∀ (n : Nat) (x2 : Int32) (d : z_D), z_G E l Y_X6_putFour (cvV S) (f_X6_putFour_L3 o0 x1 K n x2 d) 3 [(0, .ref (E.2.1 + o0)), (1, .int x1), (2, .int x2)] [] (S, d) 0 0 := by
  intro n
  induction n with
  | zero => intro _ _; exact r_none
  | succ n ih =>
    intro x2 d
    show z_G E l Y_X6_putFour (cvV S) (f_X6_putFour_L3_b o0 x1 K (f_X6_putFour_L3 o0 x1 K n) x2 d) 3 [(0, .ref (E.2.1 + o0)), (1, .int x1), (2, .int x2)] [] (S, d) 0 0
    unfold f_X6_putFour_L3_b
    refine r_iload_n 2 2 rfl rfl 4 rfl dX6_putFour_3 ?_
    refine r_if_lt 46 7 rfl rfl dX6_putFour_4 ?_ ?_
    · refine r_sub [] rfl ?_
      exact hK d
    · refine r_aload_n 0 0 rfl rfl 8 rfl dX6_putFour_7 ?_
      refine r_get (h0 0 (Nat.le_of_ble_eq_true rfl)) rfl (Nat.le_of_ble_eq_true rfl) rfl rfl w_X6_putFour_1 1 (Nat.le_of_ble_eq_true rfl) rfl w_X6_putFour_0 (.int (d o0 1)) rfl 11 rfl dX6_putFour_8 ?_
      refine r_sipush 600 rfl 14 rfl dX6_putFour_11 ?_
      refine r_icmp_ge 46 17 rfl rfl dX6_putFour_14 ?_ ?_
      · refine r_sub [] rfl ?_
        exact hK d
      · refine r_aload_n 0 0 rfl rfl 18 rfl dX6_putFour_17 ?_
        refine r_get (h0 0 (Nat.le_of_ble_eq_true rfl)) rfl (Nat.le_of_ble_eq_true rfl) rfl rfl w_X6_putFour_1 0 (Nat.le_of_ble_eq_true rfl) rfl w_X6_putFour_2 (.ref (E.2.1 + (o0 + 1))) rfl 21 rfl dX6_putFour_18 ?_
        refine r_aload_n 0 0 rfl rfl 22 rfl dX6_putFour_21 ?_
        refine r_get (h0 0 (Nat.le_of_ble_eq_true rfl)) rfl (Nat.le_of_ble_eq_true rfl) rfl rfl w_X6_putFour_1 1 (Nat.le_of_ble_eq_true rfl) rfl w_X6_putFour_0 (.int (d o0 1)) rfl 25 rfl dX6_putFour_22 ?_
        refine r_iload_n 1 1 rfl rfl 26 rfl dX6_putFour_25 ?_
        refine r_iload_n 2 2 rfl rfl 27 rfl dX6_putFour_26 ?_
        refine r_ishr 28 rfl dX6_putFour_27 ?_
        refine r_i2b 29 rfl dX6_putFour_28 ?_
        refine r_bast (h0 1 (Nat.le_of_ble_eq_true rfl)) rfl rfl 30 rfl dX6_putFour_29 (fun d1 => ?_)
        refine r_aload_n 0 0 rfl rfl 31 rfl dX6_putFour_30 ?_
        refine r_dup rfl 32 rfl dX6_putFour_31 ?_
        refine r_get (h0 0 (Nat.le_of_ble_eq_true rfl)) rfl (Nat.le_of_ble_eq_true rfl) rfl rfl w_X6_putFour_1 1 (Nat.le_of_ble_eq_true rfl) rfl w_X6_putFour_0 (.int (d1 o0 1)) rfl 35 rfl dX6_putFour_32 ?_
        refine r_iconst 1 rfl 36 rfl dX6_putFour_35 ?_
        refine r_iadd 37 rfl dX6_putFour_36 ?_
        refine r_put (h0 0 (Nat.le_of_ble_eq_true rfl)) rfl (Nat.le_of_ble_eq_true rfl) rfl rfl w_X6_putFour_1 tyX6 tyX6_ok nmX6 (Nat.le_of_ble_eq_true rfl) rfl w_X6_putFour_0 rfl rfl rfl rfl rfl 40 rfl dX6_putFour_37 (fun d2 => ?_)
        refine r_iinc (x2 + (-8)) 2 rfl (congrArg (fun y => x2 + y) (by decide)) [(2, .int (x2 + (-8))), (0, .ref (E.2.1 + o0)), (1, .int x1)] (Nat.le_of_ble_eq_true rfl) rfl 43 rfl dX6_putFour_40 ?_
        refine r_goto 3 rfl dX6_putFour_43 ?_
        refine r_sub [1, 2, 0] rfl ?_
        exact ih (x2 + (-8)) d2
def f_X6_putFour (d : z_D) (o0 : Nat) (x1 : Int32) : Option z_D := (f_X6_putFour_L3 o0 x1 (fun d3 => (some d3)) z_N 24 d)
set_option maxHeartbeats 4000000 in
set_option maxRecDepth 100000 in
theorem c_X6_putFour {E : z_E} {l : Launch} {S : z_S} (d : z_D) (o0 : Nat) (h0 : A_Tape S o0) (x1 : Int32) : z_Sp E l yX6_putFour Y_X6_putFour (cvV S) [.ref (E.2.1 + o0), .int x1] (S, d) (f_X6_putFour d o0 x1) := by
  refine z_entry (lv := [(0, .ref (E.2.1 + o0)), (1, .int x1)]) (by decide) rfl rfl (Nat.le_of_ble_eq_true rfl) rfl ?_
  unfold f_X6_putFour
  refine r_bipush 24 rfl 2 rfl dX6_putFour_0 ?_
  refine r_istore_n 2 rfl [(2, .int 24), (0, .ref (E.2.1 + o0)), (1, .int x1)] (Nat.le_of_ble_eq_true rfl) rfl 3 rfl dX6_putFour_2 ?_
  refine r_sub [1, 2, 0] rfl ?_
  refine g_X6_putFour_L3 h0 (fun d3 => ?_) z_N 24 d
  exact r_return rfl rfl (Nat.le_of_ble_eq_true rfl) (Nat.le_of_ble_eq_true rfl) dX6_putFour_46
def Y_X6_kindAt : z_Y := (RX6, cX6_kindAt, 3, wsX6_kindAt, (some .int), { frames := 0, cells := 0, slots := 0, locals := 0 }, 0, 0)
theorem ok_X6_kindAt : z_Ok yX6_kindAt Y_X6_kindAt 1 := ⟨⟨_, rfl⟩, rfl, rfl, rfl, by decide +kernel, by decide +kernel⟩
theorem w_X6_kindAt_0 : Cond.fieldLink RX6 15 "BunchTimes$Tape" "length" "I" ∈ wsX6_kindAt := by decide +kernel
theorem w_X6_kindAt_1 : ∀ w ∈ u_ws RX6 TX6 6, w ∈ wsX6_kindAt := by decide +kernel
theorem w_X6_kindAt_2 : Cond.fieldLink RX6 9 "BunchTimes$Tape" "bytes" "[B" ∈ wsX6_kindAt := by decide +kernel
def f_X6_kindAt (d : z_D) (o0 : Nat) (x1 : Int32) : Option Int32 := (if x1 < (d o0 1) then z_ald d (o0 + 1) 600 x1 (fun v1 => (if v1 = 32 then (some 4) else (if v1 = 10 then (some 4) else z_let (fun x_45 : Unit => z_let (fun x_59 : Unit => (if v1 = 59 then (some 3) else (some 5))) (fun J59 => (if v1 < 48 then (J59 ()) else (if 57 < v1 then (J59 ()) else (some 2))))) (fun J45 => (if v1 < 97 then (J45 ()) else (if 122 < v1 then (J45 ()) else (some 1))))))) else (some 0))
set_option maxHeartbeats 4000000 in
set_option maxRecDepth 100000 in
theorem c_X6_kindAt {E : z_E} {l : Launch} {S : z_S} (d : z_D) (o0 : Nat) (h0 : A_Tape S o0) (x1 : Int32) : z_Sp E l yX6_kindAt Y_X6_kindAt (cvI S d) [.ref (E.2.1 + o0), .int x1] (S, d) (f_X6_kindAt d o0 x1) := by
  refine z_entry (lv := [(0, .ref (E.2.1 + o0)), (1, .int x1)]) (by decide) rfl rfl (Nat.le_of_ble_eq_true rfl) rfl ?_
  unfold f_X6_kindAt
  refine r_iload_n 1 1 rfl rfl 1 rfl dX6_kindAt_0 ?_
  refine r_aload_n 0 0 rfl rfl 2 rfl dX6_kindAt_1 ?_
  refine r_get (h0 0 (Nat.le_of_ble_eq_true rfl)) rfl (Nat.le_of_ble_eq_true rfl) rfl rfl w_X6_kindAt_1 1 (Nat.le_of_ble_eq_true rfl) rfl w_X6_kindAt_0 (.int (d o0 1)) rfl 5 rfl dX6_kindAt_2 ?_
  refine r_icmp_lt 10 8 rfl rfl dX6_kindAt_5 ?_ ?_
  · refine r_aload_n 0 0 rfl rfl 11 rfl dX6_kindAt_10 ?_
    refine r_get (h0 0 (Nat.le_of_ble_eq_true rfl)) rfl (Nat.le_of_ble_eq_true rfl) rfl rfl w_X6_kindAt_1 0 (Nat.le_of_ble_eq_true rfl) rfl w_X6_kindAt_2 (.ref (E.2.1 + (o0 + 1))) rfl 14 rfl dX6_kindAt_11 ?_
    refine r_iload_n 1 1 rfl rfl 15 rfl dX6_kindAt_14 ?_
    refine r_bald (h0 1 (Nat.le_of_ble_eq_true rfl)) rfl rfl 16 rfl dX6_kindAt_15 (fun v1 => ?_)
    refine r_istore_n 2 rfl [(2, .int v1), (0, .ref (E.2.1 + o0)), (1, .int x1)] (Nat.le_of_ble_eq_true rfl) rfl 17 rfl dX6_kindAt_16 ?_
    refine r_iload_n 2 0 rfl rfl 18 rfl dX6_kindAt_17 ?_
    refine r_bipush 32 rfl 20 rfl dX6_kindAt_18 ?_
    refine r_icmp_eq 29 23 rfl rfl dX6_kindAt_20 ?_ ?_
    · refine r_iconst 4 rfl 30 rfl dX6_kindAt_29 ?_
      exact r_ireturn rfl rfl (Nat.le_of_ble_eq_true rfl) (Nat.le_of_ble_eq_true rfl) dX6_kindAt_30
    · refine r_iload_n 2 0 rfl rfl 24 rfl dX6_kindAt_23 ?_
      refine r_bipush 10 rfl 26 rfl dX6_kindAt_24 ?_
      refine r_icmp_ne 31 29 rfl rfl dX6_kindAt_26 ?_ ?_
      · refine r_iload_n 2 0 rfl rfl 32 rfl dX6_kindAt_31 ?_
        refine r_bipush 97 rfl 34 rfl dX6_kindAt_32 ?_
        refine r_let 45 (f := fun x_45 : Unit => [(2, .int v1)]) (g := fun x_45 : Unit => []) (ww := fun x_45 : Unit => (S, d)) (fun x_45 => ?_) (fun J45 hJ45 => ?_)
        · refine r_iload_n 2 0 rfl rfl 46 rfl dX6_kindAt_45 ?_
          refine r_bipush 48 rfl 48 rfl dX6_kindAt_46 ?_
          refine r_let 59 (f := fun x_59 : Unit => [(2, .int v1)]) (g := fun x_59 : Unit => []) (ww := fun x_59 : Unit => (S, d)) (fun x_59 => ?_) (fun J59 hJ59 => ?_)
          · refine r_iload_n 2 0 rfl rfl 60 rfl dX6_kindAt_59 ?_
            refine r_bipush 59 rfl 62 rfl dX6_kindAt_60 ?_
            refine r_icmp_ne 69 65 rfl rfl dX6_kindAt_62 ?_ ?_
            · refine r_iconst 5 rfl 70 rfl dX6_kindAt_69 ?_
              exact r_ireturn rfl rfl (Nat.le_of_ble_eq_true rfl) (Nat.le_of_ble_eq_true rfl) dX6_kindAt_70
            · refine r_iconst 3 rfl 66 rfl dX6_kindAt_65 ?_
              refine r_goto 70 rfl dX6_kindAt_66 ?_
              exact r_ireturn rfl rfl (Nat.le_of_ble_eq_true rfl) (Nat.le_of_ble_eq_true rfl) dX6_kindAt_70
          refine r_icmp_lt 59 51 rfl rfl dX6_kindAt_48 ?_ ?_
          · refine r_sub [0] rfl ?_
            exact hJ59 ()
          · refine r_iload_n 2 0 rfl rfl 52 rfl dX6_kindAt_51 ?_
            refine r_bipush 57 rfl 54 rfl dX6_kindAt_52 ?_
            refine r_icmp_gt 59 57 rfl rfl dX6_kindAt_54 ?_ ?_
            · refine r_sub [0] rfl ?_
              exact hJ59 ()
            · refine r_iconst 2 rfl 58 rfl dX6_kindAt_57 ?_
              exact r_ireturn rfl rfl (Nat.le_of_ble_eq_true rfl) (Nat.le_of_ble_eq_true rfl) dX6_kindAt_58
        refine r_icmp_lt 45 37 rfl rfl dX6_kindAt_34 ?_ ?_
        · refine r_sub [0] rfl ?_
          exact hJ45 ()
        · refine r_iload_n 2 0 rfl rfl 38 rfl dX6_kindAt_37 ?_
          refine r_bipush 122 rfl 40 rfl dX6_kindAt_38 ?_
          refine r_icmp_gt 45 43 rfl rfl dX6_kindAt_40 ?_ ?_
          · refine r_sub [0] rfl ?_
            exact hJ45 ()
          · refine r_iconst 1 rfl 44 rfl dX6_kindAt_43 ?_
            exact r_ireturn rfl rfl (Nat.le_of_ble_eq_true rfl) (Nat.le_of_ble_eq_true rfl) dX6_kindAt_44
      · refine r_iconst 4 rfl 30 rfl dX6_kindAt_29 ?_
        exact r_ireturn rfl rfl (Nat.le_of_ble_eq_true rfl) (Nat.le_of_ble_eq_true rfl) dX6_kindAt_30
  · refine r_iconst 0 rfl 9 rfl dX6_kindAt_8 ?_
    exact r_ireturn rfl rfl (Nat.le_of_ble_eq_true rfl) (Nat.le_of_ble_eq_true rfl) dX6_kindAt_9
def Y_X6_advance : z_Y := (RX6, cX6_advance, 1, wsX6_advance, none, { frames := 1, cells := 0, slots := 0, locals := 22 }, 0, 0)
theorem ok_X6_advance : z_Ok yX6_advance Y_X6_advance 0 := ⟨⟨_, rfl⟩, rfl, rfl, rfl, by decide +kernel, by decide +kernel⟩
theorem w_X6_advance_0 : Cond.fieldLink RX6 22 "BunchTimes$Tape" "next" "I" ∈ wsX6_advance := by decide +kernel
theorem w_X6_advance_1 : ∀ w ∈ u_ws RX6 TX6 6, w ∈ wsX6_advance := by decide +kernel
theorem w_X6_advance_2 : Cond.fieldLink RX6 15 "BunchTimes$Tape" "length" "I" ∈ wsX6_advance := by decide +kernel
theorem w_X6_advance_3 : Cond.fieldLink RX6 31 "BunchTimes$Tape" "start" "I" ∈ wsX6_advance := by decide +kernel
theorem w_X6_advance_4 : Cond.fieldLink RX6 28 "BunchTimes$Tape" "token" "I" ∈ wsX6_advance := by decide +kernel
def f_X6_advance_L0_b (o0 : Nat) (K : z_D → Option z_D) (R : z_D → Option z_D) (d : z_D) : Option z_D := (if (d o0 1) ≤ (d o0 4) then (K d) else ((f_X6_kindAt d o0 (d o0 4)).bind fun v1 => (if v1 = 4 then z_put d o0 4 ((d o0 4) + 1) (fun d2 => (R d2)) else (K d))))
def f_X6_advance_L0 (o0 : Nat) (K : z_D → Option z_D) : Nat → z_D → Option z_D
  | 0 => fun _ => none
  | n + 1 => f_X6_advance_L0_b o0 K (f_X6_advance_L0 o0 K n)
set_option maxHeartbeats 4000000 in
set_option maxRecDepth 100000 in
theorem g_X6_advance_L0 {E : z_E} {l : Launch} {S : z_S} {o0 : Nat} {K : z_D → Option z_D} (h0 : A_Tape S o0) (hK : ∀ (d9 : z_D), z_G E l Y_X6_advance (cvV S) (K d9) 36 [(0, .ref (E.2.1 + o0))] [] (S, d9) 0 0) : ∀ (n : Nat) (d : z_D), z_G E l Y_X6_advance (cvV S) (f_X6_advance_L0 o0 K n d) 0 [(0, .ref (E.2.1 + o0))] [] (S, d) 0 0 := by
  intro n
  induction n with
  | zero => intro _; exact r_none
  | succ n ih =>
    intro d
    show z_G E l Y_X6_advance (cvV S) (f_X6_advance_L0_b o0 K (f_X6_advance_L0 o0 K n) d) 0 [(0, .ref (E.2.1 + o0))] [] (S, d) 0 0
    unfold f_X6_advance_L0_b
    refine r_aload_n 0 0 rfl rfl 1 rfl dX6_advance_0 ?_
    refine r_get (h0 0 (Nat.le_of_ble_eq_true rfl)) rfl (Nat.le_of_ble_eq_true rfl) rfl rfl w_X6_advance_1 4 (Nat.le_of_ble_eq_true rfl) rfl w_X6_advance_0 (.int (d o0 4)) rfl 4 rfl dX6_advance_1 ?_
    refine r_aload_n 0 0 rfl rfl 5 rfl dX6_advance_4 ?_
    refine r_get (h0 0 (Nat.le_of_ble_eq_true rfl)) rfl (Nat.le_of_ble_eq_true rfl) rfl rfl w_X6_advance_1 1 (Nat.le_of_ble_eq_true rfl) rfl w_X6_advance_2 (.int (d o0 1)) rfl 8 rfl dX6_advance_5 ?_
    refine r_icmp_ge 36 11 rfl rfl dX6_advance_8 ?_ ?_
    · refine r_sub [0] rfl ?_
      exact hK d
    · refine r_aload_n 0 0 rfl rfl 12 rfl dX6_advance_11 ?_
      refine r_aload_n 0 0 rfl rfl 13 rfl dX6_advance_12 ?_
      refine r_get (h0 0 (Nat.le_of_ble_eq_true rfl)) rfl (Nat.le_of_ble_eq_true rfl) rfl rfl w_X6_advance_1 4 (Nat.le_of_ble_eq_true rfl) rfl w_X6_advance_0 (.int (d o0 4)) rfl 16 rfl dX6_advance_13 ?_
      refine r_callV_I (c_X6_kindAt (E := E) (l := l) (S := S) d o0 h0 (d o0 4)) ok_X6_kindAt ⟨⟨(Nat.le_of_ble_eq_true rfl), (Nat.le_of_ble_eq_true rfl)⟩, (Nat.le_of_ble_eq_true rfl), (Nat.le_of_ble_eq_true rfl)⟩ (h0 0 (Nat.le_of_ble_eq_true rfl)) (Nat.le_of_ble_eq_true rfl) rfl rfl rfl (Nat.le_of_ble_eq_true rfl) gX6_advance_X6_kindAt rfl rfl 19 rfl dX6_advance_16 (fun v1 => ?_)
      refine r_iconst 4 rfl 20 rfl dX6_advance_19 ?_
      refine r_icmp_ne 36 23 rfl rfl dX6_advance_20 ?_ ?_
      · refine r_sub [0] rfl ?_
        exact hK d
      · refine r_aload_n 0 0 rfl rfl 24 rfl dX6_advance_23 ?_
        refine r_dup rfl 25 rfl dX6_advance_24 ?_
        refine r_get (h0 0 (Nat.le_of_ble_eq_true rfl)) rfl (Nat.le_of_ble_eq_true rfl) rfl rfl w_X6_advance_1 4 (Nat.le_of_ble_eq_true rfl) rfl w_X6_advance_0 (.int (d o0 4)) rfl 28 rfl dX6_advance_25 ?_
        refine r_iconst 1 rfl 29 rfl dX6_advance_28 ?_
        refine r_iadd 30 rfl dX6_advance_29 ?_
        refine r_put (h0 0 (Nat.le_of_ble_eq_true rfl)) rfl (Nat.le_of_ble_eq_true rfl) rfl rfl w_X6_advance_1 tyX6 tyX6_ok nmX6 (Nat.le_of_ble_eq_true rfl) rfl w_X6_advance_0 rfl rfl rfl rfl rfl 33 rfl dX6_advance_30 (fun d2 => ?_)
        refine r_goto 0 rfl dX6_advance_33 ?_
        refine r_sub [0] rfl ?_
        exact ih d2
def f_X6_advance_L93_b (o0 : Nat) (K : z_D → Option z_D) (R : z_D → Option z_D) (d : z_D) : Option z_D := (if (d o0 1) ≤ (d o0 4) then (K d) else ((f_X6_kindAt d o0 (d o0 4)).bind fun v8 => (if v8 = (d o0 2) then z_put d o0 4 ((d o0 4) + 1) (fun d9 => (R d9)) else (K d))))
def f_X6_advance_L93 (o0 : Nat) (K : z_D → Option z_D) : Nat → z_D → Option z_D
  | 0 => fun _ => none
  | n + 1 => f_X6_advance_L93_b o0 K (f_X6_advance_L93 o0 K n)
set_option maxHeartbeats 4000000 in
set_option maxRecDepth 100000 in
theorem g_X6_advance_L93 {E : z_E} {l : Launch} {S : z_S} {o0 : Nat} {K : z_D → Option z_D} (h0 : A_Tape S o0) (hK : ∀ (d9 : z_D), z_G E l Y_X6_advance (cvV S) (K d9) 132 [(0, .ref (E.2.1 + o0))] [] (S, d9) 0 0) : ∀ (n : Nat) (d : z_D), z_G E l Y_X6_advance (cvV S) (f_X6_advance_L93 o0 K n d) 93 [(0, .ref (E.2.1 + o0))] [] (S, d) 0 0 := by
  intro n
  induction n with
  | zero => intro _; exact r_none
  | succ n ih =>
    intro d
    show z_G E l Y_X6_advance (cvV S) (f_X6_advance_L93_b o0 K (f_X6_advance_L93 o0 K n) d) 93 [(0, .ref (E.2.1 + o0))] [] (S, d) 0 0
    unfold f_X6_advance_L93_b
    refine r_aload_n 0 0 rfl rfl 94 rfl dX6_advance_93 ?_
    refine r_get (h0 0 (Nat.le_of_ble_eq_true rfl)) rfl (Nat.le_of_ble_eq_true rfl) rfl rfl w_X6_advance_1 4 (Nat.le_of_ble_eq_true rfl) rfl w_X6_advance_0 (.int (d o0 4)) rfl 97 rfl dX6_advance_94 ?_
    refine r_aload_n 0 0 rfl rfl 98 rfl dX6_advance_97 ?_
    refine r_get (h0 0 (Nat.le_of_ble_eq_true rfl)) rfl (Nat.le_of_ble_eq_true rfl) rfl rfl w_X6_advance_1 1 (Nat.le_of_ble_eq_true rfl) rfl w_X6_advance_2 (.int (d o0 1)) rfl 101 rfl dX6_advance_98 ?_
    refine r_icmp_ge 132 104 rfl rfl dX6_advance_101 ?_ ?_
    · refine r_sub [0] rfl ?_
      exact hK d
    · refine r_aload_n 0 0 rfl rfl 105 rfl dX6_advance_104 ?_
      refine r_aload_n 0 0 rfl rfl 106 rfl dX6_advance_105 ?_
      refine r_get (h0 0 (Nat.le_of_ble_eq_true rfl)) rfl (Nat.le_of_ble_eq_true rfl) rfl rfl w_X6_advance_1 4 (Nat.le_of_ble_eq_true rfl) rfl w_X6_advance_0 (.int (d o0 4)) rfl 109 rfl dX6_advance_106 ?_
      refine r_callV_I (c_X6_kindAt (E := E) (l := l) (S := S) d o0 h0 (d o0 4)) ok_X6_kindAt ⟨⟨(Nat.le_of_ble_eq_true rfl), (Nat.le_of_ble_eq_true rfl)⟩, (Nat.le_of_ble_eq_true rfl), (Nat.le_of_ble_eq_true rfl)⟩ (h0 0 (Nat.le_of_ble_eq_true rfl)) (Nat.le_of_ble_eq_true rfl) rfl rfl rfl (Nat.le_of_ble_eq_true rfl) gX6_advance_X6_kindAt rfl rfl 112 rfl dX6_advance_109 (fun v8 => ?_)
      refine r_aload_n 0 0 rfl rfl 113 rfl dX6_advance_112 ?_
      refine r_get (h0 0 (Nat.le_of_ble_eq_true rfl)) rfl (Nat.le_of_ble_eq_true rfl) rfl rfl w_X6_advance_1 2 (Nat.le_of_ble_eq_true rfl) rfl w_X6_advance_4 (.int (d o0 2)) rfl 116 rfl dX6_advance_113 ?_
      refine r_icmp_ne 132 119 rfl rfl dX6_advance_116 ?_ ?_
      · refine r_sub [0] rfl ?_
        exact hK d
      · refine r_aload_n 0 0 rfl rfl 120 rfl dX6_advance_119 ?_
        refine r_dup rfl 121 rfl dX6_advance_120 ?_
        refine r_get (h0 0 (Nat.le_of_ble_eq_true rfl)) rfl (Nat.le_of_ble_eq_true rfl) rfl rfl w_X6_advance_1 4 (Nat.le_of_ble_eq_true rfl) rfl w_X6_advance_0 (.int (d o0 4)) rfl 124 rfl dX6_advance_121 ?_
        refine r_iconst 1 rfl 125 rfl dX6_advance_124 ?_
        refine r_iadd 126 rfl dX6_advance_125 ?_
        refine r_put (h0 0 (Nat.le_of_ble_eq_true rfl)) rfl (Nat.le_of_ble_eq_true rfl) rfl rfl w_X6_advance_1 tyX6 tyX6_ok nmX6 (Nat.le_of_ble_eq_true rfl) rfl w_X6_advance_0 rfl rfl rfl rfl rfl 129 rfl dX6_advance_126 (fun d9 => ?_)
        refine r_goto 93 rfl dX6_advance_129 ?_
        refine r_sub [0] rfl ?_
        exact ih d9
def f_X6_advance (d : z_D) (o0 : Nat) : Option z_D := (f_X6_advance_L0 o0 (fun d3 => z_put d3 o0 3 (d3 o0 4) (fun d4 => ((f_X6_kindAt d4 o0 (d4 o0 3)).bind fun v5 => z_put d4 o0 2 v5 (fun d6 => z_let (fun x_132 : z_D => (if (x_132 o0 2) = 2 then (if ((x_132 o0 4) - (x_132 o0 3)) ≤ 6 then (some x_132) else z_put x_132 o0 2 5 (fun d7 => (some d7))) else (some x_132))) (fun J132 => (if (d6 o0 2) = 3 then z_put d6 o0 4 ((d6 o0 4) + 1) (fun d12 => (J132 d12)) else (if (d6 o0 2) = 1 then (f_X6_advance_L93 o0 (fun d10 => (J132 d10)) z_N d6) else (if (d6 o0 2) = 2 then (f_X6_advance_L93 o0 (fun d11 => (J132 d11)) z_N d6) else (J132 d6))))))))) z_N d)
set_option maxHeartbeats 4000000 in
set_option maxRecDepth 100000 in
theorem c_X6_advance {E : z_E} {l : Launch} {S : z_S} (d : z_D) (o0 : Nat) (h0 : A_Tape S o0) : z_Sp E l yX6_advance Y_X6_advance (cvV S) [.ref (E.2.1 + o0)] (S, d) (f_X6_advance d o0) := by
  refine z_entry (lv := [(0, .ref (E.2.1 + o0))]) (by decide) rfl rfl (Nat.le_of_ble_eq_true rfl) rfl ?_
  unfold f_X6_advance
  refine r_sub [0] rfl ?_
  refine g_X6_advance_L0 h0 (fun d3 => ?_) z_N d
  refine r_aload_n 0 0 rfl rfl 37 rfl dX6_advance_36 ?_
  refine r_aload_n 0 0 rfl rfl 38 rfl dX6_advance_37 ?_
  refine r_get (h0 0 (Nat.le_of_ble_eq_true rfl)) rfl (Nat.le_of_ble_eq_true rfl) rfl rfl w_X6_advance_1 4 (Nat.le_of_ble_eq_true rfl) rfl w_X6_advance_0 (.int (d3 o0 4)) rfl 41 rfl dX6_advance_38 ?_
  refine r_put (h0 0 (Nat.le_of_ble_eq_true rfl)) rfl (Nat.le_of_ble_eq_true rfl) rfl rfl w_X6_advance_1 tyX6 tyX6_ok nmX6 (Nat.le_of_ble_eq_true rfl) rfl w_X6_advance_3 rfl rfl rfl rfl rfl 44 rfl dX6_advance_41 (fun d4 => ?_)
  refine r_aload_n 0 0 rfl rfl 45 rfl dX6_advance_44 ?_
  refine r_aload_n 0 0 rfl rfl 46 rfl dX6_advance_45 ?_
  refine r_aload_n 0 0 rfl rfl 47 rfl dX6_advance_46 ?_
  refine r_get (h0 0 (Nat.le_of_ble_eq_true rfl)) rfl (Nat.le_of_ble_eq_true rfl) rfl rfl w_X6_advance_1 3 (Nat.le_of_ble_eq_true rfl) rfl w_X6_advance_3 (.int (d4 o0 3)) rfl 50 rfl dX6_advance_47 ?_
  refine r_callV_I (c_X6_kindAt (E := E) (l := l) (S := S) d4 o0 h0 (d4 o0 3)) ok_X6_kindAt ⟨⟨(Nat.le_of_ble_eq_true rfl), (Nat.le_of_ble_eq_true rfl)⟩, (Nat.le_of_ble_eq_true rfl), (Nat.le_of_ble_eq_true rfl)⟩ (h0 0 (Nat.le_of_ble_eq_true rfl)) (Nat.le_of_ble_eq_true rfl) rfl rfl rfl (Nat.le_of_ble_eq_true rfl) gX6_advance_X6_kindAt rfl rfl 53 rfl dX6_advance_50 (fun v5 => ?_)
  refine r_put (h0 0 (Nat.le_of_ble_eq_true rfl)) rfl (Nat.le_of_ble_eq_true rfl) rfl rfl w_X6_advance_1 tyX6 tyX6_ok nmX6 (Nat.le_of_ble_eq_true rfl) rfl w_X6_advance_4 rfl rfl rfl rfl rfl 56 rfl dX6_advance_53 (fun d6 => ?_)
  refine r_aload_n 0 0 rfl rfl 57 rfl dX6_advance_56 ?_
  refine r_get (h0 0 (Nat.le_of_ble_eq_true rfl)) rfl (Nat.le_of_ble_eq_true rfl) rfl rfl w_X6_advance_1 2 (Nat.le_of_ble_eq_true rfl) rfl w_X6_advance_4 (.int (d6 o0 2)) rfl 60 rfl dX6_advance_57 ?_
  refine r_iconst 3 rfl 61 rfl dX6_advance_60 ?_
  refine r_let 132 (f := fun x_132 : z_D => [(0, .ref (E.2.1 + o0))]) (g := fun x_132 : z_D => []) (ww := fun x_132 : z_D => (S, x_132)) (fun x_132 => ?_) (fun J132 hJ132 => ?_)
  · refine r_aload_n 0 0 rfl rfl 133 rfl dX6_advance_132 ?_
    refine r_get (h0 0 (Nat.le_of_ble_eq_true rfl)) rfl (Nat.le_of_ble_eq_true rfl) rfl rfl w_X6_advance_1 2 (Nat.le_of_ble_eq_true rfl) rfl w_X6_advance_4 (.int (x_132 o0 2)) rfl 136 rfl dX6_advance_133 ?_
    refine r_iconst 2 rfl 137 rfl dX6_advance_136 ?_
    refine r_icmp_ne 159 140 rfl rfl dX6_advance_137 ?_ ?_
    · exact r_return rfl rfl (Nat.le_of_ble_eq_true rfl) (Nat.le_of_ble_eq_true rfl) dX6_advance_159
    · refine r_aload_n 0 0 rfl rfl 141 rfl dX6_advance_140 ?_
      refine r_get (h0 0 (Nat.le_of_ble_eq_true rfl)) rfl (Nat.le_of_ble_eq_true rfl) rfl rfl w_X6_advance_1 4 (Nat.le_of_ble_eq_true rfl) rfl w_X6_advance_0 (.int (x_132 o0 4)) rfl 144 rfl dX6_advance_141 ?_
      refine r_aload_n 0 0 rfl rfl 145 rfl dX6_advance_144 ?_
      refine r_get (h0 0 (Nat.le_of_ble_eq_true rfl)) rfl (Nat.le_of_ble_eq_true rfl) rfl rfl w_X6_advance_1 3 (Nat.le_of_ble_eq_true rfl) rfl w_X6_advance_3 (.int (x_132 o0 3)) rfl 148 rfl dX6_advance_145 ?_
      refine r_isub 149 rfl dX6_advance_148 ?_
      refine r_bipush 6 rfl 151 rfl dX6_advance_149 ?_
      refine r_icmp_le 159 154 rfl rfl dX6_advance_151 ?_ ?_
      · exact r_return rfl rfl (Nat.le_of_ble_eq_true rfl) (Nat.le_of_ble_eq_true rfl) dX6_advance_159
      · refine r_aload_n 0 0 rfl rfl 155 rfl dX6_advance_154 ?_
        refine r_iconst 5 rfl 156 rfl dX6_advance_155 ?_
        refine r_put (h0 0 (Nat.le_of_ble_eq_true rfl)) rfl (Nat.le_of_ble_eq_true rfl) rfl rfl w_X6_advance_1 tyX6 tyX6_ok nmX6 (Nat.le_of_ble_eq_true rfl) rfl w_X6_advance_4 rfl rfl rfl rfl rfl 159 rfl dX6_advance_156 (fun d7 => ?_)
        exact r_return rfl rfl (Nat.le_of_ble_eq_true rfl) (Nat.le_of_ble_eq_true rfl) dX6_advance_159
  refine r_icmp_ne 77 64 rfl rfl dX6_advance_61 ?_ ?_
  · refine r_aload_n 0 0 rfl rfl 78 rfl dX6_advance_77 ?_
    refine r_get (h0 0 (Nat.le_of_ble_eq_true rfl)) rfl (Nat.le_of_ble_eq_true rfl) rfl rfl w_X6_advance_1 2 (Nat.le_of_ble_eq_true rfl) rfl w_X6_advance_4 (.int (d6 o0 2)) rfl 81 rfl dX6_advance_78 ?_
    refine r_iconst 1 rfl 82 rfl dX6_advance_81 ?_
    refine r_icmp_eq 93 85 rfl rfl dX6_advance_82 ?_ ?_
    · refine r_sub [0] rfl ?_
      refine g_X6_advance_L93 h0 (fun d10 => ?_) z_N d6
      refine r_sub [0] rfl ?_
      exact hJ132 d10
    · refine r_aload_n 0 0 rfl rfl 86 rfl dX6_advance_85 ?_
      refine r_get (h0 0 (Nat.le_of_ble_eq_true rfl)) rfl (Nat.le_of_ble_eq_true rfl) rfl rfl w_X6_advance_1 2 (Nat.le_of_ble_eq_true rfl) rfl w_X6_advance_4 (.int (d6 o0 2)) rfl 89 rfl dX6_advance_86 ?_
      refine r_iconst 2 rfl 90 rfl dX6_advance_89 ?_
      refine r_icmp_ne 132 93 rfl rfl dX6_advance_90 ?_ ?_
      · refine r_sub [0] rfl ?_
        exact hJ132 d6
      · refine r_sub [0] rfl ?_
        refine g_X6_advance_L93 h0 (fun d11 => ?_) z_N d6
        refine r_sub [0] rfl ?_
        exact hJ132 d11
  · refine r_aload_n 0 0 rfl rfl 65 rfl dX6_advance_64 ?_
    refine r_dup rfl 66 rfl dX6_advance_65 ?_
    refine r_get (h0 0 (Nat.le_of_ble_eq_true rfl)) rfl (Nat.le_of_ble_eq_true rfl) rfl rfl w_X6_advance_1 4 (Nat.le_of_ble_eq_true rfl) rfl w_X6_advance_0 (.int (d6 o0 4)) rfl 69 rfl dX6_advance_66 ?_
    refine r_iconst 1 rfl 70 rfl dX6_advance_69 ?_
    refine r_iadd 71 rfl dX6_advance_70 ?_
    refine r_put (h0 0 (Nat.le_of_ble_eq_true rfl)) rfl (Nat.le_of_ble_eq_true rfl) rfl rfl w_X6_advance_1 tyX6 tyX6_ok nmX6 (Nat.le_of_ble_eq_true rfl) rfl w_X6_advance_0 rfl rfl rfl rfl rfl 74 rfl dX6_advance_71 (fun d12 => ?_)
    refine r_goto 132 rfl dX6_advance_74 ?_
    refine r_sub [0] rfl ?_
    exact hJ132 d12
def Y_X6_begin : z_Y := (RX6, cX6_begin, 1, wsX6_begin, none, { frames := 2, cells := 0, slots := 0, locals := 42 }, 0, 0)
theorem ok_X6_begin : z_Ok yX6_begin Y_X6_begin 0 := ⟨⟨_, rfl⟩, rfl, rfl, rfl, by decide +kernel, by decide +kernel⟩
theorem w_X6_begin_0 : Cond.fieldLink RX6 19 "BunchTimes$Tape" "fault" "I" ∈ wsX6_begin := by decide +kernel
theorem w_X6_begin_1 : ∀ w ∈ u_ws RX6 TX6 6, w ∈ wsX6_begin := by decide +kernel
theorem w_X6_begin_2 : Cond.fieldLink RX6 22 "BunchTimes$Tape" "next" "I" ∈ wsX6_begin := by decide +kernel
def f_X6_begin (d : z_D) (o0 : Nat) : Option z_D := z_put d o0 5 0 (fun d1 => z_put d1 o0 4 0 (fun d2 => ((f_X6_advance d2 o0).bind fun d3 => (some d3))))
set_option maxHeartbeats 4000000 in
set_option maxRecDepth 100000 in
theorem c_X6_begin {E : z_E} {l : Launch} {S : z_S} (d : z_D) (o0 : Nat) (h0 : A_Tape S o0) : z_Sp E l yX6_begin Y_X6_begin (cvV S) [.ref (E.2.1 + o0)] (S, d) (f_X6_begin d o0) := by
  refine z_entry (lv := [(0, .ref (E.2.1 + o0))]) (by decide) rfl rfl (Nat.le_of_ble_eq_true rfl) rfl ?_
  unfold f_X6_begin
  refine r_aload_n 0 0 rfl rfl 1 rfl dX6_begin_0 ?_
  refine r_iconst 0 rfl 2 rfl dX6_begin_1 ?_
  refine r_put (h0 0 (Nat.le_of_ble_eq_true rfl)) rfl (Nat.le_of_ble_eq_true rfl) rfl rfl w_X6_begin_1 tyX6 tyX6_ok nmX6 (Nat.le_of_ble_eq_true rfl) rfl w_X6_begin_0 rfl rfl rfl rfl rfl 5 rfl dX6_begin_2 (fun d1 => ?_)
  refine r_aload_n 0 0 rfl rfl 6 rfl dX6_begin_5 ?_
  refine r_iconst 0 rfl 7 rfl dX6_begin_6 ?_
  refine r_put (h0 0 (Nat.le_of_ble_eq_true rfl)) rfl (Nat.le_of_ble_eq_true rfl) rfl rfl w_X6_begin_1 tyX6 tyX6_ok nmX6 (Nat.le_of_ble_eq_true rfl) rfl w_X6_begin_2 rfl rfl rfl rfl rfl 10 rfl dX6_begin_7 (fun d2 => ?_)
  refine r_aload_n 0 0 rfl rfl 11 rfl dX6_begin_10 ?_
  refine r_callV_V (c_X6_advance (E := E) (l := l) (S := S) d2 o0 h0) ok_X6_advance ⟨⟨(Nat.le_of_ble_eq_true rfl), (Nat.le_of_ble_eq_true rfl)⟩, (Nat.le_of_ble_eq_true rfl), (Nat.le_of_ble_eq_true rfl)⟩ (h0 0 (Nat.le_of_ble_eq_true rfl)) (Nat.le_of_ble_eq_true rfl) rfl rfl rfl (Nat.le_of_ble_eq_true rfl) gX6_begin_X6_advance rfl rfl 14 rfl dX6_begin_11 (fun d3 => ?_)
  exact r_return rfl rfl (Nat.le_of_ble_eq_true rfl) (Nat.le_of_ble_eq_true rfl) dX6_begin_14
def Y_X6_hasMore : z_Y := (RX6, cX6_hasMore, 1, wsX6_hasMore, (some .boolean), { frames := 0, cells := 0, slots := 0, locals := 0 }, 0, 0)
theorem ok_X6_hasMore : z_Ok yX6_hasMore Y_X6_hasMore 0 := ⟨⟨_, rfl⟩, rfl, rfl, rfl, by decide +kernel, by decide +kernel⟩
theorem w_X6_hasMore_0 : Cond.fieldLink RX6 19 "BunchTimes$Tape" "fault" "I" ∈ wsX6_hasMore := by decide +kernel
theorem w_X6_hasMore_1 : ∀ w ∈ u_ws RX6 TX6 6, w ∈ wsX6_hasMore := by decide +kernel
theorem w_X6_hasMore_2 : Cond.fieldLink RX6 28 "BunchTimes$Tape" "token" "I" ∈ wsX6_hasMore := by decide +kernel
def f_X6_hasMore (d : z_D) (o0 : Nat) : Option Int32 := (if (d o0 5) = 0 then (if (d o0 2) = 0 then (some 0) else (some 1)) else (some 0))
set_option maxHeartbeats 4000000 in
set_option maxRecDepth 100000 in
theorem c_X6_hasMore {E : z_E} {l : Launch} {S : z_S} (d : z_D) (o0 : Nat) (h0 : A_Tape S o0) : z_Sp E l yX6_hasMore Y_X6_hasMore (cvI S d) [.ref (E.2.1 + o0)] (S, d) (f_X6_hasMore d o0) := by
  refine z_entry (lv := [(0, .ref (E.2.1 + o0))]) (by decide) rfl rfl (Nat.le_of_ble_eq_true rfl) rfl ?_
  unfold f_X6_hasMore
  refine r_aload_n 0 0 rfl rfl 1 rfl dX6_hasMore_0 ?_
  refine r_get (h0 0 (Nat.le_of_ble_eq_true rfl)) rfl (Nat.le_of_ble_eq_true rfl) rfl rfl w_X6_hasMore_1 5 (Nat.le_of_ble_eq_true rfl) rfl w_X6_hasMore_0 (.int (d o0 5)) rfl 4 rfl dX6_hasMore_1 ?_
  refine r_if_ne 18 7 rfl rfl dX6_hasMore_4 ?_ ?_
  · refine r_iconst 0 rfl 19 rfl dX6_hasMore_18 ?_
    exact r_zreturnc (by decide) rfl rfl (Nat.le_of_ble_eq_true rfl) (Nat.le_of_ble_eq_true rfl) dX6_hasMore_19
  · refine r_aload_n 0 0 rfl rfl 8 rfl dX6_hasMore_7 ?_
    refine r_get (h0 0 (Nat.le_of_ble_eq_true rfl)) rfl (Nat.le_of_ble_eq_true rfl) rfl rfl w_X6_hasMore_1 2 (Nat.le_of_ble_eq_true rfl) rfl w_X6_hasMore_2 (.int (d o0 2)) rfl 11 rfl dX6_hasMore_8 ?_
    refine r_if_eq 18 14 rfl rfl dX6_hasMore_11 ?_ ?_
    · refine r_iconst 0 rfl 19 rfl dX6_hasMore_18 ?_
      exact r_zreturnc (by decide) rfl rfl (Nat.le_of_ble_eq_true rfl) (Nat.le_of_ble_eq_true rfl) dX6_hasMore_19
    · refine r_iconst 1 rfl 15 rfl dX6_hasMore_14 ?_
      refine r_goto 19 rfl dX6_hasMore_15 ?_
      exact r_zreturnc (by decide) rfl rfl (Nat.le_of_ble_eq_true rfl) (Nat.le_of_ble_eq_true rfl) dX6_hasMore_19
def Y_X6_hasInt : z_Y := (RX6, cX6_hasInt, 1, wsX6_hasInt, (some .boolean), { frames := 0, cells := 0, slots := 0, locals := 0 }, 0, 0)
theorem ok_X6_hasInt : z_Ok yX6_hasInt Y_X6_hasInt 0 := ⟨⟨_, rfl⟩, rfl, rfl, rfl, by decide +kernel, by decide +kernel⟩
theorem w_X6_hasInt_0 : Cond.fieldLink RX6 19 "BunchTimes$Tape" "fault" "I" ∈ wsX6_hasInt := by decide +kernel
theorem w_X6_hasInt_1 : ∀ w ∈ u_ws RX6 TX6 6, w ∈ wsX6_hasInt := by decide +kernel
theorem w_X6_hasInt_2 : Cond.fieldLink RX6 28 "BunchTimes$Tape" "token" "I" ∈ wsX6_hasInt := by decide +kernel
def f_X6_hasInt (d : z_D) (o0 : Nat) : Option Int32 := (if (d o0 5) = 0 then (if (d o0 2) = 2 then (some 1) else (some 0)) else (some 0))
set_option maxHeartbeats 4000000 in
set_option maxRecDepth 100000 in
theorem c_X6_hasInt {E : z_E} {l : Launch} {S : z_S} (d : z_D) (o0 : Nat) (h0 : A_Tape S o0) : z_Sp E l yX6_hasInt Y_X6_hasInt (cvI S d) [.ref (E.2.1 + o0)] (S, d) (f_X6_hasInt d o0) := by
  refine z_entry (lv := [(0, .ref (E.2.1 + o0))]) (by decide) rfl rfl (Nat.le_of_ble_eq_true rfl) rfl ?_
  unfold f_X6_hasInt
  refine r_aload_n 0 0 rfl rfl 1 rfl dX6_hasInt_0 ?_
  refine r_get (h0 0 (Nat.le_of_ble_eq_true rfl)) rfl (Nat.le_of_ble_eq_true rfl) rfl rfl w_X6_hasInt_1 5 (Nat.le_of_ble_eq_true rfl) rfl w_X6_hasInt_0 (.int (d o0 5)) rfl 4 rfl dX6_hasInt_1 ?_
  refine r_if_ne 19 7 rfl rfl dX6_hasInt_4 ?_ ?_
  · refine r_iconst 0 rfl 20 rfl dX6_hasInt_19 ?_
    exact r_zreturnc (by decide) rfl rfl (Nat.le_of_ble_eq_true rfl) (Nat.le_of_ble_eq_true rfl) dX6_hasInt_20
  · refine r_aload_n 0 0 rfl rfl 8 rfl dX6_hasInt_7 ?_
    refine r_get (h0 0 (Nat.le_of_ble_eq_true rfl)) rfl (Nat.le_of_ble_eq_true rfl) rfl rfl w_X6_hasInt_1 2 (Nat.le_of_ble_eq_true rfl) rfl w_X6_hasInt_2 (.int (d o0 2)) rfl 11 rfl dX6_hasInt_8 ?_
    refine r_iconst 2 rfl 12 rfl dX6_hasInt_11 ?_
    refine r_icmp_ne 19 15 rfl rfl dX6_hasInt_12 ?_ ?_
    · refine r_iconst 0 rfl 20 rfl dX6_hasInt_19 ?_
      exact r_zreturnc (by decide) rfl rfl (Nat.le_of_ble_eq_true rfl) (Nat.le_of_ble_eq_true rfl) dX6_hasInt_20
    · refine r_iconst 1 rfl 16 rfl dX6_hasInt_15 ?_
      refine r_goto 20 rfl dX6_hasInt_16 ?_
      exact r_zreturnc (by decide) rfl rfl (Nat.le_of_ble_eq_true rfl) (Nat.le_of_ble_eq_true rfl) dX6_hasInt_20
def Y_X6_takes : z_Y := (RX6, cX6_takes, 3, wsX6_takes, (some .boolean), { frames := 5, cells := 0, slots := 0, locals := 150 }, 0, 0)
theorem ok_X6_takes : z_Ok yX6_takes Y_X6_takes 1 := ⟨⟨_, rfl⟩, rfl, rfl, rfl, by decide +kernel, by decide +kernel⟩
theorem w_X6_takes_0 : Cond.fieldLink RX6 19 "BunchTimes$Tape" "fault" "I" ∈ wsX6_takes := by decide +kernel
theorem w_X6_takes_1 : ∀ w ∈ u_ws RX6 TX6 6, w ∈ wsX6_takes := by decide +kernel
theorem w_X6_takes_2 : Cond.fieldLink RX6 28 "BunchTimes$Tape" "token" "I" ∈ wsX6_takes := by decide +kernel
theorem w_X6_takes_3 : Cond.fieldLink RX6 22 "BunchTimes$Tape" "next" "I" ∈ wsX6_takes := by decide +kernel
theorem w_X6_takes_4 : Cond.fieldLink RX6 31 "BunchTimes$Tape" "start" "I" ∈ wsX6_takes := by decide +kernel
theorem w_X6_takes_5 : Cond.fieldLink RX6 9 "BunchTimes$Tape" "bytes" "[B" ∈ wsX6_takes := by decide +kernel
def f_X6_takes_L35_b (d : z_D) (o0 : Nat) (x1 : Nat) (K : Unit → Option (Int32 × z_D)) (R : Int32 → Option (Int32 × z_D)) (x2 : Int32) : Option (Int32 × z_D) := ((z_slen x1).bind fun v2 => (if v2 ≤ x2 then (K ()) else z_ald d (o0 + 1) 600 ((d o0 3) + x2) (fun v3 => ((z_sch x1 x2).bind fun v4 => (if v3 = v4 then (R (x2 + 1)) else (some (0, d)))))))
def f_X6_takes_L35 (d : z_D) (o0 : Nat) (x1 : Nat) (K : Unit → Option (Int32 × z_D)) : Nat → Int32 → Option (Int32 × z_D)
  | 0 => fun _ => none
  | n + 1 => f_X6_takes_L35_b d o0 x1 K (f_X6_takes_L35 d o0 x1 K n)
set_option maxHeartbeats 4000000 in
set_option maxRecDepth 100000 in
theorem g_X6_takes_L35 {E : z_E} {l : Launch} {S : z_S} {d : z_D} {o0 : Nat} {x1 : Nat} {K : Unit → Option (Int32 × z_D)} (h0 : A_Tape S o0) (h1 : x1 < 20) (hK : ∀ y9 : Unit, z_G E l Y_X6_takes (cvX S) (K y9) 70 [(0, .ref (E.2.1 + o0))] [] (S, d) 0 0) : ∀ (n : Nat) (x2 : Int32), z_G E l Y_X6_takes (cvX S) (f_X6_takes_L35 d o0 x1 K n x2) 35 [(0, .ref (E.2.1 + o0)), (1, .ref (E.2.2.2.2.1 x1)), (2, .int x2)] [] (S, d) 0 0 := by
  intro n
  induction n with
  | zero => intro _; exact r_none
  | succ n ih =>
    intro x2
    show z_G E l Y_X6_takes (cvX S) (f_X6_takes_L35_b d o0 x1 K (f_X6_takes_L35 d o0 x1 K n) x2) 35 [(0, .ref (E.2.1 + o0)), (1, .ref (E.2.2.2.2.1 x1)), (2, .int x2)] [] (S, d) 0 0
    unfold f_X6_takes_L35_b
    refine r_iload_n 2 2 rfl rfl 36 rfl dX6_takes_35 ?_
    refine r_aload_n 1 1 rfl rfl 37 rfl dX6_takes_36 ?_
    refine r_callT h1 (c_J0_length (E := E) (l := l) (S := S) (d := d) h1) ok_J0_length ⟨⟨(Nat.le_of_ble_eq_true rfl), (Nat.le_of_ble_eq_true rfl)⟩, (Nat.le_of_ble_eq_true rfl), (Nat.le_of_ble_eq_true rfl)⟩ rfl rfl (Nat.le_of_ble_eq_true rfl) gX6_takes_J0_length_8abf5 rfl rfl 40 rfl dX6_takes_37 (fun v2 => ?_)
    refine r_icmp_ge 70 43 rfl rfl dX6_takes_40 ?_ ?_
    · refine r_sub [0] rfl ?_
      exact hK ()
    · refine r_aload_n 0 0 rfl rfl 44 rfl dX6_takes_43 ?_
      refine r_get (h0 0 (Nat.le_of_ble_eq_true rfl)) rfl (Nat.le_of_ble_eq_true rfl) rfl rfl w_X6_takes_1 0 (Nat.le_of_ble_eq_true rfl) rfl w_X6_takes_5 (.ref (E.2.1 + (o0 + 1))) rfl 47 rfl dX6_takes_44 ?_
      refine r_aload_n 0 0 rfl rfl 48 rfl dX6_takes_47 ?_
      refine r_get (h0 0 (Nat.le_of_ble_eq_true rfl)) rfl (Nat.le_of_ble_eq_true rfl) rfl rfl w_X6_takes_1 3 (Nat.le_of_ble_eq_true rfl) rfl w_X6_takes_4 (.int (d o0 3)) rfl 51 rfl dX6_takes_48 ?_
      refine r_iload_n 2 2 rfl rfl 52 rfl dX6_takes_51 ?_
      refine r_iadd 53 rfl dX6_takes_52 ?_
      refine r_bald (h0 1 (Nat.le_of_ble_eq_true rfl)) rfl rfl 54 rfl dX6_takes_53 (fun v3 => ?_)
      refine r_aload_n 1 1 rfl rfl 55 rfl dX6_takes_54 ?_
      refine r_iload_n 2 2 rfl rfl 56 rfl dX6_takes_55 ?_
      refine r_callT h1 (c_J0_charAt (E := E) (l := l) (S := S) (d := d) h1) ok_J0_charAt ⟨⟨(Nat.le_of_ble_eq_true rfl), (Nat.le_of_ble_eq_true rfl)⟩, (Nat.le_of_ble_eq_true rfl), (Nat.le_of_ble_eq_true rfl)⟩ rfl rfl (Nat.le_of_ble_eq_true rfl) gX6_takes_J0_charAt_5068e rfl rfl 59 rfl dX6_takes_56 (fun v4 => ?_)
      refine r_icmp_eq 64 62 rfl rfl dX6_takes_59 ?_ ?_
      · refine r_iinc (x2 + 1) 2 rfl rfl [(2, .int (x2 + 1)), (0, .ref (E.2.1 + o0)), (1, .ref (E.2.2.2.2.1 x1))] (Nat.le_of_ble_eq_true rfl) rfl 67 rfl dX6_takes_64 ?_
        refine r_goto 35 rfl dX6_takes_67 ?_
        refine r_sub [1, 2, 0] rfl ?_
        exact ih (x2 + 1)
      · refine r_iconst 0 rfl 63 rfl dX6_takes_62 ?_
        exact r_zreturnc (by decide) rfl rfl (Nat.le_of_ble_eq_true rfl) (Nat.le_of_ble_eq_true rfl) dX6_takes_63
def f_X6_takes (d : z_D) (o0 : Nat) (x1 : Nat) : Option (Int32 × z_D) := (if (d o0 5) = 0 then (if (d o0 2) = 1 then ((z_slen x1).bind fun v1 => (if ((d o0 4) - (d o0 3)) = v1 then (f_X6_takes_L35 d o0 x1 (fun _ => ((f_X6_advance d o0).bind fun d5 => (some (1, d5)))) z_N 0) else (some (0, d)))) else (some (0, d))) else (some (0, d)))
set_option maxHeartbeats 4000000 in
set_option maxRecDepth 100000 in
theorem c_X6_takes {E : z_E} {l : Launch} {S : z_S} (d : z_D) (o0 : Nat) (h0 : A_Tape S o0) (x1 : Nat) (h1 : x1 < 20) : z_Sp E l yX6_takes Y_X6_takes (cvX S) [.ref (E.2.1 + o0), .ref (E.2.2.2.2.1 x1)] (S, d) (f_X6_takes d o0 x1) := by
  refine z_entry (lv := [(0, .ref (E.2.1 + o0)), (1, .ref (E.2.2.2.2.1 x1))]) (by decide) rfl rfl (Nat.le_of_ble_eq_true rfl) rfl ?_
  unfold f_X6_takes
  refine r_aload_n 0 0 rfl rfl 1 rfl dX6_takes_0 ?_
  refine r_get (h0 0 (Nat.le_of_ble_eq_true rfl)) rfl (Nat.le_of_ble_eq_true rfl) rfl rfl w_X6_takes_1 5 (Nat.le_of_ble_eq_true rfl) rfl w_X6_takes_0 (.int (d o0 5)) rfl 4 rfl dX6_takes_1 ?_
  refine r_if_ne 31 7 rfl rfl dX6_takes_4 ?_ ?_
  · refine r_iconst 0 rfl 32 rfl dX6_takes_31 ?_
    exact r_zreturnc (by decide) rfl rfl (Nat.le_of_ble_eq_true rfl) (Nat.le_of_ble_eq_true rfl) dX6_takes_32
  · refine r_aload_n 0 0 rfl rfl 8 rfl dX6_takes_7 ?_
    refine r_get (h0 0 (Nat.le_of_ble_eq_true rfl)) rfl (Nat.le_of_ble_eq_true rfl) rfl rfl w_X6_takes_1 2 (Nat.le_of_ble_eq_true rfl) rfl w_X6_takes_2 (.int (d o0 2)) rfl 11 rfl dX6_takes_8 ?_
    refine r_iconst 1 rfl 12 rfl dX6_takes_11 ?_
    refine r_icmp_ne 31 15 rfl rfl dX6_takes_12 ?_ ?_
    · refine r_iconst 0 rfl 32 rfl dX6_takes_31 ?_
      exact r_zreturnc (by decide) rfl rfl (Nat.le_of_ble_eq_true rfl) (Nat.le_of_ble_eq_true rfl) dX6_takes_32
    · refine r_aload_n 0 0 rfl rfl 16 rfl dX6_takes_15 ?_
      refine r_get (h0 0 (Nat.le_of_ble_eq_true rfl)) rfl (Nat.le_of_ble_eq_true rfl) rfl rfl w_X6_takes_1 4 (Nat.le_of_ble_eq_true rfl) rfl w_X6_takes_3 (.int (d o0 4)) rfl 19 rfl dX6_takes_16 ?_
      refine r_aload_n 0 0 rfl rfl 20 rfl dX6_takes_19 ?_
      refine r_get (h0 0 (Nat.le_of_ble_eq_true rfl)) rfl (Nat.le_of_ble_eq_true rfl) rfl rfl w_X6_takes_1 3 (Nat.le_of_ble_eq_true rfl) rfl w_X6_takes_4 (.int (d o0 3)) rfl 23 rfl dX6_takes_20 ?_
      refine r_isub 24 rfl dX6_takes_23 ?_
      refine r_aload_n 1 1 rfl rfl 25 rfl dX6_takes_24 ?_
      refine r_callT h1 (c_J0_length (E := E) (l := l) (S := S) (d := d) h1) ok_J0_length ⟨⟨(Nat.le_of_ble_eq_true rfl), (Nat.le_of_ble_eq_true rfl)⟩, (Nat.le_of_ble_eq_true rfl), (Nat.le_of_ble_eq_true rfl)⟩ rfl rfl (Nat.le_of_ble_eq_true rfl) gX6_takes_J0_length_8abf5 rfl rfl 28 rfl dX6_takes_25 (fun v1 => ?_)
      refine r_icmp_eq 33 31 rfl rfl dX6_takes_28 ?_ ?_
      · refine r_iconst 0 rfl 34 rfl dX6_takes_33 ?_
        refine r_istore_n 2 rfl [(2, .int 0), (0, .ref (E.2.1 + o0)), (1, .ref (E.2.2.2.2.1 x1))] (Nat.le_of_ble_eq_true rfl) rfl 35 rfl dX6_takes_34 ?_
        refine r_sub [1, 2, 0] rfl ?_
        refine g_X6_takes_L35 h0 h1 (fun _ => ?_) z_N 0
        refine r_aload_n 0 0 rfl rfl 71 rfl dX6_takes_70 ?_
        refine r_callV_V (c_X6_advance (E := E) (l := l) (S := S) d o0 h0) ok_X6_advance ⟨⟨(Nat.le_of_ble_eq_true rfl), (Nat.le_of_ble_eq_true rfl)⟩, (Nat.le_of_ble_eq_true rfl), (Nat.le_of_ble_eq_true rfl)⟩ (h0 0 (Nat.le_of_ble_eq_true rfl)) (Nat.le_of_ble_eq_true rfl) rfl rfl rfl (Nat.le_of_ble_eq_true rfl) gX6_takes_X6_advance rfl rfl 74 rfl dX6_takes_71 (fun d5 => ?_)
        refine r_iconst 1 rfl 75 rfl dX6_takes_74 ?_
        exact r_zreturnc (by decide) rfl rfl (Nat.le_of_ble_eq_true rfl) (Nat.le_of_ble_eq_true rfl) dX6_takes_75
      · refine r_iconst 0 rfl 32 rfl dX6_takes_31 ?_
        exact r_zreturnc (by decide) rfl rfl (Nat.le_of_ble_eq_true rfl) (Nat.le_of_ble_eq_true rfl) dX6_takes_32
def Y_X6_cannotStand : z_Y := (RX6, cX6_cannotStand, 1, wsX6_cannotStand, (some .int), { frames := 0, cells := 0, slots := 0, locals := 0 }, 0, 0)
theorem ok_X6_cannotStand : z_Ok yX6_cannotStand Y_X6_cannotStand 0 := ⟨⟨_, rfl⟩, rfl, rfl, rfl, by decide +kernel, by decide +kernel⟩
theorem w_X6_cannotStand_0 : Cond.fieldLink RX6 19 "BunchTimes$Tape" "fault" "I" ∈ wsX6_cannotStand := by decide +kernel
theorem w_X6_cannotStand_1 : ∀ w ∈ u_ws RX6 TX6 6, w ∈ wsX6_cannotStand := by decide +kernel
theorem w_X6_cannotStand_2 : Cond.fieldLink RX6 31 "BunchTimes$Tape" "start" "I" ∈ wsX6_cannotStand := by decide +kernel
def f_X6_cannotStand (d : z_D) (o0 : Nat) : Option (Int32 × z_D) := (if (d o0 5) = 0 then z_put d o0 5 (1 + (8 * (d o0 3))) (fun d1 => (some ((-1), d1))) else (some ((-1), d)))
set_option maxHeartbeats 4000000 in
set_option maxRecDepth 100000 in
theorem c_X6_cannotStand {E : z_E} {l : Launch} {S : z_S} (d : z_D) (o0 : Nat) (h0 : A_Tape S o0) : z_Sp E l yX6_cannotStand Y_X6_cannotStand (cvX S) [.ref (E.2.1 + o0)] (S, d) (f_X6_cannotStand d o0) := by
  refine z_entry (lv := [(0, .ref (E.2.1 + o0))]) (by decide) rfl rfl (Nat.le_of_ble_eq_true rfl) rfl ?_
  unfold f_X6_cannotStand
  refine r_aload_n 0 0 rfl rfl 1 rfl dX6_cannotStand_0 ?_
  refine r_get (h0 0 (Nat.le_of_ble_eq_true rfl)) rfl (Nat.le_of_ble_eq_true rfl) rfl rfl w_X6_cannotStand_1 5 (Nat.le_of_ble_eq_true rfl) rfl w_X6_cannotStand_0 (.int (d o0 5)) rfl 4 rfl dX6_cannotStand_1 ?_
  refine r_if_ne 20 7 rfl rfl dX6_cannotStand_4 ?_ ?_
  · refine r_iconst (-1) rfl 21 rfl dX6_cannotStand_20 ?_
    exact r_ireturn rfl rfl (Nat.le_of_ble_eq_true rfl) (Nat.le_of_ble_eq_true rfl) dX6_cannotStand_21
  · refine r_aload_n 0 0 rfl rfl 8 rfl dX6_cannotStand_7 ?_
    refine r_iconst 1 rfl 9 rfl dX6_cannotStand_8 ?_
    refine r_bipush 8 rfl 11 rfl dX6_cannotStand_9 ?_
    refine r_aload_n 0 0 rfl rfl 12 rfl dX6_cannotStand_11 ?_
    refine r_get (h0 0 (Nat.le_of_ble_eq_true rfl)) rfl (Nat.le_of_ble_eq_true rfl) rfl rfl w_X6_cannotStand_1 3 (Nat.le_of_ble_eq_true rfl) rfl w_X6_cannotStand_2 (.int (d o0 3)) rfl 15 rfl dX6_cannotStand_12 ?_
    refine r_imul 16 rfl dX6_cannotStand_15 ?_
    refine r_iadd 17 rfl dX6_cannotStand_16 ?_
    refine r_put (h0 0 (Nat.le_of_ble_eq_true rfl)) rfl (Nat.le_of_ble_eq_true rfl) rfl rfl w_X6_cannotStand_1 tyX6 tyX6_ok nmX6 (Nat.le_of_ble_eq_true rfl) rfl w_X6_cannotStand_0 rfl rfl rfl rfl rfl 20 rfl dX6_cannotStand_17 (fun d1 => ?_)
    refine r_iconst (-1) rfl 21 rfl dX6_cannotStand_20 ?_
    exact r_ireturn rfl rfl (Nat.le_of_ble_eq_true rfl) (Nat.le_of_ble_eq_true rfl) dX6_cannotStand_21
def Y_X6_takeInt : z_Y := (RX6, cX6_takeInt, 5, wsX6_takeInt, (some .int), { frames := 2, cells := 0, slots := 0, locals := 42 }, 0, 0)
theorem ok_X6_takeInt : z_Ok yX6_takeInt Y_X6_takeInt 2 := ⟨⟨_, rfl⟩, rfl, rfl, rfl, by decide +kernel, by decide +kernel⟩
theorem w_X6_takeInt_0 : Cond.fieldLink RX6 19 "BunchTimes$Tape" "fault" "I" ∈ wsX6_takeInt := by decide +kernel
theorem w_X6_takeInt_1 : ∀ w ∈ u_ws RX6 TX6 6, w ∈ wsX6_takeInt := by decide +kernel
theorem w_X6_takeInt_2 : Cond.fieldLink RX6 28 "BunchTimes$Tape" "token" "I" ∈ wsX6_takeInt := by decide +kernel
theorem w_X6_takeInt_3 : Cond.fieldLink RX6 31 "BunchTimes$Tape" "start" "I" ∈ wsX6_takeInt := by decide +kernel
theorem w_X6_takeInt_4 : Cond.fieldLink RX6 22 "BunchTimes$Tape" "next" "I" ∈ wsX6_takeInt := by decide +kernel
theorem w_X6_takeInt_5 : Cond.fieldLink RX6 9 "BunchTimes$Tape" "bytes" "[B" ∈ wsX6_takeInt := by decide +kernel
theorem w_X6_takeInt_6 : Cond.initialized RX8 ∈ wsX6_takeInt := by decide +kernel
theorem w_X6_takeInt_7 : Cond.static yX8_within ∈ wsX6_takeInt := by decide +kernel
def f_X6_takeInt_L28_b (d : z_D) (o0 : Nat) (x1 : Int32) (x2 : Int32) (K : Int32 → Option (Int32 × z_D)) (R : Int32 → Int32 → Option (Int32 × z_D)) (x3 : Int32) (x4 : Int32) : Option (Int32 × z_D) := (if (d o0 4) ≤ x4 then (K x3) else z_ald d (o0 + 1) 600 x4 (fun v4 => z_nam ((x3 * 10) + (v4 - 48)) (fun v5 => (R v5 (x4 + 1)))))
def f_X6_takeInt_L28 (d : z_D) (o0 : Nat) (x1 : Int32) (x2 : Int32) (K : Int32 → Option (Int32 × z_D)) : Nat → Int32 → Int32 → Option (Int32 × z_D)
  | 0 => fun _ _ => none
  | n + 1 => f_X6_takeInt_L28_b d o0 x1 x2 K (f_X6_takeInt_L28 d o0 x1 x2 K n)
set_option maxHeartbeats 4000000 in
set_option maxRecDepth 100000 in
theorem g_X6_takeInt_L28 {E : z_E} {l : Launch} {S : z_S} {d : z_D} {o0 : Nat} {x1 : Int32} {x2 : Int32} {K : Int32 → Option (Int32 × z_D)} (h0 : A_Tape S o0) (hK : ∀ (y3 : Int32), z_G E l Y_X6_takeInt (cvX S) (K y3) 59 [(0, .ref (E.2.1 + o0)), (1, .int x1), (2, .int x2), (3, .int y3)] [] (S, d) 0 0) : ∀ (n : Nat) (x3 : Int32) (x4 : Int32), z_G E l Y_X6_takeInt (cvX S) (f_X6_takeInt_L28 d o0 x1 x2 K n x3 x4) 28 [(0, .ref (E.2.1 + o0)), (1, .int x1), (2, .int x2), (3, .int x3), (4, .int x4)] [] (S, d) 0 0 := by
  intro n
  induction n with
  | zero => intro _ _; exact r_none
  | succ n ih =>
    intro x3 x4
    show z_G E l Y_X6_takeInt (cvX S) (f_X6_takeInt_L28_b d o0 x1 x2 K (f_X6_takeInt_L28 d o0 x1 x2 K n) x3 x4) 28 [(0, .ref (E.2.1 + o0)), (1, .int x1), (2, .int x2), (3, .int x3), (4, .int x4)] [] (S, d) 0 0
    unfold f_X6_takeInt_L28_b
    refine r_iload 4 4 rfl 30 rfl dX6_takeInt_28 ?_
    refine r_aload_n 0 0 rfl rfl 31 rfl dX6_takeInt_30 ?_
    refine r_get (h0 0 (Nat.le_of_ble_eq_true rfl)) rfl (Nat.le_of_ble_eq_true rfl) rfl rfl w_X6_takeInt_1 4 (Nat.le_of_ble_eq_true rfl) rfl w_X6_takeInt_4 (.int (d o0 4)) rfl 34 rfl dX6_takeInt_31 ?_
    refine r_icmp_ge 59 37 rfl rfl dX6_takeInt_34 ?_ ?_
    · refine r_sub [0, 1, 2, 3] rfl ?_
      exact hK x3
    · refine r_iload_n 3 3 rfl rfl 38 rfl dX6_takeInt_37 ?_
      refine r_bipush 10 rfl 40 rfl dX6_takeInt_38 ?_
      refine r_imul 41 rfl dX6_takeInt_40 ?_
      refine r_aload_n 0 0 rfl rfl 42 rfl dX6_takeInt_41 ?_
      refine r_get (h0 0 (Nat.le_of_ble_eq_true rfl)) rfl (Nat.le_of_ble_eq_true rfl) rfl rfl w_X6_takeInt_1 0 (Nat.le_of_ble_eq_true rfl) rfl w_X6_takeInt_5 (.ref (E.2.1 + (o0 + 1))) rfl 45 rfl dX6_takeInt_42 ?_
      refine r_iload 4 4 rfl 47 rfl dX6_takeInt_45 ?_
      refine r_bald (h0 1 (Nat.le_of_ble_eq_true rfl)) rfl rfl 48 rfl dX6_takeInt_47 (fun v4 => ?_)
      refine r_bipush 48 rfl 50 rfl dX6_takeInt_48 ?_
      refine r_isub 51 rfl dX6_takeInt_50 ?_
      refine r_iadd 52 rfl dX6_takeInt_51 ?_
      refine r_nami (fun v5 => ?_)
      refine r_istore_n 3 rfl [(3, .int v5), (0, .ref (E.2.1 + o0)), (1, .int x1), (2, .int x2), (4, .int x4)] (Nat.le_of_ble_eq_true rfl) rfl 53 rfl dX6_takeInt_52 ?_
      refine r_iinc (x4 + 1) 4 rfl rfl [(4, .int (x4 + 1)), (3, .int v5), (0, .ref (E.2.1 + o0)), (1, .int x1), (2, .int x2)] (Nat.le_of_ble_eq_true rfl) rfl 56 rfl dX6_takeInt_53 ?_
      refine r_goto 28 rfl dX6_takeInt_56 ?_
      refine r_sub [2, 3, 4, 1, 0] rfl ?_
      exact ih v5 (x4 + 1)
def f_X6_takeInt (d : z_D) (o0 : Nat) (x1 : Int32) (x2 : Int32) : Option (Int32 × z_D) := (if (d o0 5) = 0 then (if (d o0 2) = 2 then z_nam (d o0 3) (fun v3 => (f_X6_takeInt_L28 d o0 x1 x2 (fun v6 => ((f_X8_within v6 x1 x2).bind fun v7 => (if v7 = 0 then z_put d o0 5 (2 + (8 * (d o0 3))) (fun d9 => (some ((-1), d9))) else ((f_X6_advance d o0).bind fun d8 => (some (v6, d8)))))) z_N 0 v3)) else z_bX (f_X6_cannotStand d o0) (fun v10 d11 => (some (v10, d11)))) else z_bX (f_X6_cannotStand d o0) (fun v1 d2 => (some (v1, d2))))
set_option maxHeartbeats 4000000 in
set_option maxRecDepth 100000 in
theorem c_X6_takeInt {E : z_E} {l : Launch} {S : z_S} (d : z_D) (o0 : Nat) (h0 : A_Tape S o0) (x1 : Int32) (x2 : Int32) : z_Sp E l yX6_takeInt Y_X6_takeInt (cvX S) [.ref (E.2.1 + o0), .int x1, .int x2] (S, d) (f_X6_takeInt d o0 x1 x2) := by
  refine z_entry (lv := [(0, .ref (E.2.1 + o0)), (1, .int x1), (2, .int x2)]) (by decide) rfl rfl (Nat.le_of_ble_eq_true rfl) rfl ?_
  unfold f_X6_takeInt
  refine r_aload_n 0 0 rfl rfl 1 rfl dX6_takeInt_0 ?_
  refine r_get (h0 0 (Nat.le_of_ble_eq_true rfl)) rfl (Nat.le_of_ble_eq_true rfl) rfl rfl w_X6_takeInt_1 5 (Nat.le_of_ble_eq_true rfl) rfl w_X6_takeInt_0 (.int (d o0 5)) rfl 4 rfl dX6_takeInt_1 ?_
  refine r_if_ne 15 7 rfl rfl dX6_takeInt_4 ?_ ?_
  · refine r_aload_n 0 0 rfl rfl 16 rfl dX6_takeInt_15 ?_
    refine r_callV_X (c_X6_cannotStand (E := E) (l := l) (S := S) d o0 h0) ok_X6_cannotStand ⟨⟨(Nat.le_of_ble_eq_true rfl), (Nat.le_of_ble_eq_true rfl)⟩, (Nat.le_of_ble_eq_true rfl), (Nat.le_of_ble_eq_true rfl)⟩ (h0 0 (Nat.le_of_ble_eq_true rfl)) (Nat.le_of_ble_eq_true rfl) rfl rfl rfl (Nat.le_of_ble_eq_true rfl) gX6_takeInt_X6_cannotStand rfl rfl 19 rfl dX6_takeInt_16 (fun v1 d2 => ?_)
    exact r_ireturn rfl rfl (Nat.le_of_ble_eq_true rfl) (Nat.le_of_ble_eq_true rfl) dX6_takeInt_19
  · refine r_aload_n 0 0 rfl rfl 8 rfl dX6_takeInt_7 ?_
    refine r_get (h0 0 (Nat.le_of_ble_eq_true rfl)) rfl (Nat.le_of_ble_eq_true rfl) rfl rfl w_X6_takeInt_1 2 (Nat.le_of_ble_eq_true rfl) rfl w_X6_takeInt_2 (.int (d o0 2)) rfl 11 rfl dX6_takeInt_8 ?_
    refine r_iconst 2 rfl 12 rfl dX6_takeInt_11 ?_
    refine r_icmp_eq 20 15 rfl rfl dX6_takeInt_12 ?_ ?_
    · refine r_iconst 0 rfl 21 rfl dX6_takeInt_20 ?_
      refine r_istore_n 3 rfl [(3, .int 0), (0, .ref (E.2.1 + o0)), (1, .int x1), (2, .int x2)] (Nat.le_of_ble_eq_true rfl) rfl 22 rfl dX6_takeInt_21 ?_
      refine r_aload_n 0 1 rfl rfl 23 rfl dX6_takeInt_22 ?_
      refine r_get (h0 0 (Nat.le_of_ble_eq_true rfl)) rfl (Nat.le_of_ble_eq_true rfl) rfl rfl w_X6_takeInt_1 3 (Nat.le_of_ble_eq_true rfl) rfl w_X6_takeInt_3 (.int (d o0 3)) rfl 26 rfl dX6_takeInt_23 ?_
      refine r_nami (fun v3 => ?_)
      refine r_istore 4 [(4, .int v3), (3, .int 0), (0, .ref (E.2.1 + o0)), (1, .int x1), (2, .int x2)] (Nat.le_of_ble_eq_true rfl) rfl 28 rfl dX6_takeInt_26 ?_
      refine r_sub [2, 3, 4, 1, 0] rfl ?_
      refine g_X6_takeInt_L28 h0 (fun v6 => ?_) z_N 0 v3
      refine r_iload_n 3 3 rfl rfl 60 rfl dX6_takeInt_59 ?_
      refine r_iload_n 1 1 rfl rfl 61 rfl dX6_takeInt_60 ?_
      refine r_iload_n 2 2 rfl rfl 62 rfl dX6_takeInt_61 ?_
      refine r_callSN_I (c_X8_within (E := E) (l := l) (S := S) d v6 x1 x2) ok_X8_within ⟨⟨(Nat.le_of_ble_eq_true rfl), (Nat.le_of_ble_eq_true rfl)⟩, (Nat.le_of_ble_eq_true rfl), (Nat.le_of_ble_eq_true rfl)⟩ rfl (Nat.le_of_ble_eq_true rfl) 17 rfl gX6_takeInt_X8_within_n46 w_X6_takeInt_6 w_X6_takeInt_7 rfl rfl 65 rfl dX6_takeInt_62 (fun v7 => ?_)
      refine r_if_ne 83 68 rfl rfl dX6_takeInt_65 ?_ ?_
      · refine r_aload_n 0 0 rfl rfl 84 rfl dX6_takeInt_83 ?_
        refine r_callV_V (c_X6_advance (E := E) (l := l) (S := S) d o0 h0) ok_X6_advance ⟨⟨(Nat.le_of_ble_eq_true rfl), (Nat.le_of_ble_eq_true rfl)⟩, (Nat.le_of_ble_eq_true rfl), (Nat.le_of_ble_eq_true rfl)⟩ (h0 0 (Nat.le_of_ble_eq_true rfl)) (Nat.le_of_ble_eq_true rfl) rfl rfl rfl (Nat.le_of_ble_eq_true rfl) gX6_takeInt_X6_advance rfl rfl 87 rfl dX6_takeInt_84 (fun d8 => ?_)
        refine r_iload_n 3 3 rfl rfl 88 rfl dX6_takeInt_87 ?_
        exact r_ireturn rfl rfl (Nat.le_of_ble_eq_true rfl) (Nat.le_of_ble_eq_true rfl) dX6_takeInt_88
      · refine r_aload_n 0 0 rfl rfl 69 rfl dX6_takeInt_68 ?_
        refine r_iconst 2 rfl 70 rfl dX6_takeInt_69 ?_
        refine r_bipush 8 rfl 72 rfl dX6_takeInt_70 ?_
        refine r_aload_n 0 0 rfl rfl 73 rfl dX6_takeInt_72 ?_
        refine r_get (h0 0 (Nat.le_of_ble_eq_true rfl)) rfl (Nat.le_of_ble_eq_true rfl) rfl rfl w_X6_takeInt_1 3 (Nat.le_of_ble_eq_true rfl) rfl w_X6_takeInt_3 (.int (d o0 3)) rfl 76 rfl dX6_takeInt_73 ?_
        refine r_imul 77 rfl dX6_takeInt_76 ?_
        refine r_iadd 78 rfl dX6_takeInt_77 ?_
        refine r_put (h0 0 (Nat.le_of_ble_eq_true rfl)) rfl (Nat.le_of_ble_eq_true rfl) rfl rfl w_X6_takeInt_1 tyX6 tyX6_ok nmX6 (Nat.le_of_ble_eq_true rfl) rfl w_X6_takeInt_0 rfl rfl rfl rfl rfl 81 rfl dX6_takeInt_78 (fun d9 => ?_)
        refine r_iconst (-1) rfl 82 rfl dX6_takeInt_81 ?_
        exact r_ireturn rfl rfl (Nat.le_of_ble_eq_true rfl) (Nat.le_of_ble_eq_true rfl) dX6_takeInt_82
    · refine r_aload_n 0 0 rfl rfl 16 rfl dX6_takeInt_15 ?_
      refine r_callV_X (c_X6_cannotStand (E := E) (l := l) (S := S) d o0 h0) ok_X6_cannotStand ⟨⟨(Nat.le_of_ble_eq_true rfl), (Nat.le_of_ble_eq_true rfl)⟩, (Nat.le_of_ble_eq_true rfl), (Nat.le_of_ble_eq_true rfl)⟩ (h0 0 (Nat.le_of_ble_eq_true rfl)) (Nat.le_of_ble_eq_true rfl) rfl rfl rfl (Nat.le_of_ble_eq_true rfl) gX6_takeInt_X6_cannotStand rfl rfl 19 rfl dX6_takeInt_16 (fun v10 d11 => ?_)
      exact r_ireturn rfl rfl (Nat.le_of_ble_eq_true rfl) (Nat.le_of_ble_eq_true rfl) dX6_takeInt_19
def Y_X6_endStatement : z_Y := (RX6, cX6_endStatement, 3, wsX6_endStatement, none, { frames := 2, cells := 0, slots := 0, locals := 42 }, 0, 0)
theorem ok_X6_endStatement : z_Ok yX6_endStatement Y_X6_endStatement 2 := ⟨⟨_, rfl⟩, rfl, rfl, rfl, by decide +kernel, by decide +kernel⟩
theorem w_X6_endStatement_0 : Cond.fieldLink RX6 19 "BunchTimes$Tape" "fault" "I" ∈ wsX6_endStatement := by decide +kernel
theorem w_X6_endStatement_1 : ∀ w ∈ u_ws RX6 TX6 6, w ∈ wsX6_endStatement := by decide +kernel
theorem w_X6_endStatement_2 : Cond.fieldLink RX6 28 "BunchTimes$Tape" "token" "I" ∈ wsX6_endStatement := by decide +kernel
def f_X6_endStatement (d : z_D) (o0 : Nat) (x1 : Int32) (x2 : Int32) : Option z_D := (if (d o0 5) = 0 then (if (d o0 2) = 3 then (if x2 = 0 then z_put d o0 5 (3 + (8 * x1)) (fun d4 => (some d4)) else ((f_X6_advance d o0).bind fun d3 => (some d3))) else z_bX (f_X6_cannotStand d o0) (fun v5 d6 => (some d6))) else z_bX (f_X6_cannotStand d o0) (fun v1 d2 => (some d2)))
set_option maxHeartbeats 4000000 in
set_option maxRecDepth 100000 in
theorem c_X6_endStatement {E : z_E} {l : Launch} {S : z_S} (d : z_D) (o0 : Nat) (h0 : A_Tape S o0) (x1 : Int32) (x2 : Int32) : z_Sp E l yX6_endStatement Y_X6_endStatement (cvV S) [.ref (E.2.1 + o0), .int x1, .int x2] (S, d) (f_X6_endStatement d o0 x1 x2) := by
  refine z_entry (lv := [(0, .ref (E.2.1 + o0)), (1, .int x1), (2, .int x2)]) (by decide) rfl rfl (Nat.le_of_ble_eq_true rfl) rfl ?_
  unfold f_X6_endStatement
  refine r_aload_n 0 0 rfl rfl 1 rfl dX6_endStatement_0 ?_
  refine r_get (h0 0 (Nat.le_of_ble_eq_true rfl)) rfl (Nat.le_of_ble_eq_true rfl) rfl rfl w_X6_endStatement_1 5 (Nat.le_of_ble_eq_true rfl) rfl w_X6_endStatement_0 (.int (d o0 5)) rfl 4 rfl dX6_endStatement_1 ?_
  refine r_if_ne 15 7 rfl rfl dX6_endStatement_4 ?_ ?_
  · refine r_aload_n 0 0 rfl rfl 16 rfl dX6_endStatement_15 ?_
    refine r_callV_X (c_X6_cannotStand (E := E) (l := l) (S := S) d o0 h0) ok_X6_cannotStand ⟨⟨(Nat.le_of_ble_eq_true rfl), (Nat.le_of_ble_eq_true rfl)⟩, (Nat.le_of_ble_eq_true rfl), (Nat.le_of_ble_eq_true rfl)⟩ (h0 0 (Nat.le_of_ble_eq_true rfl)) (Nat.le_of_ble_eq_true rfl) rfl rfl rfl (Nat.le_of_ble_eq_true rfl) gX6_endStatement_X6_cannotStand rfl rfl 19 rfl dX6_endStatement_16 (fun v1 d2 => ?_)
    refine r_pop rfl 20 rfl dX6_endStatement_19 ?_
    refine r_goto 44 rfl dX6_endStatement_20 ?_
    exact r_return rfl rfl (Nat.le_of_ble_eq_true rfl) (Nat.le_of_ble_eq_true rfl) dX6_endStatement_44
  · refine r_aload_n 0 0 rfl rfl 8 rfl dX6_endStatement_7 ?_
    refine r_get (h0 0 (Nat.le_of_ble_eq_true rfl)) rfl (Nat.le_of_ble_eq_true rfl) rfl rfl w_X6_endStatement_1 2 (Nat.le_of_ble_eq_true rfl) rfl w_X6_endStatement_2 (.int (d o0 2)) rfl 11 rfl dX6_endStatement_8 ?_
    refine r_iconst 3 rfl 12 rfl dX6_endStatement_11 ?_
    refine r_icmp_eq 23 15 rfl rfl dX6_endStatement_12 ?_ ?_
    · refine r_iload_n 2 2 rfl rfl 24 rfl dX6_endStatement_23 ?_
      refine r_if_ne 40 27 rfl rfl dX6_endStatement_24 ?_ ?_
      · refine r_aload_n 0 0 rfl rfl 41 rfl dX6_endStatement_40 ?_
        refine r_callV_V (c_X6_advance (E := E) (l := l) (S := S) d o0 h0) ok_X6_advance ⟨⟨(Nat.le_of_ble_eq_true rfl), (Nat.le_of_ble_eq_true rfl)⟩, (Nat.le_of_ble_eq_true rfl), (Nat.le_of_ble_eq_true rfl)⟩ (h0 0 (Nat.le_of_ble_eq_true rfl)) (Nat.le_of_ble_eq_true rfl) rfl rfl rfl (Nat.le_of_ble_eq_true rfl) gX6_endStatement_X6_advance rfl rfl 44 rfl dX6_endStatement_41 (fun d3 => ?_)
        exact r_return rfl rfl (Nat.le_of_ble_eq_true rfl) (Nat.le_of_ble_eq_true rfl) dX6_endStatement_44
      · refine r_aload_n 0 0 rfl rfl 28 rfl dX6_endStatement_27 ?_
        refine r_iconst 3 rfl 29 rfl dX6_endStatement_28 ?_
        refine r_bipush 8 rfl 31 rfl dX6_endStatement_29 ?_
        refine r_iload_n 1 1 rfl rfl 32 rfl dX6_endStatement_31 ?_
        refine r_imul 33 rfl dX6_endStatement_32 ?_
        refine r_iadd 34 rfl dX6_endStatement_33 ?_
        refine r_put (h0 0 (Nat.le_of_ble_eq_true rfl)) rfl (Nat.le_of_ble_eq_true rfl) rfl rfl w_X6_endStatement_1 tyX6 tyX6_ok nmX6 (Nat.le_of_ble_eq_true rfl) rfl w_X6_endStatement_0 rfl rfl rfl rfl rfl 37 rfl dX6_endStatement_34 (fun d4 => ?_)
        refine r_goto 44 rfl dX6_endStatement_37 ?_
        exact r_return rfl rfl (Nat.le_of_ble_eq_true rfl) (Nat.le_of_ble_eq_true rfl) dX6_endStatement_44
    · refine r_aload_n 0 0 rfl rfl 16 rfl dX6_endStatement_15 ?_
      refine r_callV_X (c_X6_cannotStand (E := E) (l := l) (S := S) d o0 h0) ok_X6_cannotStand ⟨⟨(Nat.le_of_ble_eq_true rfl), (Nat.le_of_ble_eq_true rfl)⟩, (Nat.le_of_ble_eq_true rfl), (Nat.le_of_ble_eq_true rfl)⟩ (h0 0 (Nat.le_of_ble_eq_true rfl)) (Nat.le_of_ble_eq_true rfl) rfl rfl rfl (Nat.le_of_ble_eq_true rfl) gX6_endStatement_X6_cannotStand rfl rfl 19 rfl dX6_endStatement_16 (fun v5 d6 => ?_)
      refine r_pop rfl 20 rfl dX6_endStatement_19 ?_
      refine r_goto 44 rfl dX6_endStatement_20 ?_
      exact r_return rfl rfl (Nat.le_of_ble_eq_true rfl) (Nat.le_of_ble_eq_true rfl) dX6_endStatement_44
