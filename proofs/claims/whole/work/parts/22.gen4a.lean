/-! 22.gen4a: by gen/mk.py -/
def Y_X4_forget : z_Y := (RX4, cX4_forget, 2, wsX4_forget, none, { frames := 1, cells := 0, slots := 0, locals := 25 }, 0, 0)
theorem ok_X4_forget : z_Ok yX4_forget Y_X4_forget 1 := ⟨⟨_, rfl⟩, rfl, rfl, rfl, by decide +kernel, by decide +kernel⟩
theorem w_X4_forget_0 : Cond.fieldLink RX4 25 "BunchTimes$Stage" "finish" "[I" ∈ wsX4_forget := by decide +kernel
theorem w_X4_forget_1 : ∀ w ∈ u_ws RX4 TX4 20, w ∈ wsX4_forget := by decide +kernel
theorem w_X4_forget_2 : Cond.fieldLink RX4 29 "BunchTimes$Stage" "fallKm" "[I" ∈ wsX4_forget := by decide +kernel
theorem w_X4_forget_3 : Cond.fieldLink RX4 32 "BunchTimes$Stage" "fallWith" "[I" ∈ wsX4_forget := by decide +kernel
theorem w_X4_forget_4 : Cond.fieldLink RX4 35 "BunchTimes$Stage" "juried" "[I" ∈ wsX4_forget := by decide +kernel
theorem w_X4_forget_5 : Cond.fieldLink RX4 38 "BunchTimes$Stage" "graced" "[Z" ∈ wsX4_forget := by decide +kernel
theorem w_X4_forget_6 : Cond.fieldLink RX4 12 "BunchTimes$Stage" "course" "LBunchTimes$Course;" ∈ wsX4_forget := by decide +kernel
theorem w_X4_forget_7 : Cond.initialized RX1 ∈ wsX4_forget := by decide +kernel
theorem w_X4_forget_8 : Cond.instanceMethod yX1_forget ∈ wsX4_forget := by decide +kernel
theorem w_X4_forget_9 : Cond.selects RX1 yX1_forget yX1_forget ∈ wsX4_forget := by decide +kernel
theorem w_X4_forget_10 : Cond.fieldLink RX4 68 "BunchTimes$Stage" "finishers" "I" ∈ wsX4_forget := by decide +kernel
def f_X4_forget (d : z_D) (o0 : Nat) (x1 : Int32) : Option z_D := z_ald d (o0 + 10) 16 x1 (fun v1 => z_let (fun x_19 : z_D => z_ast x_19 (o0 + 10) 16 x1 0 (fun d2 => z_ast d2 (o0 + 11) 16 x1 (-1) (fun d3 => z_ast d3 (o0 + 12) 16 x1 (-1) (fun d4 => z_ast d4 (o0 + 13) 16 x1 0 (fun d5 => z_ast d5 (o0 + 14) 16 x1 (0 &&& 1) (fun d6 => ((f_X1_forget d6 (o0 + 1) x1).bind fun d7 => (some d7)))))))) (fun J19 => (if v1 = 0 then (J19 d) else z_put d o0 7 ((d o0 7) - 1) (fun d8 => (J19 d8)))))
set_option maxHeartbeats 4000000 in
set_option maxRecDepth 100000 in
theorem c_X4_forget {E : z_E} {l : Launch} {S : z_S} (d : z_D) (o0 : Nat) (h0 : A_Stage S o0) (x1 : Int32) : z_Sp E l yX4_forget Y_X4_forget (cvV S) [.ref (E.2.1 + o0), .int x1] (S, d) (f_X4_forget d o0 x1) := by
  refine z_entry (lv := [(0, .ref (E.2.1 + o0)), (1, .int x1)]) (by decide) rfl rfl (Nat.le_of_ble_eq_true rfl) rfl ?_
  unfold f_X4_forget
  refine r_aload_n 0 0 rfl rfl 1 rfl dX4_forget_0 ?_
  refine r_get (h0 0 (Nat.le_of_ble_eq_true rfl)) rfl (Nat.le_of_ble_eq_true rfl) rfl rfl w_X4_forget_1 2 (Nat.le_of_ble_eq_true rfl) rfl w_X4_forget_0 (.ref (E.2.1 + (o0 + 10))) rfl 4 rfl dX4_forget_1 ?_
  refine r_iload_n 1 1 rfl rfl 5 rfl dX4_forget_4 ?_
  refine r_iald (h0 10 (Nat.le_of_ble_eq_true rfl)) rfl rfl 6 rfl dX4_forget_5 (fun v1 => ?_)
  refine r_let 19 (f := fun x_19 : z_D => [(0, .ref (E.2.1 + o0)), (1, .int x1)]) (g := fun x_19 : z_D => []) (ww := fun x_19 : z_D => (S, x_19)) (fun x_19 => ?_) (fun J19 hJ19 => ?_)
  · refine r_aload_n 0 0 rfl rfl 20 rfl dX4_forget_19 ?_
    refine r_get (h0 0 (Nat.le_of_ble_eq_true rfl)) rfl (Nat.le_of_ble_eq_true rfl) rfl rfl w_X4_forget_1 2 (Nat.le_of_ble_eq_true rfl) rfl w_X4_forget_0 (.ref (E.2.1 + (o0 + 10))) rfl 23 rfl dX4_forget_20 ?_
    refine r_iload_n 1 1 rfl rfl 24 rfl dX4_forget_23 ?_
    refine r_iconst 0 rfl 25 rfl dX4_forget_24 ?_
    refine r_iast (h0 10 (Nat.le_of_ble_eq_true rfl)) rfl rfl 26 rfl dX4_forget_25 (fun d2 => ?_)
    refine r_aload_n 0 0 rfl rfl 27 rfl dX4_forget_26 ?_
    refine r_get (h0 0 (Nat.le_of_ble_eq_true rfl)) rfl (Nat.le_of_ble_eq_true rfl) rfl rfl w_X4_forget_1 3 (Nat.le_of_ble_eq_true rfl) rfl w_X4_forget_2 (.ref (E.2.1 + (o0 + 11))) rfl 30 rfl dX4_forget_27 ?_
    refine r_iload_n 1 1 rfl rfl 31 rfl dX4_forget_30 ?_
    refine r_iconst (-1) rfl 32 rfl dX4_forget_31 ?_
    refine r_iast (h0 11 (Nat.le_of_ble_eq_true rfl)) rfl rfl 33 rfl dX4_forget_32 (fun d3 => ?_)
    refine r_aload_n 0 0 rfl rfl 34 rfl dX4_forget_33 ?_
    refine r_get (h0 0 (Nat.le_of_ble_eq_true rfl)) rfl (Nat.le_of_ble_eq_true rfl) rfl rfl w_X4_forget_1 4 (Nat.le_of_ble_eq_true rfl) rfl w_X4_forget_3 (.ref (E.2.1 + (o0 + 12))) rfl 37 rfl dX4_forget_34 ?_
    refine r_iload_n 1 1 rfl rfl 38 rfl dX4_forget_37 ?_
    refine r_iconst (-1) rfl 39 rfl dX4_forget_38 ?_
    refine r_iast (h0 12 (Nat.le_of_ble_eq_true rfl)) rfl rfl 40 rfl dX4_forget_39 (fun d4 => ?_)
    refine r_aload_n 0 0 rfl rfl 41 rfl dX4_forget_40 ?_
    refine r_get (h0 0 (Nat.le_of_ble_eq_true rfl)) rfl (Nat.le_of_ble_eq_true rfl) rfl rfl w_X4_forget_1 5 (Nat.le_of_ble_eq_true rfl) rfl w_X4_forget_4 (.ref (E.2.1 + (o0 + 13))) rfl 44 rfl dX4_forget_41 ?_
    refine r_iload_n 1 1 rfl rfl 45 rfl dX4_forget_44 ?_
    refine r_iconst 0 rfl 46 rfl dX4_forget_45 ?_
    refine r_iast (h0 13 (Nat.le_of_ble_eq_true rfl)) rfl rfl 47 rfl dX4_forget_46 (fun d5 => ?_)
    refine r_aload_n 0 0 rfl rfl 48 rfl dX4_forget_47 ?_
    refine r_get (h0 0 (Nat.le_of_ble_eq_true rfl)) rfl (Nat.le_of_ble_eq_true rfl) rfl rfl w_X4_forget_1 6 (Nat.le_of_ble_eq_true rfl) rfl w_X4_forget_5 (.ref (E.2.1 + (o0 + 14))) rfl 51 rfl dX4_forget_48 ?_
    refine r_iload_n 1 1 rfl rfl 52 rfl dX4_forget_51 ?_
    refine r_iconst 0 rfl 53 rfl dX4_forget_52 ?_
    refine r_zast (h0 14 (Nat.le_of_ble_eq_true rfl)) rfl rfl 54 rfl dX4_forget_53 (fun d6 => ?_)
    refine r_aload_n 0 0 rfl rfl 55 rfl dX4_forget_54 ?_
    refine r_get (h0 0 (Nat.le_of_ble_eq_true rfl)) rfl (Nat.le_of_ble_eq_true rfl) rfl rfl w_X4_forget_1 0 (Nat.le_of_ble_eq_true rfl) rfl w_X4_forget_6 (.ref (E.2.1 + (o0 + 1))) rfl 58 rfl dX4_forget_55 ?_
    refine r_iload_n 1 1 rfl rfl 59 rfl dX4_forget_58 ?_
    refine r_callVN_V (c_X1_forget (E := E) (l := l) (S := S) d6 (o0 + 1) (A_Stage.course h0) x1) ok_X1_forget ⟨⟨(Nat.le_of_ble_eq_true rfl), (Nat.le_of_ble_eq_true rfl)⟩, (Nat.le_of_ble_eq_true rfl), (Nat.le_of_ble_eq_true rfl)⟩ ((A_Stage.course h0) 0 (Nat.le_of_ble_eq_true rfl)) (Nat.le_of_ble_eq_true rfl) rfl rfl rfl (Nat.le_of_ble_eq_true rfl) 24 rfl gX4_forget_X1_forget_n113 w_X4_forget_7 w_X4_forget_8 w_X4_forget_9 rfl rfl 62 rfl dX4_forget_59 (fun d7 => ?_)
    exact r_return rfl rfl (Nat.le_of_ble_eq_true rfl) (Nat.le_of_ble_eq_true rfl) dX4_forget_62
  refine r_if_eq 19 9 rfl rfl dX4_forget_6 ?_ ?_
  · refine r_sub [0, 1] rfl ?_
    exact hJ19 d
  · refine r_aload_n 0 0 rfl rfl 10 rfl dX4_forget_9 ?_
    refine r_dup rfl 11 rfl dX4_forget_10 ?_
    refine r_get (h0 0 (Nat.le_of_ble_eq_true rfl)) rfl (Nat.le_of_ble_eq_true rfl) rfl rfl w_X4_forget_1 7 (Nat.le_of_ble_eq_true rfl) rfl w_X4_forget_10 (.int (d o0 7)) rfl 14 rfl dX4_forget_11 ?_
    refine r_iconst 1 rfl 15 rfl dX4_forget_14 ?_
    refine r_isub 16 rfl dX4_forget_15 ?_
    refine r_put (h0 0 (Nat.le_of_ble_eq_true rfl)) rfl (Nat.le_of_ble_eq_true rfl) rfl rfl w_X4_forget_1 tyX4 tyX4_ok nmX4 (Nat.le_of_ble_eq_true rfl) rfl w_X4_forget_10 rfl rfl rfl rfl rfl 19 rfl dX4_forget_16 (fun d8 => ?_)
    refine r_sub [0, 1] rfl ?_
    exact hJ19 d8
def Y_X4_begin : z_Y := (RX4, cX4_begin, 4, wsX4_begin, none, { frames := 2, cells := 0, slots := 0, locals := 46 }, 0, 0)
theorem ok_X4_begin : z_Ok yX4_begin Y_X4_begin 2 := ⟨⟨_, rfl⟩, rfl, rfl, rfl, by decide +kernel, by decide +kernel⟩
theorem w_X4_begin_0 : Cond.fieldLink RX4 12 "BunchTimes$Stage" "course" "LBunchTimes$Course;" ∈ wsX4_begin := by decide +kernel
theorem w_X4_begin_1 : ∀ w ∈ u_ws RX4 TX4 20, w ∈ wsX4_begin := by decide +kernel
theorem w_X4_begin_2 : Cond.initialized RX1 ∈ wsX4_begin := by decide +kernel
theorem w_X4_begin_3 : Cond.instanceMethod yX1_begin ∈ wsX4_begin := by decide +kernel
theorem w_X4_begin_4 : Cond.selects RX1 yX1_begin yX1_begin ∈ wsX4_begin := by decide +kernel
theorem w_X4_begin_5 : Cond.fieldLink RX4 68 "BunchTimes$Stage" "finishers" "I" ∈ wsX4_begin := by decide +kernel
def f_X4_begin_L11_b (o0 : Nat) (K : z_D → Option z_D) (R : Int32 → z_D → Option z_D) (x3 : Int32) (d : z_D) : Option z_D := (if 16 ≤ x3 then (K d) else ((f_X4_forget d o0 x3).bind fun d2 => (R (x3 + 1) d2)))
def f_X4_begin_L11 (o0 : Nat) (K : z_D → Option z_D) : Nat → Int32 → z_D → Option z_D
  | 0 => fun _ _ => none
  | n + 1 => f_X4_begin_L11_b o0 K (f_X4_begin_L11 o0 K n)
set_option maxHeartbeats 4000000 in
set_option maxRecDepth 100000 in
theorem g_X4_begin_L11 {E : z_E} {l : Launch} {S : z_S} {o0 : Nat} {K : z_D → Option z_D} (h0 : A_Stage S o0) (hK : ∀ (d9 : z_D), z_G E l Y_X4_begin (cvV S) (K d9) 28 [(0, .ref (E.2.1 + o0))] [] (S, d9) 0 0) : ∀ (n : Nat) (x3 : Int32) (d : z_D), z_G E l Y_X4_begin (cvV S) (f_X4_begin_L11 o0 K n x3 d) 11 [(0, .ref (E.2.1 + o0)), (3, .int x3)] [] (S, d) 0 0 := by
  intro n
  induction n with
  | zero => intro _ _; exact r_none
  | succ n ih =>
    intro x3 d
    show z_G E l Y_X4_begin (cvV S) (f_X4_begin_L11_b o0 K (f_X4_begin_L11 o0 K n) x3 d) 11 [(0, .ref (E.2.1 + o0)), (3, .int x3)] [] (S, d) 0 0
    unfold f_X4_begin_L11_b
    refine r_iload_n 3 1 rfl rfl 12 rfl dX4_begin_11 ?_
    refine r_bipush 16 rfl 14 rfl dX4_begin_12 ?_
    refine r_icmp_ge 28 17 rfl rfl dX4_begin_14 ?_ ?_
    · refine r_sub [0] rfl ?_
      exact hK d
    · refine r_aload_n 0 0 rfl rfl 18 rfl dX4_begin_17 ?_
      refine r_iload_n 3 1 rfl rfl 19 rfl dX4_begin_18 ?_
      refine r_callV_V (c_X4_forget (E := E) (l := l) (S := S) d o0 h0 x3) ok_X4_forget ⟨⟨(Nat.le_of_ble_eq_true rfl), (Nat.le_of_ble_eq_true rfl)⟩, (Nat.le_of_ble_eq_true rfl), (Nat.le_of_ble_eq_true rfl)⟩ (h0 0 (Nat.le_of_ble_eq_true rfl)) (Nat.le_of_ble_eq_true rfl) rfl rfl rfl (Nat.le_of_ble_eq_true rfl) gX4_begin_X4_forget rfl rfl 22 rfl dX4_begin_19 (fun d2 => ?_)
      refine r_iinc (x3 + 1) 1 rfl rfl [(3, .int (x3 + 1)), (0, .ref (E.2.1 + o0))] (Nat.le_of_ble_eq_true rfl) rfl 25 rfl dX4_begin_22 ?_
      refine r_goto 11 rfl dX4_begin_25 ?_
      refine r_sub [1, 0] rfl ?_
      exact ih (x3 + 1) d2
def f_X4_begin (d : z_D) (o0 : Nat) (x1 : Int32) (x2 : Int32) : Option z_D := ((f_X1_begin d (o0 + 1) x1 x2).bind fun d1 => (f_X4_begin_L11 o0 (fun d3 => z_put d3 o0 7 0 (fun d4 => (some d4))) z_N 0 d1))
set_option maxHeartbeats 4000000 in
set_option maxRecDepth 100000 in
theorem c_X4_begin {E : z_E} {l : Launch} {S : z_S} (d : z_D) (o0 : Nat) (h0 : A_Stage S o0) (x1 : Int32) (x2 : Int32) : z_Sp E l yX4_begin Y_X4_begin (cvV S) [.ref (E.2.1 + o0), .int x1, .int x2] (S, d) (f_X4_begin d o0 x1 x2) := by
  refine z_entry (lv := [(0, .ref (E.2.1 + o0)), (1, .int x1), (2, .int x2)]) (by decide) rfl rfl (Nat.le_of_ble_eq_true rfl) rfl ?_
  unfold f_X4_begin
  refine r_aload_n 0 0 rfl rfl 1 rfl dX4_begin_0 ?_
  refine r_get (h0 0 (Nat.le_of_ble_eq_true rfl)) rfl (Nat.le_of_ble_eq_true rfl) rfl rfl w_X4_begin_1 0 (Nat.le_of_ble_eq_true rfl) rfl w_X4_begin_0 (.ref (E.2.1 + (o0 + 1))) rfl 4 rfl dX4_begin_1 ?_
  refine r_iload_n 1 1 rfl rfl 5 rfl dX4_begin_4 ?_
  refine r_iload_n 2 2 rfl rfl 6 rfl dX4_begin_5 ?_
  refine r_callVN_V (c_X1_begin (E := E) (l := l) (S := S) d (o0 + 1) (A_Stage.course h0) x1 x2) ok_X1_begin ⟨⟨(Nat.le_of_ble_eq_true rfl), (Nat.le_of_ble_eq_true rfl)⟩, (Nat.le_of_ble_eq_true rfl), (Nat.le_of_ble_eq_true rfl)⟩ ((A_Stage.course h0) 0 (Nat.le_of_ble_eq_true rfl)) (Nat.le_of_ble_eq_true rfl) rfl rfl rfl (Nat.le_of_ble_eq_true rfl) 23 rfl gX4_begin_X1_begin_n60 w_X4_begin_2 w_X4_begin_3 w_X4_begin_4 rfl rfl 9 rfl dX4_begin_6 (fun d1 => ?_)
  refine r_iconst 0 rfl 10 rfl dX4_begin_9 ?_
  refine r_istore_n 3 rfl [(3, .int 0), (0, .ref (E.2.1 + o0)), (1, .int x1), (2, .int x2)] (Nat.le_of_ble_eq_true rfl) rfl 11 rfl dX4_begin_10 ?_
  refine r_sub [1, 0] rfl ?_
  refine g_X4_begin_L11 h0 (fun d3 => ?_) z_N 0 d1
  refine r_aload_n 0 0 rfl rfl 29 rfl dX4_begin_28 ?_
  refine r_iconst 0 rfl 30 rfl dX4_begin_29 ?_
  refine r_put (h0 0 (Nat.le_of_ble_eq_true rfl)) rfl (Nat.le_of_ble_eq_true rfl) rfl rfl w_X4_begin_1 tyX4 tyX4_ok nmX4 (Nat.le_of_ble_eq_true rfl) rfl w_X4_begin_5 rfl rfl rfl rfl rfl 33 rfl dX4_begin_30 (fun d4 => ?_)
  exact r_return rfl rfl (Nat.le_of_ble_eq_true rfl) (Nat.le_of_ble_eq_true rfl) dX4_begin_33
def Y_X4_copyFrom : z_Y := (RX4, cX4_copyFrom, 2, wsX4_copyFrom, none, { frames := 2, cells := 0, slots := 0, locals := 69 }, 0, 0)
theorem ok_X4_copyFrom : z_Ok yX4_copyFrom Y_X4_copyFrom 1 := ⟨⟨_, rfl⟩, rfl, rfl, rfl, by decide +kernel, by decide +kernel⟩
theorem w_X4_copyFrom_0 : Cond.fieldLink RX4 12 "BunchTimes$Stage" "course" "LBunchTimes$Course;" ∈ wsX4_copyFrom := by decide +kernel
theorem w_X4_copyFrom_1 : ∀ w ∈ u_ws RX4 TX4 20, w ∈ wsX4_copyFrom := by decide +kernel
theorem w_X4_copyFrom_2 : Cond.initialized RX1 ∈ wsX4_copyFrom := by decide +kernel
theorem w_X4_copyFrom_3 : Cond.instanceMethod yX1_copyFrom ∈ wsX4_copyFrom := by decide +kernel
theorem w_X4_copyFrom_4 : Cond.selects RX1 yX1_copyFrom yX1_copyFrom ∈ wsX4_copyFrom := by decide +kernel
theorem w_X4_copyFrom_5 : Cond.fieldLink RX4 21 "BunchTimes$Stage" "prizes" "LBunchTimes$Prizes;" ∈ wsX4_copyFrom := by decide +kernel
theorem w_X4_copyFrom_6 : Cond.initialized RX2 ∈ wsX4_copyFrom := by decide +kernel
theorem w_X4_copyFrom_7 : Cond.instanceMethod yX2_copyFrom ∈ wsX4_copyFrom := by decide +kernel
theorem w_X4_copyFrom_8 : Cond.selects RX2 yX2_copyFrom yX2_copyFrom ∈ wsX4_copyFrom := by decide +kernel
theorem w_X4_copyFrom_9 : Cond.fieldLink RX4 25 "BunchTimes$Stage" "finish" "[I" ∈ wsX4_copyFrom := by decide +kernel
theorem w_X4_copyFrom_10 : Cond.methodLink RX4 79 arraycopyName ∈ wsX4_copyFrom := by decide +kernel
theorem w_X4_copyFrom_11 : Cond.native arraycopyName ∈ wsX4_copyFrom := by decide +kernel
theorem w_X4_copyFrom_12 : Cond.static arraycopyName ∈ wsX4_copyFrom := by decide +kernel
theorem w_X4_copyFrom_13 : Cond.initialized "java/lang/System" ∈ wsX4_copyFrom := by decide +kernel
theorem w_X4_copyFrom_14 : Cond.fieldLink RX4 29 "BunchTimes$Stage" "fallKm" "[I" ∈ wsX4_copyFrom := by decide +kernel
theorem w_X4_copyFrom_15 : Cond.fieldLink RX4 32 "BunchTimes$Stage" "fallWith" "[I" ∈ wsX4_copyFrom := by decide +kernel
theorem w_X4_copyFrom_16 : Cond.fieldLink RX4 35 "BunchTimes$Stage" "juried" "[I" ∈ wsX4_copyFrom := by decide +kernel
theorem w_X4_copyFrom_17 : Cond.fieldLink RX4 38 "BunchTimes$Stage" "graced" "[Z" ∈ wsX4_copyFrom := by decide +kernel
theorem w_X4_copyFrom_18 : Cond.fieldLink RX4 68 "BunchTimes$Stage" "finishers" "I" ∈ wsX4_copyFrom := by decide +kernel
theorem w_X4_copyFrom_19 : Cond.fieldLink RX4 42 "BunchTimes$Stage" "order" "[I" ∈ wsX4_copyFrom := by decide +kernel
theorem w_X4_copyFrom_20 : Cond.fieldLink RX4 45 "BunchTimes$Stage" "place" "[I" ∈ wsX4_copyFrom := by decide +kernel
theorem w_X4_copyFrom_21 : Cond.fieldLink RX4 48 "BunchTimes$Stage" "bunch" "[I" ∈ wsX4_copyFrom := by decide +kernel
theorem w_X4_copyFrom_22 : Cond.fieldLink RX4 51 "BunchTimes$Stage" "raw" "[I" ∈ wsX4_copyFrom := by decide +kernel
theorem w_X4_copyFrom_23 : Cond.fieldLink RX4 54 "BunchTimes$Stage" "time" "[I" ∈ wsX4_copyFrom := by decide +kernel
theorem w_X4_copyFrom_24 : Cond.fieldLink RX4 57 "BunchTimes$Stage" "late" "[Z" ∈ wsX4_copyFrom := by decide +kernel
theorem w_X4_copyFrom_25 : Cond.fieldLink RX4 85 "BunchTimes$Stage" "bunches" "I" ∈ wsX4_copyFrom := by decide +kernel
theorem w_X4_copyFrom_26 : Cond.fieldLink RX4 88 "BunchTimes$Stage" "best" "I" ∈ wsX4_copyFrom := by decide +kernel
theorem w_X4_copyFrom_27 : Cond.fieldLink RX4 91 "BunchTimes$Stage" "speed" "I" ∈ wsX4_copyFrom := by decide +kernel
theorem w_X4_copyFrom_28 : Cond.fieldLink RX4 94 "BunchTimes$Stage" "limit" "I" ∈ wsX4_copyFrom := by decide +kernel
theorem w_X4_copyFrom_29 : Cond.fieldLink RX4 97 "BunchTimes$Stage" "lateOnes" "I" ∈ wsX4_copyFrom := by decide +kernel
theorem w_X4_copyFrom_30 : Cond.fieldLink RX4 100 "BunchTimes$Stage" "pardoned" "Z" ∈ wsX4_copyFrom := by decide +kernel
def f_X4_copyFrom (d : z_D) (o0 : Nat) (o1 : Nat) : Option z_D := ((f_X1_copyFrom d (o0 + 1) (o1 + 1)).bind fun d1 => ((f_X2_copyFrom d1 (o0 + 6) (o1 + 6)).bind fun d2 => z_cpy d2 (o1 + 10) (o0 + 10) 16 (fun d3 => z_cpy d3 (o1 + 11) (o0 + 11) 16 (fun d4 => z_cpy d4 (o1 + 12) (o0 + 12) 16 (fun d5 => z_cpy d5 (o1 + 13) (o0 + 13) 16 (fun d6 => z_cpyz d6 (o1 + 14) (o0 + 14) 16 (fun d7 => z_put d7 o0 7 (d7 o1 7) (fun d8 => z_cpy d8 (o1 + 15) (o0 + 15) 16 (fun d9 => z_cpy d9 (o1 + 16) (o0 + 16) 16 (fun d10 => z_cpy d10 (o1 + 17) (o0 + 17) 16 (fun d11 => z_cpy d11 (o1 + 18) (o0 + 18) 16 (fun d12 => z_cpy d12 (o1 + 19) (o0 + 19) 16 (fun d13 => z_cpyz d13 (o1 + 20) (o0 + 20) 16 (fun d14 => z_put d14 o0 14 (d14 o1 14) (fun d15 => z_put d15 o0 15 (d15 o1 15) (fun d16 => z_put d16 o0 16 (d16 o1 16) (fun d17 => z_put d17 o0 17 (d17 o1 17) (fun d18 => z_put d18 o0 18 (d18 o1 18) (fun d19 => z_putz d19 o0 19 (d19 o1 19) (fun d20 => (some d20)))))))))))))))))))))
set_option maxHeartbeats 4000000 in
set_option maxRecDepth 100000 in
theorem c_X4_copyFrom {E : z_E} {l : Launch} {S : z_S} (d : z_D) (o0 : Nat) (h0 : A_Stage S o0) (o1 : Nat) (h1 : A_Stage S o1) : z_Sp E l yX4_copyFrom Y_X4_copyFrom (cvV S) [.ref (E.2.1 + o0), .ref (E.2.1 + o1)] (S, d) (f_X4_copyFrom d o0 o1) := by
  refine z_entry (lv := [(0, .ref (E.2.1 + o0)), (1, .ref (E.2.1 + o1))]) (by decide) rfl rfl (Nat.le_of_ble_eq_true rfl) rfl ?_
  unfold f_X4_copyFrom
  refine r_aload_n 0 0 rfl rfl 1 rfl dX4_copyFrom_0 ?_
  refine r_get (h0 0 (Nat.le_of_ble_eq_true rfl)) rfl (Nat.le_of_ble_eq_true rfl) rfl rfl w_X4_copyFrom_1 0 (Nat.le_of_ble_eq_true rfl) rfl w_X4_copyFrom_0 (.ref (E.2.1 + (o0 + 1))) rfl 4 rfl dX4_copyFrom_1 ?_
  refine r_aload_n 1 1 rfl rfl 5 rfl dX4_copyFrom_4 ?_
  refine r_get (h1 0 (Nat.le_of_ble_eq_true rfl)) rfl (Nat.le_of_ble_eq_true rfl) rfl rfl w_X4_copyFrom_1 0 (Nat.le_of_ble_eq_true rfl) rfl w_X4_copyFrom_0 (.ref (E.2.1 + (o1 + 1))) rfl 8 rfl dX4_copyFrom_5 ?_
  refine r_callVN_V (c_X1_copyFrom (E := E) (l := l) (S := S) d (o0 + 1) (A_Stage.course h0) (o1 + 1) (A_Stage.course h1)) ok_X1_copyFrom ⟨⟨(Nat.le_of_ble_eq_true rfl), (Nat.le_of_ble_eq_true rfl)⟩, (Nat.le_of_ble_eq_true rfl), (Nat.le_of_ble_eq_true rfl)⟩ ((A_Stage.course h0) 0 (Nat.le_of_ble_eq_true rfl)) (Nat.le_of_ble_eq_true rfl) rfl rfl rfl (Nat.le_of_ble_eq_true rfl) 9 rfl gX4_copyFrom_X1_copyFrom_n72 w_X4_copyFrom_2 w_X4_copyFrom_3 w_X4_copyFrom_4 rfl rfl 11 rfl dX4_copyFrom_8 (fun d1 => ?_)
  refine r_aload_n 0 0 rfl rfl 12 rfl dX4_copyFrom_11 ?_
  refine r_get (h0 0 (Nat.le_of_ble_eq_true rfl)) rfl (Nat.le_of_ble_eq_true rfl) rfl rfl w_X4_copyFrom_1 1 (Nat.le_of_ble_eq_true rfl) rfl w_X4_copyFrom_5 (.ref (E.2.1 + (o0 + 6))) rfl 15 rfl dX4_copyFrom_12 ?_
  refine r_aload_n 1 1 rfl rfl 16 rfl dX4_copyFrom_15 ?_
  refine r_get (h1 0 (Nat.le_of_ble_eq_true rfl)) rfl (Nat.le_of_ble_eq_true rfl) rfl rfl w_X4_copyFrom_1 1 (Nat.le_of_ble_eq_true rfl) rfl w_X4_copyFrom_5 (.ref (E.2.1 + (o1 + 6))) rfl 19 rfl dX4_copyFrom_16 ?_
  refine r_callVN_V (c_X2_copyFrom (E := E) (l := l) (S := S) d1 (o0 + 6) (A_Stage.prizes h0) (o1 + 6) (A_Stage.prizes h1)) ok_X2_copyFrom ⟨⟨(Nat.le_of_ble_eq_true rfl), (Nat.le_of_ble_eq_true rfl)⟩, (Nat.le_of_ble_eq_true rfl), (Nat.le_of_ble_eq_true rfl)⟩ ((A_Stage.prizes h0) 0 (Nat.le_of_ble_eq_true rfl)) (Nat.le_of_ble_eq_true rfl) rfl rfl rfl (Nat.le_of_ble_eq_true rfl) 10 rfl gX4_copyFrom_X2_copyFrom_n76 w_X4_copyFrom_6 w_X4_copyFrom_7 w_X4_copyFrom_8 rfl rfl 22 rfl dX4_copyFrom_19 (fun d2 => ?_)
  refine r_aload_n 1 1 rfl rfl 23 rfl dX4_copyFrom_22 ?_
  refine r_get (h1 0 (Nat.le_of_ble_eq_true rfl)) rfl (Nat.le_of_ble_eq_true rfl) rfl rfl w_X4_copyFrom_1 2 (Nat.le_of_ble_eq_true rfl) rfl w_X4_copyFrom_9 (.ref (E.2.1 + (o1 + 10))) rfl 26 rfl dX4_copyFrom_23 ?_
  refine r_iconst 0 rfl 27 rfl dX4_copyFrom_26 ?_
  refine r_aload_n 0 0 rfl rfl 28 rfl dX4_copyFrom_27 ?_
  refine r_get (h0 0 (Nat.le_of_ble_eq_true rfl)) rfl (Nat.le_of_ble_eq_true rfl) rfl rfl w_X4_copyFrom_1 2 (Nat.le_of_ble_eq_true rfl) rfl w_X4_copyFrom_9 (.ref (E.2.1 + (o0 + 10))) rfl 31 rfl dX4_copyFrom_28 ?_
  refine r_iconst 0 rfl 32 rfl dX4_copyFrom_31 ?_
  refine r_bipush 16 rfl 34 rfl dX4_copyFrom_32 ?_
  refine r_cpy w_X4_copyFrom_10 w_X4_copyFrom_11 w_X4_copyFrom_12 w_X4_copyFrom_13 (h1 10 (Nat.le_of_ble_eq_true rfl)) (h0 10 (Nat.le_of_ble_eq_true rfl)) rfl rfl (by decide) rfl (Nat.le_of_ble_eq_true rfl) (Nat.le_of_ble_eq_true rfl) (Nat.le_of_ble_eq_true rfl) (Nat.le_of_ble_eq_true rfl) 37 rfl dX4_copyFrom_34 (fun d3 => ?_)
  refine r_aload_n 1 1 rfl rfl 38 rfl dX4_copyFrom_37 ?_
  refine r_get (h1 0 (Nat.le_of_ble_eq_true rfl)) rfl (Nat.le_of_ble_eq_true rfl) rfl rfl w_X4_copyFrom_1 3 (Nat.le_of_ble_eq_true rfl) rfl w_X4_copyFrom_14 (.ref (E.2.1 + (o1 + 11))) rfl 41 rfl dX4_copyFrom_38 ?_
  refine r_iconst 0 rfl 42 rfl dX4_copyFrom_41 ?_
  refine r_aload_n 0 0 rfl rfl 43 rfl dX4_copyFrom_42 ?_
  refine r_get (h0 0 (Nat.le_of_ble_eq_true rfl)) rfl (Nat.le_of_ble_eq_true rfl) rfl rfl w_X4_copyFrom_1 3 (Nat.le_of_ble_eq_true rfl) rfl w_X4_copyFrom_14 (.ref (E.2.1 + (o0 + 11))) rfl 46 rfl dX4_copyFrom_43 ?_
  refine r_iconst 0 rfl 47 rfl dX4_copyFrom_46 ?_
  refine r_bipush 16 rfl 49 rfl dX4_copyFrom_47 ?_
  refine r_cpy w_X4_copyFrom_10 w_X4_copyFrom_11 w_X4_copyFrom_12 w_X4_copyFrom_13 (h1 11 (Nat.le_of_ble_eq_true rfl)) (h0 11 (Nat.le_of_ble_eq_true rfl)) rfl rfl (by decide) rfl (Nat.le_of_ble_eq_true rfl) (Nat.le_of_ble_eq_true rfl) (Nat.le_of_ble_eq_true rfl) (Nat.le_of_ble_eq_true rfl) 52 rfl dX4_copyFrom_49 (fun d4 => ?_)
  refine r_aload_n 1 1 rfl rfl 53 rfl dX4_copyFrom_52 ?_
  refine r_get (h1 0 (Nat.le_of_ble_eq_true rfl)) rfl (Nat.le_of_ble_eq_true rfl) rfl rfl w_X4_copyFrom_1 4 (Nat.le_of_ble_eq_true rfl) rfl w_X4_copyFrom_15 (.ref (E.2.1 + (o1 + 12))) rfl 56 rfl dX4_copyFrom_53 ?_
  refine r_iconst 0 rfl 57 rfl dX4_copyFrom_56 ?_
  refine r_aload_n 0 0 rfl rfl 58 rfl dX4_copyFrom_57 ?_
  refine r_get (h0 0 (Nat.le_of_ble_eq_true rfl)) rfl (Nat.le_of_ble_eq_true rfl) rfl rfl w_X4_copyFrom_1 4 (Nat.le_of_ble_eq_true rfl) rfl w_X4_copyFrom_15 (.ref (E.2.1 + (o0 + 12))) rfl 61 rfl dX4_copyFrom_58 ?_
  refine r_iconst 0 rfl 62 rfl dX4_copyFrom_61 ?_
  refine r_bipush 16 rfl 64 rfl dX4_copyFrom_62 ?_
  refine r_cpy w_X4_copyFrom_10 w_X4_copyFrom_11 w_X4_copyFrom_12 w_X4_copyFrom_13 (h1 12 (Nat.le_of_ble_eq_true rfl)) (h0 12 (Nat.le_of_ble_eq_true rfl)) rfl rfl (by decide) rfl (Nat.le_of_ble_eq_true rfl) (Nat.le_of_ble_eq_true rfl) (Nat.le_of_ble_eq_true rfl) (Nat.le_of_ble_eq_true rfl) 67 rfl dX4_copyFrom_64 (fun d5 => ?_)
  refine r_aload_n 1 1 rfl rfl 68 rfl dX4_copyFrom_67 ?_
  refine r_get (h1 0 (Nat.le_of_ble_eq_true rfl)) rfl (Nat.le_of_ble_eq_true rfl) rfl rfl w_X4_copyFrom_1 5 (Nat.le_of_ble_eq_true rfl) rfl w_X4_copyFrom_16 (.ref (E.2.1 + (o1 + 13))) rfl 71 rfl dX4_copyFrom_68 ?_
  refine r_iconst 0 rfl 72 rfl dX4_copyFrom_71 ?_
  refine r_aload_n 0 0 rfl rfl 73 rfl dX4_copyFrom_72 ?_
  refine r_get (h0 0 (Nat.le_of_ble_eq_true rfl)) rfl (Nat.le_of_ble_eq_true rfl) rfl rfl w_X4_copyFrom_1 5 (Nat.le_of_ble_eq_true rfl) rfl w_X4_copyFrom_16 (.ref (E.2.1 + (o0 + 13))) rfl 76 rfl dX4_copyFrom_73 ?_
  refine r_iconst 0 rfl 77 rfl dX4_copyFrom_76 ?_
  refine r_bipush 16 rfl 79 rfl dX4_copyFrom_77 ?_
  refine r_cpy w_X4_copyFrom_10 w_X4_copyFrom_11 w_X4_copyFrom_12 w_X4_copyFrom_13 (h1 13 (Nat.le_of_ble_eq_true rfl)) (h0 13 (Nat.le_of_ble_eq_true rfl)) rfl rfl (by decide) rfl (Nat.le_of_ble_eq_true rfl) (Nat.le_of_ble_eq_true rfl) (Nat.le_of_ble_eq_true rfl) (Nat.le_of_ble_eq_true rfl) 82 rfl dX4_copyFrom_79 (fun d6 => ?_)
  refine r_aload_n 1 1 rfl rfl 83 rfl dX4_copyFrom_82 ?_
  refine r_get (h1 0 (Nat.le_of_ble_eq_true rfl)) rfl (Nat.le_of_ble_eq_true rfl) rfl rfl w_X4_copyFrom_1 6 (Nat.le_of_ble_eq_true rfl) rfl w_X4_copyFrom_17 (.ref (E.2.1 + (o1 + 14))) rfl 86 rfl dX4_copyFrom_83 ?_
  refine r_iconst 0 rfl 87 rfl dX4_copyFrom_86 ?_
  refine r_aload_n 0 0 rfl rfl 88 rfl dX4_copyFrom_87 ?_
  refine r_get (h0 0 (Nat.le_of_ble_eq_true rfl)) rfl (Nat.le_of_ble_eq_true rfl) rfl rfl w_X4_copyFrom_1 6 (Nat.le_of_ble_eq_true rfl) rfl w_X4_copyFrom_17 (.ref (E.2.1 + (o0 + 14))) rfl 91 rfl dX4_copyFrom_88 ?_
  refine r_iconst 0 rfl 92 rfl dX4_copyFrom_91 ?_
  refine r_bipush 16 rfl 94 rfl dX4_copyFrom_92 ?_
  refine r_cpyz w_X4_copyFrom_10 w_X4_copyFrom_11 w_X4_copyFrom_12 w_X4_copyFrom_13 (h1 14 (Nat.le_of_ble_eq_true rfl)) (h0 14 (Nat.le_of_ble_eq_true rfl)) rfl rfl (by decide) rfl (Nat.le_of_ble_eq_true rfl) (Nat.le_of_ble_eq_true rfl) (Nat.le_of_ble_eq_true rfl) (Nat.le_of_ble_eq_true rfl) 97 rfl dX4_copyFrom_94 (fun d7 => ?_)
  refine r_aload_n 0 0 rfl rfl 98 rfl dX4_copyFrom_97 ?_
  refine r_aload_n 1 1 rfl rfl 99 rfl dX4_copyFrom_98 ?_
  refine r_get (h1 0 (Nat.le_of_ble_eq_true rfl)) rfl (Nat.le_of_ble_eq_true rfl) rfl rfl w_X4_copyFrom_1 7 (Nat.le_of_ble_eq_true rfl) rfl w_X4_copyFrom_18 (.int (d7 o1 7)) rfl 102 rfl dX4_copyFrom_99 ?_
  refine r_put (h0 0 (Nat.le_of_ble_eq_true rfl)) rfl (Nat.le_of_ble_eq_true rfl) rfl rfl w_X4_copyFrom_1 tyX4 tyX4_ok nmX4 (Nat.le_of_ble_eq_true rfl) rfl w_X4_copyFrom_18 rfl rfl rfl rfl rfl 105 rfl dX4_copyFrom_102 (fun d8 => ?_)
  refine r_aload_n 1 1 rfl rfl 106 rfl dX4_copyFrom_105 ?_
  refine r_get (h1 0 (Nat.le_of_ble_eq_true rfl)) rfl (Nat.le_of_ble_eq_true rfl) rfl rfl w_X4_copyFrom_1 8 (Nat.le_of_ble_eq_true rfl) rfl w_X4_copyFrom_19 (.ref (E.2.1 + (o1 + 15))) rfl 109 rfl dX4_copyFrom_106 ?_
  refine r_iconst 0 rfl 110 rfl dX4_copyFrom_109 ?_
  refine r_aload_n 0 0 rfl rfl 111 rfl dX4_copyFrom_110 ?_
  refine r_get (h0 0 (Nat.le_of_ble_eq_true rfl)) rfl (Nat.le_of_ble_eq_true rfl) rfl rfl w_X4_copyFrom_1 8 (Nat.le_of_ble_eq_true rfl) rfl w_X4_copyFrom_19 (.ref (E.2.1 + (o0 + 15))) rfl 114 rfl dX4_copyFrom_111 ?_
  refine r_iconst 0 rfl 115 rfl dX4_copyFrom_114 ?_
  refine r_bipush 16 rfl 117 rfl dX4_copyFrom_115 ?_
  refine r_cpy w_X4_copyFrom_10 w_X4_copyFrom_11 w_X4_copyFrom_12 w_X4_copyFrom_13 (h1 15 (Nat.le_of_ble_eq_true rfl)) (h0 15 (Nat.le_of_ble_eq_true rfl)) rfl rfl (by decide) rfl (Nat.le_of_ble_eq_true rfl) (Nat.le_of_ble_eq_true rfl) (Nat.le_of_ble_eq_true rfl) (Nat.le_of_ble_eq_true rfl) 120 rfl dX4_copyFrom_117 (fun d9 => ?_)
  refine r_aload_n 1 1 rfl rfl 121 rfl dX4_copyFrom_120 ?_
  refine r_get (h1 0 (Nat.le_of_ble_eq_true rfl)) rfl (Nat.le_of_ble_eq_true rfl) rfl rfl w_X4_copyFrom_1 9 (Nat.le_of_ble_eq_true rfl) rfl w_X4_copyFrom_20 (.ref (E.2.1 + (o1 + 16))) rfl 124 rfl dX4_copyFrom_121 ?_
  refine r_iconst 0 rfl 125 rfl dX4_copyFrom_124 ?_
  refine r_aload_n 0 0 rfl rfl 126 rfl dX4_copyFrom_125 ?_
  refine r_get (h0 0 (Nat.le_of_ble_eq_true rfl)) rfl (Nat.le_of_ble_eq_true rfl) rfl rfl w_X4_copyFrom_1 9 (Nat.le_of_ble_eq_true rfl) rfl w_X4_copyFrom_20 (.ref (E.2.1 + (o0 + 16))) rfl 129 rfl dX4_copyFrom_126 ?_
  refine r_iconst 0 rfl 130 rfl dX4_copyFrom_129 ?_
  refine r_bipush 16 rfl 132 rfl dX4_copyFrom_130 ?_
  refine r_cpy w_X4_copyFrom_10 w_X4_copyFrom_11 w_X4_copyFrom_12 w_X4_copyFrom_13 (h1 16 (Nat.le_of_ble_eq_true rfl)) (h0 16 (Nat.le_of_ble_eq_true rfl)) rfl rfl (by decide) rfl (Nat.le_of_ble_eq_true rfl) (Nat.le_of_ble_eq_true rfl) (Nat.le_of_ble_eq_true rfl) (Nat.le_of_ble_eq_true rfl) 135 rfl dX4_copyFrom_132 (fun d10 => ?_)
  refine r_aload_n 1 1 rfl rfl 136 rfl dX4_copyFrom_135 ?_
  refine r_get (h1 0 (Nat.le_of_ble_eq_true rfl)) rfl (Nat.le_of_ble_eq_true rfl) rfl rfl w_X4_copyFrom_1 10 (Nat.le_of_ble_eq_true rfl) rfl w_X4_copyFrom_21 (.ref (E.2.1 + (o1 + 17))) rfl 139 rfl dX4_copyFrom_136 ?_
  refine r_iconst 0 rfl 140 rfl dX4_copyFrom_139 ?_
  refine r_aload_n 0 0 rfl rfl 141 rfl dX4_copyFrom_140 ?_
  refine r_get (h0 0 (Nat.le_of_ble_eq_true rfl)) rfl (Nat.le_of_ble_eq_true rfl) rfl rfl w_X4_copyFrom_1 10 (Nat.le_of_ble_eq_true rfl) rfl w_X4_copyFrom_21 (.ref (E.2.1 + (o0 + 17))) rfl 144 rfl dX4_copyFrom_141 ?_
  refine r_iconst 0 rfl 145 rfl dX4_copyFrom_144 ?_
  refine r_bipush 16 rfl 147 rfl dX4_copyFrom_145 ?_
  refine r_cpy w_X4_copyFrom_10 w_X4_copyFrom_11 w_X4_copyFrom_12 w_X4_copyFrom_13 (h1 17 (Nat.le_of_ble_eq_true rfl)) (h0 17 (Nat.le_of_ble_eq_true rfl)) rfl rfl (by decide) rfl (Nat.le_of_ble_eq_true rfl) (Nat.le_of_ble_eq_true rfl) (Nat.le_of_ble_eq_true rfl) (Nat.le_of_ble_eq_true rfl) 150 rfl dX4_copyFrom_147 (fun d11 => ?_)
  refine r_aload_n 1 1 rfl rfl 151 rfl dX4_copyFrom_150 ?_
  refine r_get (h1 0 (Nat.le_of_ble_eq_true rfl)) rfl (Nat.le_of_ble_eq_true rfl) rfl rfl w_X4_copyFrom_1 11 (Nat.le_of_ble_eq_true rfl) rfl w_X4_copyFrom_22 (.ref (E.2.1 + (o1 + 18))) rfl 154 rfl dX4_copyFrom_151 ?_
  refine r_iconst 0 rfl 155 rfl dX4_copyFrom_154 ?_
  refine r_aload_n 0 0 rfl rfl 156 rfl dX4_copyFrom_155 ?_
  refine r_get (h0 0 (Nat.le_of_ble_eq_true rfl)) rfl (Nat.le_of_ble_eq_true rfl) rfl rfl w_X4_copyFrom_1 11 (Nat.le_of_ble_eq_true rfl) rfl w_X4_copyFrom_22 (.ref (E.2.1 + (o0 + 18))) rfl 159 rfl dX4_copyFrom_156 ?_
  refine r_iconst 0 rfl 160 rfl dX4_copyFrom_159 ?_
  refine r_bipush 16 rfl 162 rfl dX4_copyFrom_160 ?_
  refine r_cpy w_X4_copyFrom_10 w_X4_copyFrom_11 w_X4_copyFrom_12 w_X4_copyFrom_13 (h1 18 (Nat.le_of_ble_eq_true rfl)) (h0 18 (Nat.le_of_ble_eq_true rfl)) rfl rfl (by decide) rfl (Nat.le_of_ble_eq_true rfl) (Nat.le_of_ble_eq_true rfl) (Nat.le_of_ble_eq_true rfl) (Nat.le_of_ble_eq_true rfl) 165 rfl dX4_copyFrom_162 (fun d12 => ?_)
  refine r_aload_n 1 1 rfl rfl 166 rfl dX4_copyFrom_165 ?_
  refine r_get (h1 0 (Nat.le_of_ble_eq_true rfl)) rfl (Nat.le_of_ble_eq_true rfl) rfl rfl w_X4_copyFrom_1 12 (Nat.le_of_ble_eq_true rfl) rfl w_X4_copyFrom_23 (.ref (E.2.1 + (o1 + 19))) rfl 169 rfl dX4_copyFrom_166 ?_
  refine r_iconst 0 rfl 170 rfl dX4_copyFrom_169 ?_
  refine r_aload_n 0 0 rfl rfl 171 rfl dX4_copyFrom_170 ?_
  refine r_get (h0 0 (Nat.le_of_ble_eq_true rfl)) rfl (Nat.le_of_ble_eq_true rfl) rfl rfl w_X4_copyFrom_1 12 (Nat.le_of_ble_eq_true rfl) rfl w_X4_copyFrom_23 (.ref (E.2.1 + (o0 + 19))) rfl 174 rfl dX4_copyFrom_171 ?_
  refine r_iconst 0 rfl 175 rfl dX4_copyFrom_174 ?_
  refine r_bipush 16 rfl 177 rfl dX4_copyFrom_175 ?_
  refine r_cpy w_X4_copyFrom_10 w_X4_copyFrom_11 w_X4_copyFrom_12 w_X4_copyFrom_13 (h1 19 (Nat.le_of_ble_eq_true rfl)) (h0 19 (Nat.le_of_ble_eq_true rfl)) rfl rfl (by decide) rfl (Nat.le_of_ble_eq_true rfl) (Nat.le_of_ble_eq_true rfl) (Nat.le_of_ble_eq_true rfl) (Nat.le_of_ble_eq_true rfl) 180 rfl dX4_copyFrom_177 (fun d13 => ?_)
  refine r_aload_n 1 1 rfl rfl 181 rfl dX4_copyFrom_180 ?_
  refine r_get (h1 0 (Nat.le_of_ble_eq_true rfl)) rfl (Nat.le_of_ble_eq_true rfl) rfl rfl w_X4_copyFrom_1 13 (Nat.le_of_ble_eq_true rfl) rfl w_X4_copyFrom_24 (.ref (E.2.1 + (o1 + 20))) rfl 184 rfl dX4_copyFrom_181 ?_
  refine r_iconst 0 rfl 185 rfl dX4_copyFrom_184 ?_
  refine r_aload_n 0 0 rfl rfl 186 rfl dX4_copyFrom_185 ?_
  refine r_get (h0 0 (Nat.le_of_ble_eq_true rfl)) rfl (Nat.le_of_ble_eq_true rfl) rfl rfl w_X4_copyFrom_1 13 (Nat.le_of_ble_eq_true rfl) rfl w_X4_copyFrom_24 (.ref (E.2.1 + (o0 + 20))) rfl 189 rfl dX4_copyFrom_186 ?_
  refine r_iconst 0 rfl 190 rfl dX4_copyFrom_189 ?_
  refine r_bipush 16 rfl 192 rfl dX4_copyFrom_190 ?_
  refine r_cpyz w_X4_copyFrom_10 w_X4_copyFrom_11 w_X4_copyFrom_12 w_X4_copyFrom_13 (h1 20 (Nat.le_of_ble_eq_true rfl)) (h0 20 (Nat.le_of_ble_eq_true rfl)) rfl rfl (by decide) rfl (Nat.le_of_ble_eq_true rfl) (Nat.le_of_ble_eq_true rfl) (Nat.le_of_ble_eq_true rfl) (Nat.le_of_ble_eq_true rfl) 195 rfl dX4_copyFrom_192 (fun d14 => ?_)
  refine r_aload_n 0 0 rfl rfl 196 rfl dX4_copyFrom_195 ?_
  refine r_aload_n 1 1 rfl rfl 197 rfl dX4_copyFrom_196 ?_
  refine r_get (h1 0 (Nat.le_of_ble_eq_true rfl)) rfl (Nat.le_of_ble_eq_true rfl) rfl rfl w_X4_copyFrom_1 14 (Nat.le_of_ble_eq_true rfl) rfl w_X4_copyFrom_25 (.int (d14 o1 14)) rfl 200 rfl dX4_copyFrom_197 ?_
  refine r_put (h0 0 (Nat.le_of_ble_eq_true rfl)) rfl (Nat.le_of_ble_eq_true rfl) rfl rfl w_X4_copyFrom_1 tyX4 tyX4_ok nmX4 (Nat.le_of_ble_eq_true rfl) rfl w_X4_copyFrom_25 rfl rfl rfl rfl rfl 203 rfl dX4_copyFrom_200 (fun d15 => ?_)
  refine r_aload_n 0 0 rfl rfl 204 rfl dX4_copyFrom_203 ?_
  refine r_aload_n 1 1 rfl rfl 205 rfl dX4_copyFrom_204 ?_
  refine r_get (h1 0 (Nat.le_of_ble_eq_true rfl)) rfl (Nat.le_of_ble_eq_true rfl) rfl rfl w_X4_copyFrom_1 15 (Nat.le_of_ble_eq_true rfl) rfl w_X4_copyFrom_26 (.int (d15 o1 15)) rfl 208 rfl dX4_copyFrom_205 ?_
  refine r_put (h0 0 (Nat.le_of_ble_eq_true rfl)) rfl (Nat.le_of_ble_eq_true rfl) rfl rfl w_X4_copyFrom_1 tyX4 tyX4_ok nmX4 (Nat.le_of_ble_eq_true rfl) rfl w_X4_copyFrom_26 rfl rfl rfl rfl rfl 211 rfl dX4_copyFrom_208 (fun d16 => ?_)
  refine r_aload_n 0 0 rfl rfl 212 rfl dX4_copyFrom_211 ?_
  refine r_aload_n 1 1 rfl rfl 213 rfl dX4_copyFrom_212 ?_
  refine r_get (h1 0 (Nat.le_of_ble_eq_true rfl)) rfl (Nat.le_of_ble_eq_true rfl) rfl rfl w_X4_copyFrom_1 16 (Nat.le_of_ble_eq_true rfl) rfl w_X4_copyFrom_27 (.int (d16 o1 16)) rfl 216 rfl dX4_copyFrom_213 ?_
  refine r_put (h0 0 (Nat.le_of_ble_eq_true rfl)) rfl (Nat.le_of_ble_eq_true rfl) rfl rfl w_X4_copyFrom_1 tyX4 tyX4_ok nmX4 (Nat.le_of_ble_eq_true rfl) rfl w_X4_copyFrom_27 rfl rfl rfl rfl rfl 219 rfl dX4_copyFrom_216 (fun d17 => ?_)
  refine r_aload_n 0 0 rfl rfl 220 rfl dX4_copyFrom_219 ?_
  refine r_aload_n 1 1 rfl rfl 221 rfl dX4_copyFrom_220 ?_
  refine r_get (h1 0 (Nat.le_of_ble_eq_true rfl)) rfl (Nat.le_of_ble_eq_true rfl) rfl rfl w_X4_copyFrom_1 17 (Nat.le_of_ble_eq_true rfl) rfl w_X4_copyFrom_28 (.int (d17 o1 17)) rfl 224 rfl dX4_copyFrom_221 ?_
  refine r_put (h0 0 (Nat.le_of_ble_eq_true rfl)) rfl (Nat.le_of_ble_eq_true rfl) rfl rfl w_X4_copyFrom_1 tyX4 tyX4_ok nmX4 (Nat.le_of_ble_eq_true rfl) rfl w_X4_copyFrom_28 rfl rfl rfl rfl rfl 227 rfl dX4_copyFrom_224 (fun d18 => ?_)
  refine r_aload_n 0 0 rfl rfl 228 rfl dX4_copyFrom_227 ?_
  refine r_aload_n 1 1 rfl rfl 229 rfl dX4_copyFrom_228 ?_
  refine r_get (h1 0 (Nat.le_of_ble_eq_true rfl)) rfl (Nat.le_of_ble_eq_true rfl) rfl rfl w_X4_copyFrom_1 18 (Nat.le_of_ble_eq_true rfl) rfl w_X4_copyFrom_29 (.int (d18 o1 18)) rfl 232 rfl dX4_copyFrom_229 ?_
  refine r_put (h0 0 (Nat.le_of_ble_eq_true rfl)) rfl (Nat.le_of_ble_eq_true rfl) rfl rfl w_X4_copyFrom_1 tyX4 tyX4_ok nmX4 (Nat.le_of_ble_eq_true rfl) rfl w_X4_copyFrom_29 rfl rfl rfl rfl rfl 235 rfl dX4_copyFrom_232 (fun d19 => ?_)
  refine r_aload_n 0 0 rfl rfl 236 rfl dX4_copyFrom_235 ?_
  refine r_aload_n 1 1 rfl rfl 237 rfl dX4_copyFrom_236 ?_
  refine r_get (h1 0 (Nat.le_of_ble_eq_true rfl)) rfl (Nat.le_of_ble_eq_true rfl) rfl rfl w_X4_copyFrom_1 19 (Nat.le_of_ble_eq_true rfl) rfl w_X4_copyFrom_30 (.int (d19 o1 19)) rfl 240 rfl dX4_copyFrom_237 ?_
  refine r_putz (h0 0 (Nat.le_of_ble_eq_true rfl)) rfl (Nat.le_of_ble_eq_true rfl) rfl rfl w_X4_copyFrom_1 tyX4 tyX4_ok nmX4 (Nat.le_of_ble_eq_true rfl) rfl w_X4_copyFrom_30 rfl rfl rfl 243 rfl dX4_copyFrom_240 (fun d20 => ?_)
  exact r_return rfl rfl (Nat.le_of_ble_eq_true rfl) (Nat.le_of_ble_eq_true rfl) dX4_copyFrom_243
def Y_X4_addFinish : z_Y := (RX4, cX4_addFinish, 3, wsX4_addFinish, (some .boolean), { frames := 1, cells := 0, slots := 0, locals := 22 }, 0, 0)
theorem ok_X4_addFinish : z_Ok yX4_addFinish Y_X4_addFinish 2 := ⟨⟨_, rfl⟩, rfl, rfl, rfl, by decide +kernel, by decide +kernel⟩
theorem w_X4_addFinish_0 : Cond.fieldLink RX4 25 "BunchTimes$Stage" "finish" "[I" ∈ wsX4_addFinish := by decide +kernel
theorem w_X4_addFinish_1 : ∀ w ∈ u_ws RX4 TX4 20, w ∈ wsX4_addFinish := by decide +kernel
theorem w_X4_addFinish_2 : Cond.constant RX4 104 999999 ∈ wsX4_addFinish := by decide +kernel
theorem w_X4_addFinish_3 : Cond.initialized RX8 ∈ wsX4_addFinish := by decide +kernel
theorem w_X4_addFinish_4 : Cond.static yX8_within ∈ wsX4_addFinish := by decide +kernel
theorem w_X4_addFinish_5 : Cond.fieldLink RX4 68 "BunchTimes$Stage" "finishers" "I" ∈ wsX4_addFinish := by decide +kernel
def f_X4_addFinish (d : z_D) (o0 : Nat) (x1 : Int32) (x2 : Int32) : Option (Int32 × z_D) := z_ald d (o0 + 10) 16 x1 (fun v1 => (if v1 = 0 then ((f_X8_within x2 1 999999).bind fun v2 => (if v2 = 0 then (some (0, d)) else z_ast d (o0 + 10) 16 x1 x2 (fun d3 => z_put d3 o0 7 ((d3 o0 7) + 1) (fun d4 => (some (1, d4)))))) else (some (0, d))))
set_option maxHeartbeats 4000000 in
set_option maxRecDepth 100000 in
theorem c_X4_addFinish {E : z_E} {l : Launch} {S : z_S} (d : z_D) (o0 : Nat) (h0 : A_Stage S o0) (x1 : Int32) (x2 : Int32) : z_Sp E l yX4_addFinish Y_X4_addFinish (cvX S) [.ref (E.2.1 + o0), .int x1, .int x2] (S, d) (f_X4_addFinish d o0 x1 x2) := by
  refine z_entry (lv := [(0, .ref (E.2.1 + o0)), (1, .int x1), (2, .int x2)]) (by decide) rfl rfl (Nat.le_of_ble_eq_true rfl) rfl ?_
  unfold f_X4_addFinish
  refine r_aload_n 0 0 rfl rfl 1 rfl dX4_addFinish_0 ?_
  refine r_get (h0 0 (Nat.le_of_ble_eq_true rfl)) rfl (Nat.le_of_ble_eq_true rfl) rfl rfl w_X4_addFinish_1 2 (Nat.le_of_ble_eq_true rfl) rfl w_X4_addFinish_0 (.ref (E.2.1 + (o0 + 10))) rfl 4 rfl dX4_addFinish_1 ?_
  refine r_iload_n 1 1 rfl rfl 5 rfl dX4_addFinish_4 ?_
  refine r_iald (h0 10 (Nat.le_of_ble_eq_true rfl)) rfl rfl 6 rfl dX4_addFinish_5 (fun v1 => ?_)
  refine r_if_ne 19 9 rfl rfl dX4_addFinish_6 ?_ ?_
  · refine r_iconst 0 rfl 20 rfl dX4_addFinish_19 ?_
    exact r_zreturnc (by decide) rfl rfl (Nat.le_of_ble_eq_true rfl) (Nat.le_of_ble_eq_true rfl) dX4_addFinish_20
  · refine r_iload_n 2 2 rfl rfl 10 rfl dX4_addFinish_9 ?_
    refine r_iconst 1 rfl 11 rfl dX4_addFinish_10 ?_
    refine r_ldc (v := 999999) w_X4_addFinish_2 13 rfl dX4_addFinish_11 ?_
    refine r_callSN_I (c_X8_within (E := E) (l := l) (S := S) d x2 1 999999) ok_X8_within ⟨⟨(Nat.le_of_ble_eq_true rfl), (Nat.le_of_ble_eq_true rfl)⟩, (Nat.le_of_ble_eq_true rfl), (Nat.le_of_ble_eq_true rfl)⟩ rfl (Nat.le_of_ble_eq_true rfl) 31 rfl gX4_addFinish_X8_within_n105 w_X4_addFinish_3 w_X4_addFinish_4 rfl rfl 16 rfl dX4_addFinish_13 (fun v2 => ?_)
    refine r_if_ne 21 19 rfl rfl dX4_addFinish_16 ?_ ?_
    · refine r_aload_n 0 0 rfl rfl 22 rfl dX4_addFinish_21 ?_
      refine r_get (h0 0 (Nat.le_of_ble_eq_true rfl)) rfl (Nat.le_of_ble_eq_true rfl) rfl rfl w_X4_addFinish_1 2 (Nat.le_of_ble_eq_true rfl) rfl w_X4_addFinish_0 (.ref (E.2.1 + (o0 + 10))) rfl 25 rfl dX4_addFinish_22 ?_
      refine r_iload_n 1 1 rfl rfl 26 rfl dX4_addFinish_25 ?_
      refine r_iload_n 2 2 rfl rfl 27 rfl dX4_addFinish_26 ?_
      refine r_iast (h0 10 (Nat.le_of_ble_eq_true rfl)) rfl rfl 28 rfl dX4_addFinish_27 (fun d3 => ?_)
      refine r_aload_n 0 0 rfl rfl 29 rfl dX4_addFinish_28 ?_
      refine r_dup rfl 30 rfl dX4_addFinish_29 ?_
      refine r_get (h0 0 (Nat.le_of_ble_eq_true rfl)) rfl (Nat.le_of_ble_eq_true rfl) rfl rfl w_X4_addFinish_1 7 (Nat.le_of_ble_eq_true rfl) rfl w_X4_addFinish_5 (.int (d3 o0 7)) rfl 33 rfl dX4_addFinish_30 ?_
      refine r_iconst 1 rfl 34 rfl dX4_addFinish_33 ?_
      refine r_iadd 35 rfl dX4_addFinish_34 ?_
      refine r_put (h0 0 (Nat.le_of_ble_eq_true rfl)) rfl (Nat.le_of_ble_eq_true rfl) rfl rfl w_X4_addFinish_1 tyX4 tyX4_ok nmX4 (Nat.le_of_ble_eq_true rfl) rfl w_X4_addFinish_5 rfl rfl rfl rfl rfl 38 rfl dX4_addFinish_35 (fun d4 => ?_)
      refine r_iconst 1 rfl 39 rfl dX4_addFinish_38 ?_
      exact r_zreturnc (by decide) rfl rfl (Nat.le_of_ble_eq_true rfl) (Nat.le_of_ble_eq_true rfl) dX4_addFinish_39
    · refine r_iconst 0 rfl 20 rfl dX4_addFinish_19 ?_
      exact r_zreturnc (by decide) rfl rfl (Nat.le_of_ble_eq_true rfl) (Nat.le_of_ble_eq_true rfl) dX4_addFinish_20
def Y_X4_addFall : z_Y := (RX4, cX4_addFall, 4, wsX4_addFall, (some .boolean), { frames := 1, cells := 0, slots := 0, locals := 22 }, 0, 0)
theorem ok_X4_addFall : z_Ok yX4_addFall Y_X4_addFall 3 := ⟨⟨_, rfl⟩, rfl, rfl, rfl, by decide +kernel, by decide +kernel⟩
theorem w_X4_addFall_0 : Cond.fieldLink RX4 29 "BunchTimes$Stage" "fallKm" "[I" ∈ wsX4_addFall := by decide +kernel
theorem w_X4_addFall_1 : ∀ w ∈ u_ws RX4 TX4 20, w ∈ wsX4_addFall := by decide +kernel
theorem w_X4_addFall_2 : Cond.fieldLink RX4 12 "BunchTimes$Stage" "course" "LBunchTimes$Course;" ∈ wsX4_addFall := by decide +kernel
theorem w_X4_addFall_3 : ∀ w ∈ u_ws RX1 TX1 7, w ∈ wsX4_addFall := by decide +kernel
theorem w_X4_addFall_4 : Cond.initialized RX8 ∈ wsX4_addFall := by decide +kernel
theorem w_X4_addFall_5 : Cond.static yX8_within ∈ wsX4_addFall := by decide +kernel
theorem w_X4_addFall_6 : Cond.fieldLink RX4 32 "BunchTimes$Stage" "fallWith" "[I" ∈ wsX4_addFall := by decide +kernel
def f_X4_addFall (d : z_D) (o0 : Nat) (x1 : Int32) (x2 : Int32) (x3 : Int32) : Option (Int32 × z_D) := z_ald d (o0 + 11) 16 x1 (fun v1 => (if v1 = (-1) then ((f_X8_within x2 0 (d (o0 + 1) 1)).bind fun v2 => (if v2 = 0 then (some (0, d)) else z_ast d (o0 + 11) 16 x1 x2 (fun d3 => z_ast d3 (o0 + 12) 16 x1 x3 (fun d4 => (some (1, d4)))))) else (some (0, d))))
set_option maxHeartbeats 4000000 in
set_option maxRecDepth 100000 in
theorem c_X4_addFall {E : z_E} {l : Launch} {S : z_S} (d : z_D) (o0 : Nat) (h0 : A_Stage S o0) (x1 : Int32) (x2 : Int32) (x3 : Int32) : z_Sp E l yX4_addFall Y_X4_addFall (cvX S) [.ref (E.2.1 + o0), .int x1, .int x2, .int x3] (S, d) (f_X4_addFall d o0 x1 x2 x3) := by
  refine z_entry (lv := [(0, .ref (E.2.1 + o0)), (1, .int x1), (2, .int x2), (3, .int x3)]) (by decide) rfl rfl (Nat.le_of_ble_eq_true rfl) rfl ?_
  unfold f_X4_addFall
  refine r_aload_n 0 0 rfl rfl 1 rfl dX4_addFall_0 ?_
  refine r_get (h0 0 (Nat.le_of_ble_eq_true rfl)) rfl (Nat.le_of_ble_eq_true rfl) rfl rfl w_X4_addFall_1 3 (Nat.le_of_ble_eq_true rfl) rfl w_X4_addFall_0 (.ref (E.2.1 + (o0 + 11))) rfl 4 rfl dX4_addFall_1 ?_
  refine r_iload_n 1 1 rfl rfl 5 rfl dX4_addFall_4 ?_
  refine r_iald (h0 11 (Nat.le_of_ble_eq_true rfl)) rfl rfl 6 rfl dX4_addFall_5 (fun v1 => ?_)
  refine r_iconst (-1) rfl 7 rfl dX4_addFall_6 ?_
  refine r_icmp_ne 25 10 rfl rfl dX4_addFall_7 ?_ ?_
  · refine r_iconst 0 rfl 26 rfl dX4_addFall_25 ?_
    exact r_zreturnc (by decide) rfl rfl (Nat.le_of_ble_eq_true rfl) (Nat.le_of_ble_eq_true rfl) dX4_addFall_26
  · refine r_iload_n 2 2 rfl rfl 11 rfl dX4_addFall_10 ?_
    refine r_iconst 0 rfl 12 rfl dX4_addFall_11 ?_
    refine r_aload_n 0 0 rfl rfl 13 rfl dX4_addFall_12 ?_
    refine r_get (h0 0 (Nat.le_of_ble_eq_true rfl)) rfl (Nat.le_of_ble_eq_true rfl) rfl rfl w_X4_addFall_1 0 (Nat.le_of_ble_eq_true rfl) rfl w_X4_addFall_2 (.ref (E.2.1 + (o0 + 1))) rfl 16 rfl dX4_addFall_13 ?_
    refine r_getN 1 2 rfl ((A_Stage.course h0) 0 (Nat.le_of_ble_eq_true rfl)) rfl (Nat.le_of_ble_eq_true rfl) rfl rfl w_X4_addFall_3 (Nat.le_of_ble_eq_true rfl) rfl (.int (d (o0 + 1) 1)) rfl 19 rfl dX4_addFall_16 ?_
    refine r_callSN_I (c_X8_within (E := E) (l := l) (S := S) d x2 0 (d (o0 + 1) 1)) ok_X8_within ⟨⟨(Nat.le_of_ble_eq_true rfl), (Nat.le_of_ble_eq_true rfl)⟩, (Nat.le_of_ble_eq_true rfl), (Nat.le_of_ble_eq_true rfl)⟩ rfl (Nat.le_of_ble_eq_true rfl) 31 rfl gX4_addFall_X8_within_n105 w_X4_addFall_4 w_X4_addFall_5 rfl rfl 22 rfl dX4_addFall_19 (fun v2 => ?_)
    refine r_if_ne 27 25 rfl rfl dX4_addFall_22 ?_ ?_
    · refine r_aload_n 0 0 rfl rfl 28 rfl dX4_addFall_27 ?_
      refine r_get (h0 0 (Nat.le_of_ble_eq_true rfl)) rfl (Nat.le_of_ble_eq_true rfl) rfl rfl w_X4_addFall_1 3 (Nat.le_of_ble_eq_true rfl) rfl w_X4_addFall_0 (.ref (E.2.1 + (o0 + 11))) rfl 31 rfl dX4_addFall_28 ?_
      refine r_iload_n 1 1 rfl rfl 32 rfl dX4_addFall_31 ?_
      refine r_iload_n 2 2 rfl rfl 33 rfl dX4_addFall_32 ?_
      refine r_iast (h0 11 (Nat.le_of_ble_eq_true rfl)) rfl rfl 34 rfl dX4_addFall_33 (fun d3 => ?_)
      refine r_aload_n 0 0 rfl rfl 35 rfl dX4_addFall_34 ?_
      refine r_get (h0 0 (Nat.le_of_ble_eq_true rfl)) rfl (Nat.le_of_ble_eq_true rfl) rfl rfl w_X4_addFall_1 4 (Nat.le_of_ble_eq_true rfl) rfl w_X4_addFall_6 (.ref (E.2.1 + (o0 + 12))) rfl 38 rfl dX4_addFall_35 ?_
      refine r_iload_n 1 1 rfl rfl 39 rfl dX4_addFall_38 ?_
      refine r_iload_n 3 3 rfl rfl 40 rfl dX4_addFall_39 ?_
      refine r_iast (h0 12 (Nat.le_of_ble_eq_true rfl)) rfl rfl 41 rfl dX4_addFall_40 (fun d4 => ?_)
      refine r_iconst 1 rfl 42 rfl dX4_addFall_41 ?_
      exact r_zreturnc (by decide) rfl rfl (Nat.le_of_ble_eq_true rfl) (Nat.le_of_ble_eq_true rfl) dX4_addFall_42
    · refine r_iconst 0 rfl 26 rfl dX4_addFall_25 ?_
      exact r_zreturnc (by decide) rfl rfl (Nat.le_of_ble_eq_true rfl) (Nat.le_of_ble_eq_true rfl) dX4_addFall_26
def Y_X4_addJury : z_Y := (RX4, cX4_addJury, 3, wsX4_addJury, (some .int), { frames := 1, cells := 0, slots := 0, locals := 22 }, 0, 0)
theorem ok_X4_addJury : z_Ok yX4_addJury Y_X4_addJury 2 := ⟨⟨_, rfl⟩, rfl, rfl, rfl, by decide +kernel, by decide +kernel⟩
theorem w_X4_addJury_0 : Cond.initialized RX8 ∈ wsX4_addJury := by decide +kernel
theorem w_X4_addJury_1 : Cond.static yX8_within ∈ wsX4_addJury := by decide +kernel
theorem w_X4_addJury_2 : Cond.fieldLink RX4 35 "BunchTimes$Stage" "juried" "[I" ∈ wsX4_addJury := by decide +kernel
theorem w_X4_addJury_3 : ∀ w ∈ u_ws RX4 TX4 20, w ∈ wsX4_addJury := by decide +kernel
theorem w_X4_addJury_4 : Cond.constant RX4 112 99999 ∈ wsX4_addJury := by decide +kernel
def f_X4_addJury (d : z_D) (o0 : Nat) (x1 : Int32) (x2 : Int32) : Option (Int32 × z_D) := ((f_X8_within x2 1 3600).bind fun v1 => (if v1 = 0 then (some ((-1), d)) else z_ald d (o0 + 13) 16 x1 (fun v2 => (if (v2 + x2) ≤ 99999 then z_ald d (o0 + 13) 16 x1 (fun v3 => z_ast d (o0 + 13) 16 x1 (v3 + x2) (fun d4 => z_ald d4 (o0 + 13) 16 x1 (fun v5 => (some (v5, d4))))) else (some ((-1), d))))))
set_option maxHeartbeats 4000000 in
set_option maxRecDepth 100000 in
theorem c_X4_addJury {E : z_E} {l : Launch} {S : z_S} (d : z_D) (o0 : Nat) (h0 : A_Stage S o0) (x1 : Int32) (x2 : Int32) : z_Sp E l yX4_addJury Y_X4_addJury (cvX S) [.ref (E.2.1 + o0), .int x1, .int x2] (S, d) (f_X4_addJury d o0 x1 x2) := by
  refine z_entry (lv := [(0, .ref (E.2.1 + o0)), (1, .int x1), (2, .int x2)]) (by decide) rfl rfl (Nat.le_of_ble_eq_true rfl) rfl ?_
  unfold f_X4_addJury
  refine r_iload_n 2 2 rfl rfl 1 rfl dX4_addJury_0 ?_
  refine r_iconst 1 rfl 2 rfl dX4_addJury_1 ?_
  refine r_sipush 3600 rfl 5 rfl dX4_addJury_2 ?_
  refine r_callSN_I (c_X8_within (E := E) (l := l) (S := S) d x2 1 3600) ok_X8_within ⟨⟨(Nat.le_of_ble_eq_true rfl), (Nat.le_of_ble_eq_true rfl)⟩, (Nat.le_of_ble_eq_true rfl), (Nat.le_of_ble_eq_true rfl)⟩ rfl (Nat.le_of_ble_eq_true rfl) 31 rfl gX4_addJury_X8_within_n105 w_X4_addJury_0 w_X4_addJury_1 rfl rfl 8 rfl dX4_addJury_5 (fun v1 => ?_)
  refine r_if_eq 24 11 rfl rfl dX4_addJury_8 ?_ ?_
  · refine r_iconst (-1) rfl 25 rfl dX4_addJury_24 ?_
    exact r_ireturn rfl rfl (Nat.le_of_ble_eq_true rfl) (Nat.le_of_ble_eq_true rfl) dX4_addJury_25
  · refine r_aload_n 0 0 rfl rfl 12 rfl dX4_addJury_11 ?_
    refine r_get (h0 0 (Nat.le_of_ble_eq_true rfl)) rfl (Nat.le_of_ble_eq_true rfl) rfl rfl w_X4_addJury_3 5 (Nat.le_of_ble_eq_true rfl) rfl w_X4_addJury_2 (.ref (E.2.1 + (o0 + 13))) rfl 15 rfl dX4_addJury_12 ?_
    refine r_iload_n 1 1 rfl rfl 16 rfl dX4_addJury_15 ?_
    refine r_iald (h0 13 (Nat.le_of_ble_eq_true rfl)) rfl rfl 17 rfl dX4_addJury_16 (fun v2 => ?_)
    refine r_iload_n 2 2 rfl rfl 18 rfl dX4_addJury_17 ?_
    refine r_iadd 19 rfl dX4_addJury_18 ?_
    refine r_ldc (v := 99999) w_X4_addJury_4 21 rfl dX4_addJury_19 ?_
    refine r_icmp_le 26 24 rfl rfl dX4_addJury_21 ?_ ?_
    · refine r_aload_n 0 0 rfl rfl 27 rfl dX4_addJury_26 ?_
      refine r_get (h0 0 (Nat.le_of_ble_eq_true rfl)) rfl (Nat.le_of_ble_eq_true rfl) rfl rfl w_X4_addJury_3 5 (Nat.le_of_ble_eq_true rfl) rfl w_X4_addJury_2 (.ref (E.2.1 + (o0 + 13))) rfl 30 rfl dX4_addJury_27 ?_
      refine r_iload_n 1 1 rfl rfl 31 rfl dX4_addJury_30 ?_
      refine r_dup2 rfl rfl 32 rfl dX4_addJury_31 ?_
      refine r_iald (h0 13 (Nat.le_of_ble_eq_true rfl)) rfl rfl 33 rfl dX4_addJury_32 (fun v3 => ?_)
      refine r_iload_n 2 2 rfl rfl 34 rfl dX4_addJury_33 ?_
      refine r_iadd 35 rfl dX4_addJury_34 ?_
      refine r_iast (h0 13 (Nat.le_of_ble_eq_true rfl)) rfl rfl 36 rfl dX4_addJury_35 (fun d4 => ?_)
      refine r_aload_n 0 0 rfl rfl 37 rfl dX4_addJury_36 ?_
      refine r_get (h0 0 (Nat.le_of_ble_eq_true rfl)) rfl (Nat.le_of_ble_eq_true rfl) rfl rfl w_X4_addJury_3 5 (Nat.le_of_ble_eq_true rfl) rfl w_X4_addJury_2 (.ref (E.2.1 + (o0 + 13))) rfl 40 rfl dX4_addJury_37 ?_
      refine r_iload_n 1 1 rfl rfl 41 rfl dX4_addJury_40 ?_
      refine r_iald (h0 13 (Nat.le_of_ble_eq_true rfl)) rfl rfl 42 rfl dX4_addJury_41 (fun v5 => ?_)
      exact r_ireturn rfl rfl (Nat.le_of_ble_eq_true rfl) (Nat.le_of_ble_eq_true rfl) dX4_addJury_42
    · refine r_iconst (-1) rfl 25 rfl dX4_addJury_24 ?_
      exact r_ireturn rfl rfl (Nat.le_of_ble_eq_true rfl) (Nat.le_of_ble_eq_true rfl) dX4_addJury_25
def Y_X4_addGrace : z_Y := (RX4, cX4_addGrace, 2, wsX4_addGrace, (some .boolean), { frames := 0, cells := 0, slots := 0, locals := 0 }, 0, 0)
theorem ok_X4_addGrace : z_Ok yX4_addGrace Y_X4_addGrace 1 := ⟨⟨_, rfl⟩, rfl, rfl, rfl, by decide +kernel, by decide +kernel⟩
theorem w_X4_addGrace_0 : Cond.fieldLink RX4 38 "BunchTimes$Stage" "graced" "[Z" ∈ wsX4_addGrace := by decide +kernel
theorem w_X4_addGrace_1 : ∀ w ∈ u_ws RX4 TX4 20, w ∈ wsX4_addGrace := by decide +kernel
def f_X4_addGrace (d : z_D) (o0 : Nat) (x1 : Int32) : Option (Int32 × z_D) := z_ald d (o0 + 14) 16 x1 (fun v1 => (if v1 = 0 then z_ast d (o0 + 14) 16 x1 (1 &&& 1) (fun d2 => (some (1, d2))) else (some (0, d))))
set_option maxHeartbeats 4000000 in
set_option maxRecDepth 100000 in
theorem c_X4_addGrace {E : z_E} {l : Launch} {S : z_S} (d : z_D) (o0 : Nat) (h0 : A_Stage S o0) (x1 : Int32) : z_Sp E l yX4_addGrace Y_X4_addGrace (cvX S) [.ref (E.2.1 + o0), .int x1] (S, d) (f_X4_addGrace d o0 x1) := by
  refine z_entry (lv := [(0, .ref (E.2.1 + o0)), (1, .int x1)]) (by decide) rfl rfl (Nat.le_of_ble_eq_true rfl) rfl ?_
  unfold f_X4_addGrace
  refine r_aload_n 0 0 rfl rfl 1 rfl dX4_addGrace_0 ?_
  refine r_get (h0 0 (Nat.le_of_ble_eq_true rfl)) rfl (Nat.le_of_ble_eq_true rfl) rfl rfl w_X4_addGrace_1 6 (Nat.le_of_ble_eq_true rfl) rfl w_X4_addGrace_0 (.ref (E.2.1 + (o0 + 14))) rfl 4 rfl dX4_addGrace_1 ?_
  refine r_iload_n 1 1 rfl rfl 5 rfl dX4_addGrace_4 ?_
  refine r_zald (h0 14 (Nat.le_of_ble_eq_true rfl)) rfl rfl 6 rfl dX4_addGrace_5 (fun v1 => ?_)
  refine r_if_eq 11 9 rfl rfl dX4_addGrace_6 ?_ ?_
  · refine r_aload_n 0 0 rfl rfl 12 rfl dX4_addGrace_11 ?_
    refine r_get (h0 0 (Nat.le_of_ble_eq_true rfl)) rfl (Nat.le_of_ble_eq_true rfl) rfl rfl w_X4_addGrace_1 6 (Nat.le_of_ble_eq_true rfl) rfl w_X4_addGrace_0 (.ref (E.2.1 + (o0 + 14))) rfl 15 rfl dX4_addGrace_12 ?_
    refine r_iload_n 1 1 rfl rfl 16 rfl dX4_addGrace_15 ?_
    refine r_iconst 1 rfl 17 rfl dX4_addGrace_16 ?_
    refine r_zast (h0 14 (Nat.le_of_ble_eq_true rfl)) rfl rfl 18 rfl dX4_addGrace_17 (fun d2 => ?_)
    refine r_iconst 1 rfl 19 rfl dX4_addGrace_18 ?_
    exact r_zreturnc (by decide) rfl rfl (Nat.le_of_ble_eq_true rfl) (Nat.le_of_ble_eq_true rfl) dX4_addGrace_19
  · refine r_iconst 0 rfl 10 rfl dX4_addGrace_9 ?_
    exact r_zreturnc (by decide) rfl rfl (Nat.le_of_ble_eq_true rfl) (Nat.le_of_ble_eq_true rfl) dX4_addGrace_10
def Y_X4_rank : z_Y := (RX4, cX4_rank, 4, wsX4_rank, none, { frames := 0, cells := 0, slots := 0, locals := 0 }, 0, 0)
theorem ok_X4_rank : z_Ok yX4_rank Y_X4_rank 0 := ⟨⟨_, rfl⟩, rfl, rfl, rfl, by decide +kernel, by decide +kernel⟩
theorem w_X4_rank_0 : Cond.fieldLink RX4 25 "BunchTimes$Stage" "finish" "[I" ∈ wsX4_rank := by decide +kernel
theorem w_X4_rank_1 : ∀ w ∈ u_ws RX4 TX4 20, w ∈ wsX4_rank := by decide +kernel
theorem w_X4_rank_2 : Cond.fieldLink RX4 42 "BunchTimes$Stage" "order" "[I" ∈ wsX4_rank := by decide +kernel
theorem w_X4_rank_3 : Cond.fieldLink RX4 45 "BunchTimes$Stage" "place" "[I" ∈ wsX4_rank := by decide +kernel
def f_X4_rank_L24_b (o0 : Nat) (x1 : Int32) (x2 : Int32) (K : Int32 → z_D → Option z_D) (R : Int32 → z_D → Option z_D) (x3 : Int32) (d : z_D) : Option z_D := (if x3 ≤ 0 then (K x3 d) else z_ald d (o0 + 15) 16 (x3 - 1) (fun v2 => z_ald d (o0 + 10) 16 v2 (fun v3 => z_ald d (o0 + 10) 16 x2 (fun v4 => (if v3 ≤ v4 then (K x3 d) else z_ald d (o0 + 15) 16 (x3 - 1) (fun v5 => z_ast d (o0 + 15) 16 x3 v5 (fun d6 => (R (x3 + (-1)) d6))))))))
def f_X4_rank_L24 (o0 : Nat) (x1 : Int32) (x2 : Int32) (K : Int32 → z_D → Option z_D) : Nat → Int32 → z_D → Option z_D
  | 0 => fun _ _ => none
  | n + 1 => f_X4_rank_L24_b o0 x1 x2 K (f_X4_rank_L24 o0 x1 x2 K n)
set_option maxHeartbeats 4000000 in
set_option maxRecDepth 100000 in
theorem g_X4_rank_L24 {E : z_E} {l : Launch} {S : z_S} {o0 : Nat} {x1 : Int32} {x2 : Int32} {K : Int32 → z_D → Option z_D} (h0 : A_Stage S o0) (hK : ∀ (y3 : Int32) (d9 : z_D), z_G E l Y_X4_rank (cvV S) (K y3 d9) 70 [(0, .ref (E.2.1 + o0)), (1, .int x1), (2, .int x2), (3, .int y3)] [] (S, d9) 0 0) : ∀ (n : Nat) (x3 : Int32) (d : z_D), z_G E l Y_X4_rank (cvV S) (f_X4_rank_L24 o0 x1 x2 K n x3 d) 24 [(0, .ref (E.2.1 + o0)), (1, .int x1), (2, .int x2), (3, .int x3)] [] (S, d) 0 0 := by
  intro n
  induction n with
  | zero => intro _ _; exact r_none
  | succ n ih =>
    intro x3 d
    show z_G E l Y_X4_rank (cvV S) (f_X4_rank_L24_b o0 x1 x2 K (f_X4_rank_L24 o0 x1 x2 K n) x3 d) 24 [(0, .ref (E.2.1 + o0)), (1, .int x1), (2, .int x2), (3, .int x3)] [] (S, d) 0 0
    unfold f_X4_rank_L24_b
    refine r_iload_n 3 3 rfl rfl 25 rfl dX4_rank_24 ?_
    refine r_if_le 70 28 rfl rfl dX4_rank_25 ?_ ?_
    · refine r_sub [0, 1, 2, 3] rfl ?_
      exact hK x3 d
    · refine r_aload_n 0 0 rfl rfl 29 rfl dX4_rank_28 ?_
      refine r_get (h0 0 (Nat.le_of_ble_eq_true rfl)) rfl (Nat.le_of_ble_eq_true rfl) rfl rfl w_X4_rank_1 2 (Nat.le_of_ble_eq_true rfl) rfl w_X4_rank_0 (.ref (E.2.1 + (o0 + 10))) rfl 32 rfl dX4_rank_29 ?_
      refine r_aload_n 0 0 rfl rfl 33 rfl dX4_rank_32 ?_
      refine r_get (h0 0 (Nat.le_of_ble_eq_true rfl)) rfl (Nat.le_of_ble_eq_true rfl) rfl rfl w_X4_rank_1 8 (Nat.le_of_ble_eq_true rfl) rfl w_X4_rank_2 (.ref (E.2.1 + (o0 + 15))) rfl 36 rfl dX4_rank_33 ?_
      refine r_iload_n 3 3 rfl rfl 37 rfl dX4_rank_36 ?_
      refine r_iconst 1 rfl 38 rfl dX4_rank_37 ?_
      refine r_isub 39 rfl dX4_rank_38 ?_
      refine r_iald (h0 15 (Nat.le_of_ble_eq_true rfl)) rfl rfl 40 rfl dX4_rank_39 (fun v2 => ?_)
      refine r_iald (h0 10 (Nat.le_of_ble_eq_true rfl)) rfl rfl 41 rfl dX4_rank_40 (fun v3 => ?_)
      refine r_aload_n 0 0 rfl rfl 42 rfl dX4_rank_41 ?_
      refine r_get (h0 0 (Nat.le_of_ble_eq_true rfl)) rfl (Nat.le_of_ble_eq_true rfl) rfl rfl w_X4_rank_1 2 (Nat.le_of_ble_eq_true rfl) rfl w_X4_rank_0 (.ref (E.2.1 + (o0 + 10))) rfl 45 rfl dX4_rank_42 ?_
      refine r_iload_n 2 2 rfl rfl 46 rfl dX4_rank_45 ?_
      refine r_iald (h0 10 (Nat.le_of_ble_eq_true rfl)) rfl rfl 47 rfl dX4_rank_46 (fun v4 => ?_)
      refine r_icmp_le 70 50 rfl rfl dX4_rank_47 ?_ ?_
      · refine r_sub [0, 1, 2, 3] rfl ?_
        exact hK x3 d
      · refine r_aload_n 0 0 rfl rfl 51 rfl dX4_rank_50 ?_
        refine r_get (h0 0 (Nat.le_of_ble_eq_true rfl)) rfl (Nat.le_of_ble_eq_true rfl) rfl rfl w_X4_rank_1 8 (Nat.le_of_ble_eq_true rfl) rfl w_X4_rank_2 (.ref (E.2.1 + (o0 + 15))) rfl 54 rfl dX4_rank_51 ?_
        refine r_iload_n 3 3 rfl rfl 55 rfl dX4_rank_54 ?_
        refine r_aload_n 0 0 rfl rfl 56 rfl dX4_rank_55 ?_
        refine r_get (h0 0 (Nat.le_of_ble_eq_true rfl)) rfl (Nat.le_of_ble_eq_true rfl) rfl rfl w_X4_rank_1 8 (Nat.le_of_ble_eq_true rfl) rfl w_X4_rank_2 (.ref (E.2.1 + (o0 + 15))) rfl 59 rfl dX4_rank_56 ?_
        refine r_iload_n 3 3 rfl rfl 60 rfl dX4_rank_59 ?_
        refine r_iconst 1 rfl 61 rfl dX4_rank_60 ?_
        refine r_isub 62 rfl dX4_rank_61 ?_
        refine r_iald (h0 15 (Nat.le_of_ble_eq_true rfl)) rfl rfl 63 rfl dX4_rank_62 (fun v5 => ?_)
        refine r_iast (h0 15 (Nat.le_of_ble_eq_true rfl)) rfl rfl 64 rfl dX4_rank_63 (fun d6 => ?_)
        refine r_iinc (x3 + (-1)) 3 rfl (congrArg (fun y => x3 + y) (by decide)) [(3, .int (x3 + (-1))), (0, .ref (E.2.1 + o0)), (1, .int x1), (2, .int x2)] (Nat.le_of_ble_eq_true rfl) rfl 67 rfl dX4_rank_64 ?_
        refine r_goto 24 rfl dX4_rank_67 ?_
        refine r_sub [1, 2, 3, 0] rfl ?_
        exact ih (x3 + (-1)) d6
def f_X4_rank_L4_b (o0 : Nat) (K : Int32 → z_D → Option z_D) (R : Int32 → Int32 → z_D → Option z_D) (x1 : Int32) (x2 : Int32) (d : z_D) : Option z_D := (if 16 ≤ x2 then (K x1 d) else z_ald d (o0 + 10) 16 x2 (fun v1 => (if v1 = 0 then (R x1 (x2 + 1) d) else (f_X4_rank_L24 o0 x1 x2 (fun v8 d7 => z_ast d7 (o0 + 15) 16 v8 x2 (fun d9 => (R (x1 + 1) (x2 + 1) d9))) z_N x1 d))))
def f_X4_rank_L4 (o0 : Nat) (K : Int32 → z_D → Option z_D) : Nat → Int32 → Int32 → z_D → Option z_D
  | 0 => fun _ _ _ => none
  | n + 1 => f_X4_rank_L4_b o0 K (f_X4_rank_L4 o0 K n)
set_option maxHeartbeats 4000000 in
set_option maxRecDepth 100000 in
theorem g_X4_rank_L4 {E : z_E} {l : Launch} {S : z_S} {o0 : Nat} {K : Int32 → z_D → Option z_D} (h0 : A_Stage S o0) (hK : ∀ (y1 : Int32) (d9 : z_D), z_G E l Y_X4_rank (cvV S) (K y1 d9) 86 [(0, .ref (E.2.1 + o0)), (1, .int y1)] [] (S, d9) 0 0) : ∀ (n : Nat) (x1 : Int32) (x2 : Int32) (d : z_D), z_G E l Y_X4_rank (cvV S) (f_X4_rank_L4 o0 K n x1 x2 d) 4 [(0, .ref (E.2.1 + o0)), (1, .int x1), (2, .int x2)] [] (S, d) 0 0 := by
  intro n
  induction n with
  | zero => intro _ _ _; exact r_none
  | succ n ih =>
    intro x1 x2 d
    show z_G E l Y_X4_rank (cvV S) (f_X4_rank_L4_b o0 K (f_X4_rank_L4 o0 K n) x1 x2 d) 4 [(0, .ref (E.2.1 + o0)), (1, .int x1), (2, .int x2)] [] (S, d) 0 0
    unfold f_X4_rank_L4_b
    refine r_iload_n 2 2 rfl rfl 5 rfl dX4_rank_4 ?_
    refine r_bipush 16 rfl 7 rfl dX4_rank_5 ?_
    refine r_icmp_ge 86 10 rfl rfl dX4_rank_7 ?_ ?_
    · refine r_sub [0, 1] rfl ?_
      exact hK x1 d
    · refine r_aload_n 0 0 rfl rfl 11 rfl dX4_rank_10 ?_
      refine r_get (h0 0 (Nat.le_of_ble_eq_true rfl)) rfl (Nat.le_of_ble_eq_true rfl) rfl rfl w_X4_rank_1 2 (Nat.le_of_ble_eq_true rfl) rfl w_X4_rank_0 (.ref (E.2.1 + (o0 + 10))) rfl 14 rfl dX4_rank_11 ?_
      refine r_iload_n 2 2 rfl rfl 15 rfl dX4_rank_14 ?_
      refine r_iald (h0 10 (Nat.le_of_ble_eq_true rfl)) rfl rfl 16 rfl dX4_rank_15 (fun v1 => ?_)
      refine r_if_ne 22 19 rfl rfl dX4_rank_16 ?_ ?_
      · refine r_iload_n 1 1 rfl rfl 23 rfl dX4_rank_22 ?_
        refine r_istore_n 3 rfl [(3, .int x1), (0, .ref (E.2.1 + o0)), (1, .int x1), (2, .int x2)] (Nat.le_of_ble_eq_true rfl) rfl 24 rfl dX4_rank_23 ?_
        refine r_sub [1, 2, 3, 0] rfl ?_
        refine g_X4_rank_L24 h0 (fun v8 d7 => ?_) z_N x1 d
        refine r_aload_n 0 0 rfl rfl 71 rfl dX4_rank_70 ?_
        refine r_get (h0 0 (Nat.le_of_ble_eq_true rfl)) rfl (Nat.le_of_ble_eq_true rfl) rfl rfl w_X4_rank_1 8 (Nat.le_of_ble_eq_true rfl) rfl w_X4_rank_2 (.ref (E.2.1 + (o0 + 15))) rfl 74 rfl dX4_rank_71 ?_
        refine r_iload_n 3 3 rfl rfl 75 rfl dX4_rank_74 ?_
        refine r_iload_n 2 2 rfl rfl 76 rfl dX4_rank_75 ?_
        refine r_iast (h0 15 (Nat.le_of_ble_eq_true rfl)) rfl rfl 77 rfl dX4_rank_76 (fun d9 => ?_)
        refine r_iinc (x1 + 1) 1 rfl rfl [(1, .int (x1 + 1)), (0, .ref (E.2.1 + o0)), (2, .int x2), (3, .int v8)] (Nat.le_of_ble_eq_true rfl) rfl 80 rfl dX4_rank_77 ?_
        refine r_iinc (x2 + 1) 2 rfl rfl [(2, .int (x2 + 1)), (1, .int (x1 + 1)), (0, .ref (E.2.1 + o0)), (3, .int v8)] (Nat.le_of_ble_eq_true rfl) rfl 83 rfl dX4_rank_80 ?_
        refine r_goto 4 rfl dX4_rank_83 ?_
        refine r_sub [2, 1, 0] rfl ?_
        exact ih (x1 + 1) (x2 + 1) d9
      · refine r_goto 80 rfl dX4_rank_19 ?_
        refine r_iinc (x2 + 1) 2 rfl rfl [(2, .int (x2 + 1)), (0, .ref (E.2.1 + o0)), (1, .int x1)] (Nat.le_of_ble_eq_true rfl) rfl 83 rfl dX4_rank_80 ?_
        refine r_goto 4 rfl dX4_rank_83 ?_
        refine r_sub [1, 2, 0] rfl ?_
        exact ih x1 (x2 + 1) d
def f_X4_rank_L88_b (o0 : Nat) (x1 : Int32) (K : z_D → Option z_D) (R : Int32 → z_D → Option z_D) (x2 : Int32) (d : z_D) : Option z_D := (if x1 ≤ x2 then (K d) else z_ald d (o0 + 15) 16 x2 (fun v12 => z_ast d (o0 + 16) 16 v12 (x2 + 1) (fun d13 => (R (x2 + 1) d13))))
def f_X4_rank_L88 (o0 : Nat) (x1 : Int32) (K : z_D → Option z_D) : Nat → Int32 → z_D → Option z_D
  | 0 => fun _ _ => none
  | n + 1 => f_X4_rank_L88_b o0 x1 K (f_X4_rank_L88 o0 x1 K n)
set_option maxHeartbeats 4000000 in
set_option maxRecDepth 100000 in
theorem g_X4_rank_L88 {E : z_E} {l : Launch} {S : z_S} {o0 : Nat} {x1 : Int32} {K : z_D → Option z_D} (h0 : A_Stage S o0) (hK : ∀ (d9 : z_D), z_G E l Y_X4_rank (cvV S) (K d9) 113 [] [] (S, d9) 0 0) : ∀ (n : Nat) (x2 : Int32) (d : z_D), z_G E l Y_X4_rank (cvV S) (f_X4_rank_L88 o0 x1 K n x2 d) 88 [(0, .ref (E.2.1 + o0)), (1, .int x1), (2, .int x2)] [] (S, d) 0 0 := by
  intro n
  induction n with
  | zero => intro _ _; exact r_none
  | succ n ih =>
    intro x2 d
    show z_G E l Y_X4_rank (cvV S) (f_X4_rank_L88_b o0 x1 K (f_X4_rank_L88 o0 x1 K n) x2 d) 88 [(0, .ref (E.2.1 + o0)), (1, .int x1), (2, .int x2)] [] (S, d) 0 0
    unfold f_X4_rank_L88_b
    refine r_iload_n 2 2 rfl rfl 89 rfl dX4_rank_88 ?_
    refine r_iload_n 1 1 rfl rfl 90 rfl dX4_rank_89 ?_
    refine r_icmp_ge 113 93 rfl rfl dX4_rank_90 ?_ ?_
    · refine r_sub [] rfl ?_
      exact hK d
    · refine r_aload_n 0 0 rfl rfl 94 rfl dX4_rank_93 ?_
      refine r_get (h0 0 (Nat.le_of_ble_eq_true rfl)) rfl (Nat.le_of_ble_eq_true rfl) rfl rfl w_X4_rank_1 9 (Nat.le_of_ble_eq_true rfl) rfl w_X4_rank_3 (.ref (E.2.1 + (o0 + 16))) rfl 97 rfl dX4_rank_94 ?_
      refine r_aload_n 0 0 rfl rfl 98 rfl dX4_rank_97 ?_
      refine r_get (h0 0 (Nat.le_of_ble_eq_true rfl)) rfl (Nat.le_of_ble_eq_true rfl) rfl rfl w_X4_rank_1 8 (Nat.le_of_ble_eq_true rfl) rfl w_X4_rank_2 (.ref (E.2.1 + (o0 + 15))) rfl 101 rfl dX4_rank_98 ?_
      refine r_iload_n 2 2 rfl rfl 102 rfl dX4_rank_101 ?_
      refine r_iald (h0 15 (Nat.le_of_ble_eq_true rfl)) rfl rfl 103 rfl dX4_rank_102 (fun v12 => ?_)
      refine r_iload_n 2 2 rfl rfl 104 rfl dX4_rank_103 ?_
      refine r_iconst 1 rfl 105 rfl dX4_rank_104 ?_
      refine r_iadd 106 rfl dX4_rank_105 ?_
      refine r_iast (h0 16 (Nat.le_of_ble_eq_true rfl)) rfl rfl 107 rfl dX4_rank_106 (fun d13 => ?_)
      refine r_iinc (x2 + 1) 2 rfl rfl [(2, .int (x2 + 1)), (0, .ref (E.2.1 + o0)), (1, .int x1)] (Nat.le_of_ble_eq_true rfl) rfl 110 rfl dX4_rank_107 ?_
      refine r_goto 88 rfl dX4_rank_110 ?_
      refine r_sub [1, 2, 0] rfl ?_
      exact ih (x2 + 1) d13
def f_X4_rank (d : z_D) (o0 : Nat) : Option z_D := (f_X4_rank_L4 o0 (fun v11 d10 => (f_X4_rank_L88 o0 v11 (fun d14 => (some d14)) z_N 0 d10)) z_N 0 0 d)
set_option maxHeartbeats 4000000 in
set_option maxRecDepth 100000 in
theorem c_X4_rank {E : z_E} {l : Launch} {S : z_S} (d : z_D) (o0 : Nat) (h0 : A_Stage S o0) : z_Sp E l yX4_rank Y_X4_rank (cvV S) [.ref (E.2.1 + o0)] (S, d) (f_X4_rank d o0) := by
  refine z_entry (lv := [(0, .ref (E.2.1 + o0))]) (by decide) rfl rfl (Nat.le_of_ble_eq_true rfl) rfl ?_
  unfold f_X4_rank
  refine r_iconst 0 rfl 1 rfl dX4_rank_0 ?_
  refine r_istore_n 1 rfl [(1, .int 0), (0, .ref (E.2.1 + o0))] (Nat.le_of_ble_eq_true rfl) rfl 2 rfl dX4_rank_1 ?_
  refine r_iconst 0 rfl 3 rfl dX4_rank_2 ?_
  refine r_istore_n 2 rfl [(2, .int 0), (1, .int 0), (0, .ref (E.2.1 + o0))] (Nat.le_of_ble_eq_true rfl) rfl 4 rfl dX4_rank_3 ?_
  refine r_sub [2, 1, 0] rfl ?_
  refine g_X4_rank_L4 h0 (fun v11 d10 => ?_) z_N 0 0 d
  refine r_iconst 0 rfl 87 rfl dX4_rank_86 ?_
  refine r_istore_n 2 rfl [(2, .int 0), (0, .ref (E.2.1 + o0)), (1, .int v11)] (Nat.le_of_ble_eq_true rfl) rfl 88 rfl dX4_rank_87 ?_
  refine r_sub [1, 2, 0] rfl ?_
  refine g_X4_rank_L88 h0 (fun d14 => ?_) z_N 0 d10
  exact r_return rfl rfl (Nat.le_of_ble_eq_true rfl) (Nat.le_of_ble_eq_true rfl) dX4_rank_113
def Y_X4_space : z_Y := (RX4, cX4_space, 2, wsX4_space, (some .int), { frames := 0, cells := 0, slots := 0, locals := 0 }, 0, 0)
theorem ok_X4_space : z_Ok yX4_space Y_X4_space 1 := ⟨⟨_, rfl⟩, rfl, rfl, rfl, by decide +kernel, by decide +kernel⟩
theorem w_X4_space_0 : Cond.fieldLink RX4 25 "BunchTimes$Stage" "finish" "[I" ∈ wsX4_space := by decide +kernel
theorem w_X4_space_1 : ∀ w ∈ u_ws RX4 TX4 20, w ∈ wsX4_space := by decide +kernel
theorem w_X4_space_2 : Cond.fieldLink RX4 42 "BunchTimes$Stage" "order" "[I" ∈ wsX4_space := by decide +kernel
def f_X4_space (d : z_D) (o0 : Nat) (x1 : Int32) : Option Int32 := z_ald d (o0 + 15) 16 x1 (fun v1 => z_ald d (o0 + 10) 16 v1 (fun v2 => z_ald d (o0 + 15) 16 (x1 - 1) (fun v3 => z_ald d (o0 + 10) 16 v3 (fun v4 => (some (v2 - v4))))))
set_option maxHeartbeats 4000000 in
set_option maxRecDepth 100000 in
theorem c_X4_space {E : z_E} {l : Launch} {S : z_S} (d : z_D) (o0 : Nat) (h0 : A_Stage S o0) (x1 : Int32) : z_Sp E l yX4_space Y_X4_space (cvI S d) [.ref (E.2.1 + o0), .int x1] (S, d) (f_X4_space d o0 x1) := by
  refine z_entry (lv := [(0, .ref (E.2.1 + o0)), (1, .int x1)]) (by decide) rfl rfl (Nat.le_of_ble_eq_true rfl) rfl ?_
  unfold f_X4_space
  refine r_aload_n 0 0 rfl rfl 1 rfl dX4_space_0 ?_
  refine r_get (h0 0 (Nat.le_of_ble_eq_true rfl)) rfl (Nat.le_of_ble_eq_true rfl) rfl rfl w_X4_space_1 2 (Nat.le_of_ble_eq_true rfl) rfl w_X4_space_0 (.ref (E.2.1 + (o0 + 10))) rfl 4 rfl dX4_space_1 ?_
  refine r_aload_n 0 0 rfl rfl 5 rfl dX4_space_4 ?_
  refine r_get (h0 0 (Nat.le_of_ble_eq_true rfl)) rfl (Nat.le_of_ble_eq_true rfl) rfl rfl w_X4_space_1 8 (Nat.le_of_ble_eq_true rfl) rfl w_X4_space_2 (.ref (E.2.1 + (o0 + 15))) rfl 8 rfl dX4_space_5 ?_
  refine r_iload_n 1 1 rfl rfl 9 rfl dX4_space_8 ?_
  refine r_iald (h0 15 (Nat.le_of_ble_eq_true rfl)) rfl rfl 10 rfl dX4_space_9 (fun v1 => ?_)
  refine r_iald (h0 10 (Nat.le_of_ble_eq_true rfl)) rfl rfl 11 rfl dX4_space_10 (fun v2 => ?_)
  refine r_aload_n 0 0 rfl rfl 12 rfl dX4_space_11 ?_
  refine r_get (h0 0 (Nat.le_of_ble_eq_true rfl)) rfl (Nat.le_of_ble_eq_true rfl) rfl rfl w_X4_space_1 2 (Nat.le_of_ble_eq_true rfl) rfl w_X4_space_0 (.ref (E.2.1 + (o0 + 10))) rfl 15 rfl dX4_space_12 ?_
  refine r_aload_n 0 0 rfl rfl 16 rfl dX4_space_15 ?_
  refine r_get (h0 0 (Nat.le_of_ble_eq_true rfl)) rfl (Nat.le_of_ble_eq_true rfl) rfl rfl w_X4_space_1 8 (Nat.le_of_ble_eq_true rfl) rfl w_X4_space_2 (.ref (E.2.1 + (o0 + 15))) rfl 19 rfl dX4_space_16 ?_
  refine r_iload_n 1 1 rfl rfl 20 rfl dX4_space_19 ?_
  refine r_iconst 1 rfl 21 rfl dX4_space_20 ?_
  refine r_isub 22 rfl dX4_space_21 ?_
  refine r_iald (h0 15 (Nat.le_of_ble_eq_true rfl)) rfl rfl 23 rfl dX4_space_22 (fun v3 => ?_)
  refine r_iald (h0 10 (Nat.le_of_ble_eq_true rfl)) rfl rfl 24 rfl dX4_space_23 (fun v4 => ?_)
  refine r_isub 25 rfl dX4_space_24 ?_
  exact r_ireturn rfl rfl (Nat.le_of_ble_eq_true rfl) (Nat.le_of_ble_eq_true rfl) dX4_space_25
def Y_X4_beginsBunch : z_Y := (RX4, cX4_beginsBunch, 3, wsX4_beginsBunch, (some .boolean), { frames := 1, cells := 0, slots := 0, locals := 21 }, 0, 0)
theorem ok_X4_beginsBunch : z_Ok yX4_beginsBunch Y_X4_beginsBunch 2 := ⟨⟨_, rfl⟩, rfl, rfl, rfl, by decide +kernel, by decide +kernel⟩
theorem w_X4_beginsBunch_0 : Cond.fieldLink RX4 12 "BunchTimes$Stage" "course" "LBunchTimes$Course;" ∈ wsX4_beginsBunch := by decide +kernel
theorem w_X4_beginsBunch_1 : ∀ w ∈ u_ws RX4 TX4 20, w ∈ wsX4_beginsBunch := by decide +kernel
theorem w_X4_beginsBunch_2 : ∀ w ∈ u_ws RX1 TX1 7, w ∈ wsX4_beginsBunch := by decide +kernel
def f_X4_beginsBunch (d : z_D) (o0 : Nat) (x1 : Int32) (x2 : Int32) : Option Int32 := (if x1 = 0 then (some 1) else (if (d (o0 + 1) 0) = 3 then (some 1) else ((f_X4_space d o0 x1).bind fun v1 => (if v1 < x2 then (some 0) else (some 1)))))
set_option maxHeartbeats 4000000 in
set_option maxRecDepth 100000 in
theorem c_X4_beginsBunch {E : z_E} {l : Launch} {S : z_S} (d : z_D) (o0 : Nat) (h0 : A_Stage S o0) (x1 : Int32) (x2 : Int32) : z_Sp E l yX4_beginsBunch Y_X4_beginsBunch (cvI S d) [.ref (E.2.1 + o0), .int x1, .int x2] (S, d) (f_X4_beginsBunch d o0 x1 x2) := by
  refine z_entry (lv := [(0, .ref (E.2.1 + o0)), (1, .int x1), (2, .int x2)]) (by decide) rfl rfl (Nat.le_of_ble_eq_true rfl) rfl ?_
  unfold f_X4_beginsBunch
  refine r_iload_n 1 1 rfl rfl 1 rfl dX4_beginsBunch_0 ?_
  refine r_if_eq 24 4 rfl rfl dX4_beginsBunch_1 ?_ ?_
  · refine r_iconst 1 rfl 25 rfl dX4_beginsBunch_24 ?_
    refine r_goto 29 rfl dX4_beginsBunch_25 ?_
    exact r_zreturnc (by decide) rfl rfl (Nat.le_of_ble_eq_true rfl) (Nat.le_of_ble_eq_true rfl) dX4_beginsBunch_29
  · refine r_aload_n 0 0 rfl rfl 5 rfl dX4_beginsBunch_4 ?_
    refine r_get (h0 0 (Nat.le_of_ble_eq_true rfl)) rfl (Nat.le_of_ble_eq_true rfl) rfl rfl w_X4_beginsBunch_1 0 (Nat.le_of_ble_eq_true rfl) rfl w_X4_beginsBunch_0 (.ref (E.2.1 + (o0 + 1))) rfl 8 rfl dX4_beginsBunch_5 ?_
    refine r_getN 0 1 rfl ((A_Stage.course h0) 0 (Nat.le_of_ble_eq_true rfl)) rfl (Nat.le_of_ble_eq_true rfl) rfl rfl w_X4_beginsBunch_2 (Nat.le_of_ble_eq_true rfl) rfl (.int (d (o0 + 1) 0)) rfl 11 rfl dX4_beginsBunch_8 ?_
    refine r_iconst 3 rfl 12 rfl dX4_beginsBunch_11 ?_
    refine r_icmp_eq 24 15 rfl rfl dX4_beginsBunch_12 ?_ ?_
    · refine r_iconst 1 rfl 25 rfl dX4_beginsBunch_24 ?_
      refine r_goto 29 rfl dX4_beginsBunch_25 ?_
      exact r_zreturnc (by decide) rfl rfl (Nat.le_of_ble_eq_true rfl) (Nat.le_of_ble_eq_true rfl) dX4_beginsBunch_29
    · refine r_aload_n 0 0 rfl rfl 16 rfl dX4_beginsBunch_15 ?_
      refine r_iload_n 1 1 rfl rfl 17 rfl dX4_beginsBunch_16 ?_
      refine r_callV_I (c_X4_space (E := E) (l := l) (S := S) d o0 h0 x1) ok_X4_space ⟨⟨(Nat.le_of_ble_eq_true rfl), (Nat.le_of_ble_eq_true rfl)⟩, (Nat.le_of_ble_eq_true rfl), (Nat.le_of_ble_eq_true rfl)⟩ (h0 0 (Nat.le_of_ble_eq_true rfl)) (Nat.le_of_ble_eq_true rfl) rfl rfl rfl (Nat.le_of_ble_eq_true rfl) gX4_beginsBunch_X4_space rfl rfl 20 rfl dX4_beginsBunch_17 (fun v1 => ?_)
      refine r_iload_n 2 2 rfl rfl 21 rfl dX4_beginsBunch_20 ?_
      refine r_icmp_lt 28 24 rfl rfl dX4_beginsBunch_21 ?_ ?_
      · refine r_iconst 0 rfl 29 rfl dX4_beginsBunch_28 ?_
        exact r_zreturnc (by decide) rfl rfl (Nat.le_of_ble_eq_true rfl) (Nat.le_of_ble_eq_true rfl) dX4_beginsBunch_29
      · refine r_iconst 1 rfl 25 rfl dX4_beginsBunch_24 ?_
        refine r_goto 29 rfl dX4_beginsBunch_25 ?_
        exact r_zreturnc (by decide) rfl rfl (Nat.le_of_ble_eq_true rfl) (Nat.le_of_ble_eq_true rfl) dX4_beginsBunch_29
