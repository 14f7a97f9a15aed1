/-! 22.gen4b: by gen/mk.py -/
def Y_X4_split : z_Y := (RX4, cX4_split, 5, wsX4_split, none, { frames := 2, cells := 0, slots := 0, locals := 43 }, 0, 0)
theorem ok_X4_split : z_Ok yX4_split Y_X4_split 1 := ⟨⟨_, rfl⟩, rfl, rfl, rfl, by decide +kernel, by decide +kernel⟩
theorem w_X4_split_0 : Cond.fieldLink RX4 85 "BunchTimes$Stage" "bunches" "I" ∈ wsX4_split := by decide +kernel
theorem w_X4_split_1 : ∀ w ∈ u_ws RX4 TX4 20, w ∈ wsX4_split := by decide +kernel
theorem w_X4_split_2 : Cond.fieldLink RX4 42 "BunchTimes$Stage" "order" "[I" ∈ wsX4_split := by decide +kernel
theorem w_X4_split_3 : Cond.fieldLink RX4 68 "BunchTimes$Stage" "finishers" "I" ∈ wsX4_split := by decide +kernel
theorem w_X4_split_4 : Cond.fieldLink RX4 48 "BunchTimes$Stage" "bunch" "[I" ∈ wsX4_split := by decide +kernel
theorem w_X4_split_5 : Cond.fieldLink RX4 51 "BunchTimes$Stage" "raw" "[I" ∈ wsX4_split := by decide +kernel
theorem w_X4_split_6 : Cond.fieldLink RX4 25 "BunchTimes$Stage" "finish" "[I" ∈ wsX4_split := by decide +kernel
def f_X4_split_L14_b (o0 : Nat) (x1 : Int32) (K : z_D → Option z_D) (R : Int32 → Int32 → z_D → Option z_D) (x2 : Int32) (x3 : Int32) (d : z_D) : Option z_D := (if (d o0 7) ≤ x3 then (K d) else z_ald d (o0 + 15) 16 x3 (fun v3 => ((f_X4_beginsBunch d o0 x3 x1).bind fun v4 => z_let (fun x_52 : Int32 × z_D => z_ast x_52.2 (o0 + 17) 16 v3 ((x_52.2 o0 14) - 1) (fun d5 => z_ald d5 (o0 + 10) 16 (x_52.1) (fun v6 => z_ast d5 (o0 + 18) 16 v3 (v6 / 10) (fun d7 => (R (x_52.1) (x3 + 1) d7))))) (fun J52 => (if v4 = 0 then (J52 (x2, d)) else z_put d o0 14 ((d o0 14) + 1) (fun d8 => (J52 (v3, d8))))))))
def f_X4_split_L14 (o0 : Nat) (x1 : Int32) (K : z_D → Option z_D) : Nat → Int32 → Int32 → z_D → Option z_D
  | 0 => fun _ _ _ => none
  | n + 1 => f_X4_split_L14_b o0 x1 K (f_X4_split_L14 o0 x1 K n)
set_option maxHeartbeats 4000000 in
set_option maxRecDepth 100000 in
theorem g_X4_split_L14 {E : z_E} {l : Launch} {S : z_S} {o0 : Nat} {x1 : Int32} {K : z_D → Option z_D} (h0 : A_Stage S o0) (hK : ∀ (d9 : z_D), z_G E l Y_X4_split (cvV S) (K d9) 87 [] [] (S, d9) 0 0) : ∀ (n : Nat) (x2 : Int32) (x3 : Int32) (d : z_D), z_G E l Y_X4_split (cvV S) (f_X4_split_L14 o0 x1 K n x2 x3 d) 14 [(0, .ref (E.2.1 + o0)), (1, .int x1), (2, .int x2), (3, .int x3)] [] (S, d) 0 0 := by
  intro n
  induction n with
  | zero => intro _ _ _; exact r_none
  | succ n ih =>
    intro x2 x3 d
    show z_G E l Y_X4_split (cvV S) (f_X4_split_L14_b o0 x1 K (f_X4_split_L14 o0 x1 K n) x2 x3 d) 14 [(0, .ref (E.2.1 + o0)), (1, .int x1), (2, .int x2), (3, .int x3)] [] (S, d) 0 0
    unfold f_X4_split_L14_b
    refine r_iload_n 3 3 rfl rfl 15 rfl dX4_split_14 ?_
    refine r_aload_n 0 0 rfl rfl 16 rfl dX4_split_15 ?_
    refine r_get (h0 0 (Nat.le_of_ble_eq_true rfl)) rfl (Nat.le_of_ble_eq_true rfl) rfl rfl w_X4_split_1 7 (Nat.le_of_ble_eq_true rfl) rfl w_X4_split_3 (.int (d o0 7)) rfl 19 rfl dX4_split_16 ?_
    refine r_icmp_ge 87 22 rfl rfl dX4_split_19 ?_ ?_
    · refine r_sub [] rfl ?_
      exact hK d
    · refine r_aload_n 0 0 rfl rfl 23 rfl dX4_split_22 ?_
      refine r_get (h0 0 (Nat.le_of_ble_eq_true rfl)) rfl (Nat.le_of_ble_eq_true rfl) rfl rfl w_X4_split_1 8 (Nat.le_of_ble_eq_true rfl) rfl w_X4_split_2 (.ref (E.2.1 + (o0 + 15))) rfl 26 rfl dX4_split_23 ?_
      refine r_iload_n 3 3 rfl rfl 27 rfl dX4_split_26 ?_
      refine r_iald (h0 15 (Nat.le_of_ble_eq_true rfl)) rfl rfl 28 rfl dX4_split_27 (fun v3 => ?_)
      refine r_istore 4 [(4, .int v3), (0, .ref (E.2.1 + o0)), (1, .int x1), (2, .int x2), (3, .int x3)] (Nat.le_of_ble_eq_true rfl) rfl 30 rfl dX4_split_28 ?_
      refine r_aload_n 0 1 rfl rfl 31 rfl dX4_split_30 ?_
      refine r_iload_n 3 4 rfl rfl 32 rfl dX4_split_31 ?_
      refine r_iload_n 1 2 rfl rfl 33 rfl dX4_split_32 ?_
      refine r_callV_I (c_X4_beginsBunch (E := E) (l := l) (S := S) d o0 h0 x3 x1) ok_X4_beginsBunch ⟨⟨(Nat.le_of_ble_eq_true rfl), (Nat.le_of_ble_eq_true rfl)⟩, (Nat.le_of_ble_eq_true rfl), (Nat.le_of_ble_eq_true rfl)⟩ (h0 0 (Nat.le_of_ble_eq_true rfl)) (Nat.le_of_ble_eq_true rfl) rfl rfl rfl (Nat.le_of_ble_eq_true rfl) gX4_split_X4_beginsBunch rfl rfl 36 rfl dX4_split_33 (fun v4 => ?_)
      refine r_let 52 (f := fun x_52 : Int32 × z_D => [(0, .ref (E.2.1 + o0)), (1, .int x1), (2, .int (x_52.1)), (3, .int x3), (4, .int v3)]) (g := fun x_52 : Int32 × z_D => []) (ww := fun x_52 : Int32 × z_D => (S, x_52.2)) (fun x_52 => ?_) (fun J52 hJ52 => ?_)
      · refine r_aload_n 0 0 rfl rfl 53 rfl dX4_split_52 ?_
        refine r_get (h0 0 (Nat.le_of_ble_eq_true rfl)) rfl (Nat.le_of_ble_eq_true rfl) rfl rfl w_X4_split_1 10 (Nat.le_of_ble_eq_true rfl) rfl w_X4_split_4 (.ref (E.2.1 + (o0 + 17))) rfl 56 rfl dX4_split_53 ?_
        refine r_iload 4 4 rfl 58 rfl dX4_split_56 ?_
        refine r_aload_n 0 0 rfl rfl 59 rfl dX4_split_58 ?_
        refine r_get (h0 0 (Nat.le_of_ble_eq_true rfl)) rfl (Nat.le_of_ble_eq_true rfl) rfl rfl w_X4_split_1 14 (Nat.le_of_ble_eq_true rfl) rfl w_X4_split_0 (.int (x_52.2 o0 14)) rfl 62 rfl dX4_split_59 ?_
        refine r_iconst 1 rfl 63 rfl dX4_split_62 ?_
        refine r_isub 64 rfl dX4_split_63 ?_
        refine r_iast (h0 17 (Nat.le_of_ble_eq_true rfl)) rfl rfl 65 rfl dX4_split_64 (fun d5 => ?_)
        refine r_aload_n 0 0 rfl rfl 66 rfl dX4_split_65 ?_
        refine r_get (h0 0 (Nat.le_of_ble_eq_true rfl)) rfl (Nat.le_of_ble_eq_true rfl) rfl rfl w_X4_split_1 11 (Nat.le_of_ble_eq_true rfl) rfl w_X4_split_5 (.ref (E.2.1 + (o0 + 18))) rfl 69 rfl dX4_split_66 ?_
        refine r_iload 4 4 rfl 71 rfl dX4_split_69 ?_
        refine r_aload_n 0 0 rfl rfl 72 rfl dX4_split_71 ?_
        refine r_get (h0 0 (Nat.le_of_ble_eq_true rfl)) rfl (Nat.le_of_ble_eq_true rfl) rfl rfl w_X4_split_1 2 (Nat.le_of_ble_eq_true rfl) rfl w_X4_split_6 (.ref (E.2.1 + (o0 + 10))) rfl 75 rfl dX4_split_72 ?_
        refine r_iload_n 2 2 rfl rfl 76 rfl dX4_split_75 ?_
        refine r_iald (h0 10 (Nat.le_of_ble_eq_true rfl)) rfl rfl 77 rfl dX4_split_76 (fun v6 => ?_)
        refine r_bipush 10 rfl 79 rfl dX4_split_77 ?_
        refine r_divc (by decide) 80 rfl dX4_split_79 ?_
        refine r_iast (h0 18 (Nat.le_of_ble_eq_true rfl)) rfl rfl 81 rfl dX4_split_80 (fun d7 => ?_)
        refine r_iinc (x3 + 1) 3 rfl rfl [(3, .int (x3 + 1)), (0, .ref (E.2.1 + o0)), (1, .int x1), (2, .int (x_52.1)), (4, .int v3)] (Nat.le_of_ble_eq_true rfl) rfl 84 rfl dX4_split_81 ?_
        refine r_goto 14 rfl dX4_split_84 ?_
        refine r_sub [1, 2, 3, 0] rfl ?_
        exact ih (x_52.1) (x3 + 1) d7
      refine r_if_eq 52 39 rfl rfl dX4_split_36 ?_ ?_
      · refine r_sub [1, 2, 3, 4, 0] rfl ?_
        exact hJ52 (x2, d)
      · refine r_aload_n 0 1 rfl rfl 40 rfl dX4_split_39 ?_
        refine r_dup rfl 41 rfl dX4_split_40 ?_
        refine r_get (h0 0 (Nat.le_of_ble_eq_true rfl)) rfl (Nat.le_of_ble_eq_true rfl) rfl rfl w_X4_split_1 14 (Nat.le_of_ble_eq_true rfl) rfl w_X4_split_0 (.int (d o0 14)) rfl 44 rfl dX4_split_41 ?_
        refine r_iconst 1 rfl 45 rfl dX4_split_44 ?_
        refine r_iadd 46 rfl dX4_split_45 ?_
        refine r_put (h0 0 (Nat.le_of_ble_eq_true rfl)) rfl (Nat.le_of_ble_eq_true rfl) rfl rfl w_X4_split_1 tyX4 tyX4_ok nmX4 (Nat.le_of_ble_eq_true rfl) rfl w_X4_split_0 rfl rfl rfl rfl rfl 49 rfl dX4_split_46 (fun d8 => ?_)
        refine r_iload 4 0 rfl 51 rfl dX4_split_49 ?_
        refine r_istore_n 2 rfl [(2, .int v3), (4, .int v3), (0, .ref (E.2.1 + o0)), (1, .int x1), (3, .int x3)] (Nat.le_of_ble_eq_true rfl) rfl 52 rfl dX4_split_51 ?_
        refine r_sub [2, 3, 0, 4, 1] rfl ?_
        exact hJ52 (v3, d8)
def f_X4_split (d : z_D) (o0 : Nat) (x1 : Int32) : Option z_D := z_put d o0 14 0 (fun d1 => z_ald d1 (o0 + 15) 16 0 (fun v2 => (f_X4_split_L14 o0 x1 (fun d9 => (some d9)) z_N v2 0 d1)))
set_option maxHeartbeats 4000000 in
set_option maxRecDepth 100000 in
theorem c_X4_split {E : z_E} {l : Launch} {S : z_S} (d : z_D) (o0 : Nat) (h0 : A_Stage S o0) (x1 : Int32) : z_Sp E l yX4_split Y_X4_split (cvV S) [.ref (E.2.1 + o0), .int x1] (S, d) (f_X4_split d o0 x1) := by
  refine z_entry (lv := [(0, .ref (E.2.1 + o0)), (1, .int x1)]) (by decide) rfl rfl (Nat.le_of_ble_eq_true rfl) rfl ?_
  unfold f_X4_split
  refine r_aload_n 0 0 rfl rfl 1 rfl dX4_split_0 ?_
  refine r_iconst 0 rfl 2 rfl dX4_split_1 ?_
  refine r_put (h0 0 (Nat.le_of_ble_eq_true rfl)) rfl (Nat.le_of_ble_eq_true rfl) rfl rfl w_X4_split_1 tyX4 tyX4_ok nmX4 (Nat.le_of_ble_eq_true rfl) rfl w_X4_split_0 rfl rfl rfl rfl rfl 5 rfl dX4_split_2 (fun d1 => ?_)
  refine r_aload_n 0 0 rfl rfl 6 rfl dX4_split_5 ?_
  refine r_get (h0 0 (Nat.le_of_ble_eq_true rfl)) rfl (Nat.le_of_ble_eq_true rfl) rfl rfl w_X4_split_1 8 (Nat.le_of_ble_eq_true rfl) rfl w_X4_split_2 (.ref (E.2.1 + (o0 + 15))) rfl 9 rfl dX4_split_6 ?_
  refine r_iconst 0 rfl 10 rfl dX4_split_9 ?_
  refine r_iald (h0 15 (Nat.le_of_ble_eq_true rfl)) rfl rfl 11 rfl dX4_split_10 (fun v2 => ?_)
  refine r_istore_n 2 rfl [(2, .int v2), (0, .ref (E.2.1 + o0)), (1, .int x1)] (Nat.le_of_ble_eq_true rfl) rfl 12 rfl dX4_split_11 ?_
  refine r_iconst 0 rfl 13 rfl dX4_split_12 ?_
  refine r_istore_n 3 rfl [(3, .int 0), (2, .int v2), (0, .ref (E.2.1 + o0)), (1, .int x1)] (Nat.le_of_ble_eq_true rfl) rfl 14 rfl dX4_split_13 ?_
  refine r_sub [2, 3, 1, 0] rfl ?_
  refine g_X4_split_L14 h0 (fun d9 => ?_) z_N v2 0 d1
  exact r_return rfl rfl (Nat.le_of_ble_eq_true rfl) (Nat.le_of_ble_eq_true rfl) dX4_split_87
def Y_X4_fallCounts : z_Y := (RX4, cX4_fallCounts, 4, wsX4_fallCounts, (some .boolean), { frames := 0, cells := 0, slots := 0, locals := 0 }, 0, 0)
theorem ok_X4_fallCounts : z_Ok yX4_fallCounts Y_X4_fallCounts 2 := ⟨⟨_, rfl⟩, rfl, rfl, rfl, by decide +kernel, by decide +kernel⟩
theorem w_X4_fallCounts_0 : Cond.fieldLink RX4 12 "BunchTimes$Stage" "course" "LBunchTimes$Course;" ∈ wsX4_fallCounts := by decide +kernel
theorem w_X4_fallCounts_1 : ∀ w ∈ u_ws RX4 TX4 20, w ∈ wsX4_fallCounts := by decide +kernel
theorem w_X4_fallCounts_2 : ∀ w ∈ u_ws RX1 TX1 7, w ∈ wsX4_fallCounts := by decide +kernel
theorem w_X4_fallCounts_3 : Cond.fieldLink RX4 29 "BunchTimes$Stage" "fallKm" "[I" ∈ wsX4_fallCounts := by decide +kernel
def f_X4_fallCounts (d : z_D) (o0 : Nat) (x1 : Int32) (x2 : Int32) : Option Int32 := z_let (fun x_26 : Int32 => (if x_26 = 0 then (some 0) else z_ald d (o0 + 11) 16 x1 (fun v1 => (if v1 = (-1) then (some 0) else z_ald d (o0 + 11) 16 x1 (fun v2 => (if x2 < v2 then (some 0) else (some 1))))))) (fun J26 => z_let (fun x_21 : Unit => (J26 1)) (fun J21 => (if (d (o0 + 1) 0) = 0 then (J21 ()) else (if (d (o0 + 1) 0) = 1 then (J21 ()) else (J26 0)))))
set_option maxHeartbeats 4000000 in
set_option maxRecDepth 100000 in
theorem c_X4_fallCounts {E : z_E} {l : Launch} {S : z_S} (d : z_D) (o0 : Nat) (h0 : A_Stage S o0) (x1 : Int32) (x2 : Int32) : z_Sp E l yX4_fallCounts Y_X4_fallCounts (cvI S d) [.ref (E.2.1 + o0), .int x1, .int x2] (S, d) (f_X4_fallCounts d o0 x1 x2) := by
  refine z_entry (lv := [(0, .ref (E.2.1 + o0)), (1, .int x1), (2, .int x2)]) (by decide) rfl rfl (Nat.le_of_ble_eq_true rfl) rfl ?_
  unfold f_X4_fallCounts
  refine r_aload_n 0 0 rfl rfl 1 rfl dX4_fallCounts_0 ?_
  refine r_get (h0 0 (Nat.le_of_ble_eq_true rfl)) rfl (Nat.le_of_ble_eq_true rfl) rfl rfl w_X4_fallCounts_1 0 (Nat.le_of_ble_eq_true rfl) rfl w_X4_fallCounts_0 (.ref (E.2.1 + (o0 + 1))) rfl 4 rfl dX4_fallCounts_1 ?_
  refine r_getN 0 1 rfl ((A_Stage.course h0) 0 (Nat.le_of_ble_eq_true rfl)) rfl (Nat.le_of_ble_eq_true rfl) rfl rfl w_X4_fallCounts_2 (Nat.le_of_ble_eq_true rfl) rfl (.int (d (o0 + 1) 0)) rfl 7 rfl dX4_fallCounts_4 ?_
  refine r_let 26 (f := fun x_26 : Int32 => [(0, .ref (E.2.1 + o0)), (1, .int x1), (2, .int x2)]) (g := fun x_26 : Int32 => [.int x_26]) (ww := fun x_26 : Int32 => (S, d)) (fun x_26 => ?_) (fun J26 hJ26 => ?_)
  · refine r_istore_n 3 rfl [(3, .int x_26), (0, .ref (E.2.1 + o0)), (1, .int x1), (2, .int x2)] (Nat.le_of_ble_eq_true rfl) rfl 27 rfl dX4_fallCounts_26 ?_
    refine r_iload_n 3 0 rfl rfl 28 rfl dX4_fallCounts_27 ?_
    refine r_if_eq 55 31 rfl rfl dX4_fallCounts_28 ?_ ?_
    · refine r_iconst 0 rfl 56 rfl dX4_fallCounts_55 ?_
      exact r_zreturnc (by decide) rfl rfl (Nat.le_of_ble_eq_true rfl) (Nat.le_of_ble_eq_true rfl) dX4_fallCounts_56
    · refine r_aload_n 0 1 rfl rfl 32 rfl dX4_fallCounts_31 ?_
      refine r_get (h0 0 (Nat.le_of_ble_eq_true rfl)) rfl (Nat.le_of_ble_eq_true rfl) rfl rfl w_X4_fallCounts_1 3 (Nat.le_of_ble_eq_true rfl) rfl w_X4_fallCounts_3 (.ref (E.2.1 + (o0 + 11))) rfl 35 rfl dX4_fallCounts_32 ?_
      refine r_iload_n 1 2 rfl rfl 36 rfl dX4_fallCounts_35 ?_
      refine r_iald (h0 11 (Nat.le_of_ble_eq_true rfl)) rfl rfl 37 rfl dX4_fallCounts_36 (fun v1 => ?_)
      refine r_iconst (-1) rfl 38 rfl dX4_fallCounts_37 ?_
      refine r_icmp_eq 55 41 rfl rfl dX4_fallCounts_38 ?_ ?_
      · refine r_iconst 0 rfl 56 rfl dX4_fallCounts_55 ?_
        exact r_zreturnc (by decide) rfl rfl (Nat.le_of_ble_eq_true rfl) (Nat.le_of_ble_eq_true rfl) dX4_fallCounts_56
      · refine r_aload_n 0 1 rfl rfl 42 rfl dX4_fallCounts_41 ?_
        refine r_get (h0 0 (Nat.le_of_ble_eq_true rfl)) rfl (Nat.le_of_ble_eq_true rfl) rfl rfl w_X4_fallCounts_1 3 (Nat.le_of_ble_eq_true rfl) rfl w_X4_fallCounts_3 (.ref (E.2.1 + (o0 + 11))) rfl 45 rfl dX4_fallCounts_42 ?_
        refine r_iload_n 1 2 rfl rfl 46 rfl dX4_fallCounts_45 ?_
        refine r_iald (h0 11 (Nat.le_of_ble_eq_true rfl)) rfl rfl 47 rfl dX4_fallCounts_46 (fun v2 => ?_)
        refine r_iload_n 2 3 rfl rfl 48 rfl dX4_fallCounts_47 ?_
        refine r_icmp_gt 55 51 rfl rfl dX4_fallCounts_48 ?_ ?_
        · refine r_iconst 0 rfl 56 rfl dX4_fallCounts_55 ?_
          exact r_zreturnc (by decide) rfl rfl (Nat.le_of_ble_eq_true rfl) (Nat.le_of_ble_eq_true rfl) dX4_fallCounts_56
        · refine r_iconst 1 rfl 52 rfl dX4_fallCounts_51 ?_
          refine r_goto 56 rfl dX4_fallCounts_52 ?_
          exact r_zreturnc (by decide) rfl rfl (Nat.le_of_ble_eq_true rfl) (Nat.le_of_ble_eq_true rfl) dX4_fallCounts_56
  refine r_let 21 (f := fun x_21 : Unit => [(0, .ref (E.2.1 + o0)), (1, .int x1), (2, .int x2)]) (g := fun x_21 : Unit => []) (ww := fun x_21 : Unit => (S, d)) (fun x_21 => ?_) (fun J21 hJ21 => ?_)
  · refine r_iconst 1 rfl 22 rfl dX4_fallCounts_21 ?_
    refine r_goto 26 rfl dX4_fallCounts_22 ?_
    refine r_sub [0, 1, 2] rfl ?_
    exact hJ26 1
  refine r_if_eq 21 10 rfl rfl dX4_fallCounts_7 ?_ ?_
  · refine r_sub [0, 1, 2] rfl ?_
    exact hJ21 ()
  · refine r_aload_n 0 0 rfl rfl 11 rfl dX4_fallCounts_10 ?_
    refine r_get (h0 0 (Nat.le_of_ble_eq_true rfl)) rfl (Nat.le_of_ble_eq_true rfl) rfl rfl w_X4_fallCounts_1 0 (Nat.le_of_ble_eq_true rfl) rfl w_X4_fallCounts_0 (.ref (E.2.1 + (o0 + 1))) rfl 14 rfl dX4_fallCounts_11 ?_
    refine r_getN 0 1 rfl ((A_Stage.course h0) 0 (Nat.le_of_ble_eq_true rfl)) rfl (Nat.le_of_ble_eq_true rfl) rfl rfl w_X4_fallCounts_2 (Nat.le_of_ble_eq_true rfl) rfl (.int (d (o0 + 1) 0)) rfl 17 rfl dX4_fallCounts_14 ?_
    refine r_iconst 1 rfl 18 rfl dX4_fallCounts_17 ?_
    refine r_icmp_ne 25 21 rfl rfl dX4_fallCounts_18 ?_ ?_
    · refine r_iconst 0 rfl 26 rfl dX4_fallCounts_25 ?_
      refine r_sub [0, 1, 2] rfl ?_
      exact hJ26 0
    · refine r_sub [0, 1, 2] rfl ?_
      exact hJ21 ()
def Y_X4_hasFinish : z_Y := (RX4, cX4_hasFinish, 2, wsX4_hasFinish, (some .boolean), { frames := 1, cells := 0, slots := 0, locals := 22 }, 0, 0)
theorem ok_X4_hasFinish : z_Ok yX4_hasFinish Y_X4_hasFinish 1 := ⟨⟨_, rfl⟩, rfl, rfl, rfl, by decide +kernel, by decide +kernel⟩
theorem w_X4_hasFinish_0 : Cond.initialized RX8 ∈ wsX4_hasFinish := by decide +kernel
theorem w_X4_hasFinish_1 : Cond.static yX8_within ∈ wsX4_hasFinish := by decide +kernel
theorem w_X4_hasFinish_2 : Cond.fieldLink RX4 25 "BunchTimes$Stage" "finish" "[I" ∈ wsX4_hasFinish := by decide +kernel
theorem w_X4_hasFinish_3 : ∀ w ∈ u_ws RX4 TX4 20, w ∈ wsX4_hasFinish := by decide +kernel
def f_X4_hasFinish (d : z_D) (o0 : Nat) (x1 : Int32) : Option Int32 := ((f_X8_within x1 0 15).bind fun v1 => (if v1 = 0 then (some 0) else z_ald d (o0 + 10) 16 x1 (fun v2 => (if v2 = 0 then (some 0) else (some 1)))))
set_option maxHeartbeats 4000000 in
set_option maxRecDepth 100000 in
theorem c_X4_hasFinish {E : z_E} {l : Launch} {S : z_S} (d : z_D) (o0 : Nat) (h0 : A_Stage S o0) (x1 : Int32) : z_Sp E l yX4_hasFinish Y_X4_hasFinish (cvI S d) [.ref (E.2.1 + o0), .int x1] (S, d) (f_X4_hasFinish d o0 x1) := by
  refine z_entry (lv := [(0, .ref (E.2.1 + o0)), (1, .int x1)]) (by decide) rfl rfl (Nat.le_of_ble_eq_true rfl) rfl ?_
  unfold f_X4_hasFinish
  refine r_iload_n 1 1 rfl rfl 1 rfl dX4_hasFinish_0 ?_
  refine r_iconst 0 rfl 2 rfl dX4_hasFinish_1 ?_
  refine r_bipush 15 rfl 4 rfl dX4_hasFinish_2 ?_
  refine r_callSN_I (c_X8_within (E := E) (l := l) (S := S) d x1 0 15) ok_X8_within ⟨⟨(Nat.le_of_ble_eq_true rfl), (Nat.le_of_ble_eq_true rfl)⟩, (Nat.le_of_ble_eq_true rfl), (Nat.le_of_ble_eq_true rfl)⟩ rfl (Nat.le_of_ble_eq_true rfl) 31 rfl gX4_hasFinish_X8_within_n105 w_X4_hasFinish_0 w_X4_hasFinish_1 rfl rfl 7 rfl dX4_hasFinish_4 (fun v1 => ?_)
  refine r_if_eq 23 10 rfl rfl dX4_hasFinish_7 ?_ ?_
  · refine r_iconst 0 rfl 24 rfl dX4_hasFinish_23 ?_
    exact r_zreturnc (by decide) rfl rfl (Nat.le_of_ble_eq_true rfl) (Nat.le_of_ble_eq_true rfl) dX4_hasFinish_24
  · refine r_aload_n 0 0 rfl rfl 11 rfl dX4_hasFinish_10 ?_
    refine r_get (h0 0 (Nat.le_of_ble_eq_true rfl)) rfl (Nat.le_of_ble_eq_true rfl) rfl rfl w_X4_hasFinish_3 2 (Nat.le_of_ble_eq_true rfl) rfl w_X4_hasFinish_2 (.ref (E.2.1 + (o0 + 10))) rfl 14 rfl dX4_hasFinish_11 ?_
    refine r_iload_n 1 1 rfl rfl 15 rfl dX4_hasFinish_14 ?_
    refine r_iald (h0 10 (Nat.le_of_ble_eq_true rfl)) rfl rfl 16 rfl dX4_hasFinish_15 (fun v2 => ?_)
    refine r_if_eq 23 19 rfl rfl dX4_hasFinish_16 ?_ ?_
    · refine r_iconst 0 rfl 24 rfl dX4_hasFinish_23 ?_
      exact r_zreturnc (by decide) rfl rfl (Nat.le_of_ble_eq_true rfl) (Nat.le_of_ble_eq_true rfl) dX4_hasFinish_24
    · refine r_iconst 1 rfl 20 rfl dX4_hasFinish_19 ?_
      refine r_goto 24 rfl dX4_hasFinish_20 ?_
      exact r_zreturnc (by decide) rfl rfl (Nat.le_of_ble_eq_true rfl) (Nat.le_of_ble_eq_true rfl) dX4_hasFinish_24
def Y_X4_leastRaw : z_Y := (RX4, cX4_leastRaw, 6, wsX4_leastRaw, (some .int), { frames := 2, cells := 0, slots := 0, locals := 43 }, 0, 0)
theorem ok_X4_leastRaw : z_Ok yX4_leastRaw Y_X4_leastRaw 2 := ⟨⟨_, rfl⟩, rfl, rfl, rfl, by decide +kernel, by decide +kernel⟩
theorem w_X4_leastRaw_0 : Cond.fieldLink RX4 51 "BunchTimes$Stage" "raw" "[I" ∈ wsX4_leastRaw := by decide +kernel
theorem w_X4_leastRaw_1 : ∀ w ∈ u_ws RX4 TX4 20, w ∈ wsX4_leastRaw := by decide +kernel
theorem w_X4_leastRaw_2 : Cond.fieldLink RX4 32 "BunchTimes$Stage" "fallWith" "[I" ∈ wsX4_leastRaw := by decide +kernel
theorem w_X4_leastRaw_3 : Cond.methodLink RX4 130 Lib.Math.min.name ∈ wsX4_leastRaw := by decide +kernel
theorem w_X4_leastRaw_4 : Cond.static Lib.Math.min.name ∈ wsX4_leastRaw := by decide +kernel
theorem w_X4_leastRaw_5 : Cond.initialized "java/lang/Math" ∈ wsX4_leastRaw := by decide +kernel
theorem w_X4_leastRaw_6 : Cond.code Lib.Math.min.name Lib.Math.min.code 2 (some .int) ∈ wsX4_leastRaw := by decide +kernel
def f_X4_leastRaw_L13_b (d : z_D) (o0 : Nat) (x2 : Int32) (K : Int32 → Option Int32) (R : Int32 → Int32 → Int32 → Option Int32) (x3 : Int32) (x4 : Int32) (x5 : Int32) : Option Int32 := (if 16 ≤ x5 then (K x3) else ((f_X4_fallCounts d o0 x4 x2).bind fun v2 => (if v2 = 0 then (K x3) else z_ald d (o0 + 12) 16 x4 (fun v3 => ((f_X4_hasFinish d o0 v3).bind fun v4 => (if v4 = 0 then (K x3) else z_ald d (o0 + 12) 16 x4 (fun v5 => z_ald d (o0 + 18) 16 v5 (fun v6 => z_nam (if v6 < x3 then v6 else x3) (fun v7 => (R v7 v5 (x5 + 1)))))))))))
def f_X4_leastRaw_L13 (d : z_D) (o0 : Nat) (x2 : Int32) (K : Int32 → Option Int32) : Nat → Int32 → Int32 → Int32 → Option Int32
  | 0 => fun _ _ _ => none
  | n + 1 => f_X4_leastRaw_L13_b d o0 x2 K (f_X4_leastRaw_L13 d o0 x2 K n)
set_option maxHeartbeats 4000000 in
set_option maxRecDepth 100000 in
theorem g_X4_leastRaw_L13 {E : z_E} {l : Launch} {S : z_S} {d : z_D} {o0 : Nat} {x2 : Int32} {K : Int32 → Option Int32} (h0 : A_Stage S o0) (hK : ∀ (y3 : Int32), z_G E l Y_X4_leastRaw (cvI S d) (K y3) 71 [(3, .int y3)] [] (S, d) 0 0) : ∀ (n : Nat) (x3 : Int32) (x4 : Int32) (x5 : Int32), z_G E l Y_X4_leastRaw (cvI S d) (f_X4_leastRaw_L13 d o0 x2 K n x3 x4 x5) 13 [(0, .ref (E.2.1 + o0)), (2, .int x2), (3, .int x3), (4, .int x4), (5, .int x5)] [] (S, d) 0 0 := by
  intro n
  induction n with
  | zero => intro _ _ _; exact r_none
  | succ n ih =>
    intro x3 x4 x5
    show z_G E l Y_X4_leastRaw (cvI S d) (f_X4_leastRaw_L13_b d o0 x2 K (f_X4_leastRaw_L13 d o0 x2 K n) x3 x4 x5) 13 [(0, .ref (E.2.1 + o0)), (2, .int x2), (3, .int x3), (4, .int x4), (5, .int x5)] [] (S, d) 0 0
    unfold f_X4_leastRaw_L13_b
    refine r_iload 5 4 rfl 15 rfl dX4_leastRaw_13 ?_
    refine r_bipush 16 rfl 17 rfl dX4_leastRaw_15 ?_
    refine r_icmp_ge 71 20 rfl rfl dX4_leastRaw_17 ?_ ?_
    · refine r_sub [2] rfl ?_
      exact hK x3
    · refine r_aload_n 0 0 rfl rfl 21 rfl dX4_leastRaw_20 ?_
      refine r_iload 4 3 rfl 23 rfl dX4_leastRaw_21 ?_
      refine r_iload_n 2 1 rfl rfl 24 rfl dX4_leastRaw_23 ?_
      refine r_callV_I (c_X4_fallCounts (E := E) (l := l) (S := S) d o0 h0 x4 x2) ok_X4_fallCounts ⟨⟨(Nat.le_of_ble_eq_true rfl), (Nat.le_of_ble_eq_true rfl)⟩, (Nat.le_of_ble_eq_true rfl), (Nat.le_of_ble_eq_true rfl)⟩ (h0 0 (Nat.le_of_ble_eq_true rfl)) (Nat.le_of_ble_eq_true rfl) rfl rfl rfl (Nat.le_of_ble_eq_true rfl) gX4_leastRaw_X4_fallCounts rfl rfl 27 rfl dX4_leastRaw_24 (fun v2 => ?_)
      refine r_if_eq 71 30 rfl rfl dX4_leastRaw_27 ?_ ?_
      · refine r_sub [2] rfl ?_
        exact hK x3
      · refine r_aload_n 0 0 rfl rfl 31 rfl dX4_leastRaw_30 ?_
        refine r_aload_n 0 0 rfl rfl 32 rfl dX4_leastRaw_31 ?_
        refine r_get (h0 0 (Nat.le_of_ble_eq_true rfl)) rfl (Nat.le_of_ble_eq_true rfl) rfl rfl w_X4_leastRaw_1 4 (Nat.le_of_ble_eq_true rfl) rfl w_X4_leastRaw_2 (.ref (E.2.1 + (o0 + 12))) rfl 35 rfl dX4_leastRaw_32 ?_
        refine r_iload 4 3 rfl 37 rfl dX4_leastRaw_35 ?_
        refine r_iald (h0 12 (Nat.le_of_ble_eq_true rfl)) rfl rfl 38 rfl dX4_leastRaw_37 (fun v3 => ?_)
        refine r_callV_I (c_X4_hasFinish (E := E) (l := l) (S := S) d o0 h0 v3) ok_X4_hasFinish ⟨⟨(Nat.le_of_ble_eq_true rfl), (Nat.le_of_ble_eq_true rfl)⟩, (Nat.le_of_ble_eq_true rfl), (Nat.le_of_ble_eq_true rfl)⟩ (h0 0 (Nat.le_of_ble_eq_true rfl)) (Nat.le_of_ble_eq_true rfl) rfl rfl rfl (Nat.le_of_ble_eq_true rfl) gX4_leastRaw_X4_hasFinish rfl rfl 41 rfl dX4_leastRaw_38 (fun v4 => ?_)
        refine r_if_eq 71 44 rfl rfl dX4_leastRaw_41 ?_ ?_
        · refine r_sub [2] rfl ?_
          exact hK x3
        · refine r_aload_n 0 0 rfl rfl 45 rfl dX4_leastRaw_44 ?_
          refine r_get (h0 0 (Nat.le_of_ble_eq_true rfl)) rfl (Nat.le_of_ble_eq_true rfl) rfl rfl w_X4_leastRaw_1 4 (Nat.le_of_ble_eq_true rfl) rfl w_X4_leastRaw_2 (.ref (E.2.1 + (o0 + 12))) rfl 48 rfl dX4_leastRaw_45 ?_
          refine r_iload 4 3 rfl 50 rfl dX4_leastRaw_48 ?_
          refine r_iald (h0 12 (Nat.le_of_ble_eq_true rfl)) rfl rfl 51 rfl dX4_leastRaw_50 (fun v5 => ?_)
          refine r_istore 4 [(4, .int v5), (0, .ref (E.2.1 + o0)), (2, .int x2), (3, .int x3), (5, .int x5)] (Nat.le_of_ble_eq_true rfl) rfl 53 rfl dX4_leastRaw_51 ?_
          refine r_iload_n 3 3 rfl rfl 54 rfl dX4_leastRaw_53 ?_
          refine r_aload_n 0 1 rfl rfl 55 rfl dX4_leastRaw_54 ?_
          refine r_get (h0 0 (Nat.le_of_ble_eq_true rfl)) rfl (Nat.le_of_ble_eq_true rfl) rfl rfl w_X4_leastRaw_1 11 (Nat.le_of_ble_eq_true rfl) rfl w_X4_leastRaw_0 (.ref (E.2.1 + (o0 + 18))) rfl 58 rfl dX4_leastRaw_55 ?_
          refine r_iload 4 0 rfl 60 rfl dX4_leastRaw_58 ?_
          refine r_iald (h0 18 (Nat.le_of_ble_eq_true rfl)) rfl rfl 61 rfl dX4_leastRaw_60 (fun v6 => ?_)
          refine r_mmin w_X4_leastRaw_3 w_X4_leastRaw_4 w_X4_leastRaw_5 w_X4_leastRaw_6 (Nat.le_of_ble_eq_true rfl) (Nat.le_of_ble_eq_true rfl) (Nat.le_of_ble_eq_true rfl) (Nat.le_of_ble_eq_true rfl) 64 rfl dX4_leastRaw_61 ?_
          refine r_nami (fun v7 => ?_)
          refine r_istore_n 3 rfl [(3, .int v7), (4, .int v5), (0, .ref (E.2.1 + o0)), (2, .int x2), (5, .int x5)] (Nat.le_of_ble_eq_true rfl) rfl 65 rfl dX4_leastRaw_64 ?_
          refine r_iinc (x5 + 1) 4 rfl rfl [(5, .int (x5 + 1)), (3, .int v7), (4, .int v5), (0, .ref (E.2.1 + o0)), (2, .int x2)] (Nat.le_of_ble_eq_true rfl) rfl 68 rfl dX4_leastRaw_65 ?_
          refine r_goto 13 rfl dX4_leastRaw_68 ?_
          refine r_sub [3, 4, 1, 2, 0] rfl ?_
          exact ih v7 v5 (x5 + 1)
def f_X4_leastRaw (d : z_D) (o0 : Nat) (x1 : Int32) (x2 : Int32) : Option Int32 := z_ald d (o0 + 18) 16 x1 (fun v1 => (f_X4_leastRaw_L13 d o0 x2 (fun v8 => (some v8)) z_N v1 x1 0))
set_option maxHeartbeats 4000000 in
set_option maxRecDepth 100000 in
theorem c_X4_leastRaw {E : z_E} {l : Launch} {S : z_S} (d : z_D) (o0 : Nat) (h0 : A_Stage S o0) (x1 : Int32) (x2 : Int32) : z_Sp E l yX4_leastRaw Y_X4_leastRaw (cvI S d) [.ref (E.2.1 + o0), .int x1, .int x2] (S, d) (f_X4_leastRaw d o0 x1 x2) := by
  refine z_entry (lv := [(0, .ref (E.2.1 + o0)), (1, .int x1), (2, .int x2)]) (by decide) rfl rfl (Nat.le_of_ble_eq_true rfl) rfl ?_
  unfold f_X4_leastRaw
  refine r_aload_n 0 0 rfl rfl 1 rfl dX4_leastRaw_0 ?_
  refine r_get (h0 0 (Nat.le_of_ble_eq_true rfl)) rfl (Nat.le_of_ble_eq_true rfl) rfl rfl w_X4_leastRaw_1 11 (Nat.le_of_ble_eq_true rfl) rfl w_X4_leastRaw_0 (.ref (E.2.1 + (o0 + 18))) rfl 4 rfl dX4_leastRaw_1 ?_
  refine r_iload_n 1 1 rfl rfl 5 rfl dX4_leastRaw_4 ?_
  refine r_iald (h0 18 (Nat.le_of_ble_eq_true rfl)) rfl rfl 6 rfl dX4_leastRaw_5 (fun v1 => ?_)
  refine r_istore_n 3 rfl [(3, .int v1), (0, .ref (E.2.1 + o0)), (1, .int x1), (2, .int x2)] (Nat.le_of_ble_eq_true rfl) rfl 7 rfl dX4_leastRaw_6 ?_
  refine r_iload_n 1 2 rfl rfl 8 rfl dX4_leastRaw_7 ?_
  refine r_istore 4 [(4, .int x1), (3, .int v1), (0, .ref (E.2.1 + o0)), (1, .int x1), (2, .int x2)] (Nat.le_of_ble_eq_true rfl) rfl 10 rfl dX4_leastRaw_8 ?_
  refine r_iconst 0 rfl 11 rfl dX4_leastRaw_10 ?_
  refine r_istore 5 [(5, .int 0), (4, .int x1), (3, .int v1), (0, .ref (E.2.1 + o0)), (1, .int x1), (2, .int x2)] (Nat.le_of_ble_eq_true rfl) rfl 13 rfl dX4_leastRaw_11 ?_
  refine r_sub [3, 5, 2, 1, 0] rfl ?_
  refine g_X4_leastRaw_L13 h0 (fun v8 => ?_) z_N v1 x1 0
  refine r_iload_n 3 0 rfl rfl 72 rfl dX4_leastRaw_71 ?_
  exact r_ireturn rfl rfl (Nat.le_of_ble_eq_true rfl) (Nat.le_of_ble_eq_true rfl) dX4_leastRaw_72
def Y_X4_takeTimes : z_Y := (RX4, cX4_takeTimes, 4, wsX4_takeTimes, none, { frames := 3, cells := 0, slots := 0, locals := 68 }, 0, 0)
theorem ok_X4_takeTimes : z_Ok yX4_takeTimes Y_X4_takeTimes 1 := ⟨⟨_, rfl⟩, rfl, rfl, rfl, by decide +kernel, by decide +kernel⟩
theorem w_X4_takeTimes_0 : Cond.constant RX4 125 1000000 ∈ wsX4_takeTimes := by decide +kernel
theorem w_X4_takeTimes_1 : Cond.fieldLink RX4 88 "BunchTimes$Stage" "best" "I" ∈ wsX4_takeTimes := by decide +kernel
theorem w_X4_takeTimes_2 : ∀ w ∈ u_ws RX4 TX4 20, w ∈ wsX4_takeTimes := by decide +kernel
theorem w_X4_takeTimes_3 : Cond.fieldLink RX4 68 "BunchTimes$Stage" "finishers" "I" ∈ wsX4_takeTimes := by decide +kernel
theorem w_X4_takeTimes_4 : Cond.fieldLink RX4 42 "BunchTimes$Stage" "order" "[I" ∈ wsX4_takeTimes := by decide +kernel
theorem w_X4_takeTimes_5 : Cond.fieldLink RX4 54 "BunchTimes$Stage" "time" "[I" ∈ wsX4_takeTimes := by decide +kernel
theorem w_X4_takeTimes_6 : Cond.methodLink RX4 130 Lib.Math.min.name ∈ wsX4_takeTimes := by decide +kernel
theorem w_X4_takeTimes_7 : Cond.static Lib.Math.min.name ∈ wsX4_takeTimes := by decide +kernel
theorem w_X4_takeTimes_8 : Cond.initialized "java/lang/Math" ∈ wsX4_takeTimes := by decide +kernel
theorem w_X4_takeTimes_9 : Cond.code Lib.Math.min.name Lib.Math.min.code 2 (some .int) ∈ wsX4_takeTimes := by decide +kernel
def f_X4_takeTimes_L8_b (o0 : Nat) (x1 : Int32) (K : z_D → Option z_D) (R : Int32 → z_D → Option z_D) (x2 : Int32) (d : z_D) : Option z_D := (if (d o0 7) ≤ x2 then (K d) else z_ald d (o0 + 15) 16 x2 (fun v2 => ((f_X4_leastRaw d o0 v2 x1).bind fun v3 => z_ast d (o0 + 19) 16 v2 v3 (fun d4 => z_ald d4 (o0 + 19) 16 v2 (fun v5 => z_put d4 o0 15 (if v5 < (d4 o0 15) then v5 else (d4 o0 15)) (fun d6 => (R (x2 + 1) d6)))))))
def f_X4_takeTimes_L8 (o0 : Nat) (x1 : Int32) (K : z_D → Option z_D) : Nat → Int32 → z_D → Option z_D
  | 0 => fun _ _ => none
  | n + 1 => f_X4_takeTimes_L8_b o0 x1 K (f_X4_takeTimes_L8 o0 x1 K n)
set_option maxHeartbeats 4000000 in
set_option maxRecDepth 100000 in
theorem g_X4_takeTimes_L8 {E : z_E} {l : Launch} {S : z_S} {o0 : Nat} {x1 : Int32} {K : z_D → Option z_D} (h0 : A_Stage S o0) (hK : ∀ (d9 : z_D), z_G E l Y_X4_takeTimes (cvV S) (K d9) 58 [] [] (S, d9) 0 0) : ∀ (n : Nat) (x2 : Int32) (d : z_D), z_G E l Y_X4_takeTimes (cvV S) (f_X4_takeTimes_L8 o0 x1 K n x2 d) 8 [(0, .ref (E.2.1 + o0)), (1, .int x1), (2, .int x2)] [] (S, d) 0 0 := by
  intro n
  induction n with
  | zero => intro _ _; exact r_none
  | succ n ih =>
    intro x2 d
    show z_G E l Y_X4_takeTimes (cvV S) (f_X4_takeTimes_L8_b o0 x1 K (f_X4_takeTimes_L8 o0 x1 K n) x2 d) 8 [(0, .ref (E.2.1 + o0)), (1, .int x1), (2, .int x2)] [] (S, d) 0 0
    unfold f_X4_takeTimes_L8_b
    refine r_iload_n 2 2 rfl rfl 9 rfl dX4_takeTimes_8 ?_
    refine r_aload_n 0 0 rfl rfl 10 rfl dX4_takeTimes_9 ?_
    refine r_get (h0 0 (Nat.le_of_ble_eq_true rfl)) rfl (Nat.le_of_ble_eq_true rfl) rfl rfl w_X4_takeTimes_2 7 (Nat.le_of_ble_eq_true rfl) rfl w_X4_takeTimes_3 (.int (d o0 7)) rfl 13 rfl dX4_takeTimes_10 ?_
    refine r_icmp_ge 58 16 rfl rfl dX4_takeTimes_13 ?_ ?_
    · refine r_sub [] rfl ?_
      exact hK d
    · refine r_aload_n 0 0 rfl rfl 17 rfl dX4_takeTimes_16 ?_
      refine r_get (h0 0 (Nat.le_of_ble_eq_true rfl)) rfl (Nat.le_of_ble_eq_true rfl) rfl rfl w_X4_takeTimes_2 8 (Nat.le_of_ble_eq_true rfl) rfl w_X4_takeTimes_4 (.ref (E.2.1 + (o0 + 15))) rfl 20 rfl dX4_takeTimes_17 ?_
      refine r_iload_n 2 2 rfl rfl 21 rfl dX4_takeTimes_20 ?_
      refine r_iald (h0 15 (Nat.le_of_ble_eq_true rfl)) rfl rfl 22 rfl dX4_takeTimes_21 (fun v2 => ?_)
      refine r_istore_n 3 rfl [(3, .int v2), (0, .ref (E.2.1 + o0)), (1, .int x1), (2, .int x2)] (Nat.le_of_ble_eq_true rfl) rfl 23 rfl dX4_takeTimes_22 ?_
      refine r_aload_n 0 1 rfl rfl 24 rfl dX4_takeTimes_23 ?_
      refine r_get (h0 0 (Nat.le_of_ble_eq_true rfl)) rfl (Nat.le_of_ble_eq_true rfl) rfl rfl w_X4_takeTimes_2 12 (Nat.le_of_ble_eq_true rfl) rfl w_X4_takeTimes_5 (.ref (E.2.1 + (o0 + 19))) rfl 27 rfl dX4_takeTimes_24 ?_
      refine r_iload_n 3 0 rfl rfl 28 rfl dX4_takeTimes_27 ?_
      refine r_aload_n 0 1 rfl rfl 29 rfl dX4_takeTimes_28 ?_
      refine r_iload_n 3 0 rfl rfl 30 rfl dX4_takeTimes_29 ?_
      refine r_iload_n 1 2 rfl rfl 31 rfl dX4_takeTimes_30 ?_
      refine r_callV_I (c_X4_leastRaw (E := E) (l := l) (S := S) d o0 h0 v2 x1) ok_X4_leastRaw ⟨⟨(Nat.le_of_ble_eq_true rfl), (Nat.le_of_ble_eq_true rfl)⟩, (Nat.le_of_ble_eq_true rfl), (Nat.le_of_ble_eq_true rfl)⟩ (h0 0 (Nat.le_of_ble_eq_true rfl)) (Nat.le_of_ble_eq_true rfl) rfl rfl rfl (Nat.le_of_ble_eq_true rfl) gX4_takeTimes_X4_leastRaw rfl rfl 34 rfl dX4_takeTimes_31 (fun v3 => ?_)
      refine r_iast (h0 19 (Nat.le_of_ble_eq_true rfl)) rfl rfl 35 rfl dX4_takeTimes_34 (fun d4 => ?_)
      refine r_aload_n 0 1 rfl rfl 36 rfl dX4_takeTimes_35 ?_
      refine r_aload_n 0 1 rfl rfl 37 rfl dX4_takeTimes_36 ?_
      refine r_get (h0 0 (Nat.le_of_ble_eq_true rfl)) rfl (Nat.le_of_ble_eq_true rfl) rfl rfl w_X4_takeTimes_2 15 (Nat.le_of_ble_eq_true rfl) rfl w_X4_takeTimes_1 (.int (d4 o0 15)) rfl 40 rfl dX4_takeTimes_37 ?_
      refine r_aload_n 0 1 rfl rfl 41 rfl dX4_takeTimes_40 ?_
      refine r_get (h0 0 (Nat.le_of_ble_eq_true rfl)) rfl (Nat.le_of_ble_eq_true rfl) rfl rfl w_X4_takeTimes_2 12 (Nat.le_of_ble_eq_true rfl) rfl w_X4_takeTimes_5 (.ref (E.2.1 + (o0 + 19))) rfl 44 rfl dX4_takeTimes_41 ?_
      refine r_iload_n 3 0 rfl rfl 45 rfl dX4_takeTimes_44 ?_
      refine r_iald (h0 19 (Nat.le_of_ble_eq_true rfl)) rfl rfl 46 rfl dX4_takeTimes_45 (fun v5 => ?_)
      refine r_mmin w_X4_takeTimes_6 w_X4_takeTimes_7 w_X4_takeTimes_8 w_X4_takeTimes_9 (Nat.le_of_ble_eq_true rfl) (Nat.le_of_ble_eq_true rfl) (Nat.le_of_ble_eq_true rfl) (Nat.le_of_ble_eq_true rfl) 49 rfl dX4_takeTimes_46 ?_
      refine r_put (h0 0 (Nat.le_of_ble_eq_true rfl)) rfl (Nat.le_of_ble_eq_true rfl) rfl rfl w_X4_takeTimes_2 tyX4 tyX4_ok nmX4 (Nat.le_of_ble_eq_true rfl) rfl w_X4_takeTimes_1 rfl rfl rfl rfl rfl 52 rfl dX4_takeTimes_49 (fun d6 => ?_)
      refine r_iinc (x2 + 1) 3 rfl rfl [(2, .int (x2 + 1)), (3, .int v2), (0, .ref (E.2.1 + o0)), (1, .int x1)] (Nat.le_of_ble_eq_true rfl) rfl 55 rfl dX4_takeTimes_52 ?_
      refine r_goto 8 rfl dX4_takeTimes_55 ?_
      refine r_sub [2, 3, 0] rfl ?_
      exact ih (x2 + 1) d6
def f_X4_takeTimes (d : z_D) (o0 : Nat) (x1 : Int32) : Option z_D := z_put d o0 15 1000000 (fun d1 => (f_X4_takeTimes_L8 o0 x1 (fun d7 => (some d7)) z_N 0 d1))
set_option maxHeartbeats 4000000 in
set_option maxRecDepth 100000 in
theorem c_X4_takeTimes {E : z_E} {l : Launch} {S : z_S} (d : z_D) (o0 : Nat) (h0 : A_Stage S o0) (x1 : Int32) : z_Sp E l yX4_takeTimes Y_X4_takeTimes (cvV S) [.ref (E.2.1 + o0), .int x1] (S, d) (f_X4_takeTimes d o0 x1) := by
  refine z_entry (lv := [(0, .ref (E.2.1 + o0)), (1, .int x1)]) (by decide) rfl rfl (Nat.le_of_ble_eq_true rfl) rfl ?_
  unfold f_X4_takeTimes
  refine r_aload_n 0 0 rfl rfl 1 rfl dX4_takeTimes_0 ?_
  refine r_ldc (v := 1000000) w_X4_takeTimes_0 3 rfl dX4_takeTimes_1 ?_
  refine r_put (h0 0 (Nat.le_of_ble_eq_true rfl)) rfl (Nat.le_of_ble_eq_true rfl) rfl rfl w_X4_takeTimes_2 tyX4 tyX4_ok nmX4 (Nat.le_of_ble_eq_true rfl) rfl w_X4_takeTimes_1 rfl rfl rfl rfl rfl 6 rfl dX4_takeTimes_3 (fun d1 => ?_)
  refine r_iconst 0 rfl 7 rfl dX4_takeTimes_6 ?_
  refine r_istore_n 2 rfl [(2, .int 0), (0, .ref (E.2.1 + o0)), (1, .int x1)] (Nat.le_of_ble_eq_true rfl) rfl 8 rfl dX4_takeTimes_7 ?_
  refine r_sub [1, 2, 0] rfl ?_
  refine g_X4_takeTimes_L8 h0 (fun d7 => ?_) z_N 0 d1
  exact r_return rfl rfl (Nat.le_of_ble_eq_true rfl) (Nat.le_of_ble_eq_true rfl) dX4_takeTimes_58
def Y_X4_judge : z_Y := (RX4, cX4_judge, 3, wsX4_judge, none, { frames := 1, cells := 0, slots := 0, locals := 21 }, 0, 0)
theorem ok_X4_judge : z_Ok yX4_judge Y_X4_judge 0 := ⟨⟨_, rfl⟩, rfl, rfl, rfl, by decide +kernel, by decide +kernel⟩
theorem w_X4_judge_0 : Cond.fieldLink RX4 12 "BunchTimes$Stage" "course" "LBunchTimes$Course;" ∈ wsX4_judge := by decide +kernel
theorem w_X4_judge_1 : ∀ w ∈ u_ws RX4 TX4 20, w ∈ wsX4_judge := by decide +kernel
theorem w_X4_judge_2 : ∀ w ∈ u_ws RX1 TX1 7, w ∈ wsX4_judge := by decide +kernel
theorem w_X4_judge_3 : Cond.fieldLink RX4 88 "BunchTimes$Stage" "best" "I" ∈ wsX4_judge := by decide +kernel
theorem w_X4_judge_4 : Cond.methodLink RX4 142 Lib.Math.max.name ∈ wsX4_judge := by decide +kernel
theorem w_X4_judge_5 : Cond.static Lib.Math.max.name ∈ wsX4_judge := by decide +kernel
theorem w_X4_judge_6 : Cond.initialized "java/lang/Math" ∈ wsX4_judge := by decide +kernel
theorem w_X4_judge_7 : Cond.code Lib.Math.max.name Lib.Math.max.code 2 (some .int) ∈ wsX4_judge := by decide +kernel
theorem w_X4_judge_8 : Cond.fieldLink RX4 91 "BunchTimes$Stage" "speed" "I" ∈ wsX4_judge := by decide +kernel
theorem w_X4_judge_9 : Cond.methodLink RX4 130 Lib.Math.min.name ∈ wsX4_judge := by decide +kernel
theorem w_X4_judge_10 : Cond.static Lib.Math.min.name ∈ wsX4_judge := by decide +kernel
theorem w_X4_judge_11 : Cond.code Lib.Math.min.name Lib.Math.min.code 2 (some .int) ∈ wsX4_judge := by decide +kernel
theorem w_X4_judge_12 : Cond.fieldLink RX4 145 "BunchTimes$Stage" "LIMIT_HUNDREDTHS" "[I" ∈ wsX4_judge := by decide +kernel
theorem w_X4_judge_13 : Cond.fieldLink RX4 94 "BunchTimes$Stage" "limit" "I" ∈ wsX4_judge := by decide +kernel
theorem w_X4_judge_14 : Cond.fieldLink RX4 97 "BunchTimes$Stage" "lateOnes" "I" ∈ wsX4_judge := by decide +kernel
theorem w_X4_judge_15 : Cond.fieldLink RX4 57 "BunchTimes$Stage" "late" "[Z" ∈ wsX4_judge := by decide +kernel
theorem w_X4_judge_16 : Cond.fieldLink RX4 25 "BunchTimes$Stage" "finish" "[I" ∈ wsX4_judge := by decide +kernel
theorem w_X4_judge_17 : Cond.fieldLink RX4 54 "BunchTimes$Stage" "time" "[I" ∈ wsX4_judge := by decide +kernel
theorem w_X4_judge_18 : Cond.fieldLink RX4 38 "BunchTimes$Stage" "graced" "[Z" ∈ wsX4_judge := by decide +kernel
theorem w_X4_judge_19 : Cond.fieldLink RX4 68 "BunchTimes$Stage" "finishers" "I" ∈ wsX4_judge := by decide +kernel
theorem w_X4_judge_20 : Cond.fieldLink RX4 100 "BunchTimes$Stage" "pardoned" "Z" ∈ wsX4_judge := by decide +kernel
def f_X4_judge_L80_b (o0 : Nat) (K : z_D → Option z_D) (R : Int32 → z_D → Option z_D) (x2 : Int32) (d : z_D) : Option z_D := (if 16 ≤ x2 then (K d) else z_ald d (o0 + 10) 16 x2 (fun v7 => z_let (fun x_127 : Int32 => z_ast d (o0 + 20) 16 x2 (x_127 &&& 1) (fun d8 => z_ald d8 (o0 + 20) 16 x2 (fun v9 => (if v9 = 0 then (R (x2 + 1) d8) else z_put d8 o0 18 ((d8 o0 18) + 1) (fun d10 => (R (x2 + 1) d10)))))) (fun J127 => z_let (fun x_126 : Unit => (J127 0)) (fun J126 => (if v7 = 0 then (J126 ()) else z_ald d (o0 + 19) 16 x2 (fun v11 => (if v11 ≤ (d o0 17) then (J126 ()) else z_ald d (o0 + 14) 16 x2 (fun v12 => (if v12 = 0 then (J127 1) else (J126 ()))))))))))
def f_X4_judge_L80 (o0 : Nat) (K : z_D → Option z_D) : Nat → Int32 → z_D → Option z_D
  | 0 => fun _ _ => none
  | n + 1 => f_X4_judge_L80_b o0 K (f_X4_judge_L80 o0 K n)
set_option maxHeartbeats 4000000 in
set_option maxRecDepth 100000 in
theorem g_X4_judge_L80 {E : z_E} {l : Launch} {S : z_S} {o0 : Nat} {K : z_D → Option z_D} (h0 : A_Stage S o0) (hK : ∀ (d9 : z_D), z_G E l Y_X4_judge (cvV S) (K d9) 153 [(0, .ref (E.2.1 + o0))] [] (S, d9) 0 0) : ∀ (n : Nat) (x2 : Int32) (d : z_D), z_G E l Y_X4_judge (cvV S) (f_X4_judge_L80 o0 K n x2 d) 80 [(0, .ref (E.2.1 + o0)), (2, .int x2)] [] (S, d) 0 0 := by
  intro n
  induction n with
  | zero => intro _ _; exact r_none
  | succ n ih =>
    intro x2 d
    show z_G E l Y_X4_judge (cvV S) (f_X4_judge_L80_b o0 K (f_X4_judge_L80 o0 K n) x2 d) 80 [(0, .ref (E.2.1 + o0)), (2, .int x2)] [] (S, d) 0 0
    unfold f_X4_judge_L80_b
    refine r_iload_n 2 1 rfl rfl 81 rfl dX4_judge_80 ?_
    refine r_bipush 16 rfl 83 rfl dX4_judge_81 ?_
    refine r_icmp_ge 153 86 rfl rfl dX4_judge_83 ?_ ?_
    · refine r_sub [0] rfl ?_
      exact hK d
    · refine r_aload_n 0 0 rfl rfl 87 rfl dX4_judge_86 ?_
      refine r_get (h0 0 (Nat.le_of_ble_eq_true rfl)) rfl (Nat.le_of_ble_eq_true rfl) rfl rfl w_X4_judge_1 13 (Nat.le_of_ble_eq_true rfl) rfl w_X4_judge_15 (.ref (E.2.1 + (o0 + 20))) rfl 90 rfl dX4_judge_87 ?_
      refine r_iload_n 2 1 rfl rfl 91 rfl dX4_judge_90 ?_
      refine r_aload_n 0 0 rfl rfl 92 rfl dX4_judge_91 ?_
      refine r_get (h0 0 (Nat.le_of_ble_eq_true rfl)) rfl (Nat.le_of_ble_eq_true rfl) rfl rfl w_X4_judge_1 2 (Nat.le_of_ble_eq_true rfl) rfl w_X4_judge_16 (.ref (E.2.1 + (o0 + 10))) rfl 95 rfl dX4_judge_92 ?_
      refine r_iload_n 2 1 rfl rfl 96 rfl dX4_judge_95 ?_
      refine r_iald (h0 10 (Nat.le_of_ble_eq_true rfl)) rfl rfl 97 rfl dX4_judge_96 (fun v7 => ?_)
      refine r_let 127 (f := fun x_127 : Int32 => [(0, .ref (E.2.1 + o0)), (2, .int x2)]) (g := fun x_127 : Int32 => [.int x_127, .int x2, .ref (E.2.1 + (o0 + 20))]) (ww := fun x_127 : Int32 => (S, d)) (fun x_127 => ?_) (fun J127 hJ127 => ?_)
      · refine r_zast (h0 20 (Nat.le_of_ble_eq_true rfl)) rfl rfl 128 rfl dX4_judge_127 (fun d8 => ?_)
        refine r_aload_n 0 0 rfl rfl 129 rfl dX4_judge_128 ?_
        refine r_get (h0 0 (Nat.le_of_ble_eq_true rfl)) rfl (Nat.le_of_ble_eq_true rfl) rfl rfl w_X4_judge_1 13 (Nat.le_of_ble_eq_true rfl) rfl w_X4_judge_15 (.ref (E.2.1 + (o0 + 20))) rfl 132 rfl dX4_judge_129 ?_
        refine r_iload_n 2 1 rfl rfl 133 rfl dX4_judge_132 ?_
        refine r_zald (h0 20 (Nat.le_of_ble_eq_true rfl)) rfl rfl 134 rfl dX4_judge_133 (fun v9 => ?_)
        refine r_if_eq 147 137 rfl rfl dX4_judge_134 ?_ ?_
        · refine r_iinc (x2 + 1) 1 rfl rfl [(2, .int (x2 + 1)), (0, .ref (E.2.1 + o0))] (Nat.le_of_ble_eq_true rfl) rfl 150 rfl dX4_judge_147 ?_
          refine r_goto 80 rfl dX4_judge_150 ?_
          refine r_sub [1, 0] rfl ?_
          exact ih (x2 + 1) d8
        · refine r_aload_n 0 0 rfl rfl 138 rfl dX4_judge_137 ?_
          refine r_dup rfl 139 rfl dX4_judge_138 ?_
          refine r_get (h0 0 (Nat.le_of_ble_eq_true rfl)) rfl (Nat.le_of_ble_eq_true rfl) rfl rfl w_X4_judge_1 18 (Nat.le_of_ble_eq_true rfl) rfl w_X4_judge_14 (.int (d8 o0 18)) rfl 142 rfl dX4_judge_139 ?_
          refine r_iconst 1 rfl 143 rfl dX4_judge_142 ?_
          refine r_iadd 144 rfl dX4_judge_143 ?_
          refine r_put (h0 0 (Nat.le_of_ble_eq_true rfl)) rfl (Nat.le_of_ble_eq_true rfl) rfl rfl w_X4_judge_1 tyX4 tyX4_ok nmX4 (Nat.le_of_ble_eq_true rfl) rfl w_X4_judge_14 rfl rfl rfl rfl rfl 147 rfl dX4_judge_144 (fun d10 => ?_)
          refine r_iinc (x2 + 1) 1 rfl rfl [(2, .int (x2 + 1)), (0, .ref (E.2.1 + o0))] (Nat.le_of_ble_eq_true rfl) rfl 150 rfl dX4_judge_147 ?_
          refine r_goto 80 rfl dX4_judge_150 ?_
          refine r_sub [1, 0] rfl ?_
          exact ih (x2 + 1) d10
      refine r_let 126 (f := fun x_126 : Unit => [(0, .ref (E.2.1 + o0)), (2, .int x2)]) (g := fun x_126 : Unit => [.int x2, .ref (E.2.1 + (o0 + 20))]) (ww := fun x_126 : Unit => (S, d)) (fun x_126 => ?_) (fun J126 hJ126 => ?_)
      · refine r_iconst 0 rfl 127 rfl dX4_judge_126 ?_
        refine r_sub [0, 1] rfl ?_
        exact hJ127 0
      refine r_if_eq 126 100 rfl rfl dX4_judge_97 ?_ ?_
      · refine r_sub [0, 1] rfl ?_
        exact hJ126 ()
      · refine r_aload_n 0 0 rfl rfl 101 rfl dX4_judge_100 ?_
        refine r_get (h0 0 (Nat.le_of_ble_eq_true rfl)) rfl (Nat.le_of_ble_eq_true rfl) rfl rfl w_X4_judge_1 12 (Nat.le_of_ble_eq_true rfl) rfl w_X4_judge_17 (.ref (E.2.1 + (o0 + 19))) rfl 104 rfl dX4_judge_101 ?_
        refine r_iload_n 2 1 rfl rfl 105 rfl dX4_judge_104 ?_
        refine r_iald (h0 19 (Nat.le_of_ble_eq_true rfl)) rfl rfl 106 rfl dX4_judge_105 (fun v11 => ?_)
        refine r_aload_n 0 0 rfl rfl 107 rfl dX4_judge_106 ?_
        refine r_get (h0 0 (Nat.le_of_ble_eq_true rfl)) rfl (Nat.le_of_ble_eq_true rfl) rfl rfl w_X4_judge_1 17 (Nat.le_of_ble_eq_true rfl) rfl w_X4_judge_13 (.int (d o0 17)) rfl 110 rfl dX4_judge_107 ?_
        refine r_icmp_le 126 113 rfl rfl dX4_judge_110 ?_ ?_
        · refine r_sub [0, 1] rfl ?_
          exact hJ126 ()
        · refine r_aload_n 0 0 rfl rfl 114 rfl dX4_judge_113 ?_
          refine r_get (h0 0 (Nat.le_of_ble_eq_true rfl)) rfl (Nat.le_of_ble_eq_true rfl) rfl rfl w_X4_judge_1 6 (Nat.le_of_ble_eq_true rfl) rfl w_X4_judge_18 (.ref (E.2.1 + (o0 + 14))) rfl 117 rfl dX4_judge_114 ?_
          refine r_iload_n 2 1 rfl rfl 118 rfl dX4_judge_117 ?_
          refine r_zald (h0 14 (Nat.le_of_ble_eq_true rfl)) rfl rfl 119 rfl dX4_judge_118 (fun v12 => ?_)
          refine r_if_ne 126 122 rfl rfl dX4_judge_119 ?_ ?_
          · refine r_sub [0, 1] rfl ?_
            exact hJ126 ()
          · refine r_iconst 1 rfl 123 rfl dX4_judge_122 ?_
            refine r_goto 127 rfl dX4_judge_123 ?_
            refine r_sub [0, 1] rfl ?_
            exact hJ127 1
def f_X4_judge (d : z_D) (o0 : Nat) : Option z_D := z_div ((d (o0 + 1) 1) * 3600) (if (d o0 15) < 1 then 1 else (d o0 15)) (fun v1 => z_put d o0 16 v1 (fun d2 => z_nam (if 10 < (if (((d2 o0 16) - 38) / 2) < 0 then 0 else (((d2 o0 16) - 38) / 2)) then 10 else (if (((d2 o0 16) - 38) / 2) < 0 then 0 else (((d2 o0 16) - 38) / 2))) (fun v3 => z_tab [7, 10, 15, 30] (d2 (o0 + 1) 0) (fun v4 => z_put d2 o0 17 ((d2 o0 15) + (((d2 o0 15) * (v4 + v3)) / 100)) (fun d5 => z_put d5 o0 18 0 (fun d6 => (f_X4_judge_L80 o0 (fun d13 => (if ((d13 o0 18) * 5) ≤ (d13 o0 7) then z_put d13 o0 19 0 (fun d14 => (some d14)) else z_put d13 o0 19 1 (fun d15 => (some d15)))) z_N 0 d6)))))))
set_option maxHeartbeats 4000000 in
set_option maxRecDepth 100000 in
theorem c_X4_judge {E : z_E} {l : Launch} {S : z_S} (d : z_D) (o0 : Nat) (h0 : A_Stage S o0) : z_Sp E l yX4_judge Y_X4_judge (cvV S) [.ref (E.2.1 + o0)] (S, d) (f_X4_judge d o0) := by
  refine z_entry (lv := [(0, .ref (E.2.1 + o0))]) (by decide) rfl rfl (Nat.le_of_ble_eq_true rfl) rfl ?_
  unfold f_X4_judge
  refine r_aload_n 0 0 rfl rfl 1 rfl dX4_judge_0 ?_
  refine r_aload_n 0 0 rfl rfl 2 rfl dX4_judge_1 ?_
  refine r_get (h0 0 (Nat.le_of_ble_eq_true rfl)) rfl (Nat.le_of_ble_eq_true rfl) rfl rfl w_X4_judge_1 0 (Nat.le_of_ble_eq_true rfl) rfl w_X4_judge_0 (.ref (E.2.1 + (o0 + 1))) rfl 5 rfl dX4_judge_2 ?_
  refine r_getN 1 2 rfl ((A_Stage.course h0) 0 (Nat.le_of_ble_eq_true rfl)) rfl (Nat.le_of_ble_eq_true rfl) rfl rfl w_X4_judge_2 (Nat.le_of_ble_eq_true rfl) rfl (.int (d (o0 + 1) 1)) rfl 8 rfl dX4_judge_5 ?_
  refine r_sipush 3600 rfl 11 rfl dX4_judge_8 ?_
  refine r_imul 12 rfl dX4_judge_11 ?_
  refine r_aload_n 0 0 rfl rfl 13 rfl dX4_judge_12 ?_
  refine r_get (h0 0 (Nat.le_of_ble_eq_true rfl)) rfl (Nat.le_of_ble_eq_true rfl) rfl rfl w_X4_judge_1 15 (Nat.le_of_ble_eq_true rfl) rfl w_X4_judge_3 (.int (d o0 15)) rfl 16 rfl dX4_judge_13 ?_
  refine r_iconst 1 rfl 17 rfl dX4_judge_16 ?_
  refine r_mmax w_X4_judge_4 w_X4_judge_5 w_X4_judge_6 w_X4_judge_7 (Nat.le_of_ble_eq_true rfl) (Nat.le_of_ble_eq_true rfl) (Nat.le_of_ble_eq_true rfl) (Nat.le_of_ble_eq_true rfl) 20 rfl dX4_judge_17 ?_
  refine r_div 21 rfl dX4_judge_20 (fun v1 => ?_)
  refine r_put (h0 0 (Nat.le_of_ble_eq_true rfl)) rfl (Nat.le_of_ble_eq_true rfl) rfl rfl w_X4_judge_1 tyX4 tyX4_ok nmX4 (Nat.le_of_ble_eq_true rfl) rfl w_X4_judge_8 rfl rfl rfl rfl rfl 24 rfl dX4_judge_21 (fun d2 => ?_)
  refine r_aload_n 0 0 rfl rfl 25 rfl dX4_judge_24 ?_
  refine r_get (h0 0 (Nat.le_of_ble_eq_true rfl)) rfl (Nat.le_of_ble_eq_true rfl) rfl rfl w_X4_judge_1 16 (Nat.le_of_ble_eq_true rfl) rfl w_X4_judge_8 (.int (d2 o0 16)) rfl 28 rfl dX4_judge_25 ?_
  refine r_bipush 38 rfl 30 rfl dX4_judge_28 ?_
  refine r_isub 31 rfl dX4_judge_30 ?_
  refine r_iconst 2 rfl 32 rfl dX4_judge_31 ?_
  refine r_divc (by decide) 33 rfl dX4_judge_32 ?_
  refine r_iconst 0 rfl 34 rfl dX4_judge_33 ?_
  refine r_mmax w_X4_judge_4 w_X4_judge_5 w_X4_judge_6 w_X4_judge_7 (Nat.le_of_ble_eq_true rfl) (Nat.le_of_ble_eq_true rfl) (Nat.le_of_ble_eq_true rfl) (Nat.le_of_ble_eq_true rfl) 37 rfl dX4_judge_34 ?_
  refine r_bipush 10 rfl 39 rfl dX4_judge_37 ?_
  refine r_mmin w_X4_judge_9 w_X4_judge_10 w_X4_judge_6 w_X4_judge_11 (Nat.le_of_ble_eq_true rfl) (Nat.le_of_ble_eq_true rfl) (Nat.le_of_ble_eq_true rfl) (Nat.le_of_ble_eq_true rfl) 42 rfl dX4_judge_39 ?_
  refine r_nami (fun v3 => ?_)
  refine r_istore_n 1 rfl [(1, .int v3), (0, .ref (E.2.1 + o0))] (Nat.le_of_ble_eq_true rfl) rfl 43 rfl dX4_judge_42 ?_
  refine r_aload_n 0 1 rfl rfl 44 rfl dX4_judge_43 ?_
  refine r_aload_n 0 1 rfl rfl 45 rfl dX4_judge_44 ?_
  refine r_get (h0 0 (Nat.le_of_ble_eq_true rfl)) rfl (Nat.le_of_ble_eq_true rfl) rfl rfl w_X4_judge_1 15 (Nat.le_of_ble_eq_true rfl) rfl w_X4_judge_3 (.int (d2 o0 15)) rfl 48 rfl dX4_judge_45 ?_
  refine r_aload_n 0 1 rfl rfl 49 rfl dX4_judge_48 ?_
  refine r_get (h0 0 (Nat.le_of_ble_eq_true rfl)) rfl (Nat.le_of_ble_eq_true rfl) rfl rfl w_X4_judge_1 15 (Nat.le_of_ble_eq_true rfl) rfl w_X4_judge_3 (.int (d2 o0 15)) rfl 52 rfl dX4_judge_49 ?_
  refine r_gets 0 rfl w_X4_judge_12 55 rfl dX4_judge_52 ?_
  refine r_aload_n 0 1 rfl rfl 56 rfl dX4_judge_55 ?_
  refine r_get (h0 0 (Nat.le_of_ble_eq_true rfl)) rfl (Nat.le_of_ble_eq_true rfl) rfl rfl w_X4_judge_1 0 (Nat.le_of_ble_eq_true rfl) rfl w_X4_judge_0 (.ref (E.2.1 + (o0 + 1))) rfl 59 rfl dX4_judge_56 ?_
  refine r_getN 0 1 rfl ((A_Stage.course h0) 0 (Nat.le_of_ble_eq_true rfl)) rfl (Nat.le_of_ble_eq_true rfl) rfl rfl w_X4_judge_2 (Nat.le_of_ble_eq_true rfl) rfl (.int (d2 (o0 + 1) 0)) rfl 62 rfl dX4_judge_59 ?_
  refine r_tald 0 rfl rfl 63 rfl dX4_judge_62 (fun v4 => ?_)
  refine r_iload_n 1 0 rfl rfl 64 rfl dX4_judge_63 ?_
  refine r_iadd 65 rfl dX4_judge_64 ?_
  refine r_imul 66 rfl dX4_judge_65 ?_
  refine r_bipush 100 rfl 68 rfl dX4_judge_66 ?_
  refine r_divc (by decide) 69 rfl dX4_judge_68 ?_
  refine r_iadd 70 rfl dX4_judge_69 ?_
  refine r_put (h0 0 (Nat.le_of_ble_eq_true rfl)) rfl (Nat.le_of_ble_eq_true rfl) rfl rfl w_X4_judge_1 tyX4 tyX4_ok nmX4 (Nat.le_of_ble_eq_true rfl) rfl w_X4_judge_13 rfl rfl rfl rfl rfl 73 rfl dX4_judge_70 (fun d5 => ?_)
  refine r_aload_n 0 1 rfl rfl 74 rfl dX4_judge_73 ?_
  refine r_iconst 0 rfl 75 rfl dX4_judge_74 ?_
  refine r_put (h0 0 (Nat.le_of_ble_eq_true rfl)) rfl (Nat.le_of_ble_eq_true rfl) rfl rfl w_X4_judge_1 tyX4 tyX4_ok nmX4 (Nat.le_of_ble_eq_true rfl) rfl w_X4_judge_14 rfl rfl rfl rfl rfl 78 rfl dX4_judge_75 (fun d6 => ?_)
  refine r_iconst 0 rfl 79 rfl dX4_judge_78 ?_
  refine r_istore_n 2 rfl [(2, .int 0), (1, .int v3), (0, .ref (E.2.1 + o0))] (Nat.le_of_ble_eq_true rfl) rfl 80 rfl dX4_judge_79 ?_
  refine r_sub [2, 0] rfl ?_
  refine g_X4_judge_L80 h0 (fun d13 => ?_) z_N 0 d6
  refine r_aload_n 0 0 rfl rfl 154 rfl dX4_judge_153 ?_
  refine r_aload_n 0 0 rfl rfl 155 rfl dX4_judge_154 ?_
  refine r_get (h0 0 (Nat.le_of_ble_eq_true rfl)) rfl (Nat.le_of_ble_eq_true rfl) rfl rfl w_X4_judge_1 18 (Nat.le_of_ble_eq_true rfl) rfl w_X4_judge_14 (.int (d13 o0 18)) rfl 158 rfl dX4_judge_155 ?_
  refine r_iconst 5 rfl 159 rfl dX4_judge_158 ?_
  refine r_imul 160 rfl dX4_judge_159 ?_
  refine r_aload_n 0 0 rfl rfl 161 rfl dX4_judge_160 ?_
  refine r_get (h0 0 (Nat.le_of_ble_eq_true rfl)) rfl (Nat.le_of_ble_eq_true rfl) rfl rfl w_X4_judge_1 7 (Nat.le_of_ble_eq_true rfl) rfl w_X4_judge_19 (.int (d13 o0 7)) rfl 164 rfl dX4_judge_161 ?_
  refine r_icmp_le 171 167 rfl rfl dX4_judge_164 ?_ ?_
  · refine r_iconst 0 rfl 172 rfl dX4_judge_171 ?_
    refine r_put (h0 0 (Nat.le_of_ble_eq_true rfl)) rfl (Nat.le_of_ble_eq_true rfl) rfl rfl w_X4_judge_1 tyX4 tyX4_ok nmX4 (Nat.le_of_ble_eq_true rfl) rfl w_X4_judge_20 rfl rfl rfl rfl rfl 175 rfl dX4_judge_172 (fun d14 => ?_)
    exact r_return rfl rfl (Nat.le_of_ble_eq_true rfl) (Nat.le_of_ble_eq_true rfl) dX4_judge_175
  · refine r_iconst 1 rfl 168 rfl dX4_judge_167 ?_
    refine r_goto 172 rfl dX4_judge_168 ?_
    refine r_put (h0 0 (Nat.le_of_ble_eq_true rfl)) rfl (Nat.le_of_ble_eq_true rfl) rfl rfl w_X4_judge_1 tyX4 tyX4_ok nmX4 (Nat.le_of_ble_eq_true rfl) rfl w_X4_judge_20 rfl rfl rfl rfl rfl 175 rfl dX4_judge_172 (fun d15 => ?_)
    exact r_return rfl rfl (Nat.le_of_ble_eq_true rfl) (Nat.le_of_ble_eq_true rfl) dX4_judge_175
def Y_X4_sendsOut : z_Y := (RX4, cX4_sendsOut, 2, wsX4_sendsOut, (some .boolean), { frames := 0, cells := 0, slots := 0, locals := 0 }, 0, 0)
theorem ok_X4_sendsOut : z_Ok yX4_sendsOut Y_X4_sendsOut 1 := ⟨⟨_, rfl⟩, rfl, rfl, rfl, by decide +kernel, by decide +kernel⟩
theorem w_X4_sendsOut_0 : Cond.fieldLink RX4 25 "BunchTimes$Stage" "finish" "[I" ∈ wsX4_sendsOut := by decide +kernel
theorem w_X4_sendsOut_1 : ∀ w ∈ u_ws RX4 TX4 20, w ∈ wsX4_sendsOut := by decide +kernel
theorem w_X4_sendsOut_2 : Cond.fieldLink RX4 57 "BunchTimes$Stage" "late" "[Z" ∈ wsX4_sendsOut := by decide +kernel
theorem w_X4_sendsOut_3 : Cond.fieldLink RX4 100 "BunchTimes$Stage" "pardoned" "Z" ∈ wsX4_sendsOut := by decide +kernel
def f_X4_sendsOut (d : z_D) (o0 : Nat) (x1 : Int32) : Option Int32 := z_ald d (o0 + 10) 16 x1 (fun v1 => (if v1 = 0 then (some 1) else z_ald d (o0 + 20) 16 x1 (fun v2 => (if v2 = 0 then (some 0) else (if (d o0 19) = 0 then (some 1) else (some 0))))))
set_option maxHeartbeats 4000000 in
set_option maxRecDepth 100000 in
theorem c_X4_sendsOut {E : z_E} {l : Launch} {S : z_S} (d : z_D) (o0 : Nat) (h0 : A_Stage S o0) (x1 : Int32) : z_Sp E l yX4_sendsOut Y_X4_sendsOut (cvI S d) [.ref (E.2.1 + o0), .int x1] (S, d) (f_X4_sendsOut d o0 x1) := by
  refine z_entry (lv := [(0, .ref (E.2.1 + o0)), (1, .int x1)]) (by decide) rfl rfl (Nat.le_of_ble_eq_true rfl) rfl ?_
  unfold f_X4_sendsOut
  refine r_aload_n 0 0 rfl rfl 1 rfl dX4_sendsOut_0 ?_
  refine r_get (h0 0 (Nat.le_of_ble_eq_true rfl)) rfl (Nat.le_of_ble_eq_true rfl) rfl rfl w_X4_sendsOut_1 2 (Nat.le_of_ble_eq_true rfl) rfl w_X4_sendsOut_0 (.ref (E.2.1 + (o0 + 10))) rfl 4 rfl dX4_sendsOut_1 ?_
  refine r_iload_n 1 1 rfl rfl 5 rfl dX4_sendsOut_4 ?_
  refine r_iald (h0 10 (Nat.le_of_ble_eq_true rfl)) rfl rfl 6 rfl dX4_sendsOut_5 (fun v1 => ?_)
  refine r_if_eq 25 9 rfl rfl dX4_sendsOut_6 ?_ ?_
  · refine r_iconst 1 rfl 26 rfl dX4_sendsOut_25 ?_
    refine r_goto 30 rfl dX4_sendsOut_26 ?_
    exact r_zreturnc (by decide) rfl rfl (Nat.le_of_ble_eq_true rfl) (Nat.le_of_ble_eq_true rfl) dX4_sendsOut_30
  · refine r_aload_n 0 0 rfl rfl 10 rfl dX4_sendsOut_9 ?_
    refine r_get (h0 0 (Nat.le_of_ble_eq_true rfl)) rfl (Nat.le_of_ble_eq_true rfl) rfl rfl w_X4_sendsOut_1 13 (Nat.le_of_ble_eq_true rfl) rfl w_X4_sendsOut_2 (.ref (E.2.1 + (o0 + 20))) rfl 13 rfl dX4_sendsOut_10 ?_
    refine r_iload_n 1 1 rfl rfl 14 rfl dX4_sendsOut_13 ?_
    refine r_zald (h0 20 (Nat.le_of_ble_eq_true rfl)) rfl rfl 15 rfl dX4_sendsOut_14 (fun v2 => ?_)
    refine r_if_eq 29 18 rfl rfl dX4_sendsOut_15 ?_ ?_
    · refine r_iconst 0 rfl 30 rfl dX4_sendsOut_29 ?_
      exact r_zreturnc (by decide) rfl rfl (Nat.le_of_ble_eq_true rfl) (Nat.le_of_ble_eq_true rfl) dX4_sendsOut_30
    · refine r_aload_n 0 0 rfl rfl 19 rfl dX4_sendsOut_18 ?_
      refine r_get (h0 0 (Nat.le_of_ble_eq_true rfl)) rfl (Nat.le_of_ble_eq_true rfl) rfl rfl w_X4_sendsOut_1 19 (Nat.le_of_ble_eq_true rfl) rfl w_X4_sendsOut_3 (.int (d o0 19)) rfl 22 rfl dX4_sendsOut_19 ?_
      refine r_if_ne 29 25 rfl rfl dX4_sendsOut_22 ?_ ?_
      · refine r_iconst 0 rfl 30 rfl dX4_sendsOut_29 ?_
        exact r_zreturnc (by decide) rfl rfl (Nat.le_of_ble_eq_true rfl) (Nat.le_of_ble_eq_true rfl) dX4_sendsOut_30
      · refine r_iconst 1 rfl 26 rfl dX4_sendsOut_25 ?_
        refine r_goto 30 rfl dX4_sendsOut_26 ?_
        exact r_zreturnc (by decide) rfl rfl (Nat.le_of_ble_eq_true rfl) (Nat.le_of_ble_eq_true rfl) dX4_sendsOut_30
def Y_X4_countHelped : z_Y := (RX4, cX4_countHelped, 3, wsX4_countHelped, (some .int), { frames := 0, cells := 0, slots := 0, locals := 0 }, 0, 0)
theorem ok_X4_countHelped : z_Ok yX4_countHelped Y_X4_countHelped 0 := ⟨⟨_, rfl⟩, rfl, rfl, rfl, by decide +kernel, by decide +kernel⟩
theorem w_X4_countHelped_0 : Cond.fieldLink RX4 68 "BunchTimes$Stage" "finishers" "I" ∈ wsX4_countHelped := by decide +kernel
theorem w_X4_countHelped_1 : ∀ w ∈ u_ws RX4 TX4 20, w ∈ wsX4_countHelped := by decide +kernel
theorem w_X4_countHelped_2 : Cond.fieldLink RX4 54 "BunchTimes$Stage" "time" "[I" ∈ wsX4_countHelped := by decide +kernel
theorem w_X4_countHelped_3 : Cond.fieldLink RX4 42 "BunchTimes$Stage" "order" "[I" ∈ wsX4_countHelped := by decide +kernel
theorem w_X4_countHelped_4 : Cond.fieldLink RX4 51 "BunchTimes$Stage" "raw" "[I" ∈ wsX4_countHelped := by decide +kernel
def f_X4_countHelped_L4_b (d : z_D) (o0 : Nat) (K : Int32 → Option Int32) (R : Int32 → Int32 → Option Int32) (x1 : Int32) (x2 : Int32) : Option Int32 := (if (d o0 7) ≤ x2 then (K x1) else z_ald d (o0 + 15) 16 x2 (fun v1 => z_ald d (o0 + 19) 16 v1 (fun v2 => z_ald d (o0 + 15) 16 x2 (fun v3 => z_ald d (o0 + 18) 16 v3 (fun v4 => (if v4 ≤ v2 then (R x1 (x2 + 1)) else (R (x1 + 1) (x2 + 1))))))))
def f_X4_countHelped_L4 (d : z_D) (o0 : Nat) (K : Int32 → Option Int32) : Nat → Int32 → Int32 → Option Int32
  | 0 => fun _ _ => none
  | n + 1 => f_X4_countHelped_L4_b d o0 K (f_X4_countHelped_L4 d o0 K n)
set_option maxHeartbeats 4000000 in
set_option maxRecDepth 100000 in
theorem g_X4_countHelped_L4 {E : z_E} {l : Launch} {S : z_S} {d : z_D} {o0 : Nat} {K : Int32 → Option Int32} (h0 : A_Stage S o0) (hK : ∀ (y1 : Int32), z_G E l Y_X4_countHelped (cvI S d) (K y1) 46 [(1, .int y1)] [] (S, d) 0 0) : ∀ (n : Nat) (x1 : Int32) (x2 : Int32), z_G E l Y_X4_countHelped (cvI S d) (f_X4_countHelped_L4 d o0 K n x1 x2) 4 [(0, .ref (E.2.1 + o0)), (1, .int x1), (2, .int x2)] [] (S, d) 0 0 := by
  intro n
  induction n with
  | zero => intro _ _; exact r_none
  | succ n ih =>
    intro x1 x2
    show z_G E l Y_X4_countHelped (cvI S d) (f_X4_countHelped_L4_b d o0 K (f_X4_countHelped_L4 d o0 K n) x1 x2) 4 [(0, .ref (E.2.1 + o0)), (1, .int x1), (2, .int x2)] [] (S, d) 0 0
    unfold f_X4_countHelped_L4_b
    refine r_iload_n 2 2 rfl rfl 5 rfl dX4_countHelped_4 ?_
    refine r_aload_n 0 0 rfl rfl 6 rfl dX4_countHelped_5 ?_
    refine r_get (h0 0 (Nat.le_of_ble_eq_true rfl)) rfl (Nat.le_of_ble_eq_true rfl) rfl rfl w_X4_countHelped_1 7 (Nat.le_of_ble_eq_true rfl) rfl w_X4_countHelped_0 (.int (d o0 7)) rfl 9 rfl dX4_countHelped_6 ?_
    refine r_icmp_ge 46 12 rfl rfl dX4_countHelped_9 ?_ ?_
    · refine r_sub [1] rfl ?_
      exact hK x1
    · refine r_aload_n 0 0 rfl rfl 13 rfl dX4_countHelped_12 ?_
      refine r_get (h0 0 (Nat.le_of_ble_eq_true rfl)) rfl (Nat.le_of_ble_eq_true rfl) rfl rfl w_X4_countHelped_1 12 (Nat.le_of_ble_eq_true rfl) rfl w_X4_countHelped_2 (.ref (E.2.1 + (o0 + 19))) rfl 16 rfl dX4_countHelped_13 ?_
      refine r_aload_n 0 0 rfl rfl 17 rfl dX4_countHelped_16 ?_
      refine r_get (h0 0 (Nat.le_of_ble_eq_true rfl)) rfl (Nat.le_of_ble_eq_true rfl) rfl rfl w_X4_countHelped_1 8 (Nat.le_of_ble_eq_true rfl) rfl w_X4_countHelped_3 (.ref (E.2.1 + (o0 + 15))) rfl 20 rfl dX4_countHelped_17 ?_
      refine r_iload_n 2 2 rfl rfl 21 rfl dX4_countHelped_20 ?_
      refine r_iald (h0 15 (Nat.le_of_ble_eq_true rfl)) rfl rfl 22 rfl dX4_countHelped_21 (fun v1 => ?_)
      refine r_iald (h0 19 (Nat.le_of_ble_eq_true rfl)) rfl rfl 23 rfl dX4_countHelped_22 (fun v2 => ?_)
      refine r_aload_n 0 0 rfl rfl 24 rfl dX4_countHelped_23 ?_
      refine r_get (h0 0 (Nat.le_of_ble_eq_true rfl)) rfl (Nat.le_of_ble_eq_true rfl) rfl rfl w_X4_countHelped_1 11 (Nat.le_of_ble_eq_true rfl) rfl w_X4_countHelped_4 (.ref (E.2.1 + (o0 + 18))) rfl 27 rfl dX4_countHelped_24 ?_
      refine r_aload_n 0 0 rfl rfl 28 rfl dX4_countHelped_27 ?_
      refine r_get (h0 0 (Nat.le_of_ble_eq_true rfl)) rfl (Nat.le_of_ble_eq_true rfl) rfl rfl w_X4_countHelped_1 8 (Nat.le_of_ble_eq_true rfl) rfl w_X4_countHelped_3 (.ref (E.2.1 + (o0 + 15))) rfl 31 rfl dX4_countHelped_28 ?_
      refine r_iload_n 2 2 rfl rfl 32 rfl dX4_countHelped_31 ?_
      refine r_iald (h0 15 (Nat.le_of_ble_eq_true rfl)) rfl rfl 33 rfl dX4_countHelped_32 (fun v3 => ?_)
      refine r_iald (h0 18 (Nat.le_of_ble_eq_true rfl)) rfl rfl 34 rfl dX4_countHelped_33 (fun v4 => ?_)
      refine r_icmp_ge 40 37 rfl rfl dX4_countHelped_34 ?_ ?_
      · refine r_iinc (x2 + 1) 2 rfl rfl [(2, .int (x2 + 1)), (0, .ref (E.2.1 + o0)), (1, .int x1)] (Nat.le_of_ble_eq_true rfl) rfl 43 rfl dX4_countHelped_40 ?_
        refine r_goto 4 rfl dX4_countHelped_43 ?_
        refine r_sub [1, 2, 0] rfl ?_
        exact ih x1 (x2 + 1)
      · refine r_iinc (x1 + 1) 1 rfl rfl [(1, .int (x1 + 1)), (0, .ref (E.2.1 + o0)), (2, .int x2)] (Nat.le_of_ble_eq_true rfl) rfl 40 rfl dX4_countHelped_37 ?_
        refine r_iinc (x2 + 1) 2 rfl rfl [(2, .int (x2 + 1)), (1, .int (x1 + 1)), (0, .ref (E.2.1 + o0))] (Nat.le_of_ble_eq_true rfl) rfl 43 rfl dX4_countHelped_40 ?_
        refine r_goto 4 rfl dX4_countHelped_43 ?_
        refine r_sub [2, 1, 0] rfl ?_
        exact ih (x1 + 1) (x2 + 1)
def f_X4_countHelped (d : z_D) (o0 : Nat) : Option Int32 := (f_X4_countHelped_L4 d o0 (fun v5 => (some v5)) z_N 0 0)
set_option maxHeartbeats 4000000 in
set_option maxRecDepth 100000 in
theorem c_X4_countHelped {E : z_E} {l : Launch} {S : z_S} (d : z_D) (o0 : Nat) (h0 : A_Stage S o0) : z_Sp E l yX4_countHelped Y_X4_countHelped (cvI S d) [.ref (E.2.1 + o0)] (S, d) (f_X4_countHelped d o0) := by
  refine z_entry (lv := [(0, .ref (E.2.1 + o0))]) (by decide) rfl rfl (Nat.le_of_ble_eq_true rfl) rfl ?_
  unfold f_X4_countHelped
  refine r_iconst 0 rfl 1 rfl dX4_countHelped_0 ?_
  refine r_istore_n 1 rfl [(1, .int 0), (0, .ref (E.2.1 + o0))] (Nat.le_of_ble_eq_true rfl) rfl 2 rfl dX4_countHelped_1 ?_
  refine r_iconst 0 rfl 3 rfl dX4_countHelped_2 ?_
  refine r_istore_n 2 rfl [(2, .int 0), (1, .int 0), (0, .ref (E.2.1 + o0))] (Nat.le_of_ble_eq_true rfl) rfl 4 rfl dX4_countHelped_3 ?_
  refine r_sub [2, 1, 0] rfl ?_
  refine g_X4_countHelped_L4 h0 (fun v5 => ?_) z_N 0 0
  refine r_iload_n 1 0 rfl rfl 47 rfl dX4_countHelped_46 ?_
  exact r_ireturn rfl rfl (Nat.le_of_ble_eq_true rfl) (Nat.le_of_ble_eq_true rfl) dX4_countHelped_47
def Y_X4_sumHelped : z_Y := (RX4, cX4_sumHelped, 3, wsX4_sumHelped, (some .int), { frames := 0, cells := 0, slots := 0, locals := 0 }, 0, 0)
theorem ok_X4_sumHelped : z_Ok yX4_sumHelped Y_X4_sumHelped 0 := ⟨⟨_, rfl⟩, rfl, rfl, rfl, by decide +kernel, by decide +kernel⟩
theorem w_X4_sumHelped_0 : Cond.fieldLink RX4 68 "BunchTimes$Stage" "finishers" "I" ∈ wsX4_sumHelped := by decide +kernel
theorem w_X4_sumHelped_1 : ∀ w ∈ u_ws RX4 TX4 20, w ∈ wsX4_sumHelped := by decide +kernel
theorem w_X4_sumHelped_2 : Cond.fieldLink RX4 51 "BunchTimes$Stage" "raw" "[I" ∈ wsX4_sumHelped := by decide +kernel
theorem w_X4_sumHelped_3 : Cond.fieldLink RX4 42 "BunchTimes$Stage" "order" "[I" ∈ wsX4_sumHelped := by decide +kernel
theorem w_X4_sumHelped_4 : Cond.fieldLink RX4 54 "BunchTimes$Stage" "time" "[I" ∈ wsX4_sumHelped := by decide +kernel
def f_X4_sumHelped_L4_b (d : z_D) (o0 : Nat) (K : Int32 → Option Int32) (R : Int32 → Int32 → Option Int32) (x1 : Int32) (x2 : Int32) : Option Int32 := (if (d o0 7) ≤ x2 then (K x1) else z_ald d (o0 + 15) 16 x2 (fun v1 => z_ald d (o0 + 18) 16 v1 (fun v2 => z_ald d (o0 + 15) 16 x2 (fun v3 => z_ald d (o0 + 19) 16 v3 (fun v4 => z_nam (x1 + (v2 - v4)) (fun v5 => (R v5 (x2 + 1))))))))
def f_X4_sumHelped_L4 (d : z_D) (o0 : Nat) (K : Int32 → Option Int32) : Nat → Int32 → Int32 → Option Int32
  | 0 => fun _ _ => none
  | n + 1 => f_X4_sumHelped_L4_b d o0 K (f_X4_sumHelped_L4 d o0 K n)
set_option maxHeartbeats 4000000 in
set_option maxRecDepth 100000 in
theorem g_X4_sumHelped_L4 {E : z_E} {l : Launch} {S : z_S} {d : z_D} {o0 : Nat} {K : Int32 → Option Int32} (h0 : A_Stage S o0) (hK : ∀ (y1 : Int32), z_G E l Y_X4_sumHelped (cvI S d) (K y1) 44 [(1, .int y1)] [] (S, d) 0 0) : ∀ (n : Nat) (x1 : Int32) (x2 : Int32), z_G E l Y_X4_sumHelped (cvI S d) (f_X4_sumHelped_L4 d o0 K n x1 x2) 4 [(0, .ref (E.2.1 + o0)), (1, .int x1), (2, .int x2)] [] (S, d) 0 0 := by
  intro n
  induction n with
  | zero => intro _ _; exact r_none
  | succ n ih =>
    intro x1 x2
    show z_G E l Y_X4_sumHelped (cvI S d) (f_X4_sumHelped_L4_b d o0 K (f_X4_sumHelped_L4 d o0 K n) x1 x2) 4 [(0, .ref (E.2.1 + o0)), (1, .int x1), (2, .int x2)] [] (S, d) 0 0
    unfold f_X4_sumHelped_L4_b
    refine r_iload_n 2 2 rfl rfl 5 rfl dX4_sumHelped_4 ?_
    refine r_aload_n 0 0 rfl rfl 6 rfl dX4_sumHelped_5 ?_
    refine r_get (h0 0 (Nat.le_of_ble_eq_true rfl)) rfl (Nat.le_of_ble_eq_true rfl) rfl rfl w_X4_sumHelped_1 7 (Nat.le_of_ble_eq_true rfl) rfl w_X4_sumHelped_0 (.int (d o0 7)) rfl 9 rfl dX4_sumHelped_6 ?_
    refine r_icmp_ge 44 12 rfl rfl dX4_sumHelped_9 ?_ ?_
    · refine r_sub [1] rfl ?_
      exact hK x1
    · refine r_iload_n 1 1 rfl rfl 13 rfl dX4_sumHelped_12 ?_
      refine r_aload_n 0 0 rfl rfl 14 rfl dX4_sumHelped_13 ?_
      refine r_get (h0 0 (Nat.le_of_ble_eq_true rfl)) rfl (Nat.le_of_ble_eq_true rfl) rfl rfl w_X4_sumHelped_1 11 (Nat.le_of_ble_eq_true rfl) rfl w_X4_sumHelped_2 (.ref (E.2.1 + (o0 + 18))) rfl 17 rfl dX4_sumHelped_14 ?_
      refine r_aload_n 0 0 rfl rfl 18 rfl dX4_sumHelped_17 ?_
      refine r_get (h0 0 (Nat.le_of_ble_eq_true rfl)) rfl (Nat.le_of_ble_eq_true rfl) rfl rfl w_X4_sumHelped_1 8 (Nat.le_of_ble_eq_true rfl) rfl w_X4_sumHelped_3 (.ref (E.2.1 + (o0 + 15))) rfl 21 rfl dX4_sumHelped_18 ?_
      refine r_iload_n 2 2 rfl rfl 22 rfl dX4_sumHelped_21 ?_
      refine r_iald (h0 15 (Nat.le_of_ble_eq_true rfl)) rfl rfl 23 rfl dX4_sumHelped_22 (fun v1 => ?_)
      refine r_iald (h0 18 (Nat.le_of_ble_eq_true rfl)) rfl rfl 24 rfl dX4_sumHelped_23 (fun v2 => ?_)
      refine r_aload_n 0 0 rfl rfl 25 rfl dX4_sumHelped_24 ?_
      refine r_get (h0 0 (Nat.le_of_ble_eq_true rfl)) rfl (Nat.le_of_ble_eq_true rfl) rfl rfl w_X4_sumHelped_1 12 (Nat.le_of_ble_eq_true rfl) rfl w_X4_sumHelped_4 (.ref (E.2.1 + (o0 + 19))) rfl 28 rfl dX4_sumHelped_25 ?_
      refine r_aload_n 0 0 rfl rfl 29 rfl dX4_sumHelped_28 ?_
      refine r_get (h0 0 (Nat.le_of_ble_eq_true rfl)) rfl (Nat.le_of_ble_eq_true rfl) rfl rfl w_X4_sumHelped_1 8 (Nat.le_of_ble_eq_true rfl) rfl w_X4_sumHelped_3 (.ref (E.2.1 + (o0 + 15))) rfl 32 rfl dX4_sumHelped_29 ?_
      refine r_iload_n 2 2 rfl rfl 33 rfl dX4_sumHelped_32 ?_
      refine r_iald (h0 15 (Nat.le_of_ble_eq_true rfl)) rfl rfl 34 rfl dX4_sumHelped_33 (fun v3 => ?_)
      refine r_iald (h0 19 (Nat.le_of_ble_eq_true rfl)) rfl rfl 35 rfl dX4_sumHelped_34 (fun v4 => ?_)
      refine r_isub 36 rfl dX4_sumHelped_35 ?_
      refine r_iadd 37 rfl dX4_sumHelped_36 ?_
      refine r_nami (fun v5 => ?_)
      refine r_istore_n 1 rfl [(1, .int v5), (0, .ref (E.2.1 + o0)), (2, .int x2)] (Nat.le_of_ble_eq_true rfl) rfl 38 rfl dX4_sumHelped_37 ?_
      refine r_iinc (x2 + 1) 2 rfl rfl [(2, .int (x2 + 1)), (1, .int v5), (0, .ref (E.2.1 + o0))] (Nat.le_of_ble_eq_true rfl) rfl 41 rfl dX4_sumHelped_38 ?_
      refine r_goto 4 rfl dX4_sumHelped_41 ?_
      refine r_sub [2, 1, 0] rfl ?_
      exact ih v5 (x2 + 1)
def f_X4_sumHelped (d : z_D) (o0 : Nat) : Option Int32 := (f_X4_sumHelped_L4 d o0 (fun v6 => (some v6)) z_N 0 0)
set_option maxHeartbeats 4000000 in
set_option maxRecDepth 100000 in
theorem c_X4_sumHelped {E : z_E} {l : Launch} {S : z_S} (d : z_D) (o0 : Nat) (h0 : A_Stage S o0) : z_Sp E l yX4_sumHelped Y_X4_sumHelped (cvI S d) [.ref (E.2.1 + o0)] (S, d) (f_X4_sumHelped d o0) := by
  refine z_entry (lv := [(0, .ref (E.2.1 + o0))]) (by decide) rfl rfl (Nat.le_of_ble_eq_true rfl) rfl ?_
  unfold f_X4_sumHelped
  refine r_iconst 0 rfl 1 rfl dX4_sumHelped_0 ?_
  refine r_istore_n 1 rfl [(1, .int 0), (0, .ref (E.2.1 + o0))] (Nat.le_of_ble_eq_true rfl) rfl 2 rfl dX4_sumHelped_1 ?_
  refine r_iconst 0 rfl 3 rfl dX4_sumHelped_2 ?_
  refine r_istore_n 2 rfl [(2, .int 0), (1, .int 0), (0, .ref (E.2.1 + o0))] (Nat.le_of_ble_eq_true rfl) rfl 4 rfl dX4_sumHelped_3 ?_
  refine r_sub [2, 1, 0] rfl ?_
  refine g_X4_sumHelped_L4 h0 (fun v6 => ?_) z_N 0 0
  refine r_iload_n 1 0 rfl rfl 45 rfl dX4_sumHelped_44 ?_
  exact r_ireturn rfl rfl (Nat.le_of_ble_eq_true rfl) (Nat.le_of_ble_eq_true rfl) dX4_sumHelped_45
def Y_X4_fact : z_Y := (RX4, cX4_fact, 2, wsX4_fact, (some .int), { frames := 1, cells := 0, slots := 0, locals := 22 }, 0, 0)
theorem ok_X4_fact : z_Ok yX4_fact Y_X4_fact 1 := ⟨⟨_, rfl⟩, rfl, rfl, rfl, by decide +kernel, by decide +kernel⟩
theorem w_X4_fact_0 : Cond.fieldLink RX4 12 "BunchTimes$Stage" "course" "LBunchTimes$Course;" ∈ wsX4_fact := by decide +kernel
theorem w_X4_fact_1 : ∀ w ∈ u_ws RX4 TX4 20, w ∈ wsX4_fact := by decide +kernel
theorem w_X4_fact_2 : ∀ w ∈ u_ws RX1 TX1 7, w ∈ wsX4_fact := by decide +kernel
theorem w_X4_fact_3 : Cond.fieldLink RX4 68 "BunchTimes$Stage" "finishers" "I" ∈ wsX4_fact := by decide +kernel
theorem w_X4_fact_4 : Cond.fieldLink RX4 85 "BunchTimes$Stage" "bunches" "I" ∈ wsX4_fact := by decide +kernel
theorem w_X4_fact_5 : Cond.fieldLink RX4 88 "BunchTimes$Stage" "best" "I" ∈ wsX4_fact := by decide +kernel
theorem w_X4_fact_6 : Cond.fieldLink RX4 91 "BunchTimes$Stage" "speed" "I" ∈ wsX4_fact := by decide +kernel
theorem w_X4_fact_7 : Cond.fieldLink RX4 94 "BunchTimes$Stage" "limit" "I" ∈ wsX4_fact := by decide +kernel
theorem w_X4_fact_8 : Cond.fieldLink RX4 97 "BunchTimes$Stage" "lateOnes" "I" ∈ wsX4_fact := by decide +kernel
theorem w_X4_fact_9 : Cond.fieldLink RX4 100 "BunchTimes$Stage" "pardoned" "Z" ∈ wsX4_fact := by decide +kernel
def f_X4_fact (d : z_D) (o0 : Nat) (x1 : Int32) : Option Int32 := (if x1 = 0 then (some (d (o0 + 1) 0)) else (if x1 = 1 then (some (d (o0 + 1) 1)) else (if x1 = 2 then (some (d o0 7)) else (if x1 = 3 then (some (d o0 14)) else (if x1 = 4 then (some (d o0 15)) else (if x1 = 5 then (some (d o0 16)) else (if x1 = 6 then (some (d o0 17)) else (if x1 = 7 then (some (d o0 18)) else (if x1 = 8 then (if (d o0 19) = 0 then (some 0) else (some 1)) else (if x1 = 9 then ((f_X4_countHelped d o0).bind fun v1 => (some v1)) else (if x1 = 10 then ((f_X4_sumHelped d o0).bind fun v2 => (some v2)) else (some (-1)))))))))))))
set_option maxHeartbeats 4000000 in
set_option maxRecDepth 100000 in
theorem c_X4_fact {E : z_E} {l : Launch} {S : z_S} (d : z_D) (o0 : Nat) (h0 : A_Stage S o0) (x1 : Int32) : z_Sp E l yX4_fact Y_X4_fact (cvI S d) [.ref (E.2.1 + o0), .int x1] (S, d) (f_X4_fact d o0 x1) := by
  refine z_entry (lv := [(0, .ref (E.2.1 + o0)), (1, .int x1)]) (by decide) rfl rfl (Nat.le_of_ble_eq_true rfl) rfl ?_
  unfold f_X4_fact
  refine r_iload_n 1 1 rfl rfl 1 rfl dX4_fact_0 ?_
  refine r_tsw 60 rfl rfl rfl rfl dX4_fact_1 ?_ (fun hs0 => ?_)
  · refine r_aload_n 0 0 rfl rfl 61 rfl dX4_fact_60 ?_
    refine r_get (h0 0 (Nat.le_of_ble_eq_true rfl)) rfl (Nat.le_of_ble_eq_true rfl) rfl rfl w_X4_fact_1 0 (Nat.le_of_ble_eq_true rfl) rfl w_X4_fact_0 (.ref (E.2.1 + (o0 + 1))) rfl 64 rfl dX4_fact_61 ?_
    refine r_getN 0 1 rfl ((A_Stage.course h0) 0 (Nat.le_of_ble_eq_true rfl)) rfl (Nat.le_of_ble_eq_true rfl) rfl rfl w_X4_fact_2 (Nat.le_of_ble_eq_true rfl) rfl (.int (d (o0 + 1) 0)) rfl 67 rfl dX4_fact_64 ?_
    exact r_ireturn rfl rfl (Nat.le_of_ble_eq_true rfl) (Nat.le_of_ble_eq_true rfl) dX4_fact_67
  refine r_tsw 68 rfl rfl rfl rfl dX4_fact_1 ?_ (fun hs1 => ?_)
  · refine r_aload_n 0 0 rfl rfl 69 rfl dX4_fact_68 ?_
    refine r_get (h0 0 (Nat.le_of_ble_eq_true rfl)) rfl (Nat.le_of_ble_eq_true rfl) rfl rfl w_X4_fact_1 0 (Nat.le_of_ble_eq_true rfl) rfl w_X4_fact_0 (.ref (E.2.1 + (o0 + 1))) rfl 72 rfl dX4_fact_69 ?_
    refine r_getN 1 2 rfl ((A_Stage.course h0) 0 (Nat.le_of_ble_eq_true rfl)) rfl (Nat.le_of_ble_eq_true rfl) rfl rfl w_X4_fact_2 (Nat.le_of_ble_eq_true rfl) rfl (.int (d (o0 + 1) 1)) rfl 75 rfl dX4_fact_72 ?_
    exact r_ireturn rfl rfl (Nat.le_of_ble_eq_true rfl) (Nat.le_of_ble_eq_true rfl) dX4_fact_75
  refine r_tsw 76 rfl rfl rfl rfl dX4_fact_1 ?_ (fun hs2 => ?_)
  · refine r_aload_n 0 0 rfl rfl 77 rfl dX4_fact_76 ?_
    refine r_get (h0 0 (Nat.le_of_ble_eq_true rfl)) rfl (Nat.le_of_ble_eq_true rfl) rfl rfl w_X4_fact_1 7 (Nat.le_of_ble_eq_true rfl) rfl w_X4_fact_3 (.int (d o0 7)) rfl 80 rfl dX4_fact_77 ?_
    exact r_ireturn rfl rfl (Nat.le_of_ble_eq_true rfl) (Nat.le_of_ble_eq_true rfl) dX4_fact_80
  refine r_tsw 81 rfl rfl rfl rfl dX4_fact_1 ?_ (fun hs3 => ?_)
  · refine r_aload_n 0 0 rfl rfl 82 rfl dX4_fact_81 ?_
    refine r_get (h0 0 (Nat.le_of_ble_eq_true rfl)) rfl (Nat.le_of_ble_eq_true rfl) rfl rfl w_X4_fact_1 14 (Nat.le_of_ble_eq_true rfl) rfl w_X4_fact_4 (.int (d o0 14)) rfl 85 rfl dX4_fact_82 ?_
    exact r_ireturn rfl rfl (Nat.le_of_ble_eq_true rfl) (Nat.le_of_ble_eq_true rfl) dX4_fact_85
  refine r_tsw 86 rfl rfl rfl rfl dX4_fact_1 ?_ (fun hs4 => ?_)
  · refine r_aload_n 0 0 rfl rfl 87 rfl dX4_fact_86 ?_
    refine r_get (h0 0 (Nat.le_of_ble_eq_true rfl)) rfl (Nat.le_of_ble_eq_true rfl) rfl rfl w_X4_fact_1 15 (Nat.le_of_ble_eq_true rfl) rfl w_X4_fact_5 (.int (d o0 15)) rfl 90 rfl dX4_fact_87 ?_
    exact r_ireturn rfl rfl (Nat.le_of_ble_eq_true rfl) (Nat.le_of_ble_eq_true rfl) dX4_fact_90
  refine r_tsw 91 rfl rfl rfl rfl dX4_fact_1 ?_ (fun hs5 => ?_)
  · refine r_aload_n 0 0 rfl rfl 92 rfl dX4_fact_91 ?_
    refine r_get (h0 0 (Nat.le_of_ble_eq_true rfl)) rfl (Nat.le_of_ble_eq_true rfl) rfl rfl w_X4_fact_1 16 (Nat.le_of_ble_eq_true rfl) rfl w_X4_fact_6 (.int (d o0 16)) rfl 95 rfl dX4_fact_92 ?_
    exact r_ireturn rfl rfl (Nat.le_of_ble_eq_true rfl) (Nat.le_of_ble_eq_true rfl) dX4_fact_95
  refine r_tsw 96 rfl rfl rfl rfl dX4_fact_1 ?_ (fun hs6 => ?_)
  · refine r_aload_n 0 0 rfl rfl 97 rfl dX4_fact_96 ?_
    refine r_get (h0 0 (Nat.le_of_ble_eq_true rfl)) rfl (Nat.le_of_ble_eq_true rfl) rfl rfl w_X4_fact_1 17 (Nat.le_of_ble_eq_true rfl) rfl w_X4_fact_7 (.int (d o0 17)) rfl 100 rfl dX4_fact_97 ?_
    exact r_ireturn rfl rfl (Nat.le_of_ble_eq_true rfl) (Nat.le_of_ble_eq_true rfl) dX4_fact_100
  refine r_tsw 101 rfl rfl rfl rfl dX4_fact_1 ?_ (fun hs7 => ?_)
  · refine r_aload_n 0 0 rfl rfl 102 rfl dX4_fact_101 ?_
    refine r_get (h0 0 (Nat.le_of_ble_eq_true rfl)) rfl (Nat.le_of_ble_eq_true rfl) rfl rfl w_X4_fact_1 18 (Nat.le_of_ble_eq_true rfl) rfl w_X4_fact_8 (.int (d o0 18)) rfl 105 rfl dX4_fact_102 ?_
    exact r_ireturn rfl rfl (Nat.le_of_ble_eq_true rfl) (Nat.le_of_ble_eq_true rfl) dX4_fact_105
  refine r_tsw 106 rfl rfl rfl rfl dX4_fact_1 ?_ (fun hs8 => ?_)
  · refine r_aload_n 0 0 rfl rfl 107 rfl dX4_fact_106 ?_
    refine r_get (h0 0 (Nat.le_of_ble_eq_true rfl)) rfl (Nat.le_of_ble_eq_true rfl) rfl rfl w_X4_fact_1 19 (Nat.le_of_ble_eq_true rfl) rfl w_X4_fact_9 (.int (d o0 19)) rfl 110 rfl dX4_fact_107 ?_
    refine r_if_eq 117 113 rfl rfl dX4_fact_110 ?_ ?_
    · refine r_iconst 0 rfl 118 rfl dX4_fact_117 ?_
      exact r_ireturn rfl rfl (Nat.le_of_ble_eq_true rfl) (Nat.le_of_ble_eq_true rfl) dX4_fact_118
    · refine r_iconst 1 rfl 114 rfl dX4_fact_113 ?_
      refine r_goto 118 rfl dX4_fact_114 ?_
      exact r_ireturn rfl rfl (Nat.le_of_ble_eq_true rfl) (Nat.le_of_ble_eq_true rfl) dX4_fact_118
  refine r_tsw 119 rfl rfl rfl rfl dX4_fact_1 ?_ (fun hs9 => ?_)
  · refine r_aload_n 0 0 rfl rfl 120 rfl dX4_fact_119 ?_
    refine r_callV_I (c_X4_countHelped (E := E) (l := l) (S := S) d o0 h0) ok_X4_countHelped ⟨⟨(Nat.le_of_ble_eq_true rfl), (Nat.le_of_ble_eq_true rfl)⟩, (Nat.le_of_ble_eq_true rfl), (Nat.le_of_ble_eq_true rfl)⟩ (h0 0 (Nat.le_of_ble_eq_true rfl)) (Nat.le_of_ble_eq_true rfl) rfl rfl rfl (Nat.le_of_ble_eq_true rfl) gX4_fact_X4_countHelped rfl rfl 123 rfl dX4_fact_120 (fun v1 => ?_)
    exact r_ireturn rfl rfl (Nat.le_of_ble_eq_true rfl) (Nat.le_of_ble_eq_true rfl) dX4_fact_123
  refine r_tsw 124 rfl rfl rfl rfl dX4_fact_1 ?_ (fun hs10 => ?_)
  · refine r_aload_n 0 0 rfl rfl 125 rfl dX4_fact_124 ?_
    refine r_callV_I (c_X4_sumHelped (E := E) (l := l) (S := S) d o0 h0) ok_X4_sumHelped ⟨⟨(Nat.le_of_ble_eq_true rfl), (Nat.le_of_ble_eq_true rfl)⟩, (Nat.le_of_ble_eq_true rfl), (Nat.le_of_ble_eq_true rfl)⟩ (h0 0 (Nat.le_of_ble_eq_true rfl)) (Nat.le_of_ble_eq_true rfl) rfl rfl rfl (Nat.le_of_ble_eq_true rfl) gX4_fact_X4_sumHelped rfl rfl 128 rfl dX4_fact_125 (fun v2 => ?_)
    exact r_ireturn rfl rfl (Nat.le_of_ble_eq_true rfl) (Nat.le_of_ble_eq_true rfl) dX4_fact_128
  refine r_tswD (lo := 0) (hi := 10) 129 11 rfl (fun j hj => match j, hj with | 0, _ => hs0 | 1, _ => hs1 | 2, _ => hs2 | 3, _ => hs3 | 4, _ => hs4 | 5, _ => hs5 | 6, _ => hs6 | 7, _ => hs7 | 8, _ => hs8 | 9, _ => hs9 | 10, _ => hs10) rfl dX4_fact_1 ?_
  refine r_iconst (-1) rfl 130 rfl dX4_fact_129 ?_
  exact r_ireturn rfl rfl (Nat.le_of_ble_eq_true rfl) (Nat.le_of_ble_eq_true rfl) dX4_fact_130
def Y_X4_resultOf : z_Y := (RX4, cX4_resultOf, 3, wsX4_resultOf, (some .int), { frames := 0, cells := 0, slots := 0, locals := 0 }, 0, 0)
theorem ok_X4_resultOf : z_Ok yX4_resultOf Y_X4_resultOf 2 := ⟨⟨_, rfl⟩, rfl, rfl, rfl, by decide +kernel, by decide +kernel⟩
theorem w_X4_resultOf_0 : Cond.fieldLink RX4 25 "BunchTimes$Stage" "finish" "[I" ∈ wsX4_resultOf := by decide +kernel
theorem w_X4_resultOf_1 : ∀ w ∈ u_ws RX4 TX4 20, w ∈ wsX4_resultOf := by decide +kernel
theorem w_X4_resultOf_2 : Cond.fieldLink RX4 51 "BunchTimes$Stage" "raw" "[I" ∈ wsX4_resultOf := by decide +kernel
theorem w_X4_resultOf_3 : Cond.fieldLink RX4 54 "BunchTimes$Stage" "time" "[I" ∈ wsX4_resultOf := by decide +kernel
theorem w_X4_resultOf_4 : Cond.fieldLink RX4 48 "BunchTimes$Stage" "bunch" "[I" ∈ wsX4_resultOf := by decide +kernel
theorem w_X4_resultOf_5 : Cond.fieldLink RX4 45 "BunchTimes$Stage" "place" "[I" ∈ wsX4_resultOf := by decide +kernel
theorem w_X4_resultOf_6 : Cond.fieldLink RX4 21 "BunchTimes$Stage" "prizes" "LBunchTimes$Prizes;" ∈ wsX4_resultOf := by decide +kernel
theorem w_X4_resultOf_7 : ∀ w ∈ u_ws RX2 TX2 3, w ∈ wsX4_resultOf := by decide +kernel
def f_X4_resultOf (d : z_D) (o0 : Nat) (x1 : Int32) (x2 : Int32) : Option Int32 := (if x2 = 0 then z_ald d (o0 + 10) 16 x1 (fun v1 => (some v1)) else (if x2 = 1 then z_ald d (o0 + 18) 16 x1 (fun v2 => (some v2)) else (if x2 = 2 then z_ald d (o0 + 19) 16 x1 (fun v3 => (some v3)) else (if x2 = 3 then z_ald d (o0 + 17) 16 x1 (fun v4 => (some v4)) else (if x2 = 4 then z_ald d (o0 + 16) 16 x1 (fun v5 => (some v5)) else (if x2 = 5 then z_ald d ((o0 + 6) + 1) 16 x1 (fun v6 => (some v6)) else (if x2 = 6 then z_ald d ((o0 + 6) + 2) 16 x1 (fun v7 => (some v7)) else (if x2 = 7 then z_ald d ((o0 + 6) + 3) 16 x1 (fun v8 => (some v8)) else (some (-1))))))))))
set_option maxHeartbeats 4000000 in
set_option maxRecDepth 100000 in
theorem c_X4_resultOf {E : z_E} {l : Launch} {S : z_S} (d : z_D) (o0 : Nat) (h0 : A_Stage S o0) (x1 : Int32) (x2 : Int32) : z_Sp E l yX4_resultOf Y_X4_resultOf (cvI S d) [.ref (E.2.1 + o0), .int x1, .int x2] (S, d) (f_X4_resultOf d o0 x1 x2) := by
  refine z_entry (lv := [(0, .ref (E.2.1 + o0)), (1, .int x1), (2, .int x2)]) (by decide) rfl rfl (Nat.le_of_ble_eq_true rfl) rfl ?_
  unfold f_X4_resultOf
  refine r_iload_n 2 2 rfl rfl 1 rfl dX4_resultOf_0 ?_
  refine r_tsw 48 rfl rfl rfl rfl dX4_resultOf_1 ?_ (fun hs0 => ?_)
  · refine r_aload_n 0 0 rfl rfl 49 rfl dX4_resultOf_48 ?_
    refine r_get (h0 0 (Nat.le_of_ble_eq_true rfl)) rfl (Nat.le_of_ble_eq_true rfl) rfl rfl w_X4_resultOf_1 2 (Nat.le_of_ble_eq_true rfl) rfl w_X4_resultOf_0 (.ref (E.2.1 + (o0 + 10))) rfl 52 rfl dX4_resultOf_49 ?_
    refine r_iload_n 1 1 rfl rfl 53 rfl dX4_resultOf_52 ?_
    refine r_iald (h0 10 (Nat.le_of_ble_eq_true rfl)) rfl rfl 54 rfl dX4_resultOf_53 (fun v1 => ?_)
    exact r_ireturn rfl rfl (Nat.le_of_ble_eq_true rfl) (Nat.le_of_ble_eq_true rfl) dX4_resultOf_54
  refine r_tsw 55 rfl rfl rfl rfl dX4_resultOf_1 ?_ (fun hs1 => ?_)
  · refine r_aload_n 0 0 rfl rfl 56 rfl dX4_resultOf_55 ?_
    refine r_get (h0 0 (Nat.le_of_ble_eq_true rfl)) rfl (Nat.le_of_ble_eq_true rfl) rfl rfl w_X4_resultOf_1 11 (Nat.le_of_ble_eq_true rfl) rfl w_X4_resultOf_2 (.ref (E.2.1 + (o0 + 18))) rfl 59 rfl dX4_resultOf_56 ?_
    refine r_iload_n 1 1 rfl rfl 60 rfl dX4_resultOf_59 ?_
    refine r_iald (h0 18 (Nat.le_of_ble_eq_true rfl)) rfl rfl 61 rfl dX4_resultOf_60 (fun v2 => ?_)
    exact r_ireturn rfl rfl (Nat.le_of_ble_eq_true rfl) (Nat.le_of_ble_eq_true rfl) dX4_resultOf_61
  refine r_tsw 62 rfl rfl rfl rfl dX4_resultOf_1 ?_ (fun hs2 => ?_)
  · refine r_aload_n 0 0 rfl rfl 63 rfl dX4_resultOf_62 ?_
    refine r_get (h0 0 (Nat.le_of_ble_eq_true rfl)) rfl (Nat.le_of_ble_eq_true rfl) rfl rfl w_X4_resultOf_1 12 (Nat.le_of_ble_eq_true rfl) rfl w_X4_resultOf_3 (.ref (E.2.1 + (o0 + 19))) rfl 66 rfl dX4_resultOf_63 ?_
    refine r_iload_n 1 1 rfl rfl 67 rfl dX4_resultOf_66 ?_
    refine r_iald (h0 19 (Nat.le_of_ble_eq_true rfl)) rfl rfl 68 rfl dX4_resultOf_67 (fun v3 => ?_)
    exact r_ireturn rfl rfl (Nat.le_of_ble_eq_true rfl) (Nat.le_of_ble_eq_true rfl) dX4_resultOf_68
  refine r_tsw 69 rfl rfl rfl rfl dX4_resultOf_1 ?_ (fun hs3 => ?_)
  · refine r_aload_n 0 0 rfl rfl 70 rfl dX4_resultOf_69 ?_
    refine r_get (h0 0 (Nat.le_of_ble_eq_true rfl)) rfl (Nat.le_of_ble_eq_true rfl) rfl rfl w_X4_resultOf_1 10 (Nat.le_of_ble_eq_true rfl) rfl w_X4_resultOf_4 (.ref (E.2.1 + (o0 + 17))) rfl 73 rfl dX4_resultOf_70 ?_
    refine r_iload_n 1 1 rfl rfl 74 rfl dX4_resultOf_73 ?_
    refine r_iald (h0 17 (Nat.le_of_ble_eq_true rfl)) rfl rfl 75 rfl dX4_resultOf_74 (fun v4 => ?_)
    exact r_ireturn rfl rfl (Nat.le_of_ble_eq_true rfl) (Nat.le_of_ble_eq_true rfl) dX4_resultOf_75
  refine r_tsw 76 rfl rfl rfl rfl dX4_resultOf_1 ?_ (fun hs4 => ?_)
  · refine r_aload_n 0 0 rfl rfl 77 rfl dX4_resultOf_76 ?_
    refine r_get (h0 0 (Nat.le_of_ble_eq_true rfl)) rfl (Nat.le_of_ble_eq_true rfl) rfl rfl w_X4_resultOf_1 9 (Nat.le_of_ble_eq_true rfl) rfl w_X4_resultOf_5 (.ref (E.2.1 + (o0 + 16))) rfl 80 rfl dX4_resultOf_77 ?_
    refine r_iload_n 1 1 rfl rfl 81 rfl dX4_resultOf_80 ?_
    refine r_iald (h0 16 (Nat.le_of_ble_eq_true rfl)) rfl rfl 82 rfl dX4_resultOf_81 (fun v5 => ?_)
    exact r_ireturn rfl rfl (Nat.le_of_ble_eq_true rfl) (Nat.le_of_ble_eq_true rfl) dX4_resultOf_82
  refine r_tsw 83 rfl rfl rfl rfl dX4_resultOf_1 ?_ (fun hs5 => ?_)
  · refine r_aload_n 0 0 rfl rfl 84 rfl dX4_resultOf_83 ?_
    refine r_get (h0 0 (Nat.le_of_ble_eq_true rfl)) rfl (Nat.le_of_ble_eq_true rfl) rfl rfl w_X4_resultOf_1 1 (Nat.le_of_ble_eq_true rfl) rfl w_X4_resultOf_6 (.ref (E.2.1 + (o0 + 6))) rfl 87 rfl dX4_resultOf_84 ?_
    refine r_getN 0 9 rfl ((A_Stage.prizes h0) 0 (Nat.le_of_ble_eq_true rfl)) rfl (Nat.le_of_ble_eq_true rfl) rfl rfl w_X4_resultOf_7 (Nat.le_of_ble_eq_true rfl) rfl (.ref (E.2.1 + ((o0 + 6) + 1))) rfl 90 rfl dX4_resultOf_87 ?_
    refine r_iload_n 1 1 rfl rfl 91 rfl dX4_resultOf_90 ?_
    refine r_iald ((A_Stage.prizes h0) 1 (Nat.le_of_ble_eq_true rfl)) rfl rfl 92 rfl dX4_resultOf_91 (fun v6 => ?_)
    exact r_ireturn rfl rfl (Nat.le_of_ble_eq_true rfl) (Nat.le_of_ble_eq_true rfl) dX4_resultOf_92
  refine r_tsw 93 rfl rfl rfl rfl dX4_resultOf_1 ?_ (fun hs6 => ?_)
  · refine r_aload_n 0 0 rfl rfl 94 rfl dX4_resultOf_93 ?_
    refine r_get (h0 0 (Nat.le_of_ble_eq_true rfl)) rfl (Nat.le_of_ble_eq_true rfl) rfl rfl w_X4_resultOf_1 1 (Nat.le_of_ble_eq_true rfl) rfl w_X4_resultOf_6 (.ref (E.2.1 + (o0 + 6))) rfl 97 rfl dX4_resultOf_94 ?_
    refine r_getN 1 10 rfl ((A_Stage.prizes h0) 0 (Nat.le_of_ble_eq_true rfl)) rfl (Nat.le_of_ble_eq_true rfl) rfl rfl w_X4_resultOf_7 (Nat.le_of_ble_eq_true rfl) rfl (.ref (E.2.1 + ((o0 + 6) + 2))) rfl 100 rfl dX4_resultOf_97 ?_
    refine r_iload_n 1 1 rfl rfl 101 rfl dX4_resultOf_100 ?_
    refine r_iald ((A_Stage.prizes h0) 2 (Nat.le_of_ble_eq_true rfl)) rfl rfl 102 rfl dX4_resultOf_101 (fun v7 => ?_)
    exact r_ireturn rfl rfl (Nat.le_of_ble_eq_true rfl) (Nat.le_of_ble_eq_true rfl) dX4_resultOf_102
  refine r_tsw 103 rfl rfl rfl rfl dX4_resultOf_1 ?_ (fun hs7 => ?_)
  · refine r_aload_n 0 0 rfl rfl 104 rfl dX4_resultOf_103 ?_
    refine r_get (h0 0 (Nat.le_of_ble_eq_true rfl)) rfl (Nat.le_of_ble_eq_true rfl) rfl rfl w_X4_resultOf_1 1 (Nat.le_of_ble_eq_true rfl) rfl w_X4_resultOf_6 (.ref (E.2.1 + (o0 + 6))) rfl 107 rfl dX4_resultOf_104 ?_
    refine r_getN 2 11 rfl ((A_Stage.prizes h0) 0 (Nat.le_of_ble_eq_true rfl)) rfl (Nat.le_of_ble_eq_true rfl) rfl rfl w_X4_resultOf_7 (Nat.le_of_ble_eq_true rfl) rfl (.ref (E.2.1 + ((o0 + 6) + 3))) rfl 110 rfl dX4_resultOf_107 ?_
    refine r_iload_n 1 1 rfl rfl 111 rfl dX4_resultOf_110 ?_
    refine r_iald ((A_Stage.prizes h0) 3 (Nat.le_of_ble_eq_true rfl)) rfl rfl 112 rfl dX4_resultOf_111 (fun v8 => ?_)
    exact r_ireturn rfl rfl (Nat.le_of_ble_eq_true rfl) (Nat.le_of_ble_eq_true rfl) dX4_resultOf_112
  refine r_tswD (lo := 0) (hi := 7) 113 8 rfl (fun j hj => match j, hj with | 0, _ => hs0 | 1, _ => hs1 | 2, _ => hs2 | 3, _ => hs3 | 4, _ => hs4 | 5, _ => hs5 | 6, _ => hs6 | 7, _ => hs7) rfl dX4_resultOf_1 ?_
  refine r_iconst (-1) rfl 114 rfl dX4_resultOf_113 ?_
  exact r_ireturn rfl rfl (Nat.le_of_ble_eq_true rfl) (Nat.le_of_ble_eq_true rfl) dX4_resultOf_114
def Y_X4_countBunches : z_Y := (RX4, cX4_countBunches, 4, wsX4_countBunches, (some .int), { frames := 2, cells := 0, slots := 0, locals := 43 }, 0, 0)
theorem ok_X4_countBunches : z_Ok yX4_countBunches Y_X4_countBunches 1 := ⟨⟨_, rfl⟩, rfl, rfl, rfl, by decide +kernel, by decide +kernel⟩
theorem w_X4_countBunches_0 : Cond.fieldLink RX4 68 "BunchTimes$Stage" "finishers" "I" ∈ wsX4_countBunches := by decide +kernel
theorem w_X4_countBunches_1 : ∀ w ∈ u_ws RX4 TX4 20, w ∈ wsX4_countBunches := by decide +kernel
def f_X4_countBunches_L4_b (d : z_D) (o0 : Nat) (x1 : Int32) (K : Int32 → Option Int32) (R : Int32 → Int32 → Option Int32) (x2 : Int32) (x3 : Int32) : Option Int32 := (if (d o0 7) ≤ x3 then (K x2) else ((f_X4_beginsBunch d o0 x3 x1).bind fun v1 => (if v1 = 0 then (R x2 (x3 + 1)) else (R (x2 + 1) (x3 + 1)))))
def f_X4_countBunches_L4 (d : z_D) (o0 : Nat) (x1 : Int32) (K : Int32 → Option Int32) : Nat → Int32 → Int32 → Option Int32
  | 0 => fun _ _ => none
  | n + 1 => f_X4_countBunches_L4_b d o0 x1 K (f_X4_countBunches_L4 d o0 x1 K n)
set_option maxHeartbeats 4000000 in
set_option maxRecDepth 100000 in
theorem g_X4_countBunches_L4 {E : z_E} {l : Launch} {S : z_S} {d : z_D} {o0 : Nat} {x1 : Int32} {K : Int32 → Option Int32} (h0 : A_Stage S o0) (hK : ∀ (y2 : Int32), z_G E l Y_X4_countBunches (cvI S d) (K y2) 30 [(2, .int y2)] [] (S, d) 0 0) : ∀ (n : Nat) (x2 : Int32) (x3 : Int32), z_G E l Y_X4_countBunches (cvI S d) (f_X4_countBunches_L4 d o0 x1 K n x2 x3) 4 [(0, .ref (E.2.1 + o0)), (1, .int x1), (2, .int x2), (3, .int x3)] [] (S, d) 0 0 := by
  intro n
  induction n with
  | zero => intro _ _; exact r_none
  | succ n ih =>
    intro x2 x3
    show z_G E l Y_X4_countBunches (cvI S d) (f_X4_countBunches_L4_b d o0 x1 K (f_X4_countBunches_L4 d o0 x1 K n) x2 x3) 4 [(0, .ref (E.2.1 + o0)), (1, .int x1), (2, .int x2), (3, .int x3)] [] (S, d) 0 0
    unfold f_X4_countBunches_L4_b
    refine r_iload_n 3 3 rfl rfl 5 rfl dX4_countBunches_4 ?_
    refine r_aload_n 0 0 rfl rfl 6 rfl dX4_countBunches_5 ?_
    refine r_get (h0 0 (Nat.le_of_ble_eq_true rfl)) rfl (Nat.le_of_ble_eq_true rfl) rfl rfl w_X4_countBunches_1 7 (Nat.le_of_ble_eq_true rfl) rfl w_X4_countBunches_0 (.int (d o0 7)) rfl 9 rfl dX4_countBunches_6 ?_
    refine r_icmp_ge 30 12 rfl rfl dX4_countBunches_9 ?_ ?_
    · refine r_sub [2] rfl ?_
      exact hK x2
    · refine r_aload_n 0 0 rfl rfl 13 rfl dX4_countBunches_12 ?_
      refine r_iload_n 3 3 rfl rfl 14 rfl dX4_countBunches_13 ?_
      refine r_iload_n 1 1 rfl rfl 15 rfl dX4_countBunches_14 ?_
      refine r_callV_I (c_X4_beginsBunch (E := E) (l := l) (S := S) d o0 h0 x3 x1) ok_X4_beginsBunch ⟨⟨(Nat.le_of_ble_eq_true rfl), (Nat.le_of_ble_eq_true rfl)⟩, (Nat.le_of_ble_eq_true rfl), (Nat.le_of_ble_eq_true rfl)⟩ (h0 0 (Nat.le_of_ble_eq_true rfl)) (Nat.le_of_ble_eq_true rfl) rfl rfl rfl (Nat.le_of_ble_eq_true rfl) gX4_countBunches_X4_beginsBunch rfl rfl 18 rfl dX4_countBunches_15 (fun v1 => ?_)
      refine r_if_eq 24 21 rfl rfl dX4_countBunches_18 ?_ ?_
      · refine r_iinc (x3 + 1) 3 rfl rfl [(3, .int (x3 + 1)), (0, .ref (E.2.1 + o0)), (1, .int x1), (2, .int x2)] (Nat.le_of_ble_eq_true rfl) rfl 27 rfl dX4_countBunches_24 ?_
        refine r_goto 4 rfl dX4_countBunches_27 ?_
        refine r_sub [1, 2, 3, 0] rfl ?_
        exact ih x2 (x3 + 1)
      · refine r_iinc (x2 + 1) 2 rfl rfl [(2, .int (x2 + 1)), (0, .ref (E.2.1 + o0)), (1, .int x1), (3, .int x3)] (Nat.le_of_ble_eq_true rfl) rfl 24 rfl dX4_countBunches_21 ?_
        refine r_iinc (x3 + 1) 3 rfl rfl [(3, .int (x3 + 1)), (2, .int (x2 + 1)), (0, .ref (E.2.1 + o0)), (1, .int x1)] (Nat.le_of_ble_eq_true rfl) rfl 27 rfl dX4_countBunches_24 ?_
        refine r_goto 4 rfl dX4_countBunches_27 ?_
        refine r_sub [2, 3, 1, 0] rfl ?_
        exact ih (x2 + 1) (x3 + 1)
def f_X4_countBunches (d : z_D) (o0 : Nat) (x1 : Int32) : Option Int32 := (f_X4_countBunches_L4 d o0 x1 (fun v2 => (some v2)) z_N 0 0)
set_option maxHeartbeats 4000000 in
set_option maxRecDepth 100000 in
theorem c_X4_countBunches {E : z_E} {l : Launch} {S : z_S} (d : z_D) (o0 : Nat) (h0 : A_Stage S o0) (x1 : Int32) : z_Sp E l yX4_countBunches Y_X4_countBunches (cvI S d) [.ref (E.2.1 + o0), .int x1] (S, d) (f_X4_countBunches d o0 x1) := by
  refine z_entry (lv := [(0, .ref (E.2.1 + o0)), (1, .int x1)]) (by decide) rfl rfl (Nat.le_of_ble_eq_true rfl) rfl ?_
  unfold f_X4_countBunches
  refine r_iconst 0 rfl 1 rfl dX4_countBunches_0 ?_
  refine r_istore_n 2 rfl [(2, .int 0), (0, .ref (E.2.1 + o0)), (1, .int x1)] (Nat.le_of_ble_eq_true rfl) rfl 2 rfl dX4_countBunches_1 ?_
  refine r_iconst 0 rfl 3 rfl dX4_countBunches_2 ?_
  refine r_istore_n 3 rfl [(3, .int 0), (2, .int 0), (0, .ref (E.2.1 + o0)), (1, .int x1)] (Nat.le_of_ble_eq_true rfl) rfl 4 rfl dX4_countBunches_3 ?_
  refine r_sub [2, 3, 1, 0] rfl ?_
  refine g_X4_countBunches_L4 h0 (fun v2 => ?_) z_N 0 0
  refine r_iload_n 2 0 rfl rfl 31 rfl dX4_countBunches_30 ?_
  exact r_ireturn rfl rfl (Nat.le_of_ble_eq_true rfl) (Nat.le_of_ble_eq_true rfl) dX4_countBunches_31
def Y_X4_joiningGap : z_Y := (RX4, cX4_joiningGap, 3, wsX4_joiningGap, (some .int), { frames := 1, cells := 0, slots := 0, locals := 21 }, 0, 0)
theorem ok_X4_joiningGap : z_Ok yX4_joiningGap Y_X4_joiningGap 0 := ⟨⟨_, rfl⟩, rfl, rfl, rfl, by decide +kernel, by decide +kernel⟩
theorem w_X4_joiningGap_0 : Cond.fieldLink RX4 12 "BunchTimes$Stage" "course" "LBunchTimes$Course;" ∈ wsX4_joiningGap := by decide +kernel
theorem w_X4_joiningGap_1 : ∀ w ∈ u_ws RX4 TX4 20, w ∈ wsX4_joiningGap := by decide +kernel
theorem w_X4_joiningGap_2 : ∀ w ∈ u_ws RX1 TX1 7, w ∈ wsX4_joiningGap := by decide +kernel
theorem w_X4_joiningGap_3 : Cond.fieldLink RX4 68 "BunchTimes$Stage" "finishers" "I" ∈ wsX4_joiningGap := by decide +kernel
theorem w_X4_joiningGap_4 : Cond.methodLink RX4 142 Lib.Math.max.name ∈ wsX4_joiningGap := by decide +kernel
theorem w_X4_joiningGap_5 : Cond.static Lib.Math.max.name ∈ wsX4_joiningGap := by decide +kernel
theorem w_X4_joiningGap_6 : Cond.initialized "java/lang/Math" ∈ wsX4_joiningGap := by decide +kernel
theorem w_X4_joiningGap_7 : Cond.code Lib.Math.max.name Lib.Math.max.code 2 (some .int) ∈ wsX4_joiningGap := by decide +kernel
def f_X4_joiningGap_L25_b (d : z_D) (o0 : Nat) (K : Int32 → Option Int32) (R : Int32 → Int32 → Option Int32) (x1 : Int32) (x2 : Int32) : Option Int32 := (if (d o0 7) ≤ x2 then (K x1) else ((f_X4_space d o0 x2).bind fun v1 => z_nam (if x1 < (v1 + 1) then (v1 + 1) else x1) (fun v2 => (R v2 (x2 + 1)))))
def f_X4_joiningGap_L25 (d : z_D) (o0 : Nat) (K : Int32 → Option Int32) : Nat → Int32 → Int32 → Option Int32
  | 0 => fun _ _ => none
  | n + 1 => f_X4_joiningGap_L25_b d o0 K (f_X4_joiningGap_L25 d o0 K n)
set_option maxHeartbeats 4000000 in
set_option maxRecDepth 100000 in
theorem g_X4_joiningGap_L25 {E : z_E} {l : Launch} {S : z_S} {d : z_D} {o0 : Nat} {K : Int32 → Option Int32} (h0 : A_Stage S o0) (hK : ∀ (y1 : Int32), z_G E l Y_X4_joiningGap (cvI S d) (K y1) 51 [(1, .int y1)] [] (S, d) 0 0) : ∀ (n : Nat) (x1 : Int32) (x2 : Int32), z_G E l Y_X4_joiningGap (cvI S d) (f_X4_joiningGap_L25 d o0 K n x1 x2) 25 [(0, .ref (E.2.1 + o0)), (1, .int x1), (2, .int x2)] [] (S, d) 0 0 := by
  intro n
  induction n with
  | zero => intro _ _; exact r_none
  | succ n ih =>
    intro x1 x2
    show z_G E l Y_X4_joiningGap (cvI S d) (f_X4_joiningGap_L25_b d o0 K (f_X4_joiningGap_L25 d o0 K n) x1 x2) 25 [(0, .ref (E.2.1 + o0)), (1, .int x1), (2, .int x2)] [] (S, d) 0 0
    unfold f_X4_joiningGap_L25_b
    refine r_iload_n 2 2 rfl rfl 26 rfl dX4_joiningGap_25 ?_
    refine r_aload_n 0 0 rfl rfl 27 rfl dX4_joiningGap_26 ?_
    refine r_get (h0 0 (Nat.le_of_ble_eq_true rfl)) rfl (Nat.le_of_ble_eq_true rfl) rfl rfl w_X4_joiningGap_1 7 (Nat.le_of_ble_eq_true rfl) rfl w_X4_joiningGap_3 (.int (d o0 7)) rfl 30 rfl dX4_joiningGap_27 ?_
    refine r_icmp_ge 51 33 rfl rfl dX4_joiningGap_30 ?_ ?_
    · refine r_sub [1] rfl ?_
      exact hK x1
    · refine r_iload_n 1 1 rfl rfl 34 rfl dX4_joiningGap_33 ?_
      refine r_aload_n 0 0 rfl rfl 35 rfl dX4_joiningGap_34 ?_
      refine r_iload_n 2 2 rfl rfl 36 rfl dX4_joiningGap_35 ?_
      refine r_callV_I (c_X4_space (E := E) (l := l) (S := S) d o0 h0 x2) ok_X4_space ⟨⟨(Nat.le_of_ble_eq_true rfl), (Nat.le_of_ble_eq_true rfl)⟩, (Nat.le_of_ble_eq_true rfl), (Nat.le_of_ble_eq_true rfl)⟩ (h0 0 (Nat.le_of_ble_eq_true rfl)) (Nat.le_of_ble_eq_true rfl) rfl rfl rfl (Nat.le_of_ble_eq_true rfl) gX4_joiningGap_X4_space rfl rfl 39 rfl dX4_joiningGap_36 (fun v1 => ?_)
      refine r_iconst 1 rfl 40 rfl dX4_joiningGap_39 ?_
      refine r_iadd 41 rfl dX4_joiningGap_40 ?_
      refine r_mmax w_X4_joiningGap_4 w_X4_joiningGap_5 w_X4_joiningGap_6 w_X4_joiningGap_7 (Nat.le_of_ble_eq_true rfl) (Nat.le_of_ble_eq_true rfl) (Nat.le_of_ble_eq_true rfl) (Nat.le_of_ble_eq_true rfl) 44 rfl dX4_joiningGap_41 ?_
      refine r_nami (fun v2 => ?_)
      refine r_istore_n 1 rfl [(1, .int v2), (0, .ref (E.2.1 + o0)), (2, .int x2)] (Nat.le_of_ble_eq_true rfl) rfl 45 rfl dX4_joiningGap_44 ?_
      refine r_iinc (x2 + 1) 2 rfl rfl [(2, .int (x2 + 1)), (1, .int v2), (0, .ref (E.2.1 + o0))] (Nat.le_of_ble_eq_true rfl) rfl 48 rfl dX4_joiningGap_45 ?_
      refine r_goto 25 rfl dX4_joiningGap_48 ?_
      refine r_sub [2, 1, 0] rfl ?_
      exact ih v2 (x2 + 1)
def f_X4_joiningGap (d : z_D) (o0 : Nat) : Option Int32 := z_let (fun x_21 : Unit => (f_X4_joiningGap_L25 d o0 (fun v3 => (if 99 < v3 then (some (-1)) else (some v3))) z_N 1 1)) (fun J21 => (if (d (o0 + 1) 0) = 3 then (if (d o0 7) ≤ 1 then (J21 ()) else (some (-1))) else (J21 ())))
set_option maxHeartbeats 4000000 in
set_option maxRecDepth 100000 in
theorem c_X4_joiningGap {E : z_E} {l : Launch} {S : z_S} (d : z_D) (o0 : Nat) (h0 : A_Stage S o0) : z_Sp E l yX4_joiningGap Y_X4_joiningGap (cvI S d) [.ref (E.2.1 + o0)] (S, d) (f_X4_joiningGap d o0) := by
  refine z_entry (lv := [(0, .ref (E.2.1 + o0))]) (by decide) rfl rfl (Nat.le_of_ble_eq_true rfl) rfl ?_
  unfold f_X4_joiningGap
  refine r_aload_n 0 0 rfl rfl 1 rfl dX4_joiningGap_0 ?_
  refine r_get (h0 0 (Nat.le_of_ble_eq_true rfl)) rfl (Nat.le_of_ble_eq_true rfl) rfl rfl w_X4_joiningGap_1 0 (Nat.le_of_ble_eq_true rfl) rfl w_X4_joiningGap_0 (.ref (E.2.1 + (o0 + 1))) rfl 4 rfl dX4_joiningGap_1 ?_
  refine r_getN 0 1 rfl ((A_Stage.course h0) 0 (Nat.le_of_ble_eq_true rfl)) rfl (Nat.le_of_ble_eq_true rfl) rfl rfl w_X4_joiningGap_2 (Nat.le_of_ble_eq_true rfl) rfl (.int (d (o0 + 1) 0)) rfl 7 rfl dX4_joiningGap_4 ?_
  refine r_iconst 3 rfl 8 rfl dX4_joiningGap_7 ?_
  refine r_let 21 (f := fun x_21 : Unit => [(0, .ref (E.2.1 + o0))]) (g := fun x_21 : Unit => []) (ww := fun x_21 : Unit => (S, d)) (fun x_21 => ?_) (fun J21 hJ21 => ?_)
  · refine r_iconst 1 rfl 22 rfl dX4_joiningGap_21 ?_
    refine r_istore_n 1 rfl [(1, .int 1), (0, .ref (E.2.1 + o0))] (Nat.le_of_ble_eq_true rfl) rfl 23 rfl dX4_joiningGap_22 ?_
    refine r_iconst 1 rfl 24 rfl dX4_joiningGap_23 ?_
    refine r_istore_n 2 rfl [(2, .int 1), (1, .int 1), (0, .ref (E.2.1 + o0))] (Nat.le_of_ble_eq_true rfl) rfl 25 rfl dX4_joiningGap_24 ?_
    refine r_sub [2, 1, 0] rfl ?_
    refine g_X4_joiningGap_L25 h0 (fun v3 => ?_) z_N 1 1
    refine r_iload_n 1 0 rfl rfl 52 rfl dX4_joiningGap_51 ?_
    refine r_bipush 99 rfl 54 rfl dX4_joiningGap_52 ?_
    refine r_icmp_gt 61 57 rfl rfl dX4_joiningGap_54 ?_ ?_
    · refine r_iconst (-1) rfl 62 rfl dX4_joiningGap_61 ?_
      exact r_ireturn rfl rfl (Nat.le_of_ble_eq_true rfl) (Nat.le_of_ble_eq_true rfl) dX4_joiningGap_62
    · refine r_iload_n 1 0 rfl rfl 58 rfl dX4_joiningGap_57 ?_
      refine r_goto 62 rfl dX4_joiningGap_58 ?_
      exact r_ireturn rfl rfl (Nat.le_of_ble_eq_true rfl) (Nat.le_of_ble_eq_true rfl) dX4_joiningGap_62
  refine r_icmp_ne 21 11 rfl rfl dX4_joiningGap_8 ?_ ?_
  · refine r_sub [0] rfl ?_
    exact hJ21 ()
  · refine r_aload_n 0 0 rfl rfl 12 rfl dX4_joiningGap_11 ?_
    refine r_get (h0 0 (Nat.le_of_ble_eq_true rfl)) rfl (Nat.le_of_ble_eq_true rfl) rfl rfl w_X4_joiningGap_1 7 (Nat.le_of_ble_eq_true rfl) rfl w_X4_joiningGap_3 (.int (d o0 7)) rfl 15 rfl dX4_joiningGap_12 ?_
    refine r_iconst 1 rfl 16 rfl dX4_joiningGap_15 ?_
    refine r_icmp_le 21 19 rfl rfl dX4_joiningGap_16 ?_ ?_
    · refine r_sub [0] rfl ?_
      exact hJ21 ()
    · refine r_iconst (-1) rfl 20 rfl dX4_joiningGap_19 ?_
      exact r_ireturn rfl rfl (Nat.le_of_ble_eq_true rfl) (Nat.le_of_ble_eq_true rfl) dX4_joiningGap_20
def Y_X4_aheadOfWidest : z_Y := (RX4, cX4_aheadOfWidest, 4, wsX4_aheadOfWidest, (some .int), { frames := 1, cells := 0, slots := 0, locals := 21 }, 0, 0)
theorem ok_X4_aheadOfWidest : z_Ok yX4_aheadOfWidest Y_X4_aheadOfWidest 0 := ⟨⟨_, rfl⟩, rfl, rfl, rfl, by decide +kernel, by decide +kernel⟩
theorem w_X4_aheadOfWidest_0 : Cond.fieldLink RX4 68 "BunchTimes$Stage" "finishers" "I" ∈ wsX4_aheadOfWidest := by decide +kernel
theorem w_X4_aheadOfWidest_1 : ∀ w ∈ u_ws RX4 TX4 20, w ∈ wsX4_aheadOfWidest := by decide +kernel
def f_X4_aheadOfWidest_L6_b (d : z_D) (o0 : Nat) (K : Int32 → Option Int32) (R : Int32 → Int32 → Int32 → Option Int32) (x1 : Int32) (x2 : Int32) (x3 : Int32) : Option Int32 := (if (d o0 7) ≤ x3 then (K x2) else ((f_X4_space d o0 x3).bind fun v1 => (if v1 ≤ x1 then (R x1 x2 (x3 + 1)) else ((f_X4_space d o0 x3).bind fun v2 => (R v2 x3 (x3 + 1))))))
def f_X4_aheadOfWidest_L6 (d : z_D) (o0 : Nat) (K : Int32 → Option Int32) : Nat → Int32 → Int32 → Int32 → Option Int32
  | 0 => fun _ _ _ => none
  | n + 1 => f_X4_aheadOfWidest_L6_b d o0 K (f_X4_aheadOfWidest_L6 d o0 K n)
set_option maxHeartbeats 4000000 in
set_option maxRecDepth 100000 in
theorem g_X4_aheadOfWidest_L6 {E : z_E} {l : Launch} {S : z_S} {d : z_D} {o0 : Nat} {K : Int32 → Option Int32} (h0 : A_Stage S o0) (hK : ∀ (y2 : Int32), z_G E l Y_X4_aheadOfWidest (cvI S d) (K y2) 37 [(2, .int y2)] [] (S, d) 0 0) : ∀ (n : Nat) (x1 : Int32) (x2 : Int32) (x3 : Int32), z_G E l Y_X4_aheadOfWidest (cvI S d) (f_X4_aheadOfWidest_L6 d o0 K n x1 x2 x3) 6 [(0, .ref (E.2.1 + o0)), (1, .int x1), (2, .int x2), (3, .int x3)] [] (S, d) 0 0 := by
  intro n
  induction n with
  | zero => intro _ _ _; exact r_none
  | succ n ih =>
    intro x1 x2 x3
    show z_G E l Y_X4_aheadOfWidest (cvI S d) (f_X4_aheadOfWidest_L6_b d o0 K (f_X4_aheadOfWidest_L6 d o0 K n) x1 x2 x3) 6 [(0, .ref (E.2.1 + o0)), (1, .int x1), (2, .int x2), (3, .int x3)] [] (S, d) 0 0
    unfold f_X4_aheadOfWidest_L6_b
    refine r_iload_n 3 3 rfl rfl 7 rfl dX4_aheadOfWidest_6 ?_
    refine r_aload_n 0 0 rfl rfl 8 rfl dX4_aheadOfWidest_7 ?_
    refine r_get (h0 0 (Nat.le_of_ble_eq_true rfl)) rfl (Nat.le_of_ble_eq_true rfl) rfl rfl w_X4_aheadOfWidest_1 7 (Nat.le_of_ble_eq_true rfl) rfl w_X4_aheadOfWidest_0 (.int (d o0 7)) rfl 11 rfl dX4_aheadOfWidest_8 ?_
    refine r_icmp_ge 37 14 rfl rfl dX4_aheadOfWidest_11 ?_ ?_
    · refine r_sub [2] rfl ?_
      exact hK x2
    · refine r_aload_n 0 0 rfl rfl 15 rfl dX4_aheadOfWidest_14 ?_
      refine r_iload_n 3 3 rfl rfl 16 rfl dX4_aheadOfWidest_15 ?_
      refine r_callV_I (c_X4_space (E := E) (l := l) (S := S) d o0 h0 x3) ok_X4_space ⟨⟨(Nat.le_of_ble_eq_true rfl), (Nat.le_of_ble_eq_true rfl)⟩, (Nat.le_of_ble_eq_true rfl), (Nat.le_of_ble_eq_true rfl)⟩ (h0 0 (Nat.le_of_ble_eq_true rfl)) (Nat.le_of_ble_eq_true rfl) rfl rfl rfl (Nat.le_of_ble_eq_true rfl) gX4_aheadOfWidest_X4_space rfl rfl 19 rfl dX4_aheadOfWidest_16 (fun v1 => ?_)
      refine r_iload_n 1 1 rfl rfl 20 rfl dX4_aheadOfWidest_19 ?_
      refine r_icmp_le 31 23 rfl rfl dX4_aheadOfWidest_20 ?_ ?_
      · refine r_iinc (x3 + 1) 3 rfl rfl [(3, .int (x3 + 1)), (0, .ref (E.2.1 + o0)), (1, .int x1), (2, .int x2)] (Nat.le_of_ble_eq_true rfl) rfl 34 rfl dX4_aheadOfWidest_31 ?_
        refine r_goto 6 rfl dX4_aheadOfWidest_34 ?_
        refine r_sub [1, 2, 3, 0] rfl ?_
        exact ih x1 x2 (x3 + 1)
      · refine r_aload_n 0 0 rfl rfl 24 rfl dX4_aheadOfWidest_23 ?_
        refine r_iload_n 3 3 rfl rfl 25 rfl dX4_aheadOfWidest_24 ?_
        refine r_callV_I (c_X4_space (E := E) (l := l) (S := S) d o0 h0 x3) ok_X4_space ⟨⟨(Nat.le_of_ble_eq_true rfl), (Nat.le_of_ble_eq_true rfl)⟩, (Nat.le_of_ble_eq_true rfl), (Nat.le_of_ble_eq_true rfl)⟩ (h0 0 (Nat.le_of_ble_eq_true rfl)) (Nat.le_of_ble_eq_true rfl) rfl rfl rfl (Nat.le_of_ble_eq_true rfl) gX4_aheadOfWidest_X4_space rfl rfl 28 rfl dX4_aheadOfWidest_25 (fun v2 => ?_)
        refine r_istore_n 1 rfl [(1, .int v2), (0, .ref (E.2.1 + o0)), (2, .int x2), (3, .int x3)] (Nat.le_of_ble_eq_true rfl) rfl 29 rfl dX4_aheadOfWidest_28 ?_
        refine r_iload_n 3 3 rfl rfl 30 rfl dX4_aheadOfWidest_29 ?_
        refine r_istore_n 2 rfl [(2, .int x3), (1, .int v2), (0, .ref (E.2.1 + o0)), (3, .int x3)] (Nat.le_of_ble_eq_true rfl) rfl 31 rfl dX4_aheadOfWidest_30 ?_
        refine r_iinc (x3 + 1) 3 rfl rfl [(3, .int (x3 + 1)), (2, .int x3), (1, .int v2), (0, .ref (E.2.1 + o0))] (Nat.le_of_ble_eq_true rfl) rfl 34 rfl dX4_aheadOfWidest_31 ?_
        refine r_goto 6 rfl dX4_aheadOfWidest_34 ?_
        refine r_sub [3, 2, 1, 0] rfl ?_
        exact ih v2 x3 (x3 + 1)
def f_X4_aheadOfWidest (d : z_D) (o0 : Nat) : Option Int32 := (f_X4_aheadOfWidest_L6 d o0 (fun v3 => (some v3)) z_N (-1) (-1) 1)
set_option maxHeartbeats 4000000 in
set_option maxRecDepth 100000 in
theorem c_X4_aheadOfWidest {E : z_E} {l : Launch} {S : z_S} (d : z_D) (o0 : Nat) (h0 : A_Stage S o0) : z_Sp E l yX4_aheadOfWidest Y_X4_aheadOfWidest (cvI S d) [.ref (E.2.1 + o0)] (S, d) (f_X4_aheadOfWidest d o0) := by
  refine z_entry (lv := [(0, .ref (E.2.1 + o0))]) (by decide) rfl rfl (Nat.le_of_ble_eq_true rfl) rfl ?_
  unfold f_X4_aheadOfWidest
  refine r_iconst (-1) rfl 1 rfl dX4_aheadOfWidest_0 ?_
  refine r_istore_n 1 rfl [(1, .int (-1)), (0, .ref (E.2.1 + o0))] (Nat.le_of_ble_eq_true rfl) rfl 2 rfl dX4_aheadOfWidest_1 ?_
  refine r_iconst (-1) rfl 3 rfl dX4_aheadOfWidest_2 ?_
  refine r_istore_n 2 rfl [(2, .int (-1)), (1, .int (-1)), (0, .ref (E.2.1 + o0))] (Nat.le_of_ble_eq_true rfl) rfl 4 rfl dX4_aheadOfWidest_3 ?_
  refine r_iconst 1 rfl 5 rfl dX4_aheadOfWidest_4 ?_
  refine r_istore_n 3 rfl [(3, .int 1), (2, .int (-1)), (1, .int (-1)), (0, .ref (E.2.1 + o0))] (Nat.le_of_ble_eq_true rfl) rfl 6 rfl dX4_aheadOfWidest_5 ?_
  refine r_sub [3, 2, 1, 0] rfl ?_
  refine g_X4_aheadOfWidest_L6 h0 (fun v3 => ?_) z_N (-1) (-1) 1
  refine r_iload_n 2 0 rfl rfl 38 rfl dX4_aheadOfWidest_37 ?_
  exact r_ireturn rfl rfl (Nat.le_of_ble_eq_true rfl) (Nat.le_of_ble_eq_true rfl) dX4_aheadOfWidest_38
def Y_X4_gainedBy : z_Y := (RX4, cX4_gainedBy, 3, wsX4_gainedBy, (some .int), { frames := 0, cells := 0, slots := 0, locals := 0 }, 0, 0)
theorem ok_X4_gainedBy : z_Ok yX4_gainedBy Y_X4_gainedBy 2 := ⟨⟨_, rfl⟩, rfl, rfl, rfl, by decide +kernel, by decide +kernel⟩
theorem w_X4_gainedBy_0 : Cond.fieldLink RX4 21 "BunchTimes$Stage" "prizes" "LBunchTimes$Prizes;" ∈ wsX4_gainedBy := by decide +kernel
theorem w_X4_gainedBy_1 : ∀ w ∈ u_ws RX4 TX4 20, w ∈ wsX4_gainedBy := by decide +kernel
theorem w_X4_gainedBy_2 : ∀ w ∈ u_ws RX2 TX2 3, w ∈ wsX4_gainedBy := by decide +kernel
theorem w_X4_gainedBy_3 : Cond.fieldLink RX4 35 "BunchTimes$Stage" "juried" "[I" ∈ wsX4_gainedBy := by decide +kernel
def f_X4_gainedBy (d : z_D) (o0 : Nat) (x1 : Int32) (x2 : Int32) : Option Int32 := (if x2 = 3 then z_ald d ((o0 + 6) + 2) 16 x1 (fun v1 => (some v1)) else (if x2 = 4 then z_ald d ((o0 + 6) + 3) 16 x1 (fun v2 => (some v2)) else (if x2 = 5 then z_ald d ((o0 + 6) + 1) 16 x1 (fun v3 => (some v3)) else (if x2 = 6 then z_ald d (o0 + 13) 16 x1 (fun v4 => (some v4)) else (some 0)))))
set_option maxHeartbeats 4000000 in
set_option maxRecDepth 100000 in
theorem c_X4_gainedBy {E : z_E} {l : Launch} {S : z_S} (d : z_D) (o0 : Nat) (h0 : A_Stage S o0) (x1 : Int32) (x2 : Int32) : z_Sp E l yX4_gainedBy Y_X4_gainedBy (cvI S d) [.ref (E.2.1 + o0), .int x1, .int x2] (S, d) (f_X4_gainedBy d o0 x1 x2) := by
  refine z_entry (lv := [(0, .ref (E.2.1 + o0)), (1, .int x1), (2, .int x2)]) (by decide) rfl rfl (Nat.le_of_ble_eq_true rfl) rfl ?_
  unfold f_X4_gainedBy
  refine r_iload_n 2 2 rfl rfl 1 rfl dX4_gainedBy_0 ?_
  refine r_tsw 32 rfl rfl rfl rfl dX4_gainedBy_1 ?_ (fun hs3 => ?_)
  · refine r_aload_n 0 0 rfl rfl 33 rfl dX4_gainedBy_32 ?_
    refine r_get (h0 0 (Nat.le_of_ble_eq_true rfl)) rfl (Nat.le_of_ble_eq_true rfl) rfl rfl w_X4_gainedBy_1 1 (Nat.le_of_ble_eq_true rfl) rfl w_X4_gainedBy_0 (.ref (E.2.1 + (o0 + 6))) rfl 36 rfl dX4_gainedBy_33 ?_
    refine r_getN 1 10 rfl ((A_Stage.prizes h0) 0 (Nat.le_of_ble_eq_true rfl)) rfl (Nat.le_of_ble_eq_true rfl) rfl rfl w_X4_gainedBy_2 (Nat.le_of_ble_eq_true rfl) rfl (.ref (E.2.1 + ((o0 + 6) + 2))) rfl 39 rfl dX4_gainedBy_36 ?_
    refine r_iload_n 1 1 rfl rfl 40 rfl dX4_gainedBy_39 ?_
    refine r_iald ((A_Stage.prizes h0) 2 (Nat.le_of_ble_eq_true rfl)) rfl rfl 41 rfl dX4_gainedBy_40 (fun v1 => ?_)
    exact r_ireturn rfl rfl (Nat.le_of_ble_eq_true rfl) (Nat.le_of_ble_eq_true rfl) dX4_gainedBy_41
  refine r_tsw 42 rfl rfl rfl rfl dX4_gainedBy_1 ?_ (fun hs4 => ?_)
  · refine r_aload_n 0 0 rfl rfl 43 rfl dX4_gainedBy_42 ?_
    refine r_get (h0 0 (Nat.le_of_ble_eq_true rfl)) rfl (Nat.le_of_ble_eq_true rfl) rfl rfl w_X4_gainedBy_1 1 (Nat.le_of_ble_eq_true rfl) rfl w_X4_gainedBy_0 (.ref (E.2.1 + (o0 + 6))) rfl 46 rfl dX4_gainedBy_43 ?_
    refine r_getN 2 11 rfl ((A_Stage.prizes h0) 0 (Nat.le_of_ble_eq_true rfl)) rfl (Nat.le_of_ble_eq_true rfl) rfl rfl w_X4_gainedBy_2 (Nat.le_of_ble_eq_true rfl) rfl (.ref (E.2.1 + ((o0 + 6) + 3))) rfl 49 rfl dX4_gainedBy_46 ?_
    refine r_iload_n 1 1 rfl rfl 50 rfl dX4_gainedBy_49 ?_
    refine r_iald ((A_Stage.prizes h0) 3 (Nat.le_of_ble_eq_true rfl)) rfl rfl 51 rfl dX4_gainedBy_50 (fun v2 => ?_)
    exact r_ireturn rfl rfl (Nat.le_of_ble_eq_true rfl) (Nat.le_of_ble_eq_true rfl) dX4_gainedBy_51
  refine r_tsw 52 rfl rfl rfl rfl dX4_gainedBy_1 ?_ (fun hs5 => ?_)
  · refine r_aload_n 0 0 rfl rfl 53 rfl dX4_gainedBy_52 ?_
    refine r_get (h0 0 (Nat.le_of_ble_eq_true rfl)) rfl (Nat.le_of_ble_eq_true rfl) rfl rfl w_X4_gainedBy_1 1 (Nat.le_of_ble_eq_true rfl) rfl w_X4_gainedBy_0 (.ref (E.2.1 + (o0 + 6))) rfl 56 rfl dX4_gainedBy_53 ?_
    refine r_getN 0 9 rfl ((A_Stage.prizes h0) 0 (Nat.le_of_ble_eq_true rfl)) rfl (Nat.le_of_ble_eq_true rfl) rfl rfl w_X4_gainedBy_2 (Nat.le_of_ble_eq_true rfl) rfl (.ref (E.2.1 + ((o0 + 6) + 1))) rfl 59 rfl dX4_gainedBy_56 ?_
    refine r_iload_n 1 1 rfl rfl 60 rfl dX4_gainedBy_59 ?_
    refine r_iald ((A_Stage.prizes h0) 1 (Nat.le_of_ble_eq_true rfl)) rfl rfl 61 rfl dX4_gainedBy_60 (fun v3 => ?_)
    exact r_ireturn rfl rfl (Nat.le_of_ble_eq_true rfl) (Nat.le_of_ble_eq_true rfl) dX4_gainedBy_61
  refine r_tsw 62 rfl rfl rfl rfl dX4_gainedBy_1 ?_ (fun hs6 => ?_)
  · refine r_aload_n 0 0 rfl rfl 63 rfl dX4_gainedBy_62 ?_
    refine r_get (h0 0 (Nat.le_of_ble_eq_true rfl)) rfl (Nat.le_of_ble_eq_true rfl) rfl rfl w_X4_gainedBy_1 5 (Nat.le_of_ble_eq_true rfl) rfl w_X4_gainedBy_3 (.ref (E.2.1 + (o0 + 13))) rfl 66 rfl dX4_gainedBy_63 ?_
    refine r_iload_n 1 1 rfl rfl 67 rfl dX4_gainedBy_66 ?_
    refine r_iald (h0 13 (Nat.le_of_ble_eq_true rfl)) rfl rfl 68 rfl dX4_gainedBy_67 (fun v4 => ?_)
    exact r_ireturn rfl rfl (Nat.le_of_ble_eq_true rfl) (Nat.le_of_ble_eq_true rfl) dX4_gainedBy_68
  refine r_tswD (lo := 3) (hi := 6) 69 4 rfl (fun j hj => match j, hj with | 0, _ => hs3 | 1, _ => hs4 | 2, _ => hs5 | 3, _ => hs6) rfl dX4_gainedBy_1 ?_
  refine r_iconst 0 rfl 70 rfl dX4_gainedBy_69 ?_
  exact r_ireturn rfl rfl (Nat.le_of_ble_eq_true rfl) (Nat.le_of_ble_eq_true rfl) dX4_gainedBy_70
def Y_X4_netTime : z_Y := (RX4, cX4_netTime, 2, wsX4_netTime, (some .int), { frames := 0, cells := 0, slots := 0, locals := 0 }, 0, 0)
theorem ok_X4_netTime : z_Ok yX4_netTime Y_X4_netTime 1 := ⟨⟨_, rfl⟩, rfl, rfl, rfl, by decide +kernel, by decide +kernel⟩
theorem w_X4_netTime_0 : Cond.fieldLink RX4 25 "BunchTimes$Stage" "finish" "[I" ∈ wsX4_netTime := by decide +kernel
theorem w_X4_netTime_1 : ∀ w ∈ u_ws RX4 TX4 20, w ∈ wsX4_netTime := by decide +kernel
theorem w_X4_netTime_2 : Cond.fieldLink RX4 54 "BunchTimes$Stage" "time" "[I" ∈ wsX4_netTime := by decide +kernel
theorem w_X4_netTime_3 : Cond.fieldLink RX4 35 "BunchTimes$Stage" "juried" "[I" ∈ wsX4_netTime := by decide +kernel
theorem w_X4_netTime_4 : Cond.fieldLink RX4 21 "BunchTimes$Stage" "prizes" "LBunchTimes$Prizes;" ∈ wsX4_netTime := by decide +kernel
theorem w_X4_netTime_5 : ∀ w ∈ u_ws RX2 TX2 3, w ∈ wsX4_netTime := by decide +kernel
theorem w_X4_netTime_6 : Cond.fieldLink RX4 94 "BunchTimes$Stage" "limit" "I" ∈ wsX4_netTime := by decide +kernel
def f_X4_netTime (d : z_D) (o0 : Nat) (x1 : Int32) : Option Int32 := z_ald d (o0 + 10) 16 x1 (fun v1 => (if v1 = 0 then (some (d o0 17)) else z_ald d (o0 + 19) 16 x1 (fun v2 => z_ald d (o0 + 13) 16 x1 (fun v3 => z_ald d ((o0 + 6) + 1) 16 x1 (fun v4 => (some ((v2 + v3) - v4)))))))
set_option maxHeartbeats 4000000 in
set_option maxRecDepth 100000 in
theorem c_X4_netTime {E : z_E} {l : Launch} {S : z_S} (d : z_D) (o0 : Nat) (h0 : A_Stage S o0) (x1 : Int32) : z_Sp E l yX4_netTime Y_X4_netTime (cvI S d) [.ref (E.2.1 + o0), .int x1] (S, d) (f_X4_netTime d o0 x1) := by
  refine z_entry (lv := [(0, .ref (E.2.1 + o0)), (1, .int x1)]) (by decide) rfl rfl (Nat.le_of_ble_eq_true rfl) rfl ?_
  unfold f_X4_netTime
  refine r_aload_n 0 0 rfl rfl 1 rfl dX4_netTime_0 ?_
  refine r_get (h0 0 (Nat.le_of_ble_eq_true rfl)) rfl (Nat.le_of_ble_eq_true rfl) rfl rfl w_X4_netTime_1 2 (Nat.le_of_ble_eq_true rfl) rfl w_X4_netTime_0 (.ref (E.2.1 + (o0 + 10))) rfl 4 rfl dX4_netTime_1 ?_
  refine r_iload_n 1 1 rfl rfl 5 rfl dX4_netTime_4 ?_
  refine r_iald (h0 10 (Nat.le_of_ble_eq_true rfl)) rfl rfl 6 rfl dX4_netTime_5 (fun v1 => ?_)
  refine r_if_ne 16 9 rfl rfl dX4_netTime_6 ?_ ?_
  · refine r_aload_n 0 0 rfl rfl 17 rfl dX4_netTime_16 ?_
    refine r_get (h0 0 (Nat.le_of_ble_eq_true rfl)) rfl (Nat.le_of_ble_eq_true rfl) rfl rfl w_X4_netTime_1 12 (Nat.le_of_ble_eq_true rfl) rfl w_X4_netTime_2 (.ref (E.2.1 + (o0 + 19))) rfl 20 rfl dX4_netTime_17 ?_
    refine r_iload_n 1 1 rfl rfl 21 rfl dX4_netTime_20 ?_
    refine r_iald (h0 19 (Nat.le_of_ble_eq_true rfl)) rfl rfl 22 rfl dX4_netTime_21 (fun v2 => ?_)
    refine r_aload_n 0 0 rfl rfl 23 rfl dX4_netTime_22 ?_
    refine r_get (h0 0 (Nat.le_of_ble_eq_true rfl)) rfl (Nat.le_of_ble_eq_true rfl) rfl rfl w_X4_netTime_1 5 (Nat.le_of_ble_eq_true rfl) rfl w_X4_netTime_3 (.ref (E.2.1 + (o0 + 13))) rfl 26 rfl dX4_netTime_23 ?_
    refine r_iload_n 1 1 rfl rfl 27 rfl dX4_netTime_26 ?_
    refine r_iald (h0 13 (Nat.le_of_ble_eq_true rfl)) rfl rfl 28 rfl dX4_netTime_27 (fun v3 => ?_)
    refine r_iadd 29 rfl dX4_netTime_28 ?_
    refine r_aload_n 0 0 rfl rfl 30 rfl dX4_netTime_29 ?_
    refine r_get (h0 0 (Nat.le_of_ble_eq_true rfl)) rfl (Nat.le_of_ble_eq_true rfl) rfl rfl w_X4_netTime_1 1 (Nat.le_of_ble_eq_true rfl) rfl w_X4_netTime_4 (.ref (E.2.1 + (o0 + 6))) rfl 33 rfl dX4_netTime_30 ?_
    refine r_getN 0 9 rfl ((A_Stage.prizes h0) 0 (Nat.le_of_ble_eq_true rfl)) rfl (Nat.le_of_ble_eq_true rfl) rfl rfl w_X4_netTime_5 (Nat.le_of_ble_eq_true rfl) rfl (.ref (E.2.1 + ((o0 + 6) + 1))) rfl 36 rfl dX4_netTime_33 ?_
    refine r_iload_n 1 1 rfl rfl 37 rfl dX4_netTime_36 ?_
    refine r_iald ((A_Stage.prizes h0) 1 (Nat.le_of_ble_eq_true rfl)) rfl rfl 38 rfl dX4_netTime_37 (fun v4 => ?_)
    refine r_isub 39 rfl dX4_netTime_38 ?_
    exact r_ireturn rfl rfl (Nat.le_of_ble_eq_true rfl) (Nat.le_of_ble_eq_true rfl) dX4_netTime_39
  · refine r_aload_n 0 0 rfl rfl 10 rfl dX4_netTime_9 ?_
    refine r_get (h0 0 (Nat.le_of_ble_eq_true rfl)) rfl (Nat.le_of_ble_eq_true rfl) rfl rfl w_X4_netTime_1 17 (Nat.le_of_ble_eq_true rfl) rfl w_X4_netTime_6 (.int (d o0 17)) rfl 13 rfl dX4_netTime_10 ?_
    refine r_goto 39 rfl dX4_netTime_13 ?_
    exact r_ireturn rfl rfl (Nat.le_of_ble_eq_true rfl) (Nat.le_of_ble_eq_true rfl) dX4_netTime_39
def Y_X4_placeOf : z_Y := (RX4, cX4_placeOf, 2, wsX4_placeOf, (some .int), { frames := 0, cells := 0, slots := 0, locals := 0 }, 0, 0)
theorem ok_X4_placeOf : z_Ok yX4_placeOf Y_X4_placeOf 1 := ⟨⟨_, rfl⟩, rfl, rfl, rfl, by decide +kernel, by decide +kernel⟩
theorem w_X4_placeOf_0 : Cond.fieldLink RX4 25 "BunchTimes$Stage" "finish" "[I" ∈ wsX4_placeOf := by decide +kernel
theorem w_X4_placeOf_1 : ∀ w ∈ u_ws RX4 TX4 20, w ∈ wsX4_placeOf := by decide +kernel
theorem w_X4_placeOf_2 : Cond.fieldLink RX4 45 "BunchTimes$Stage" "place" "[I" ∈ wsX4_placeOf := by decide +kernel
def f_X4_placeOf (d : z_D) (o0 : Nat) (x1 : Int32) : Option Int32 := z_ald d (o0 + 10) 16 x1 (fun v1 => (if v1 = 0 then (some 99) else z_ald d (o0 + 16) 16 x1 (fun v2 => (some v2))))
set_option maxHeartbeats 4000000 in
set_option maxRecDepth 100000 in
theorem c_X4_placeOf {E : z_E} {l : Launch} {S : z_S} (d : z_D) (o0 : Nat) (h0 : A_Stage S o0) (x1 : Int32) : z_Sp E l yX4_placeOf Y_X4_placeOf (cvI S d) [.ref (E.2.1 + o0), .int x1] (S, d) (f_X4_placeOf d o0 x1) := by
  refine z_entry (lv := [(0, .ref (E.2.1 + o0)), (1, .int x1)]) (by decide) rfl rfl (Nat.le_of_ble_eq_true rfl) rfl ?_
  unfold f_X4_placeOf
  refine r_aload_n 0 0 rfl rfl 1 rfl dX4_placeOf_0 ?_
  refine r_get (h0 0 (Nat.le_of_ble_eq_true rfl)) rfl (Nat.le_of_ble_eq_true rfl) rfl rfl w_X4_placeOf_1 2 (Nat.le_of_ble_eq_true rfl) rfl w_X4_placeOf_0 (.ref (E.2.1 + (o0 + 10))) rfl 4 rfl dX4_placeOf_1 ?_
  refine r_iload_n 1 1 rfl rfl 5 rfl dX4_placeOf_4 ?_
  refine r_iald (h0 10 (Nat.le_of_ble_eq_true rfl)) rfl rfl 6 rfl dX4_placeOf_5 (fun v1 => ?_)
  refine r_if_ne 14 9 rfl rfl dX4_placeOf_6 ?_ ?_
  · refine r_aload_n 0 0 rfl rfl 15 rfl dX4_placeOf_14 ?_
    refine r_get (h0 0 (Nat.le_of_ble_eq_true rfl)) rfl (Nat.le_of_ble_eq_true rfl) rfl rfl w_X4_placeOf_1 9 (Nat.le_of_ble_eq_true rfl) rfl w_X4_placeOf_2 (.ref (E.2.1 + (o0 + 16))) rfl 18 rfl dX4_placeOf_15 ?_
    refine r_iload_n 1 1 rfl rfl 19 rfl dX4_placeOf_18 ?_
    refine r_iald (h0 16 (Nat.le_of_ble_eq_true rfl)) rfl rfl 20 rfl dX4_placeOf_19 (fun v2 => ?_)
    exact r_ireturn rfl rfl (Nat.le_of_ble_eq_true rfl) (Nat.le_of_ble_eq_true rfl) dX4_placeOf_20
  · refine r_bipush 99 rfl 11 rfl dX4_placeOf_9 ?_
    refine r_goto 20 rfl dX4_placeOf_11 ?_
    exact r_ireturn rfl rfl (Nat.le_of_ble_eq_true rfl) (Nat.le_of_ble_eq_true rfl) dX4_placeOf_20
def Y_X4_teamTime : z_Y := (RX4, cX4_teamTime, 9, wsX4_teamTime, (some .int), { frames := 1, cells := 0, slots := 0, locals := 21 }, 0, 0)
theorem ok_X4_teamTime : z_Ok yX4_teamTime Y_X4_teamTime 2 := ⟨⟨_, rfl⟩, rfl, rfl, rfl, by decide +kernel, by decide +kernel⟩
theorem w_X4_teamTime_0 : Cond.constant RX4 125 1000000 ∈ wsX4_teamTime := by decide +kernel
theorem w_X4_teamTime_1 : Cond.fieldLink RX4 68 "BunchTimes$Stage" "finishers" "I" ∈ wsX4_teamTime := by decide +kernel
theorem w_X4_teamTime_2 : ∀ w ∈ u_ws RX4 TX4 20, w ∈ wsX4_teamTime := by decide +kernel
theorem w_X4_teamTime_3 : Cond.fieldLink RX4 42 "BunchTimes$Stage" "order" "[I" ∈ wsX4_teamTime := by decide +kernel
theorem w_X4_teamTime_4 : Cond.fieldLink RX4 54 "BunchTimes$Stage" "time" "[I" ∈ wsX4_teamTime := by decide +kernel
theorem w_X4_teamTime_5 : Cond.methodLink RX4 142 Lib.Math.max.name ∈ wsX4_teamTime := by decide +kernel
theorem w_X4_teamTime_6 : Cond.static Lib.Math.max.name ∈ wsX4_teamTime := by decide +kernel
theorem w_X4_teamTime_7 : Cond.initialized "java/lang/Math" ∈ wsX4_teamTime := by decide +kernel
theorem w_X4_teamTime_8 : Cond.code Lib.Math.max.name Lib.Math.max.code 2 (some .int) ∈ wsX4_teamTime := by decide +kernel
theorem w_X4_teamTime_9 : Cond.methodLink RX4 130 Lib.Math.min.name ∈ wsX4_teamTime := by decide +kernel
theorem w_X4_teamTime_10 : Cond.static Lib.Math.min.name ∈ wsX4_teamTime := by decide +kernel
theorem w_X4_teamTime_11 : Cond.code Lib.Math.min.name Lib.Math.min.code 2 (some .int) ∈ wsX4_teamTime := by decide +kernel
theorem w_X4_teamTime_12 : Cond.fieldLink RX4 94 "BunchTimes$Stage" "limit" "I" ∈ wsX4_teamTime := by decide +kernel
def f_X4_teamTime_L17_b (d : z_D) (o0 : Nat) (o1 : Nat) (x2 : Int32) (K : Int32 → Int32 → Int32 → Int32 → Option Int32) (R : Int32 → Int32 → Int32 → Int32 → Int32 → Option Int32) (x3 : Int32) (x4 : Int32) (x5 : Int32) (x6 : Int32) (x7 : Int32) : Option Int32 := (if (d o0 7) ≤ x7 then (K x3 x4 x5 x6) else z_ald d (o0 + 15) 16 x7 (fun v1 => z_ald d o1 16 v1 (fun v2 => (if v2 = x2 then z_ald d (o0 + 15) 16 x7 (fun v3 => z_ald d (o0 + 19) 16 v3 (fun v4 => z_nam (if (if x5 < v4 then v4 else x5) < x6 then (if x5 < v4 then v4 else x5) else x6) (fun v5 => z_nam (if (if x4 < v4 then v4 else x4) < x5 then (if x4 < v4 then v4 else x4) else x5) (fun v6 => z_nam (if v4 < x4 then v4 else x4) (fun v7 => (R (x3 + 1) v7 v6 v5 (x7 + 1))))))) else (R x3 x4 x5 x6 (x7 + 1))))))
def f_X4_teamTime_L17 (d : z_D) (o0 : Nat) (o1 : Nat) (x2 : Int32) (K : Int32 → Int32 → Int32 → Int32 → Option Int32) : Nat → Int32 → Int32 → Int32 → Int32 → Int32 → Option Int32
  | 0 => fun _ _ _ _ _ => none
  | n + 1 => f_X4_teamTime_L17_b d o0 o1 x2 K (f_X4_teamTime_L17 d o0 o1 x2 K n)
set_option maxHeartbeats 4000000 in
set_option maxRecDepth 100000 in
theorem g_X4_teamTime_L17 {E : z_E} {l : Launch} {S : z_S} {d : z_D} {o0 : Nat} {o1 : Nat} {x2 : Int32} {K : Int32 → Int32 → Int32 → Int32 → Option Int32} (h0 : A_Stage S o0) (h1 : z_at S o1 (8, 16, z_nn)) (hK : ∀ (y3 : Int32) (y4 : Int32) (y5 : Int32) (y6 : Int32), z_G E l Y_X4_teamTime (cvI S d) (K y3 y4 y5 y6) 102 [(0, .ref (E.2.1 + o0)), (3, .int y3), (4, .int y4), (5, .int y5), (6, .int y6)] [] (S, d) 0 0) : ∀ (n : Nat) (x3 : Int32) (x4 : Int32) (x5 : Int32) (x6 : Int32) (x7 : Int32), z_G E l Y_X4_teamTime (cvI S d) (f_X4_teamTime_L17 d o0 o1 x2 K n x3 x4 x5 x6 x7) 17 [(0, .ref (E.2.1 + o0)), (1, .ref (E.2.1 + o1)), (2, .int x2), (3, .int x3), (4, .int x4), (5, .int x5), (6, .int x6), (7, .int x7)] [] (S, d) 0 0 := by
  intro n
  induction n with
  | zero => intro _ _ _ _ _; exact r_none
  | succ n ih =>
    intro x3 x4 x5 x6 x7
    show z_G E l Y_X4_teamTime (cvI S d) (f_X4_teamTime_L17_b d o0 o1 x2 K (f_X4_teamTime_L17 d o0 o1 x2 K n) x3 x4 x5 x6 x7) 17 [(0, .ref (E.2.1 + o0)), (1, .ref (E.2.1 + o1)), (2, .int x2), (3, .int x3), (4, .int x4), (5, .int x5), (6, .int x6), (7, .int x7)] [] (S, d) 0 0
    unfold f_X4_teamTime_L17_b
    refine r_iload 7 7 rfl 19 rfl dX4_teamTime_17 ?_
    refine r_aload_n 0 0 rfl rfl 20 rfl dX4_teamTime_19 ?_
    refine r_get (h0 0 (Nat.le_of_ble_eq_true rfl)) rfl (Nat.le_of_ble_eq_true rfl) rfl rfl w_X4_teamTime_2 7 (Nat.le_of_ble_eq_true rfl) rfl w_X4_teamTime_1 (.int (d o0 7)) rfl 23 rfl dX4_teamTime_20 ?_
    refine r_icmp_ge 102 26 rfl rfl dX4_teamTime_23 ?_ ?_
    · refine r_sub [0, 3, 4, 5, 6] rfl ?_
      exact hK x3 x4 x5 x6
    · refine r_aload_n 1 1 rfl rfl 27 rfl dX4_teamTime_26 ?_
      refine r_aload_n 0 0 rfl rfl 28 rfl dX4_teamTime_27 ?_
      refine r_get (h0 0 (Nat.le_of_ble_eq_true rfl)) rfl (Nat.le_of_ble_eq_true rfl) rfl rfl w_X4_teamTime_2 8 (Nat.le_of_ble_eq_true rfl) rfl w_X4_teamTime_3 (.ref (E.2.1 + (o0 + 15))) rfl 31 rfl dX4_teamTime_28 ?_
      refine r_iload 7 7 rfl 33 rfl dX4_teamTime_31 ?_
      refine r_iald (h0 15 (Nat.le_of_ble_eq_true rfl)) rfl rfl 34 rfl dX4_teamTime_33 (fun v1 => ?_)
      refine r_iald h1 rfl rfl 35 rfl dX4_teamTime_34 (fun v2 => ?_)
      refine r_iload_n 2 2 rfl rfl 36 rfl dX4_teamTime_35 ?_
      refine r_icmp_eq 42 39 rfl rfl dX4_teamTime_36 ?_ ?_
      · refine r_iinc (x3 + 1) 3 rfl rfl [(3, .int (x3 + 1)), (0, .ref (E.2.1 + o0)), (1, .ref (E.2.1 + o1)), (2, .int x2), (4, .int x4), (5, .int x5), (6, .int x6), (7, .int x7)] (Nat.le_of_ble_eq_true rfl) rfl 45 rfl dX4_teamTime_42 ?_
        refine r_aload_n 0 1 rfl rfl 46 rfl dX4_teamTime_45 ?_
        refine r_get (h0 0 (Nat.le_of_ble_eq_true rfl)) rfl (Nat.le_of_ble_eq_true rfl) rfl rfl w_X4_teamTime_2 12 (Nat.le_of_ble_eq_true rfl) rfl w_X4_teamTime_4 (.ref (E.2.1 + (o0 + 19))) rfl 49 rfl dX4_teamTime_46 ?_
        refine r_aload_n 0 1 rfl rfl 50 rfl dX4_teamTime_49 ?_
        refine r_get (h0 0 (Nat.le_of_ble_eq_true rfl)) rfl (Nat.le_of_ble_eq_true rfl) rfl rfl w_X4_teamTime_2 8 (Nat.le_of_ble_eq_true rfl) rfl w_X4_teamTime_3 (.ref (E.2.1 + (o0 + 15))) rfl 53 rfl dX4_teamTime_50 ?_
        refine r_iload 7 7 rfl 55 rfl dX4_teamTime_53 ?_
        refine r_iald (h0 15 (Nat.le_of_ble_eq_true rfl)) rfl rfl 56 rfl dX4_teamTime_55 (fun v3 => ?_)
        refine r_iald (h0 19 (Nat.le_of_ble_eq_true rfl)) rfl rfl 57 rfl dX4_teamTime_56 (fun v4 => ?_)
        refine r_istore 8 [(8, .int v4), (3, .int (x3 + 1)), (0, .ref (E.2.1 + o0)), (1, .ref (E.2.1 + o1)), (2, .int x2), (4, .int x4), (5, .int x5), (6, .int x6), (7, .int x7)] (Nat.le_of_ble_eq_true rfl) rfl 59 rfl dX4_teamTime_57 ?_
        refine r_iload 6 7 rfl 61 rfl dX4_teamTime_59 ?_
        refine r_iload 5 6 rfl 63 rfl dX4_teamTime_61 ?_
        refine r_iload 8 0 rfl 65 rfl dX4_teamTime_63 ?_
        refine r_mmax w_X4_teamTime_5 w_X4_teamTime_6 w_X4_teamTime_7 w_X4_teamTime_8 (Nat.le_of_ble_eq_true rfl) (Nat.le_of_ble_eq_true rfl) (Nat.le_of_ble_eq_true rfl) (Nat.le_of_ble_eq_true rfl) 68 rfl dX4_teamTime_65 ?_
        refine r_mmin w_X4_teamTime_9 w_X4_teamTime_10 w_X4_teamTime_7 w_X4_teamTime_11 (Nat.le_of_ble_eq_true rfl) (Nat.le_of_ble_eq_true rfl) (Nat.le_of_ble_eq_true rfl) (Nat.le_of_ble_eq_true rfl) 71 rfl dX4_teamTime_68 ?_
        refine r_nami (fun v5 => ?_)
        refine r_istore 6 [(6, .int v5), (8, .int v4), (3, .int (x3 + 1)), (0, .ref (E.2.1 + o0)), (1, .ref (E.2.1 + o1)), (2, .int x2), (4, .int x4), (5, .int x5), (7, .int x7)] (Nat.le_of_ble_eq_true rfl) rfl 73 rfl dX4_teamTime_71 ?_
        refine r_iload 5 7 rfl 75 rfl dX4_teamTime_73 ?_
        refine r_iload 4 6 rfl 77 rfl dX4_teamTime_75 ?_
        refine r_iload 8 1 rfl 79 rfl dX4_teamTime_77 ?_
        refine r_mmax w_X4_teamTime_5 w_X4_teamTime_6 w_X4_teamTime_7 w_X4_teamTime_8 (Nat.le_of_ble_eq_true rfl) (Nat.le_of_ble_eq_true rfl) (Nat.le_of_ble_eq_true rfl) (Nat.le_of_ble_eq_true rfl) 82 rfl dX4_teamTime_79 ?_
        refine r_mmin w_X4_teamTime_9 w_X4_teamTime_10 w_X4_teamTime_7 w_X4_teamTime_11 (Nat.le_of_ble_eq_true rfl) (Nat.le_of_ble_eq_true rfl) (Nat.le_of_ble_eq_true rfl) (Nat.le_of_ble_eq_true rfl) 85 rfl dX4_teamTime_82 ?_
        refine r_nami (fun v6 => ?_)
        refine r_istore 5 [(5, .int v6), (6, .int v5), (8, .int v4), (3, .int (x3 + 1)), (0, .ref (E.2.1 + o0)), (1, .ref (E.2.1 + o1)), (2, .int x2), (4, .int x4), (7, .int x7)] (Nat.le_of_ble_eq_true rfl) rfl 87 rfl dX4_teamTime_85 ?_
        refine r_iload 4 7 rfl 89 rfl dX4_teamTime_87 ?_
        refine r_iload 8 2 rfl 91 rfl dX4_teamTime_89 ?_
        refine r_mmin w_X4_teamTime_9 w_X4_teamTime_10 w_X4_teamTime_7 w_X4_teamTime_11 (Nat.le_of_ble_eq_true rfl) (Nat.le_of_ble_eq_true rfl) (Nat.le_of_ble_eq_true rfl) (Nat.le_of_ble_eq_true rfl) 94 rfl dX4_teamTime_91 ?_
        refine r_nami (fun v7 => ?_)
        refine r_istore 4 [(4, .int v7), (5, .int v6), (6, .int v5), (8, .int v4), (3, .int (x3 + 1)), (0, .ref (E.2.1 + o0)), (1, .ref (E.2.1 + o1)), (2, .int x2), (7, .int x7)] (Nat.le_of_ble_eq_true rfl) rfl 96 rfl dX4_teamTime_94 ?_
        refine r_iinc (x7 + 1) 8 rfl rfl [(7, .int (x7 + 1)), (4, .int v7), (5, .int v6), (6, .int v5), (8, .int v4), (3, .int (x3 + 1)), (0, .ref (E.2.1 + o0)), (1, .ref (E.2.1 + o1)), (2, .int x2)] (Nat.le_of_ble_eq_true rfl) rfl 99 rfl dX4_teamTime_96 ?_
        refine r_goto 17 rfl dX4_teamTime_99 ?_
        refine r_sub [6, 7, 8, 5, 1, 2, 3, 0] rfl ?_
        exact ih (x3 + 1) v7 v6 v5 (x7 + 1)
      · refine r_goto 96 rfl dX4_teamTime_39 ?_
        refine r_iinc (x7 + 1) 7 rfl rfl [(7, .int (x7 + 1)), (0, .ref (E.2.1 + o0)), (1, .ref (E.2.1 + o1)), (2, .int x2), (3, .int x3), (4, .int x4), (5, .int x5), (6, .int x6)] (Nat.le_of_ble_eq_true rfl) rfl 99 rfl dX4_teamTime_96 ?_
        refine r_goto 17 rfl dX4_teamTime_99 ?_
        refine r_sub [1, 2, 3, 4, 5, 6, 7, 0] rfl ?_
        exact ih x3 x4 x5 x6 (x7 + 1)
def f_X4_teamTime (d : z_D) (o0 : Nat) (o1 : Nat) (x2 : Int32) : Option Int32 := (f_X4_teamTime_L17 d o0 o1 x2 (fun v8 v9 v10 v11 => (if 3 ≤ v8 then (some ((v9 + v10) + v11)) else (some (3 * (d o0 17))))) z_N 0 1000000 1000000 1000000 0)
set_option maxHeartbeats 4000000 in
set_option maxRecDepth 100000 in
theorem c_X4_teamTime {E : z_E} {l : Launch} {S : z_S} (d : z_D) (o0 : Nat) (h0 : A_Stage S o0) (o1 : Nat) (h1 : z_at S o1 (8, 16, z_nn)) (x2 : Int32) : z_Sp E l yX4_teamTime Y_X4_teamTime (cvI S d) [.ref (E.2.1 + o0), .ref (E.2.1 + o1), .int x2] (S, d) (f_X4_teamTime d o0 o1 x2) := by
  refine z_entry (lv := [(0, .ref (E.2.1 + o0)), (1, .ref (E.2.1 + o1)), (2, .int x2)]) (by decide) rfl rfl (Nat.le_of_ble_eq_true rfl) rfl ?_
  unfold f_X4_teamTime
  refine r_iconst 0 rfl 1 rfl dX4_teamTime_0 ?_
  refine r_istore_n 3 rfl [(3, .int 0), (0, .ref (E.2.1 + o0)), (1, .ref (E.2.1 + o1)), (2, .int x2)] (Nat.le_of_ble_eq_true rfl) rfl 2 rfl dX4_teamTime_1 ?_
  refine r_ldc (v := 1000000) w_X4_teamTime_0 4 rfl dX4_teamTime_2 ?_
  refine r_istore 4 [(4, .int 1000000), (3, .int 0), (0, .ref (E.2.1 + o0)), (1, .ref (E.2.1 + o1)), (2, .int x2)] (Nat.le_of_ble_eq_true rfl) rfl 6 rfl dX4_teamTime_4 ?_
  refine r_ldc (v := 1000000) w_X4_teamTime_0 8 rfl dX4_teamTime_6 ?_
  refine r_istore 5 [(5, .int 1000000), (4, .int 1000000), (3, .int 0), (0, .ref (E.2.1 + o0)), (1, .ref (E.2.1 + o1)), (2, .int x2)] (Nat.le_of_ble_eq_true rfl) rfl 10 rfl dX4_teamTime_8 ?_
  refine r_ldc (v := 1000000) w_X4_teamTime_0 12 rfl dX4_teamTime_10 ?_
  refine r_istore 6 [(6, .int 1000000), (5, .int 1000000), (4, .int 1000000), (3, .int 0), (0, .ref (E.2.1 + o0)), (1, .ref (E.2.1 + o1)), (2, .int x2)] (Nat.le_of_ble_eq_true rfl) rfl 14 rfl dX4_teamTime_12 ?_
  refine r_iconst 0 rfl 15 rfl dX4_teamTime_14 ?_
  refine r_istore 7 [(7, .int 0), (6, .int 1000000), (5, .int 1000000), (4, .int 1000000), (3, .int 0), (0, .ref (E.2.1 + o0)), (1, .ref (E.2.1 + o1)), (2, .int x2)] (Nat.le_of_ble_eq_true rfl) rfl 17 rfl dX4_teamTime_15 ?_
  refine r_sub [5, 6, 7, 4, 3, 2, 1, 0] rfl ?_
  refine g_X4_teamTime_L17 h0 h1 (fun v8 v9 v10 v11 => ?_) z_N 0 1000000 1000000 1000000 0
  refine r_iload_n 3 1 rfl rfl 103 rfl dX4_teamTime_102 ?_
  refine r_iconst 3 rfl 104 rfl dX4_teamTime_103 ?_
  refine r_icmp_ge 116 107 rfl rfl dX4_teamTime_104 ?_ ?_
  · refine r_iload 4 2 rfl 118 rfl dX4_teamTime_116 ?_
    refine r_iload 5 3 rfl 120 rfl dX4_teamTime_118 ?_
    refine r_iadd 121 rfl dX4_teamTime_120 ?_
    refine r_iload 6 4 rfl 123 rfl dX4_teamTime_121 ?_
    refine r_iadd 124 rfl dX4_teamTime_123 ?_
    exact r_ireturn rfl rfl (Nat.le_of_ble_eq_true rfl) (Nat.le_of_ble_eq_true rfl) dX4_teamTime_124
  · refine r_iconst 3 rfl 108 rfl dX4_teamTime_107 ?_
    refine r_aload_n 0 0 rfl rfl 109 rfl dX4_teamTime_108 ?_
    refine r_get (h0 0 (Nat.le_of_ble_eq_true rfl)) rfl (Nat.le_of_ble_eq_true rfl) rfl rfl w_X4_teamTime_2 17 (Nat.le_of_ble_eq_true rfl) rfl w_X4_teamTime_12 (.int (d o0 17)) rfl 112 rfl dX4_teamTime_109 ?_
    refine r_imul 113 rfl dX4_teamTime_112 ?_
    refine r_goto 124 rfl dX4_teamTime_113 ?_
    exact r_ireturn rfl rfl (Nat.le_of_ble_eq_true rfl) (Nat.le_of_ble_eq_true rfl) dX4_teamTime_124
