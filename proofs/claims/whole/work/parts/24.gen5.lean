/-! 24.gen5: by gen/mk.py -/
def Y_X5_entry : z_Y := (RX5, cX5_entry, 2, wsX5_entry, (some .int), { frames := 1, cells := 0, slots := 0, locals := 22 }, 0, 0)
theorem ok_X5_entry : z_Ok yX5_entry Y_X5_entry 1 := ⟨⟨_, rfl⟩, rfl, rfl, rfl, by decide +kernel, by decide +kernel⟩
theorem w_X5_entry_0 : Cond.fieldLink RX5 24 "BunchTimes$Standings" "size" "I" ∈ wsX5_entry := by decide +kernel
theorem w_X5_entry_1 : ∀ w ∈ u_ws RX5 TX5 5, w ∈ wsX5_entry := by decide +kernel
theorem w_X5_entry_2 : Cond.initialized RX8 ∈ wsX5_entry := by decide +kernel
theorem w_X5_entry_3 : Cond.static yX8_within ∈ wsX5_entry := by decide +kernel
theorem w_X5_entry_4 : Cond.fieldLink RX5 9 "BunchTimes$Standings" "order" "[I" ∈ wsX5_entry := by decide +kernel
def f_X5_entry (d : z_D) (o0 : Nat) (x1 : Int32) : Option Int32 := ((f_X8_within x1 0 ((d o0 4) - 1)).bind fun v1 => (if v1 = 0 then (some (-1)) else z_ald d (o0 + 1) 16 x1 (fun v2 => (some v2))))
set_option maxHeartbeats 4000000 in
set_option maxRecDepth 100000 in
theorem c_X5_entry {E : z_E} {l : Launch} {S : z_S} (d : z_D) (o0 : Nat) (h0 : A_Standings S o0) (x1 : Int32) : z_Sp E l yX5_entry Y_X5_entry (cvI S d) [.ref (E.2.1 + o0), .int x1] (S, d) (f_X5_entry d o0 x1) := by
  refine z_entry (lv := [(0, .ref (E.2.1 + o0)), (1, .int x1)]) (by decide) rfl rfl (Nat.le_of_ble_eq_true rfl) rfl ?_
  unfold f_X5_entry
  refine r_iload_n 1 1 rfl rfl 1 rfl dX5_entry_0 ?_
  refine r_iconst 0 rfl 2 rfl dX5_entry_1 ?_
  refine r_aload_n 0 0 rfl rfl 3 rfl dX5_entry_2 ?_
  refine r_get (h0 0 (Nat.le_of_ble_eq_true rfl)) rfl (Nat.le_of_ble_eq_true rfl) rfl rfl w_X5_entry_1 4 (Nat.le_of_ble_eq_true rfl) rfl w_X5_entry_0 (.int (d o0 4)) rfl 6 rfl dX5_entry_3 ?_
  refine r_iconst 1 rfl 7 rfl dX5_entry_6 ?_
  refine r_isub 8 rfl dX5_entry_7 ?_
  refine r_callSN_I (c_X8_within (E := E) (l := l) (S := S) d x1 0 ((d o0 4) - 1)) ok_X8_within ⟨⟨(Nat.le_of_ble_eq_true rfl), (Nat.le_of_ble_eq_true rfl)⟩, (Nat.le_of_ble_eq_true rfl), (Nat.le_of_ble_eq_true rfl)⟩ rfl (Nat.le_of_ble_eq_true rfl) 91 rfl gX5_entry_X8_within_n28 w_X5_entry_2 w_X5_entry_3 rfl rfl 11 rfl dX5_entry_8 (fun v1 => ?_)
  refine r_if_eq 23 14 rfl rfl dX5_entry_11 ?_ ?_
  · refine r_iconst (-1) rfl 24 rfl dX5_entry_23 ?_
    exact r_ireturn rfl rfl (Nat.le_of_ble_eq_true rfl) (Nat.le_of_ble_eq_true rfl) dX5_entry_24
  · refine r_aload_n 0 0 rfl rfl 15 rfl dX5_entry_14 ?_
    refine r_get (h0 0 (Nat.le_of_ble_eq_true rfl)) rfl (Nat.le_of_ble_eq_true rfl) rfl rfl w_X5_entry_1 0 (Nat.le_of_ble_eq_true rfl) rfl w_X5_entry_4 (.ref (E.2.1 + (o0 + 1))) rfl 18 rfl dX5_entry_15 ?_
    refine r_iload_n 1 1 rfl rfl 19 rfl dX5_entry_18 ?_
    refine r_iald (h0 1 (Nat.le_of_ble_eq_true rfl)) rfl rfl 20 rfl dX5_entry_19 (fun v2 => ?_)
    refine r_goto 24 rfl dX5_entry_20 ?_
    exact r_ireturn rfl rfl (Nat.le_of_ble_eq_true rfl) (Nat.le_of_ble_eq_true rfl) dX5_entry_24
def Y_X5_isLess : z_Y := (RX5, cX5_isLess, 3, wsX5_isLess, (some .boolean), { frames := 0, cells := 0, slots := 0, locals := 0 }, 0, 0)
theorem ok_X5_isLess : z_Ok yX5_isLess Y_X5_isLess 2 := ⟨⟨_, rfl⟩, rfl, rfl, rfl, by decide +kernel, by decide +kernel⟩
theorem w_X5_isLess_0 : Cond.fieldLink RX5 15 "BunchTimes$Standings" "sums" "[I" ∈ wsX5_isLess := by decide +kernel
theorem w_X5_isLess_1 : ∀ w ∈ u_ws RX5 TX5 5, w ∈ wsX5_isLess := by decide +kernel
theorem w_X5_isLess_2 : Cond.fieldLink RX5 18 "BunchTimes$Standings" "places" "[I" ∈ wsX5_isLess := by decide +kernel
def f_X5_isLess (d : z_D) (o0 : Nat) (x1 : Int32) (x2 : Int32) : Option Int32 := z_ald d (o0 + 2) 16 x1 (fun v1 => z_ald d (o0 + 2) 16 x2 (fun v2 => (if v1 = v2 then z_ald d (o0 + 3) 16 x1 (fun v3 => z_ald d (o0 + 3) 16 x2 (fun v4 => (if v4 ≤ v3 then (some 0) else (some 1)))) else z_ald d (o0 + 2) 16 x1 (fun v5 => z_ald d (o0 + 2) 16 x2 (fun v6 => (if v6 ≤ v5 then (some 0) else (some 1)))))))
set_option maxHeartbeats 4000000 in
set_option maxRecDepth 100000 in
theorem c_X5_isLess {E : z_E} {l : Launch} {S : z_S} (d : z_D) (o0 : Nat) (h0 : A_Standings S o0) (x1 : Int32) (x2 : Int32) : z_Sp E l yX5_isLess Y_X5_isLess (cvI S d) [.ref (E.2.1 + o0), .int x1, .int x2] (S, d) (f_X5_isLess d o0 x1 x2) := by
  refine z_entry (lv := [(0, .ref (E.2.1 + o0)), (1, .int x1), (2, .int x2)]) (by decide) rfl rfl (Nat.le_of_ble_eq_true rfl) rfl ?_
  unfold f_X5_isLess
  refine r_aload_n 0 0 rfl rfl 1 rfl dX5_isLess_0 ?_
  refine r_get (h0 0 (Nat.le_of_ble_eq_true rfl)) rfl (Nat.le_of_ble_eq_true rfl) rfl rfl w_X5_isLess_1 1 (Nat.le_of_ble_eq_true rfl) rfl w_X5_isLess_0 (.ref (E.2.1 + (o0 + 2))) rfl 4 rfl dX5_isLess_1 ?_
  refine r_iload_n 1 1 rfl rfl 5 rfl dX5_isLess_4 ?_
  refine r_iald (h0 2 (Nat.le_of_ble_eq_true rfl)) rfl rfl 6 rfl dX5_isLess_5 (fun v1 => ?_)
  refine r_aload_n 0 0 rfl rfl 7 rfl dX5_isLess_6 ?_
  refine r_get (h0 0 (Nat.le_of_ble_eq_true rfl)) rfl (Nat.le_of_ble_eq_true rfl) rfl rfl w_X5_isLess_1 1 (Nat.le_of_ble_eq_true rfl) rfl w_X5_isLess_0 (.ref (E.2.1 + (o0 + 2))) rfl 10 rfl dX5_isLess_7 ?_
  refine r_iload_n 2 2 rfl rfl 11 rfl dX5_isLess_10 ?_
  refine r_iald (h0 2 (Nat.le_of_ble_eq_true rfl)) rfl rfl 12 rfl dX5_isLess_11 (fun v2 => ?_)
  refine r_icmp_eq 36 15 rfl rfl dX5_isLess_12 ?_ ?_
  · refine r_aload_n 0 0 rfl rfl 37 rfl dX5_isLess_36 ?_
    refine r_get (h0 0 (Nat.le_of_ble_eq_true rfl)) rfl (Nat.le_of_ble_eq_true rfl) rfl rfl w_X5_isLess_1 2 (Nat.le_of_ble_eq_true rfl) rfl w_X5_isLess_2 (.ref (E.2.1 + (o0 + 3))) rfl 40 rfl dX5_isLess_37 ?_
    refine r_iload_n 1 1 rfl rfl 41 rfl dX5_isLess_40 ?_
    refine r_iald (h0 3 (Nat.le_of_ble_eq_true rfl)) rfl rfl 42 rfl dX5_isLess_41 (fun v3 => ?_)
    refine r_aload_n 0 0 rfl rfl 43 rfl dX5_isLess_42 ?_
    refine r_get (h0 0 (Nat.le_of_ble_eq_true rfl)) rfl (Nat.le_of_ble_eq_true rfl) rfl rfl w_X5_isLess_1 2 (Nat.le_of_ble_eq_true rfl) rfl w_X5_isLess_2 (.ref (E.2.1 + (o0 + 3))) rfl 46 rfl dX5_isLess_43 ?_
    refine r_iload_n 2 2 rfl rfl 47 rfl dX5_isLess_46 ?_
    refine r_iald (h0 3 (Nat.le_of_ble_eq_true rfl)) rfl rfl 48 rfl dX5_isLess_47 (fun v4 => ?_)
    refine r_icmp_ge 55 51 rfl rfl dX5_isLess_48 ?_ ?_
    · refine r_iconst 0 rfl 56 rfl dX5_isLess_55 ?_
      exact r_zreturnc (by decide) rfl rfl (Nat.le_of_ble_eq_true rfl) (Nat.le_of_ble_eq_true rfl) dX5_isLess_56
    · refine r_iconst 1 rfl 52 rfl dX5_isLess_51 ?_
      refine r_goto 56 rfl dX5_isLess_52 ?_
      exact r_zreturnc (by decide) rfl rfl (Nat.le_of_ble_eq_true rfl) (Nat.le_of_ble_eq_true rfl) dX5_isLess_56
  · refine r_aload_n 0 0 rfl rfl 16 rfl dX5_isLess_15 ?_
    refine r_get (h0 0 (Nat.le_of_ble_eq_true rfl)) rfl (Nat.le_of_ble_eq_true rfl) rfl rfl w_X5_isLess_1 1 (Nat.le_of_ble_eq_true rfl) rfl w_X5_isLess_0 (.ref (E.2.1 + (o0 + 2))) rfl 19 rfl dX5_isLess_16 ?_
    refine r_iload_n 1 1 rfl rfl 20 rfl dX5_isLess_19 ?_
    refine r_iald (h0 2 (Nat.le_of_ble_eq_true rfl)) rfl rfl 21 rfl dX5_isLess_20 (fun v5 => ?_)
    refine r_aload_n 0 0 rfl rfl 22 rfl dX5_isLess_21 ?_
    refine r_get (h0 0 (Nat.le_of_ble_eq_true rfl)) rfl (Nat.le_of_ble_eq_true rfl) rfl rfl w_X5_isLess_1 1 (Nat.le_of_ble_eq_true rfl) rfl w_X5_isLess_0 (.ref (E.2.1 + (o0 + 2))) rfl 25 rfl dX5_isLess_22 ?_
    refine r_iload_n 2 2 rfl rfl 26 rfl dX5_isLess_25 ?_
    refine r_iald (h0 2 (Nat.le_of_ble_eq_true rfl)) rfl rfl 27 rfl dX5_isLess_26 (fun v6 => ?_)
    refine r_icmp_ge 34 30 rfl rfl dX5_isLess_27 ?_ ?_
    · refine r_iconst 0 rfl 35 rfl dX5_isLess_34 ?_
      exact r_zreturnc (by decide) rfl rfl (Nat.le_of_ble_eq_true rfl) (Nat.le_of_ble_eq_true rfl) dX5_isLess_35
    · refine r_iconst 1 rfl 31 rfl dX5_isLess_30 ?_
      refine r_goto 35 rfl dX5_isLess_31 ?_
      exact r_zreturnc (by decide) rfl rfl (Nat.le_of_ble_eq_true rfl) (Nat.le_of_ble_eq_true rfl) dX5_isLess_35
def Y_X5_insert : z_Y := (RX5, cX5_insert, 3, wsX5_insert, none, { frames := 1, cells := 0, slots := 0, locals := 22 }, 0, 0)
theorem ok_X5_insert : z_Ok yX5_insert Y_X5_insert 1 := ⟨⟨_, rfl⟩, rfl, rfl, rfl, by decide +kernel, by decide +kernel⟩
theorem w_X5_insert_0 : Cond.fieldLink RX5 24 "BunchTimes$Standings" "size" "I" ∈ wsX5_insert := by decide +kernel
theorem w_X5_insert_1 : ∀ w ∈ u_ws RX5 TX5 5, w ∈ wsX5_insert := by decide +kernel
theorem w_X5_insert_2 : Cond.fieldLink RX5 9 "BunchTimes$Standings" "order" "[I" ∈ wsX5_insert := by decide +kernel
def f_X5_insert_L5_b (o0 : Nat) (x1 : Int32) (K : Int32 → z_D → Option z_D) (R : Int32 → z_D → Option z_D) (x2 : Int32) (d : z_D) : Option z_D := (if x2 ≤ 0 then (K x2 d) else z_ald d (o0 + 1) 16 (x2 - 1) (fun v2 => ((f_X5_isLess d o0 x1 v2).bind fun v3 => (if v3 = 0 then (K x2 d) else z_ald d (o0 + 1) 16 (x2 - 1) (fun v4 => z_ast d (o0 + 1) 16 x2 v4 (fun d5 => (R (x2 + (-1)) d5)))))))
def f_X5_insert_L5 (o0 : Nat) (x1 : Int32) (K : Int32 → z_D → Option z_D) : Nat → Int32 → z_D → Option z_D
  | 0 => fun _ _ => none
  | n + 1 => f_X5_insert_L5_b o0 x1 K (f_X5_insert_L5 o0 x1 K n)
set_option maxHeartbeats 4000000 in
set_option maxRecDepth 100000 in
theorem g_X5_insert_L5 {E : z_E} {l : Launch} {S : z_S} {o0 : Nat} {x1 : Int32} {K : Int32 → z_D → Option z_D} (h0 : A_Standings S o0) (hK : ∀ (y2 : Int32) (d9 : z_D), z_G E l Y_X5_insert (cvV S) (K y2 d9) 45 [(0, .ref (E.2.1 + o0)), (1, .int x1), (2, .int y2)] [] (S, d9) 0 0) : ∀ (n : Nat) (x2 : Int32) (d : z_D), z_G E l Y_X5_insert (cvV S) (f_X5_insert_L5 o0 x1 K n x2 d) 5 [(0, .ref (E.2.1 + o0)), (1, .int x1), (2, .int x2)] [] (S, d) 0 0 := by
  intro n
  induction n with
  | zero => intro _ _; exact r_none
  | succ n ih =>
    intro x2 d
    show z_G E l Y_X5_insert (cvV S) (f_X5_insert_L5_b o0 x1 K (f_X5_insert_L5 o0 x1 K n) x2 d) 5 [(0, .ref (E.2.1 + o0)), (1, .int x1), (2, .int x2)] [] (S, d) 0 0
    unfold f_X5_insert_L5_b
    refine r_iload_n 2 2 rfl rfl 6 rfl dX5_insert_5 ?_
    refine r_if_le 45 9 rfl rfl dX5_insert_6 ?_ ?_
    · refine r_sub [0, 1, 2] rfl ?_
      exact hK x2 d
    · refine r_aload_n 0 0 rfl rfl 10 rfl dX5_insert_9 ?_
      refine r_iload_n 1 1 rfl rfl 11 rfl dX5_insert_10 ?_
      refine r_aload_n 0 0 rfl rfl 12 rfl dX5_insert_11 ?_
      refine r_get (h0 0 (Nat.le_of_ble_eq_true rfl)) rfl (Nat.le_of_ble_eq_true rfl) rfl rfl w_X5_insert_1 0 (Nat.le_of_ble_eq_true rfl) rfl w_X5_insert_2 (.ref (E.2.1 + (o0 + 1))) rfl 15 rfl dX5_insert_12 ?_
      refine r_iload_n 2 2 rfl rfl 16 rfl dX5_insert_15 ?_
      refine r_iconst 1 rfl 17 rfl dX5_insert_16 ?_
      refine r_isub 18 rfl dX5_insert_17 ?_
      refine r_iald (h0 1 (Nat.le_of_ble_eq_true rfl)) rfl rfl 19 rfl dX5_insert_18 (fun v2 => ?_)
      refine r_callV_I (c_X5_isLess (E := E) (l := l) (S := S) d o0 h0 x1 v2) ok_X5_isLess ⟨⟨(Nat.le_of_ble_eq_true rfl), (Nat.le_of_ble_eq_true rfl)⟩, (Nat.le_of_ble_eq_true rfl), (Nat.le_of_ble_eq_true rfl)⟩ (h0 0 (Nat.le_of_ble_eq_true rfl)) (Nat.le_of_ble_eq_true rfl) rfl rfl rfl (Nat.le_of_ble_eq_true rfl) gX5_insert_X5_isLess rfl rfl 22 rfl dX5_insert_19 (fun v3 => ?_)
      refine r_if_eq 45 25 rfl rfl dX5_insert_22 ?_ ?_
      · refine r_sub [0, 1, 2] rfl ?_
        exact hK x2 d
      · refine r_aload_n 0 0 rfl rfl 26 rfl dX5_insert_25 ?_
        refine r_get (h0 0 (Nat.le_of_ble_eq_true rfl)) rfl (Nat.le_of_ble_eq_true rfl) rfl rfl w_X5_insert_1 0 (Nat.le_of_ble_eq_true rfl) rfl w_X5_insert_2 (.ref (E.2.1 + (o0 + 1))) rfl 29 rfl dX5_insert_26 ?_
        refine r_iload_n 2 2 rfl rfl 30 rfl dX5_insert_29 ?_
        refine r_aload_n 0 0 rfl rfl 31 rfl dX5_insert_30 ?_
        refine r_get (h0 0 (Nat.le_of_ble_eq_true rfl)) rfl (Nat.le_of_ble_eq_true rfl) rfl rfl w_X5_insert_1 0 (Nat.le_of_ble_eq_true rfl) rfl w_X5_insert_2 (.ref (E.2.1 + (o0 + 1))) rfl 34 rfl dX5_insert_31 ?_
        refine r_iload_n 2 2 rfl rfl 35 rfl dX5_insert_34 ?_
        refine r_iconst 1 rfl 36 rfl dX5_insert_35 ?_
        refine r_isub 37 rfl dX5_insert_36 ?_
        refine r_iald (h0 1 (Nat.le_of_ble_eq_true rfl)) rfl rfl 38 rfl dX5_insert_37 (fun v4 => ?_)
        refine r_iast (h0 1 (Nat.le_of_ble_eq_true rfl)) rfl rfl 39 rfl dX5_insert_38 (fun d5 => ?_)
        refine r_iinc (x2 + (-1)) 2 rfl (congrArg (fun y => x2 + y) (by decide)) [(2, .int (x2 + (-1))), (0, .ref (E.2.1 + o0)), (1, .int x1)] (Nat.le_of_ble_eq_true rfl) rfl 42 rfl dX5_insert_39 ?_
        refine r_goto 5 rfl dX5_insert_42 ?_
        refine r_sub [1, 2, 0] rfl ?_
        exact ih (x2 + (-1)) d5
def f_X5_insert (d : z_D) (o0 : Nat) (x1 : Int32) : Option z_D := z_nam (d o0 4) (fun v1 => (f_X5_insert_L5 o0 x1 (fun v7 d6 => z_ast d6 (o0 + 1) 16 v7 x1 (fun d8 => z_put d8 o0 4 ((d8 o0 4) + 1) (fun d9 => (some d9)))) z_N v1 d))
set_option maxHeartbeats 4000000 in
set_option maxRecDepth 100000 in
theorem c_X5_insert {E : z_E} {l : Launch} {S : z_S} (d : z_D) (o0 : Nat) (h0 : A_Standings S o0) (x1 : Int32) : z_Sp E l yX5_insert Y_X5_insert (cvV S) [.ref (E.2.1 + o0), .int x1] (S, d) (f_X5_insert d o0 x1) := by
  refine z_entry (lv := [(0, .ref (E.2.1 + o0)), (1, .int x1)]) (by decide) rfl rfl (Nat.le_of_ble_eq_true rfl) rfl ?_
  unfold f_X5_insert
  refine r_aload_n 0 0 rfl rfl 1 rfl dX5_insert_0 ?_
  refine r_get (h0 0 (Nat.le_of_ble_eq_true rfl)) rfl (Nat.le_of_ble_eq_true rfl) rfl rfl w_X5_insert_1 4 (Nat.le_of_ble_eq_true rfl) rfl w_X5_insert_0 (.int (d o0 4)) rfl 4 rfl dX5_insert_1 ?_
  refine r_nami (fun v1 => ?_)
  refine r_istore_n 2 rfl [(2, .int v1), (0, .ref (E.2.1 + o0)), (1, .int x1)] (Nat.le_of_ble_eq_true rfl) rfl 5 rfl dX5_insert_4 ?_
  refine r_sub [1, 2, 0] rfl ?_
  refine g_X5_insert_L5 h0 (fun v7 d6 => ?_) z_N v1 d
  refine r_aload_n 0 0 rfl rfl 46 rfl dX5_insert_45 ?_
  refine r_get (h0 0 (Nat.le_of_ble_eq_true rfl)) rfl (Nat.le_of_ble_eq_true rfl) rfl rfl w_X5_insert_1 0 (Nat.le_of_ble_eq_true rfl) rfl w_X5_insert_2 (.ref (E.2.1 + (o0 + 1))) rfl 49 rfl dX5_insert_46 ?_
  refine r_iload_n 2 2 rfl rfl 50 rfl dX5_insert_49 ?_
  refine r_iload_n 1 1 rfl rfl 51 rfl dX5_insert_50 ?_
  refine r_iast (h0 1 (Nat.le_of_ble_eq_true rfl)) rfl rfl 52 rfl dX5_insert_51 (fun d8 => ?_)
  refine r_aload_n 0 0 rfl rfl 53 rfl dX5_insert_52 ?_
  refine r_dup rfl 54 rfl dX5_insert_53 ?_
  refine r_get (h0 0 (Nat.le_of_ble_eq_true rfl)) rfl (Nat.le_of_ble_eq_true rfl) rfl rfl w_X5_insert_1 4 (Nat.le_of_ble_eq_true rfl) rfl w_X5_insert_0 (.int (d8 o0 4)) rfl 57 rfl dX5_insert_54 ?_
  refine r_iconst 1 rfl 58 rfl dX5_insert_57 ?_
  refine r_iadd 59 rfl dX5_insert_58 ?_
  refine r_put (h0 0 (Nat.le_of_ble_eq_true rfl)) rfl (Nat.le_of_ble_eq_true rfl) rfl rfl w_X5_insert_1 tyX5 tyX5_ok nmX5 (Nat.le_of_ble_eq_true rfl) rfl w_X5_insert_0 rfl rfl rfl rfl rfl 62 rfl dX5_insert_59 (fun d9 => ?_)
  exact r_return rfl rfl (Nat.le_of_ble_eq_true rfl) (Nat.le_of_ble_eq_true rfl) dX5_insert_62
def Y_X5_rankRiders : z_Y := (RX5, cX5_rankRiders, 5, wsX5_rankRiders, none, { frames := 2, cells := 0, slots := 0, locals := 45 }, 0, 0)
theorem ok_X5_rankRiders : z_Ok yX5_rankRiders Y_X5_rankRiders 3 := ⟨⟨_, rfl⟩, rfl, rfl, rfl, by decide +kernel, by decide +kernel⟩
theorem w_X5_rankRiders_0 : Cond.fieldLink RX5 24 "BunchTimes$Standings" "size" "I" ∈ wsX5_rankRiders := by decide +kernel
theorem w_X5_rankRiders_1 : ∀ w ∈ u_ws RX5 TX5 5, w ∈ wsX5_rankRiders := by decide +kernel
theorem w_X5_rankRiders_2 : ∀ w ∈ u_ws RX3 TX3 10, w ∈ wsX5_rankRiders := by decide +kernel
theorem w_X5_rankRiders_3 : Cond.fieldLink RX5 15 "BunchTimes$Standings" "sums" "[I" ∈ wsX5_rankRiders := by decide +kernel
theorem w_X5_rankRiders_4 : Cond.initialized RX3 ∈ wsX5_rankRiders := by decide +kernel
theorem w_X5_rankRiders_5 : Cond.instanceMethod yX3_sumOf ∈ wsX5_rankRiders := by decide +kernel
theorem w_X5_rankRiders_6 : Cond.selects RX3 yX3_sumOf yX3_sumOf ∈ wsX5_rankRiders := by decide +kernel
theorem w_X5_rankRiders_7 : Cond.fieldLink RX5 18 "BunchTimes$Standings" "places" "[I" ∈ wsX5_rankRiders := by decide +kernel
theorem w_X5_rankRiders_8 : Cond.instanceMethod yX3_placesOf ∈ wsX5_rankRiders := by decide +kernel
theorem w_X5_rankRiders_9 : Cond.selects RX3 yX3_placesOf yX3_placesOf ∈ wsX5_rankRiders := by decide +kernel
def f_X5_rankRiders_L8_b (o0 : Nat) (o1 : Nat) (x2 : Int32) (x3 : Int32) (K : z_D → Option z_D) (R : Int32 → z_D → Option z_D) (x4 : Int32) (d : z_D) : Option z_D := (if (d o1 1) ≤ x4 then (K d) else z_ald d (o1 + 3) 16 x4 (fun v2 => (if v2 = 0 then (R (x4 + 1) d) else z_ald d (o1 + 2) 16 x4 (fun v3 => (if x3 < v3 then (R (x4 + 1) d) else ((f_X3_sumOf d o1 x4 x2).bind fun v4 => z_ast d (o0 + 2) 16 x4 v4 (fun d5 => ((f_X3_placesOf d5 o1 x4 x2).bind fun v6 => z_ast d5 (o0 + 3) 16 x4 v6 (fun d7 => ((f_X5_insert d7 o0 x4).bind fun d8 => (R (x4 + 1) d8)))))))))))
def f_X5_rankRiders_L8 (o0 : Nat) (o1 : Nat) (x2 : Int32) (x3 : Int32) (K : z_D → Option z_D) : Nat → Int32 → z_D → Option z_D
  | 0 => fun _ _ => none
  | n + 1 => f_X5_rankRiders_L8_b o0 o1 x2 x3 K (f_X5_rankRiders_L8 o0 o1 x2 x3 K n)
set_option maxHeartbeats 4000000 in
set_option maxRecDepth 100000 in
theorem g_X5_rankRiders_L8 {E : z_E} {l : Launch} {S : z_S} {o0 : Nat} {o1 : Nat} {x2 : Int32} {x3 : Int32} {K : z_D → Option z_D} (h0 : A_Standings S o0) (h1 : A_Race S o1) (hK : ∀ (d9 : z_D), z_G E l Y_X5_rankRiders (cvV S) (K d9) 78 [] [] (S, d9) 0 0) : ∀ (n : Nat) (x4 : Int32) (d : z_D), z_G E l Y_X5_rankRiders (cvV S) (f_X5_rankRiders_L8 o0 o1 x2 x3 K n x4 d) 8 [(0, .ref (E.2.1 + o0)), (1, .ref (E.2.1 + o1)), (2, .int x2), (3, .int x3), (4, .int x4)] [] (S, d) 0 0 := by
  intro n
  induction n with
  | zero => intro _ _; exact r_none
  | succ n ih =>
    intro x4 d
    show z_G E l Y_X5_rankRiders (cvV S) (f_X5_rankRiders_L8_b o0 o1 x2 x3 K (f_X5_rankRiders_L8 o0 o1 x2 x3 K n) x4 d) 8 [(0, .ref (E.2.1 + o0)), (1, .ref (E.2.1 + o1)), (2, .int x2), (3, .int x3), (4, .int x4)] [] (S, d) 0 0
    unfold f_X5_rankRiders_L8_b
    refine r_iload 4 4 rfl 10 rfl dX5_rankRiders_8 ?_
    refine r_aload_n 1 1 rfl rfl 11 rfl dX5_rankRiders_10 ?_
    refine r_getN 1 26 rfl (h1.1 0 (Nat.le_of_ble_eq_true rfl)) rfl (Nat.le_of_ble_eq_true rfl) rfl rfl w_X5_rankRiders_2 (Nat.le_of_ble_eq_true rfl) rfl (.int (d o1 1)) rfl 14 rfl dX5_rankRiders_11 ?_
    refine r_icmp_ge 78 17 rfl rfl dX5_rankRiders_14 ?_ ?_
    · refine r_sub [] rfl ?_
      exact hK d
    · refine r_aload_n 1 1 rfl rfl 18 rfl dX5_rankRiders_17 ?_
      refine r_getN 8 35 rfl (h1.1 0 (Nat.le_of_ble_eq_true rfl)) rfl (Nat.le_of_ble_eq_true rfl) rfl rfl w_X5_rankRiders_2 (Nat.le_of_ble_eq_true rfl) rfl (.ref (E.2.1 + (o1 + 3))) rfl 21 rfl dX5_rankRiders_18 ?_
      refine r_iload 4 4 rfl 23 rfl dX5_rankRiders_21 ?_
      refine r_zald (h1.1 3 (Nat.le_of_ble_eq_true rfl)) rfl rfl 24 rfl dX5_rankRiders_23 (fun v2 => ?_)
      refine r_if_eq 72 27 rfl rfl dX5_rankRiders_24 ?_ ?_
      · refine r_iinc (x4 + 1) 4 rfl rfl [(4, .int (x4 + 1)), (0, .ref (E.2.1 + o0)), (1, .ref (E.2.1 + o1)), (2, .int x2), (3, .int x3)] (Nat.le_of_ble_eq_true rfl) rfl 75 rfl dX5_rankRiders_72 ?_
        refine r_goto 8 rfl dX5_rankRiders_75 ?_
        refine r_sub [1, 2, 3, 4, 0] rfl ?_
        exact ih (x4 + 1) d
      · refine r_aload_n 1 1 rfl rfl 28 rfl dX5_rankRiders_27 ?_
        refine r_getN 7 33 rfl (h1.1 0 (Nat.le_of_ble_eq_true rfl)) rfl (Nat.le_of_ble_eq_true rfl) rfl rfl w_X5_rankRiders_2 (Nat.le_of_ble_eq_true rfl) rfl (.ref (E.2.1 + (o1 + 2))) rfl 31 rfl dX5_rankRiders_28 ?_
        refine r_iload 4 4 rfl 33 rfl dX5_rankRiders_31 ?_
        refine r_iald (h1.1 2 (Nat.le_of_ble_eq_true rfl)) rfl rfl 34 rfl dX5_rankRiders_33 (fun v3 => ?_)
        refine r_iload_n 3 3 rfl rfl 35 rfl dX5_rankRiders_34 ?_
        refine r_icmp_gt 72 38 rfl rfl dX5_rankRiders_35 ?_ ?_
        · refine r_iinc (x4 + 1) 4 rfl rfl [(4, .int (x4 + 1)), (0, .ref (E.2.1 + o0)), (1, .ref (E.2.1 + o1)), (2, .int x2), (3, .int x3)] (Nat.le_of_ble_eq_true rfl) rfl 75 rfl dX5_rankRiders_72 ?_
          refine r_goto 8 rfl dX5_rankRiders_75 ?_
          refine r_sub [1, 2, 3, 4, 0] rfl ?_
          exact ih (x4 + 1) d
        · refine r_aload_n 0 0 rfl rfl 39 rfl dX5_rankRiders_38 ?_
          refine r_get (h0 0 (Nat.le_of_ble_eq_true rfl)) rfl (Nat.le_of_ble_eq_true rfl) rfl rfl w_X5_rankRiders_1 1 (Nat.le_of_ble_eq_true rfl) rfl w_X5_rankRiders_3 (.ref (E.2.1 + (o0 + 2))) rfl 42 rfl dX5_rankRiders_39 ?_
          refine r_iload 4 4 rfl 44 rfl dX5_rankRiders_42 ?_
          refine r_aload_n 1 1 rfl rfl 45 rfl dX5_rankRiders_44 ?_
          refine r_iload 4 4 rfl 47 rfl dX5_rankRiders_45 ?_
          refine r_iload_n 2 2 rfl rfl 48 rfl dX5_rankRiders_47 ?_
          refine r_callVN_I (c_X3_sumOf (E := E) (l := l) (S := S) d o1 h1 x4 x2) ok_X3_sumOf ⟨⟨(Nat.le_of_ble_eq_true rfl), (Nat.le_of_ble_eq_true rfl)⟩, (Nat.le_of_ble_eq_true rfl), (Nat.le_of_ble_eq_true rfl)⟩ (h1.1 0 (Nat.le_of_ble_eq_true rfl)) (Nat.le_of_ble_eq_true rfl) rfl rfl rfl (Nat.le_of_ble_eq_true rfl) 81 rfl gX5_rankRiders_X3_sumOf_n60 w_X5_rankRiders_4 w_X5_rankRiders_5 w_X5_rankRiders_6 rfl rfl 51 rfl dX5_rankRiders_48 (fun v4 => ?_)
          refine r_iast (h0 2 (Nat.le_of_ble_eq_true rfl)) rfl rfl 52 rfl dX5_rankRiders_51 (fun d5 => ?_)
          refine r_aload_n 0 0 rfl rfl 53 rfl dX5_rankRiders_52 ?_
          refine r_get (h0 0 (Nat.le_of_ble_eq_true rfl)) rfl (Nat.le_of_ble_eq_true rfl) rfl rfl w_X5_rankRiders_1 2 (Nat.le_of_ble_eq_true rfl) rfl w_X5_rankRiders_7 (.ref (E.2.1 + (o0 + 3))) rfl 56 rfl dX5_rankRiders_53 ?_
          refine r_iload 4 4 rfl 58 rfl dX5_rankRiders_56 ?_
          refine r_aload_n 1 1 rfl rfl 59 rfl dX5_rankRiders_58 ?_
          refine r_iload 4 4 rfl 61 rfl dX5_rankRiders_59 ?_
          refine r_iload_n 2 2 rfl rfl 62 rfl dX5_rankRiders_61 ?_
          refine r_callVN_I (c_X3_placesOf (E := E) (l := l) (S := S) d5 o1 h1 x4 x2) ok_X3_placesOf ⟨⟨(Nat.le_of_ble_eq_true rfl), (Nat.le_of_ble_eq_true rfl)⟩, (Nat.le_of_ble_eq_true rfl), (Nat.le_of_ble_eq_true rfl)⟩ (h1.1 0 (Nat.le_of_ble_eq_true rfl)) (Nat.le_of_ble_eq_true rfl) rfl rfl rfl (Nat.le_of_ble_eq_true rfl) 83 rfl gX5_rankRiders_X3_placesOf_n64 w_X5_rankRiders_4 w_X5_rankRiders_8 w_X5_rankRiders_9 rfl rfl 65 rfl dX5_rankRiders_62 (fun v6 => ?_)
          refine r_iast (h0 3 (Nat.le_of_ble_eq_true rfl)) rfl rfl 66 rfl dX5_rankRiders_65 (fun d7 => ?_)
          refine r_aload_n 0 0 rfl rfl 67 rfl dX5_rankRiders_66 ?_
          refine r_iload 4 4 rfl 69 rfl dX5_rankRiders_67 ?_
          refine r_callV_V (c_X5_insert (E := E) (l := l) (S := S) d7 o0 h0 x4) ok_X5_insert ⟨⟨(Nat.le_of_ble_eq_true rfl), (Nat.le_of_ble_eq_true rfl)⟩, (Nat.le_of_ble_eq_true rfl), (Nat.le_of_ble_eq_true rfl)⟩ (h0 0 (Nat.le_of_ble_eq_true rfl)) (Nat.le_of_ble_eq_true rfl) rfl rfl rfl (Nat.le_of_ble_eq_true rfl) gX5_rankRiders_X5_insert rfl rfl 72 rfl dX5_rankRiders_69 (fun d8 => ?_)
          refine r_iinc (x4 + 1) 4 rfl rfl [(4, .int (x4 + 1)), (0, .ref (E.2.1 + o0)), (1, .ref (E.2.1 + o1)), (2, .int x2), (3, .int x3)] (Nat.le_of_ble_eq_true rfl) rfl 75 rfl dX5_rankRiders_72 ?_
          refine r_goto 8 rfl dX5_rankRiders_75 ?_
          refine r_sub [1, 2, 3, 4, 0] rfl ?_
          exact ih (x4 + 1) d8
def f_X5_rankRiders (d : z_D) (o0 : Nat) (o1 : Nat) (x2 : Int32) (x3 : Int32) : Option z_D := z_put d o0 4 0 (fun d1 => (f_X5_rankRiders_L8 o0 o1 x2 x3 (fun d9 => (some d9)) z_N 0 d1))
set_option maxHeartbeats 4000000 in
set_option maxRecDepth 100000 in
theorem c_X5_rankRiders {E : z_E} {l : Launch} {S : z_S} (d : z_D) (o0 : Nat) (h0 : A_Standings S o0) (o1 : Nat) (h1 : A_Race S o1) (x2 : Int32) (x3 : Int32) : z_Sp E l yX5_rankRiders Y_X5_rankRiders (cvV S) [.ref (E.2.1 + o0), .ref (E.2.1 + o1), .int x2, .int x3] (S, d) (f_X5_rankRiders d o0 o1 x2 x3) := by
  refine z_entry (lv := [(0, .ref (E.2.1 + o0)), (1, .ref (E.2.1 + o1)), (2, .int x2), (3, .int x3)]) (by decide) rfl rfl (Nat.le_of_ble_eq_true rfl) rfl ?_
  unfold f_X5_rankRiders
  refine r_aload_n 0 0 rfl rfl 1 rfl dX5_rankRiders_0 ?_
  refine r_iconst 0 rfl 2 rfl dX5_rankRiders_1 ?_
  refine r_put (h0 0 (Nat.le_of_ble_eq_true rfl)) rfl (Nat.le_of_ble_eq_true rfl) rfl rfl w_X5_rankRiders_1 tyX5 tyX5_ok nmX5 (Nat.le_of_ble_eq_true rfl) rfl w_X5_rankRiders_0 rfl rfl rfl rfl rfl 5 rfl dX5_rankRiders_2 (fun d1 => ?_)
  refine r_iconst 0 rfl 6 rfl dX5_rankRiders_5 ?_
  refine r_istore 4 [(4, .int 0), (0, .ref (E.2.1 + o0)), (1, .ref (E.2.1 + o1)), (2, .int x2), (3, .int x3)] (Nat.le_of_ble_eq_true rfl) rfl 8 rfl dX5_rankRiders_6 ?_
  refine r_sub [1, 2, 3, 4, 0] rfl ?_
  refine g_X5_rankRiders_L8 h0 h1 (fun d9 => ?_) z_N 0 d1
  exact r_return rfl rfl (Nat.le_of_ble_eq_true rfl) (Nat.le_of_ble_eq_true rfl) dX5_rankRiders_78
def Y_X5_rankWorthy : z_Y := (RX5, cX5_rankWorthy, 7, wsX5_rankWorthy, none, { frames := 3, cells := 0, slots := 0, locals := 69 }, 0, 0)
theorem ok_X5_rankWorthy : z_Ok yX5_rankWorthy Y_X5_rankWorthy 2 := ⟨⟨_, rfl⟩, rfl, rfl, rfl, by decide +kernel, by decide +kernel⟩
theorem w_X5_rankWorthy_0 : Cond.fieldLink RX5 24 "BunchTimes$Standings" "size" "I" ∈ wsX5_rankWorthy := by decide +kernel
theorem w_X5_rankWorthy_1 : ∀ w ∈ u_ws RX5 TX5 5, w ∈ wsX5_rankWorthy := by decide +kernel
theorem w_X5_rankWorthy_2 : Cond.fieldLink RX5 9 "BunchTimes$Standings" "order" "[I" ∈ wsX5_rankWorthy := by decide +kernel
theorem w_X5_rankWorthy_3 : Cond.fieldLink RX5 21 "BunchTimes$Standings" "worth" "[I" ∈ wsX5_rankWorthy := by decide +kernel
theorem w_X5_rankWorthy_4 : Cond.initialized RX3 ∈ wsX5_rankWorthy := by decide +kernel
theorem w_X5_rankWorthy_5 : Cond.instanceMethod yX3_gained ∈ wsX5_rankWorthy := by decide +kernel
theorem w_X5_rankWorthy_6 : Cond.selects RX3 yX3_gained yX3_gained ∈ wsX5_rankWorthy := by decide +kernel
def f_X5_rankWorthy_L62_b (o0 : Nat) (o1 : Nat) (x2 : Int32) (x3 : Int32) (x4 : Int32) (x5 : Int32) (K : Int32 → z_D → Option z_D) (R : Int32 → z_D → Option z_D) (x6 : Int32) (d : z_D) : Option z_D := (if x6 ≤ 0 then (K x6 d) else z_ald d (o0 + 1) 16 (x6 - 1) (fun v6 => z_ald d (o0 + 4) 16 v6 (fun v7 => z_ald d (o0 + 4) 16 x5 (fun v8 => (if v8 ≤ v7 then (K x6 d) else z_ald d (o0 + 1) 16 (x6 - 1) (fun v9 => z_ast d (o0 + 1) 16 x6 v9 (fun d10 => (R (x6 + (-1)) d10))))))))
def f_X5_rankWorthy_L62 (o0 : Nat) (o1 : Nat) (x2 : Int32) (x3 : Int32) (x4 : Int32) (x5 : Int32) (K : Int32 → z_D → Option z_D) : Nat → Int32 → z_D → Option z_D
  | 0 => fun _ _ => none
  | n + 1 => f_X5_rankWorthy_L62_b o0 o1 x2 x3 x4 x5 K (f_X5_rankWorthy_L62 o0 o1 x2 x3 x4 x5 K n)
set_option maxHeartbeats 4000000 in
set_option maxRecDepth 100000 in
theorem g_X5_rankWorthy_L62 {E : z_E} {l : Launch} {S : z_S} {o0 : Nat} {o1 : Nat} {x2 : Int32} {x3 : Int32} {x4 : Int32} {x5 : Int32} {K : Int32 → z_D → Option z_D} (h0 : A_Standings S o0) (h1 : A_Race S o1) (hK : ∀ (y6 : Int32) (d9 : z_D), z_G E l Y_X5_rankWorthy (cvV S) (K y6 d9) 113 [(0, .ref (E.2.1 + o0)), (1, .ref (E.2.1 + o1)), (2, .int x2), (3, .int x3), (4, .int x4), (5, .int x5), (6, .int y6)] [] (S, d9) 0 0) : ∀ (n : Nat) (x6 : Int32) (d : z_D), z_G E l Y_X5_rankWorthy (cvV S) (f_X5_rankWorthy_L62 o0 o1 x2 x3 x4 x5 K n x6 d) 62 [(0, .ref (E.2.1 + o0)), (1, .ref (E.2.1 + o1)), (2, .int x2), (3, .int x3), (4, .int x4), (5, .int x5), (6, .int x6)] [] (S, d) 0 0 := by
  intro n
  induction n with
  | zero => intro _ _; exact r_none
  | succ n ih =>
    intro x6 d
    show z_G E l Y_X5_rankWorthy (cvV S) (f_X5_rankWorthy_L62_b o0 o1 x2 x3 x4 x5 K (f_X5_rankWorthy_L62 o0 o1 x2 x3 x4 x5 K n) x6 d) 62 [(0, .ref (E.2.1 + o0)), (1, .ref (E.2.1 + o1)), (2, .int x2), (3, .int x3), (4, .int x4), (5, .int x5), (6, .int x6)] [] (S, d) 0 0
    unfold f_X5_rankWorthy_L62_b
    refine r_iload 6 6 rfl 64 rfl dX5_rankWorthy_62 ?_
    refine r_if_le 113 67 rfl rfl dX5_rankWorthy_64 ?_ ?_
    · refine r_sub [0, 1, 2, 3, 4, 5, 6] rfl ?_
      exact hK x6 d
    · refine r_aload_n 0 0 rfl rfl 68 rfl dX5_rankWorthy_67 ?_
      refine r_get (h0 0 (Nat.le_of_ble_eq_true rfl)) rfl (Nat.le_of_ble_eq_true rfl) rfl rfl w_X5_rankWorthy_1 3 (Nat.le_of_ble_eq_true rfl) rfl w_X5_rankWorthy_3 (.ref (E.2.1 + (o0 + 4))) rfl 71 rfl dX5_rankWorthy_68 ?_
      refine r_aload_n 0 0 rfl rfl 72 rfl dX5_rankWorthy_71 ?_
      refine r_get (h0 0 (Nat.le_of_ble_eq_true rfl)) rfl (Nat.le_of_ble_eq_true rfl) rfl rfl w_X5_rankWorthy_1 0 (Nat.le_of_ble_eq_true rfl) rfl w_X5_rankWorthy_2 (.ref (E.2.1 + (o0 + 1))) rfl 75 rfl dX5_rankWorthy_72 ?_
      refine r_iload 6 6 rfl 77 rfl dX5_rankWorthy_75 ?_
      refine r_iconst 1 rfl 78 rfl dX5_rankWorthy_77 ?_
      refine r_isub 79 rfl dX5_rankWorthy_78 ?_
      refine r_iald (h0 1 (Nat.le_of_ble_eq_true rfl)) rfl rfl 80 rfl dX5_rankWorthy_79 (fun v6 => ?_)
      refine r_iald (h0 4 (Nat.le_of_ble_eq_true rfl)) rfl rfl 81 rfl dX5_rankWorthy_80 (fun v7 => ?_)
      refine r_aload_n 0 0 rfl rfl 82 rfl dX5_rankWorthy_81 ?_
      refine r_get (h0 0 (Nat.le_of_ble_eq_true rfl)) rfl (Nat.le_of_ble_eq_true rfl) rfl rfl w_X5_rankWorthy_1 3 (Nat.le_of_ble_eq_true rfl) rfl w_X5_rankWorthy_3 (.ref (E.2.1 + (o0 + 4))) rfl 85 rfl dX5_rankWorthy_82 ?_
      refine r_iload 5 5 rfl 87 rfl dX5_rankWorthy_85 ?_
      refine r_iald (h0 4 (Nat.le_of_ble_eq_true rfl)) rfl rfl 88 rfl dX5_rankWorthy_87 (fun v8 => ?_)
      refine r_icmp_ge 113 91 rfl rfl dX5_rankWorthy_88 ?_ ?_
      · refine r_sub [0, 1, 2, 3, 4, 5, 6] rfl ?_
        exact hK x6 d
      · refine r_aload_n 0 0 rfl rfl 92 rfl dX5_rankWorthy_91 ?_
        refine r_get (h0 0 (Nat.le_of_ble_eq_true rfl)) rfl (Nat.le_of_ble_eq_true rfl) rfl rfl w_X5_rankWorthy_1 0 (Nat.le_of_ble_eq_true rfl) rfl w_X5_rankWorthy_2 (.ref (E.2.1 + (o0 + 1))) rfl 95 rfl dX5_rankWorthy_92 ?_
        refine r_iload 6 6 rfl 97 rfl dX5_rankWorthy_95 ?_
        refine r_aload_n 0 0 rfl rfl 98 rfl dX5_rankWorthy_97 ?_
        refine r_get (h0 0 (Nat.le_of_ble_eq_true rfl)) rfl (Nat.le_of_ble_eq_true rfl) rfl rfl w_X5_rankWorthy_1 0 (Nat.le_of_ble_eq_true rfl) rfl w_X5_rankWorthy_2 (.ref (E.2.1 + (o0 + 1))) rfl 101 rfl dX5_rankWorthy_98 ?_
        refine r_iload 6 6 rfl 103 rfl dX5_rankWorthy_101 ?_
        refine r_iconst 1 rfl 104 rfl dX5_rankWorthy_103 ?_
        refine r_isub 105 rfl dX5_rankWorthy_104 ?_
        refine r_iald (h0 1 (Nat.le_of_ble_eq_true rfl)) rfl rfl 106 rfl dX5_rankWorthy_105 (fun v9 => ?_)
        refine r_iast (h0 1 (Nat.le_of_ble_eq_true rfl)) rfl rfl 107 rfl dX5_rankWorthy_106 (fun d10 => ?_)
        refine r_iinc (x6 + (-1)) 6 rfl (congrArg (fun y => x6 + y) (by decide)) [(6, .int (x6 + (-1))), (0, .ref (E.2.1 + o0)), (1, .ref (E.2.1 + o1)), (2, .int x2), (3, .int x3), (4, .int x4), (5, .int x5)] (Nat.le_of_ble_eq_true rfl) rfl 110 rfl dX5_rankWorthy_107 ?_
        refine r_goto 62 rfl dX5_rankWorthy_110 ?_
        refine r_sub [1, 2, 3, 4, 5, 6, 0] rfl ?_
        exact ih (x6 + (-1)) d10
def f_X5_rankWorthy_L13_b (o0 : Nat) (o1 : Nat) (x2 : Int32) (K : Int32 → z_D → Option z_D) (R : Int32 → Int32 → z_D → Option z_D) (x3 : Int32) (x4 : Int32) (d : z_D) : Option z_D := (if (d o0 4) ≤ x4 then (K x3 d) else z_ald d (o0 + 1) 16 x4 (fun v2 => ((f_X3_gained d o1 v2 x2).bind fun v3 => z_ast d (o0 + 4) 16 v2 v3 (fun d4 => z_ald d4 (o0 + 4) 16 v2 (fun v5 => (if 1 ≤ v5 then (f_X5_rankWorthy_L62 o0 o1 x2 x3 x4 v2 (fun v12 d11 => z_ast d11 (o0 + 1) 16 v12 v2 (fun d13 => (R (x3 + 1) (x4 + 1) d13))) z_N x3 d4) else (R x3 (x4 + 1) d4)))))))
def f_X5_rankWorthy_L13 (o0 : Nat) (o1 : Nat) (x2 : Int32) (K : Int32 → z_D → Option z_D) : Nat → Int32 → Int32 → z_D → Option z_D
  | 0 => fun _ _ _ => none
  | n + 1 => f_X5_rankWorthy_L13_b o0 o1 x2 K (f_X5_rankWorthy_L13 o0 o1 x2 K n)
set_option maxHeartbeats 4000000 in
set_option maxRecDepth 100000 in
theorem g_X5_rankWorthy_L13 {E : z_E} {l : Launch} {S : z_S} {o0 : Nat} {o1 : Nat} {x2 : Int32} {K : Int32 → z_D → Option z_D} (h0 : A_Standings S o0) (h1 : A_Race S o1) (hK : ∀ (y3 : Int32) (d9 : z_D), z_G E l Y_X5_rankWorthy (cvV S) (K y3 d9) 131 [(0, .ref (E.2.1 + o0)), (3, .int y3)] [] (S, d9) 0 0) : ∀ (n : Nat) (x3 : Int32) (x4 : Int32) (d : z_D), z_G E l Y_X5_rankWorthy (cvV S) (f_X5_rankWorthy_L13 o0 o1 x2 K n x3 x4 d) 13 [(0, .ref (E.2.1 + o0)), (1, .ref (E.2.1 + o1)), (2, .int x2), (3, .int x3), (4, .int x4)] [] (S, d) 0 0 := by
  intro n
  induction n with
  | zero => intro _ _ _; exact r_none
  | succ n ih =>
    intro x3 x4 d
    show z_G E l Y_X5_rankWorthy (cvV S) (f_X5_rankWorthy_L13_b o0 o1 x2 K (f_X5_rankWorthy_L13 o0 o1 x2 K n) x3 x4 d) 13 [(0, .ref (E.2.1 + o0)), (1, .ref (E.2.1 + o1)), (2, .int x2), (3, .int x3), (4, .int x4)] [] (S, d) 0 0
    unfold f_X5_rankWorthy_L13_b
    refine r_iload 4 4 rfl 15 rfl dX5_rankWorthy_13 ?_
    refine r_aload_n 0 0 rfl rfl 16 rfl dX5_rankWorthy_15 ?_
    refine r_get (h0 0 (Nat.le_of_ble_eq_true rfl)) rfl (Nat.le_of_ble_eq_true rfl) rfl rfl w_X5_rankWorthy_1 4 (Nat.le_of_ble_eq_true rfl) rfl w_X5_rankWorthy_0 (.int (d o0 4)) rfl 19 rfl dX5_rankWorthy_16 ?_
    refine r_icmp_ge 131 22 rfl rfl dX5_rankWorthy_19 ?_ ?_
    · refine r_sub [0, 3] rfl ?_
      exact hK x3 d
    · refine r_aload_n 0 0 rfl rfl 23 rfl dX5_rankWorthy_22 ?_
      refine r_get (h0 0 (Nat.le_of_ble_eq_true rfl)) rfl (Nat.le_of_ble_eq_true rfl) rfl rfl w_X5_rankWorthy_1 0 (Nat.le_of_ble_eq_true rfl) rfl w_X5_rankWorthy_2 (.ref (E.2.1 + (o0 + 1))) rfl 26 rfl dX5_rankWorthy_23 ?_
      refine r_iload 4 4 rfl 28 rfl dX5_rankWorthy_26 ?_
      refine r_iald (h0 1 (Nat.le_of_ble_eq_true rfl)) rfl rfl 29 rfl dX5_rankWorthy_28 (fun v2 => ?_)
      refine r_istore 5 [(5, .int v2), (0, .ref (E.2.1 + o0)), (1, .ref (E.2.1 + o1)), (2, .int x2), (3, .int x3), (4, .int x4)] (Nat.le_of_ble_eq_true rfl) rfl 31 rfl dX5_rankWorthy_29 ?_
      refine r_aload_n 0 1 rfl rfl 32 rfl dX5_rankWorthy_31 ?_
      refine r_get (h0 0 (Nat.le_of_ble_eq_true rfl)) rfl (Nat.le_of_ble_eq_true rfl) rfl rfl w_X5_rankWorthy_1 3 (Nat.le_of_ble_eq_true rfl) rfl w_X5_rankWorthy_3 (.ref (E.2.1 + (o0 + 4))) rfl 35 rfl dX5_rankWorthy_32 ?_
      refine r_iload 5 0 rfl 37 rfl dX5_rankWorthy_35 ?_
      refine r_aload_n 1 2 rfl rfl 38 rfl dX5_rankWorthy_37 ?_
      refine r_iload 5 0 rfl 40 rfl dX5_rankWorthy_38 ?_
      refine r_iload_n 2 3 rfl rfl 41 rfl dX5_rankWorthy_40 ?_
      refine r_callVN_I (c_X3_gained (E := E) (l := l) (S := S) d o1 h1 v2 x2) ok_X3_gained ⟨⟨(Nat.le_of_ble_eq_true rfl), (Nat.le_of_ble_eq_true rfl)⟩, (Nat.le_of_ble_eq_true rfl), (Nat.le_of_ble_eq_true rfl)⟩ (h1.1 0 (Nat.le_of_ble_eq_true rfl)) (Nat.le_of_ble_eq_true rfl) rfl rfl rfl (Nat.le_of_ble_eq_true rfl) 85 rfl gX5_rankWorthy_X3_gained_n86 w_X5_rankWorthy_4 w_X5_rankWorthy_5 w_X5_rankWorthy_6 rfl rfl 44 rfl dX5_rankWorthy_41 (fun v3 => ?_)
      refine r_iast (h0 4 (Nat.le_of_ble_eq_true rfl)) rfl rfl 45 rfl dX5_rankWorthy_44 (fun d4 => ?_)
      refine r_aload_n 0 1 rfl rfl 46 rfl dX5_rankWorthy_45 ?_
      refine r_get (h0 0 (Nat.le_of_ble_eq_true rfl)) rfl (Nat.le_of_ble_eq_true rfl) rfl rfl w_X5_rankWorthy_1 3 (Nat.le_of_ble_eq_true rfl) rfl w_X5_rankWorthy_3 (.ref (E.2.1 + (o0 + 4))) rfl 49 rfl dX5_rankWorthy_46 ?_
      refine r_iload 5 0 rfl 51 rfl dX5_rankWorthy_49 ?_
      refine r_iald (h0 4 (Nat.le_of_ble_eq_true rfl)) rfl rfl 52 rfl dX5_rankWorthy_51 (fun v5 => ?_)
      refine r_iconst 1 rfl 53 rfl dX5_rankWorthy_52 ?_
      refine r_icmp_ge 59 56 rfl rfl dX5_rankWorthy_53 ?_ ?_
      · refine r_iload_n 3 4 rfl rfl 60 rfl dX5_rankWorthy_59 ?_
        refine r_istore 6 [(6, .int x3), (5, .int v2), (0, .ref (E.2.1 + o0)), (1, .ref (E.2.1 + o1)), (2, .int x2), (3, .int x3), (4, .int x4)] (Nat.le_of_ble_eq_true rfl) rfl 62 rfl dX5_rankWorthy_60 ?_
        refine r_sub [2, 3, 4, 5, 6, 1, 0] rfl ?_
        refine g_X5_rankWorthy_L62 h0 h1 (fun v12 d11 => ?_) z_N x3 d4
        refine r_aload_n 0 0 rfl rfl 114 rfl dX5_rankWorthy_113 ?_
        refine r_get (h0 0 (Nat.le_of_ble_eq_true rfl)) rfl (Nat.le_of_ble_eq_true rfl) rfl rfl w_X5_rankWorthy_1 0 (Nat.le_of_ble_eq_true rfl) rfl w_X5_rankWorthy_2 (.ref (E.2.1 + (o0 + 1))) rfl 117 rfl dX5_rankWorthy_114 ?_
        refine r_iload 6 6 rfl 119 rfl dX5_rankWorthy_117 ?_
        refine r_iload 5 5 rfl 121 rfl dX5_rankWorthy_119 ?_
        refine r_iast (h0 1 (Nat.le_of_ble_eq_true rfl)) rfl rfl 122 rfl dX5_rankWorthy_121 (fun d13 => ?_)
        refine r_iinc (x3 + 1) 3 rfl rfl [(3, .int (x3 + 1)), (0, .ref (E.2.1 + o0)), (1, .ref (E.2.1 + o1)), (2, .int x2), (4, .int x4), (5, .int v2), (6, .int v12)] (Nat.le_of_ble_eq_true rfl) rfl 125 rfl dX5_rankWorthy_122 ?_
        refine r_iinc (x4 + 1) 4 rfl rfl [(4, .int (x4 + 1)), (3, .int (x3 + 1)), (0, .ref (E.2.1 + o0)), (1, .ref (E.2.1 + o1)), (2, .int x2), (5, .int v2), (6, .int v12)] (Nat.le_of_ble_eq_true rfl) rfl 128 rfl dX5_rankWorthy_125 ?_
        refine r_goto 13 rfl dX5_rankWorthy_128 ?_
        refine r_sub [2, 3, 4, 1, 0] rfl ?_
        exact ih (x3 + 1) (x4 + 1) d13
      · refine r_goto 125 rfl dX5_rankWorthy_56 ?_
        refine r_iinc (x4 + 1) 5 rfl rfl [(4, .int (x4 + 1)), (5, .int v2), (0, .ref (E.2.1 + o0)), (1, .ref (E.2.1 + o1)), (2, .int x2), (3, .int x3)] (Nat.le_of_ble_eq_true rfl) rfl 128 rfl dX5_rankWorthy_125 ?_
        refine r_goto 13 rfl dX5_rankWorthy_128 ?_
        refine r_sub [2, 3, 4, 5, 0] rfl ?_
        exact ih x3 (x4 + 1) d4
def f_X5_rankWorthy (d : z_D) (o0 : Nat) (o1 : Nat) (x2 : Int32) : Option z_D := ((f_X5_rankRiders d o0 o1 (-1) 50).bind fun d1 => (f_X5_rankWorthy_L13 o0 o1 x2 (fun v15 d14 => z_put d14 o0 4 v15 (fun d16 => (some d16))) z_N 0 0 d1))
set_option maxHeartbeats 4000000 in
set_option maxRecDepth 100000 in
theorem c_X5_rankWorthy {E : z_E} {l : Launch} {S : z_S} (d : z_D) (o0 : Nat) (h0 : A_Standings S o0) (o1 : Nat) (h1 : A_Race S o1) (x2 : Int32) : z_Sp E l yX5_rankWorthy Y_X5_rankWorthy (cvV S) [.ref (E.2.1 + o0), .ref (E.2.1 + o1), .int x2] (S, d) (f_X5_rankWorthy d o0 o1 x2) := by
  refine z_entry (lv := [(0, .ref (E.2.1 + o0)), (1, .ref (E.2.1 + o1)), (2, .int x2)]) (by decide) rfl rfl (Nat.le_of_ble_eq_true rfl) rfl ?_
  unfold f_X5_rankWorthy
  refine r_aload_n 0 0 rfl rfl 1 rfl dX5_rankWorthy_0 ?_
  refine r_aload_n 1 1 rfl rfl 2 rfl dX5_rankWorthy_1 ?_
  refine r_iconst (-1) rfl 3 rfl dX5_rankWorthy_2 ?_
  refine r_bipush 50 rfl 5 rfl dX5_rankWorthy_3 ?_
  refine r_callV_V (c_X5_rankRiders (E := E) (l := l) (S := S) d o0 h0 o1 h1 (-1) 50) ok_X5_rankRiders ⟨⟨(Nat.le_of_ble_eq_true rfl), (Nat.le_of_ble_eq_true rfl)⟩, (Nat.le_of_ble_eq_true rfl), (Nat.le_of_ble_eq_true rfl)⟩ (h0 0 (Nat.le_of_ble_eq_true rfl)) (Nat.le_of_ble_eq_true rfl) rfl rfl rfl (Nat.le_of_ble_eq_true rfl) gX5_rankWorthy_X5_rankRiders rfl rfl 8 rfl dX5_rankWorthy_5 (fun d1 => ?_)
  refine r_iconst 0 rfl 9 rfl dX5_rankWorthy_8 ?_
  refine r_istore_n 3 rfl [(3, .int 0), (0, .ref (E.2.1 + o0)), (1, .ref (E.2.1 + o1)), (2, .int x2)] (Nat.le_of_ble_eq_true rfl) rfl 10 rfl dX5_rankWorthy_9 ?_
  refine r_iconst 0 rfl 11 rfl dX5_rankWorthy_10 ?_
  refine r_istore 4 [(4, .int 0), (3, .int 0), (0, .ref (E.2.1 + o0)), (1, .ref (E.2.1 + o1)), (2, .int x2)] (Nat.le_of_ble_eq_true rfl) rfl 13 rfl dX5_rankWorthy_11 ?_
  refine r_sub [2, 3, 4, 1, 0] rfl ?_
  refine g_X5_rankWorthy_L13 h0 h1 (fun v15 d14 => ?_) z_N 0 0 d1
  refine r_aload_n 0 0 rfl rfl 132 rfl dX5_rankWorthy_131 ?_
  refine r_iload_n 3 1 rfl rfl 133 rfl dX5_rankWorthy_132 ?_
  refine r_put (h0 0 (Nat.le_of_ble_eq_true rfl)) rfl (Nat.le_of_ble_eq_true rfl) rfl rfl w_X5_rankWorthy_1 tyX5 tyX5_ok nmX5 (Nat.le_of_ble_eq_true rfl) rfl w_X5_rankWorthy_0 rfl rfl rfl rfl rfl 136 rfl dX5_rankWorthy_133 (fun d16 => ?_)
  exact r_return rfl rfl (Nat.le_of_ble_eq_true rfl) (Nat.le_of_ble_eq_true rfl) dX5_rankWorthy_136
def Y_X5_rankTeams : z_Y := (RX5, cX5_rankTeams, 3, wsX5_rankTeams, none, { frames := 3, cells := 0, slots := 0, locals := 72 }, 0, 0)
theorem ok_X5_rankTeams : z_Ok yX5_rankTeams Y_X5_rankTeams 1 := ⟨⟨_, rfl⟩, rfl, rfl, rfl, by decide +kernel, by decide +kernel⟩
theorem w_X5_rankTeams_0 : ∀ w ∈ u_ws RX3 TX3 10, w ∈ wsX5_rankTeams := by decide +kernel
theorem w_X5_rankTeams_1 : Cond.initialized RX3 ∈ wsX5_rankTeams := by decide +kernel
theorem w_X5_rankTeams_2 : Cond.instanceMethod yX3_isRanked ∈ wsX5_rankTeams := by decide +kernel
theorem w_X5_rankTeams_3 : Cond.selects RX3 yX3_isRanked yX3_isRanked ∈ wsX5_rankTeams := by decide +kernel
theorem w_X5_rankTeams_4 : Cond.fieldLink RX5 15 "BunchTimes$Standings" "sums" "[I" ∈ wsX5_rankTeams := by decide +kernel
theorem w_X5_rankTeams_5 : ∀ w ∈ u_ws RX5 TX5 5, w ∈ wsX5_rankTeams := by decide +kernel
theorem w_X5_rankTeams_6 : Cond.instanceMethod yX3_teamSum ∈ wsX5_rankTeams := by decide +kernel
theorem w_X5_rankTeams_7 : Cond.selects RX3 yX3_teamSum yX3_teamSum ∈ wsX5_rankTeams := by decide +kernel
theorem w_X5_rankTeams_8 : Cond.fieldLink RX5 18 "BunchTimes$Standings" "places" "[I" ∈ wsX5_rankTeams := by decide +kernel
def f_X5_rankTeams_L2_b (o0 : Nat) (o1 : Nat) (K : z_D → Option z_D) (R : Int32 → z_D → Option z_D) (x2 : Int32) (d : z_D) : Option z_D := (if (d o1 0) ≤ x2 then (K d) else ((f_X3_isRanked d o1 x2).bind fun v1 => (if v1 = 0 then (R (x2 + 1) d) else ((f_X3_teamSum d o1 x2).bind fun v2 => z_ast d (o0 + 2) 16 x2 v2 (fun d3 => z_ast d3 (o0 + 3) 16 x2 0 (fun d4 => ((f_X5_insert d4 o0 x2).bind fun d5 => (R (x2 + 1) d5))))))))
def f_X5_rankTeams_L2 (o0 : Nat) (o1 : Nat) (K : z_D → Option z_D) : Nat → Int32 → z_D → Option z_D
  | 0 => fun _ _ => none
  | n + 1 => f_X5_rankTeams_L2_b o0 o1 K (f_X5_rankTeams_L2 o0 o1 K n)
set_option maxHeartbeats 4000000 in
set_option maxRecDepth 100000 in
theorem g_X5_rankTeams_L2 {E : z_E} {l : Launch} {S : z_S} {o0 : Nat} {o1 : Nat} {K : z_D → Option z_D} (h0 : A_Standings S o0) (h1 : A_Race S o1) (hK : ∀ (d9 : z_D), z_G E l Y_X5_rankTeams (cvV S) (K d9) 47 [] [] (S, d9) 0 0) : ∀ (n : Nat) (x2 : Int32) (d : z_D), z_G E l Y_X5_rankTeams (cvV S) (f_X5_rankTeams_L2 o0 o1 K n x2 d) 2 [(0, .ref (E.2.1 + o0)), (1, .ref (E.2.1 + o1)), (2, .int x2)] [] (S, d) 0 0 := by
  intro n
  induction n with
  | zero => intro _ _; exact r_none
  | succ n ih =>
    intro x2 d
    show z_G E l Y_X5_rankTeams (cvV S) (f_X5_rankTeams_L2_b o0 o1 K (f_X5_rankTeams_L2 o0 o1 K n) x2 d) 2 [(0, .ref (E.2.1 + o0)), (1, .ref (E.2.1 + o1)), (2, .int x2)] [] (S, d) 0 0
    unfold f_X5_rankTeams_L2_b
    refine r_iload_n 2 2 rfl rfl 3 rfl dX5_rankTeams_2 ?_
    refine r_aload_n 1 1 rfl rfl 4 rfl dX5_rankTeams_3 ?_
    refine r_getN 0 24 rfl (h1.1 0 (Nat.le_of_ble_eq_true rfl)) rfl (Nat.le_of_ble_eq_true rfl) rfl rfl w_X5_rankTeams_0 (Nat.le_of_ble_eq_true rfl) rfl (.int (d o1 0)) rfl 7 rfl dX5_rankTeams_4 ?_
    refine r_icmp_ge 47 10 rfl rfl dX5_rankTeams_7 ?_ ?_
    · refine r_sub [] rfl ?_
      exact hK d
    · refine r_aload_n 1 1 rfl rfl 11 rfl dX5_rankTeams_10 ?_
      refine r_iload_n 2 2 rfl rfl 12 rfl dX5_rankTeams_11 ?_
      refine r_callVN_I (c_X3_isRanked (E := E) (l := l) (S := S) d o1 h1 x2) ok_X3_isRanked ⟨⟨(Nat.le_of_ble_eq_true rfl), (Nat.le_of_ble_eq_true rfl)⟩, (Nat.le_of_ble_eq_true rfl), (Nat.le_of_ble_eq_true rfl)⟩ (h1.1 0 (Nat.le_of_ble_eq_true rfl)) (Nat.le_of_ble_eq_true rfl) rfl rfl rfl (Nat.le_of_ble_eq_true rfl) 87 rfl gX5_rankTeams_X3_isRanked_n74 w_X5_rankTeams_1 w_X5_rankTeams_2 w_X5_rankTeams_3 rfl rfl 15 rfl dX5_rankTeams_12 (fun v1 => ?_)
      refine r_if_eq 41 18 rfl rfl dX5_rankTeams_15 ?_ ?_
      · refine r_iinc (x2 + 1) 2 rfl rfl [(2, .int (x2 + 1)), (0, .ref (E.2.1 + o0)), (1, .ref (E.2.1 + o1))] (Nat.le_of_ble_eq_true rfl) rfl 44 rfl dX5_rankTeams_41 ?_
        refine r_goto 2 rfl dX5_rankTeams_44 ?_
        refine r_sub [1, 2, 0] rfl ?_
        exact ih (x2 + 1) d
      · refine r_aload_n 0 0 rfl rfl 19 rfl dX5_rankTeams_18 ?_
        refine r_get (h0 0 (Nat.le_of_ble_eq_true rfl)) rfl (Nat.le_of_ble_eq_true rfl) rfl rfl w_X5_rankTeams_5 1 (Nat.le_of_ble_eq_true rfl) rfl w_X5_rankTeams_4 (.ref (E.2.1 + (o0 + 2))) rfl 22 rfl dX5_rankTeams_19 ?_
        refine r_iload_n 2 2 rfl rfl 23 rfl dX5_rankTeams_22 ?_
        refine r_aload_n 1 1 rfl rfl 24 rfl dX5_rankTeams_23 ?_
        refine r_iload_n 2 2 rfl rfl 25 rfl dX5_rankTeams_24 ?_
        refine r_callVN_I (c_X3_teamSum (E := E) (l := l) (S := S) d o1 h1 x2) ok_X3_teamSum ⟨⟨(Nat.le_of_ble_eq_true rfl), (Nat.le_of_ble_eq_true rfl)⟩, (Nat.le_of_ble_eq_true rfl), (Nat.le_of_ble_eq_true rfl)⟩ (h1.1 0 (Nat.le_of_ble_eq_true rfl)) (Nat.le_of_ble_eq_true rfl) rfl rfl rfl (Nat.le_of_ble_eq_true rfl) 88 rfl gX5_rankTeams_X3_teamSum_n78 w_X5_rankTeams_1 w_X5_rankTeams_6 w_X5_rankTeams_7 rfl rfl 28 rfl dX5_rankTeams_25 (fun v2 => ?_)
        refine r_iast (h0 2 (Nat.le_of_ble_eq_true rfl)) rfl rfl 29 rfl dX5_rankTeams_28 (fun d3 => ?_)
        refine r_aload_n 0 0 rfl rfl 30 rfl dX5_rankTeams_29 ?_
        refine r_get (h0 0 (Nat.le_of_ble_eq_true rfl)) rfl (Nat.le_of_ble_eq_true rfl) rfl rfl w_X5_rankTeams_5 2 (Nat.le_of_ble_eq_true rfl) rfl w_X5_rankTeams_8 (.ref (E.2.1 + (o0 + 3))) rfl 33 rfl dX5_rankTeams_30 ?_
        refine r_iload_n 2 2 rfl rfl 34 rfl dX5_rankTeams_33 ?_
        refine r_iconst 0 rfl 35 rfl dX5_rankTeams_34 ?_
        refine r_iast (h0 3 (Nat.le_of_ble_eq_true rfl)) rfl rfl 36 rfl dX5_rankTeams_35 (fun d4 => ?_)
        refine r_aload_n 0 0 rfl rfl 37 rfl dX5_rankTeams_36 ?_
        refine r_iload_n 2 2 rfl rfl 38 rfl dX5_rankTeams_37 ?_
        refine r_callV_V (c_X5_insert (E := E) (l := l) (S := S) d4 o0 h0 x2) ok_X5_insert ⟨⟨(Nat.le_of_ble_eq_true rfl), (Nat.le_of_ble_eq_true rfl)⟩, (Nat.le_of_ble_eq_true rfl), (Nat.le_of_ble_eq_true rfl)⟩ (h0 0 (Nat.le_of_ble_eq_true rfl)) (Nat.le_of_ble_eq_true rfl) rfl rfl rfl (Nat.le_of_ble_eq_true rfl) gX5_rankTeams_X5_insert rfl rfl 41 rfl dX5_rankTeams_38 (fun d5 => ?_)
        refine r_iinc (x2 + 1) 2 rfl rfl [(2, .int (x2 + 1)), (0, .ref (E.2.1 + o0)), (1, .ref (E.2.1 + o1))] (Nat.le_of_ble_eq_true rfl) rfl 44 rfl dX5_rankTeams_41 ?_
        refine r_goto 2 rfl dX5_rankTeams_44 ?_
        refine r_sub [1, 2, 0] rfl ?_
        exact ih (x2 + 1) d5
def f_X5_rankTeams (d : z_D) (o0 : Nat) (o1 : Nat) : Option z_D := (f_X5_rankTeams_L2 o0 o1 (fun d6 => (some d6)) z_N 0 d)
set_option maxHeartbeats 4000000 in
set_option maxRecDepth 100000 in
theorem c_X5_rankTeams {E : z_E} {l : Launch} {S : z_S} (d : z_D) (o0 : Nat) (h0 : A_Standings S o0) (o1 : Nat) (h1 : A_Race S o1) : z_Sp E l yX5_rankTeams Y_X5_rankTeams (cvV S) [.ref (E.2.1 + o0), .ref (E.2.1 + o1)] (S, d) (f_X5_rankTeams d o0 o1) := by
  refine z_entry (lv := [(0, .ref (E.2.1 + o0)), (1, .ref (E.2.1 + o1))]) (by decide) rfl rfl (Nat.le_of_ble_eq_true rfl) rfl ?_
  unfold f_X5_rankTeams
  refine r_iconst 0 rfl 1 rfl dX5_rankTeams_0 ?_
  refine r_istore_n 2 rfl [(2, .int 0), (0, .ref (E.2.1 + o0)), (1, .ref (E.2.1 + o1))] (Nat.le_of_ble_eq_true rfl) rfl 2 rfl dX5_rankTeams_1 ?_
  refine r_sub [1, 2, 0] rfl ?_
  refine g_X5_rankTeams_L2 h0 h1 (fun d6 => ?_) z_N 0 d
  exact r_return rfl rfl (Nat.le_of_ble_eq_true rfl) (Nat.le_of_ble_eq_true rfl) dX5_rankTeams_47
def Y_X5_rankList : z_Y := (RX5, cX5_rankList, 3, wsX5_rankList, none, { frames := 4, cells := 0, slots := 0, locals := 95 }, 0, 0)
theorem ok_X5_rankList : z_Ok yX5_rankList Y_X5_rankList 2 := ⟨⟨_, rfl⟩, rfl, rfl, rfl, by decide +kernel, by decide +kernel⟩
theorem w_X5_rankList_0 : Cond.fieldLink RX5 24 "BunchTimes$Standings" "size" "I" ∈ wsX5_rankList := by decide +kernel
theorem w_X5_rankList_1 : ∀ w ∈ u_ws RX5 TX5 5, w ∈ wsX5_rankList := by decide +kernel
theorem w_X5_rankList_2 : Cond.initialized RX3 ∈ wsX5_rankList := by decide +kernel
theorem w_X5_rankList_3 : Cond.instanceMethod yX3_closed ∈ wsX5_rankList := by decide +kernel
theorem w_X5_rankList_4 : Cond.selects RX3 yX3_closed yX3_closed ∈ wsX5_rankList := by decide +kernel
def f_X5_rankList (d : z_D) (o0 : Nat) (o1 : Nat) (x2 : Int32) : Option z_D := z_put d o0 4 0 (fun d1 => ((f_X3_closed d1 o1).bind fun v2 => (if v2 = 0 then (some d1) else (if x2 = 0 then ((f_X5_rankRiders d1 o0 o1 (-1) 50).bind fun d3 => (some d3)) else (if x2 = 1 then ((f_X5_rankWorthy d1 o0 o1 3).bind fun d4 => (some d4)) else (if x2 = 2 then ((f_X5_rankWorthy d1 o0 o1 4).bind fun d5 => (some d5)) else (if x2 = 3 then ((f_X5_rankRiders d1 o0 o1 (-1) 25).bind fun d6 => (some d6)) else (if x2 = 4 then ((f_X5_rankTeams d1 o0 o1).bind fun d7 => (some d7)) else (some d1)))))))))
set_option maxHeartbeats 4000000 in
set_option maxRecDepth 100000 in
theorem c_X5_rankList {E : z_E} {l : Launch} {S : z_S} (d : z_D) (o0 : Nat) (h0 : A_Standings S o0) (o1 : Nat) (h1 : A_Race S o1) (x2 : Int32) : z_Sp E l yX5_rankList Y_X5_rankList (cvV S) [.ref (E.2.1 + o0), .ref (E.2.1 + o1), .int x2] (S, d) (f_X5_rankList d o0 o1 x2) := by
  refine z_entry (lv := [(0, .ref (E.2.1 + o0)), (1, .ref (E.2.1 + o1)), (2, .int x2)]) (by decide) rfl rfl (Nat.le_of_ble_eq_true rfl) rfl ?_
  unfold f_X5_rankList
  refine r_aload_n 0 0 rfl rfl 1 rfl dX5_rankList_0 ?_
  refine r_iconst 0 rfl 2 rfl dX5_rankList_1 ?_
  refine r_put (h0 0 (Nat.le_of_ble_eq_true rfl)) rfl (Nat.le_of_ble_eq_true rfl) rfl rfl w_X5_rankList_1 tyX5 tyX5_ok nmX5 (Nat.le_of_ble_eq_true rfl) rfl w_X5_rankList_0 rfl rfl rfl rfl rfl 5 rfl dX5_rankList_2 (fun d1 => ?_)
  refine r_aload_n 1 1 rfl rfl 6 rfl dX5_rankList_5 ?_
  refine r_callVN_I (c_X3_closed (E := E) (l := l) (S := S) d1 o1 h1) ok_X3_closed ⟨⟨(Nat.le_of_ble_eq_true rfl), (Nat.le_of_ble_eq_true rfl)⟩, (Nat.le_of_ble_eq_true rfl), (Nat.le_of_ble_eq_true rfl)⟩ (h1.1 0 (Nat.le_of_ble_eq_true rfl)) (Nat.le_of_ble_eq_true rfl) rfl rfl rfl (Nat.le_of_ble_eq_true rfl) 80 rfl gX5_rankList_X3_closed_n32 w_X5_rankList_2 w_X5_rankList_3 w_X5_rankList_4 rfl rfl 9 rfl dX5_rankList_6 (fun v2 => ?_)
  refine r_if_ne 13 12 rfl rfl dX5_rankList_9 ?_ ?_
  · refine r_iload_n 2 2 rfl rfl 14 rfl dX5_rankList_13 ?_
    refine r_tsw 48 rfl rfl rfl rfl dX5_rankList_14 ?_ (fun hs0 => ?_)
    · refine r_aload_n 0 0 rfl rfl 49 rfl dX5_rankList_48 ?_
      refine r_aload_n 1 1 rfl rfl 50 rfl dX5_rankList_49 ?_
      refine r_iconst (-1) rfl 51 rfl dX5_rankList_50 ?_
      refine r_bipush 50 rfl 53 rfl dX5_rankList_51 ?_
      refine r_callV_V (c_X5_rankRiders (E := E) (l := l) (S := S) d1 o0 h0 o1 h1 (-1) 50) ok_X5_rankRiders ⟨⟨(Nat.le_of_ble_eq_true rfl), (Nat.le_of_ble_eq_true rfl)⟩, (Nat.le_of_ble_eq_true rfl), (Nat.le_of_ble_eq_true rfl)⟩ (h0 0 (Nat.le_of_ble_eq_true rfl)) (Nat.le_of_ble_eq_true rfl) rfl rfl rfl (Nat.le_of_ble_eq_true rfl) gX5_rankList_X5_rankRiders rfl rfl 56 rfl dX5_rankList_53 (fun d3 => ?_)
      refine r_goto 96 rfl dX5_rankList_56 ?_
      exact r_return rfl rfl (Nat.le_of_ble_eq_true rfl) (Nat.le_of_ble_eq_true rfl) dX5_rankList_96
    refine r_tsw 59 rfl rfl rfl rfl dX5_rankList_14 ?_ (fun hs1 => ?_)
    · refine r_aload_n 0 0 rfl rfl 60 rfl dX5_rankList_59 ?_
      refine r_aload_n 1 1 rfl rfl 61 rfl dX5_rankList_60 ?_
      refine r_iconst 3 rfl 62 rfl dX5_rankList_61 ?_
      refine r_callV_V (c_X5_rankWorthy (E := E) (l := l) (S := S) d1 o0 h0 o1 h1 3) ok_X5_rankWorthy ⟨⟨(Nat.le_of_ble_eq_true rfl), (Nat.le_of_ble_eq_true rfl)⟩, (Nat.le_of_ble_eq_true rfl), (Nat.le_of_ble_eq_true rfl)⟩ (h0 0 (Nat.le_of_ble_eq_true rfl)) (Nat.le_of_ble_eq_true rfl) rfl rfl rfl (Nat.le_of_ble_eq_true rfl) gX5_rankList_X5_rankWorthy rfl rfl 65 rfl dX5_rankList_62 (fun d4 => ?_)
      refine r_goto 96 rfl dX5_rankList_65 ?_
      exact r_return rfl rfl (Nat.le_of_ble_eq_true rfl) (Nat.le_of_ble_eq_true rfl) dX5_rankList_96
    refine r_tsw 68 rfl rfl rfl rfl dX5_rankList_14 ?_ (fun hs2 => ?_)
    · refine r_aload_n 0 0 rfl rfl 69 rfl dX5_rankList_68 ?_
      refine r_aload_n 1 1 rfl rfl 70 rfl dX5_rankList_69 ?_
      refine r_iconst 4 rfl 71 rfl dX5_rankList_70 ?_
      refine r_callV_V (c_X5_rankWorthy (E := E) (l := l) (S := S) d1 o0 h0 o1 h1 4) ok_X5_rankWorthy ⟨⟨(Nat.le_of_ble_eq_true rfl), (Nat.le_of_ble_eq_true rfl)⟩, (Nat.le_of_ble_eq_true rfl), (Nat.le_of_ble_eq_true rfl)⟩ (h0 0 (Nat.le_of_ble_eq_true rfl)) (Nat.le_of_ble_eq_true rfl) rfl rfl rfl (Nat.le_of_ble_eq_true rfl) gX5_rankList_X5_rankWorthy rfl rfl 74 rfl dX5_rankList_71 (fun d5 => ?_)
      refine r_goto 96 rfl dX5_rankList_74 ?_
      exact r_return rfl rfl (Nat.le_of_ble_eq_true rfl) (Nat.le_of_ble_eq_true rfl) dX5_rankList_96
    refine r_tsw 77 rfl rfl rfl rfl dX5_rankList_14 ?_ (fun hs3 => ?_)
    · refine r_aload_n 0 0 rfl rfl 78 rfl dX5_rankList_77 ?_
      refine r_aload_n 1 1 rfl rfl 79 rfl dX5_rankList_78 ?_
      refine r_iconst (-1) rfl 80 rfl dX5_rankList_79 ?_
      refine r_bipush 25 rfl 82 rfl dX5_rankList_80 ?_
      refine r_callV_V (c_X5_rankRiders (E := E) (l := l) (S := S) d1 o0 h0 o1 h1 (-1) 25) ok_X5_rankRiders ⟨⟨(Nat.le_of_ble_eq_true rfl), (Nat.le_of_ble_eq_true rfl)⟩, (Nat.le_of_ble_eq_true rfl), (Nat.le_of_ble_eq_true rfl)⟩ (h0 0 (Nat.le_of_ble_eq_true rfl)) (Nat.le_of_ble_eq_true rfl) rfl rfl rfl (Nat.le_of_ble_eq_true rfl) gX5_rankList_X5_rankRiders rfl rfl 85 rfl dX5_rankList_82 (fun d6 => ?_)
      refine r_goto 96 rfl dX5_rankList_85 ?_
      exact r_return rfl rfl (Nat.le_of_ble_eq_true rfl) (Nat.le_of_ble_eq_true rfl) dX5_rankList_96
    refine r_tsw 88 rfl rfl rfl rfl dX5_rankList_14 ?_ (fun hs4 => ?_)
    · refine r_aload_n 0 0 rfl rfl 89 rfl dX5_rankList_88 ?_
      refine r_aload_n 1 1 rfl rfl 90 rfl dX5_rankList_89 ?_
      refine r_callV_V (c_X5_rankTeams (E := E) (l := l) (S := S) d1 o0 h0 o1 h1) ok_X5_rankTeams ⟨⟨(Nat.le_of_ble_eq_true rfl), (Nat.le_of_ble_eq_true rfl)⟩, (Nat.le_of_ble_eq_true rfl), (Nat.le_of_ble_eq_true rfl)⟩ (h0 0 (Nat.le_of_ble_eq_true rfl)) (Nat.le_of_ble_eq_true rfl) rfl rfl rfl (Nat.le_of_ble_eq_true rfl) gX5_rankList_X5_rankTeams rfl rfl 93 rfl dX5_rankList_90 (fun d7 => ?_)
      refine r_goto 96 rfl dX5_rankList_93 ?_
      exact r_return rfl rfl (Nat.le_of_ble_eq_true rfl) (Nat.le_of_ble_eq_true rfl) dX5_rankList_96
    refine r_tswD (lo := 0) (hi := 4) 96 5 rfl (fun j hj => match j, hj with | 0, _ => hs0 | 1, _ => hs1 | 2, _ => hs2 | 3, _ => hs3 | 4, _ => hs4) rfl dX5_rankList_14 ?_
    exact r_return rfl rfl (Nat.le_of_ble_eq_true rfl) (Nat.le_of_ble_eq_true rfl) dX5_rankList_96
  · exact r_return rfl rfl (Nat.le_of_ble_eq_true rfl) (Nat.le_of_ble_eq_true rfl) dX5_rankList_12
def Y_X5_firstBut : z_Y := (RX5, cX5_firstBut, 3, wsX5_firstBut, (some .int), { frames := 0, cells := 0, slots := 0, locals := 0 }, 0, 0)
theorem ok_X5_firstBut : z_Ok yX5_firstBut Y_X5_firstBut 1 := ⟨⟨_, rfl⟩, rfl, rfl, rfl, by decide +kernel, by decide +kernel⟩
theorem w_X5_firstBut_0 : Cond.fieldLink RX5 24 "BunchTimes$Standings" "size" "I" ∈ wsX5_firstBut := by decide +kernel
theorem w_X5_firstBut_1 : ∀ w ∈ u_ws RX5 TX5 5, w ∈ wsX5_firstBut := by decide +kernel
theorem w_X5_firstBut_2 : Cond.fieldLink RX5 9 "BunchTimes$Standings" "order" "[I" ∈ wsX5_firstBut := by decide +kernel
def f_X5_firstBut_L2_b (d : z_D) (o0 : Nat) (x1 : Int32) (K : Unit → Option Int32) (R : Int32 → Option Int32) (x2 : Int32) : Option Int32 := (if (d o0 4) ≤ x2 then (K ()) else z_ald d (o0 + 1) 16 x2 (fun v1 => (if ((x1 >>> (v1 &&& 31)) &&& 1) = 0 then z_ald d (o0 + 1) 16 x2 (fun v2 => (some v2)) else (R (x2 + 1)))))
def f_X5_firstBut_L2 (d : z_D) (o0 : Nat) (x1 : Int32) (K : Unit → Option Int32) : Nat → Int32 → Option Int32
  | 0 => fun _ => none
  | n + 1 => f_X5_firstBut_L2_b d o0 x1 K (f_X5_firstBut_L2 d o0 x1 K n)
set_option maxHeartbeats 4000000 in
set_option maxRecDepth 100000 in
theorem g_X5_firstBut_L2 {E : z_E} {l : Launch} {S : z_S} {d : z_D} {o0 : Nat} {x1 : Int32} {K : Unit → Option Int32} (h0 : A_Standings S o0) (hK : ∀ y9 : Unit, z_G E l Y_X5_firstBut (cvI S d) (K y9) 36 [] [] (S, d) 0 0) : ∀ (n : Nat) (x2 : Int32), z_G E l Y_X5_firstBut (cvI S d) (f_X5_firstBut_L2 d o0 x1 K n x2) 2 [(0, .ref (E.2.1 + o0)), (1, .int x1), (2, .int x2)] [] (S, d) 0 0 := by
  intro n
  induction n with
  | zero => intro _; exact r_none
  | succ n ih =>
    intro x2
    show z_G E l Y_X5_firstBut (cvI S d) (f_X5_firstBut_L2_b d o0 x1 K (f_X5_firstBut_L2 d o0 x1 K n) x2) 2 [(0, .ref (E.2.1 + o0)), (1, .int x1), (2, .int x2)] [] (S, d) 0 0
    unfold f_X5_firstBut_L2_b
    refine r_iload_n 2 2 rfl rfl 3 rfl dX5_firstBut_2 ?_
    refine r_aload_n 0 0 rfl rfl 4 rfl dX5_firstBut_3 ?_
    refine r_get (h0 0 (Nat.le_of_ble_eq_true rfl)) rfl (Nat.le_of_ble_eq_true rfl) rfl rfl w_X5_firstBut_1 4 (Nat.le_of_ble_eq_true rfl) rfl w_X5_firstBut_0 (.int (d o0 4)) rfl 7 rfl dX5_firstBut_4 ?_
    refine r_icmp_ge 36 10 rfl rfl dX5_firstBut_7 ?_ ?_
    · refine r_sub [] rfl ?_
      exact hK ()
    · refine r_iload_n 1 1 rfl rfl 11 rfl dX5_firstBut_10 ?_
      refine r_aload_n 0 0 rfl rfl 12 rfl dX5_firstBut_11 ?_
      refine r_get (h0 0 (Nat.le_of_ble_eq_true rfl)) rfl (Nat.le_of_ble_eq_true rfl) rfl rfl w_X5_firstBut_1 0 (Nat.le_of_ble_eq_true rfl) rfl w_X5_firstBut_2 (.ref (E.2.1 + (o0 + 1))) rfl 15 rfl dX5_firstBut_12 ?_
      refine r_iload_n 2 2 rfl rfl 16 rfl dX5_firstBut_15 ?_
      refine r_iald (h0 1 (Nat.le_of_ble_eq_true rfl)) rfl rfl 17 rfl dX5_firstBut_16 (fun v1 => ?_)
      refine r_ishr 18 rfl dX5_firstBut_17 ?_
      refine r_iconst 1 rfl 19 rfl dX5_firstBut_18 ?_
      refine r_iand 20 rfl dX5_firstBut_19 ?_
      refine r_if_ne 30 23 rfl rfl dX5_firstBut_20 ?_ ?_
      · refine r_iinc (x2 + 1) 2 rfl rfl [(2, .int (x2 + 1)), (0, .ref (E.2.1 + o0)), (1, .int x1)] (Nat.le_of_ble_eq_true rfl) rfl 33 rfl dX5_firstBut_30 ?_
        refine r_goto 2 rfl dX5_firstBut_33 ?_
        refine r_sub [1, 2, 0] rfl ?_
        exact ih (x2 + 1)
      · refine r_aload_n 0 0 rfl rfl 24 rfl dX5_firstBut_23 ?_
        refine r_get (h0 0 (Nat.le_of_ble_eq_true rfl)) rfl (Nat.le_of_ble_eq_true rfl) rfl rfl w_X5_firstBut_1 0 (Nat.le_of_ble_eq_true rfl) rfl w_X5_firstBut_2 (.ref (E.2.1 + (o0 + 1))) rfl 27 rfl dX5_firstBut_24 ?_
        refine r_iload_n 2 2 rfl rfl 28 rfl dX5_firstBut_27 ?_
        refine r_iald (h0 1 (Nat.le_of_ble_eq_true rfl)) rfl rfl 29 rfl dX5_firstBut_28 (fun v2 => ?_)
        exact r_ireturn rfl rfl (Nat.le_of_ble_eq_true rfl) (Nat.le_of_ble_eq_true rfl) dX5_firstBut_29
def f_X5_firstBut (d : z_D) (o0 : Nat) (x1 : Int32) : Option Int32 := (f_X5_firstBut_L2 d o0 x1 (fun _ => (some (-1))) z_N 0)
set_option maxHeartbeats 4000000 in
set_option maxRecDepth 100000 in
theorem c_X5_firstBut {E : z_E} {l : Launch} {S : z_S} (d : z_D) (o0 : Nat) (h0 : A_Standings S o0) (x1 : Int32) : z_Sp E l yX5_firstBut Y_X5_firstBut (cvI S d) [.ref (E.2.1 + o0), .int x1] (S, d) (f_X5_firstBut d o0 x1) := by
  refine z_entry (lv := [(0, .ref (E.2.1 + o0)), (1, .int x1)]) (by decide) rfl rfl (Nat.le_of_ble_eq_true rfl) rfl ?_
  unfold f_X5_firstBut
  refine r_iconst 0 rfl 1 rfl dX5_firstBut_0 ?_
  refine r_istore_n 2 rfl [(2, .int 0), (0, .ref (E.2.1 + o0)), (1, .int x1)] (Nat.le_of_ble_eq_true rfl) rfl 2 rfl dX5_firstBut_1 ?_
  refine r_sub [1, 2, 0] rfl ?_
  refine g_X5_firstBut_L2 h0 (fun _ => ?_) z_N 0
  refine r_iconst (-1) rfl 37 rfl dX5_firstBut_36 ?_
  exact r_ireturn rfl rfl (Nat.le_of_ble_eq_true rfl) (Nat.le_of_ble_eq_true rfl) dX5_firstBut_37
def Y_X5_wearer : z_Y := (RX5, cX5_wearer, 6, wsX5_wearer, (some .int), { frames := 5, cells := 0, slots := 0, locals := 117 }, 0, 0)
theorem ok_X5_wearer : z_Ok yX5_wearer Y_X5_wearer 2 := ⟨⟨_, rfl⟩, rfl, rfl, rfl, by decide +kernel, by decide +kernel⟩
def f_X5_wearer_L8_b (o0 : Nat) (o1 : Nat) (x2 : Int32) (K : Int32 → z_D → Option (Int32 × z_D)) (R : Int32 → Int32 → Int32 → z_D → Option (Int32 × z_D)) (x3 : Int32) (x4 : Int32) (x5 : Int32) (d : z_D) : Option (Int32 × z_D) := (if x2 < x5 then (K x4 d) else ((f_X5_rankList d o0 o1 x5).bind fun d1 => ((f_X5_firstBut d1 o0 x3).bind fun v2 => (if v2 = (-1) then (R x3 v2 (x5 + 1) d1) else z_nam (x3 ||| (1 <<< (v2 &&& 31))) (fun v3 => (R v3 v2 (x5 + 1) d1))))))
def f_X5_wearer_L8 (o0 : Nat) (o1 : Nat) (x2 : Int32) (K : Int32 → z_D → Option (Int32 × z_D)) : Nat → Int32 → Int32 → Int32 → z_D → Option (Int32 × z_D)
  | 0 => fun _ _ _ _ => none
  | n + 1 => f_X5_wearer_L8_b o0 o1 x2 K (f_X5_wearer_L8 o0 o1 x2 K n)
set_option maxHeartbeats 4000000 in
set_option maxRecDepth 100000 in
theorem g_X5_wearer_L8 {E : z_E} {l : Launch} {S : z_S} {o0 : Nat} {o1 : Nat} {x2 : Int32} {K : Int32 → z_D → Option (Int32 × z_D)} (h0 : A_Standings S o0) (h1 : A_Race S o1) (hK : ∀ (y4 : Int32) (d9 : z_D), z_G E l Y_X5_wearer (cvX S) (K y4 d9) 47 [(4, .int y4)] [] (S, d9) 0 0) : ∀ (n : Nat) (x3 : Int32) (x4 : Int32) (x5 : Int32) (d : z_D), z_G E l Y_X5_wearer (cvX S) (f_X5_wearer_L8 o0 o1 x2 K n x3 x4 x5 d) 8 [(0, .ref (E.2.1 + o0)), (1, .ref (E.2.1 + o1)), (2, .int x2), (3, .int x3), (4, .int x4), (5, .int x5)] [] (S, d) 0 0 := by
  intro n
  induction n with
  | zero => intro _ _ _ _; exact r_none
  | succ n ih =>
    intro x3 x4 x5 d
    show z_G E l Y_X5_wearer (cvX S) (f_X5_wearer_L8_b o0 o1 x2 K (f_X5_wearer_L8 o0 o1 x2 K n) x3 x4 x5 d) 8 [(0, .ref (E.2.1 + o0)), (1, .ref (E.2.1 + o1)), (2, .int x2), (3, .int x3), (4, .int x4), (5, .int x5)] [] (S, d) 0 0
    unfold f_X5_wearer_L8_b
    refine r_iload 5 5 rfl 10 rfl dX5_wearer_8 ?_
    refine r_iload_n 2 2 rfl rfl 11 rfl dX5_wearer_10 ?_
    refine r_icmp_gt 47 14 rfl rfl dX5_wearer_11 ?_ ?_
    · refine r_sub [4] rfl ?_
      exact hK x4 d
    · refine r_aload_n 0 0 rfl rfl 15 rfl dX5_wearer_14 ?_
      refine r_aload_n 1 1 rfl rfl 16 rfl dX5_wearer_15 ?_
      refine r_iload 5 5 rfl 18 rfl dX5_wearer_16 ?_
      refine r_callV_V (c_X5_rankList (E := E) (l := l) (S := S) d o0 h0 o1 h1 x5) ok_X5_rankList ⟨⟨(Nat.le_of_ble_eq_true rfl), (Nat.le_of_ble_eq_true rfl)⟩, (Nat.le_of_ble_eq_true rfl), (Nat.le_of_ble_eq_true rfl)⟩ (h0 0 (Nat.le_of_ble_eq_true rfl)) (Nat.le_of_ble_eq_true rfl) rfl rfl rfl (Nat.le_of_ble_eq_true rfl) gX5_wearer_X5_rankList rfl rfl 21 rfl dX5_wearer_18 (fun d1 => ?_)
      refine r_aload_n 0 0 rfl rfl 22 rfl dX5_wearer_21 ?_
      refine r_iload_n 3 3 rfl rfl 23 rfl dX5_wearer_22 ?_
      refine r_callV_I (c_X5_firstBut (E := E) (l := l) (S := S) d1 o0 h0 x3) ok_X5_firstBut ⟨⟨(Nat.le_of_ble_eq_true rfl), (Nat.le_of_ble_eq_true rfl)⟩, (Nat.le_of_ble_eq_true rfl), (Nat.le_of_ble_eq_true rfl)⟩ (h0 0 (Nat.le_of_ble_eq_true rfl)) (Nat.le_of_ble_eq_true rfl) rfl rfl rfl (Nat.le_of_ble_eq_true rfl) gX5_wearer_X5_firstBut rfl rfl 26 rfl dX5_wearer_23 (fun v2 => ?_)
      refine r_istore 4 [(4, .int v2), (0, .ref (E.2.1 + o0)), (1, .ref (E.2.1 + o1)), (2, .int x2), (3, .int x3), (5, .int x5)] (Nat.le_of_ble_eq_true rfl) rfl 28 rfl dX5_wearer_26 ?_
      refine r_iload 4 0 rfl 30 rfl dX5_wearer_28 ?_
      refine r_iconst (-1) rfl 31 rfl dX5_wearer_30 ?_
      refine r_icmp_eq 41 34 rfl rfl dX5_wearer_31 ?_ ?_
      · refine r_iinc (x5 + 1) 5 rfl rfl [(5, .int (x5 + 1)), (4, .int v2), (0, .ref (E.2.1 + o0)), (1, .ref (E.2.1 + o1)), (2, .int x2), (3, .int x3)] (Nat.le_of_ble_eq_true rfl) rfl 44 rfl dX5_wearer_41 ?_
        refine r_goto 8 rfl dX5_wearer_44 ?_
        refine r_sub [2, 3, 4, 5, 1, 0] rfl ?_
        exact ih x3 v2 (x5 + 1) d1
      · refine r_iload_n 3 4 rfl rfl 35 rfl dX5_wearer_34 ?_
        refine r_iconst 1 rfl 36 rfl dX5_wearer_35 ?_
        refine r_iload 4 0 rfl 38 rfl dX5_wearer_36 ?_
        refine r_ishl 39 rfl dX5_wearer_38 ?_
        refine r_ior 40 rfl dX5_wearer_39 ?_
        refine r_nami (fun v3 => ?_)
        refine r_istore_n 3 rfl [(3, .int v3), (4, .int v2), (0, .ref (E.2.1 + o0)), (1, .ref (E.2.1 + o1)), (2, .int x2), (5, .int x5)] (Nat.le_of_ble_eq_true rfl) rfl 41 rfl dX5_wearer_40 ?_
        refine r_iinc (x5 + 1) 5 rfl rfl [(5, .int (x5 + 1)), (3, .int v3), (4, .int v2), (0, .ref (E.2.1 + o0)), (1, .ref (E.2.1 + o1)), (2, .int x2)] (Nat.le_of_ble_eq_true rfl) rfl 44 rfl dX5_wearer_41 ?_
        refine r_goto 8 rfl dX5_wearer_44 ?_
        refine r_sub [3, 4, 5, 1, 2, 0] rfl ?_
        exact ih v3 v2 (x5 + 1) d1
def f_X5_wearer (d : z_D) (o0 : Nat) (o1 : Nat) (x2 : Int32) : Option (Int32 × z_D) := (f_X5_wearer_L8 o0 o1 x2 (fun v5 d4 => (some (v5, d4))) z_N 0 (-1) 0 d)
set_option maxHeartbeats 4000000 in
set_option maxRecDepth 100000 in
theorem c_X5_wearer {E : z_E} {l : Launch} {S : z_S} (d : z_D) (o0 : Nat) (h0 : A_Standings S o0) (o1 : Nat) (h1 : A_Race S o1) (x2 : Int32) : z_Sp E l yX5_wearer Y_X5_wearer (cvX S) [.ref (E.2.1 + o0), .ref (E.2.1 + o1), .int x2] (S, d) (f_X5_wearer d o0 o1 x2) := by
  refine z_entry (lv := [(0, .ref (E.2.1 + o0)), (1, .ref (E.2.1 + o1)), (2, .int x2)]) (by decide) rfl rfl (Nat.le_of_ble_eq_true rfl) rfl ?_
  unfold f_X5_wearer
  refine r_iconst 0 rfl 1 rfl dX5_wearer_0 ?_
  refine r_istore_n 3 rfl [(3, .int 0), (0, .ref (E.2.1 + o0)), (1, .ref (E.2.1 + o1)), (2, .int x2)] (Nat.le_of_ble_eq_true rfl) rfl 2 rfl dX5_wearer_1 ?_
  refine r_iconst (-1) rfl 3 rfl dX5_wearer_2 ?_
  refine r_istore 4 [(4, .int (-1)), (3, .int 0), (0, .ref (E.2.1 + o0)), (1, .ref (E.2.1 + o1)), (2, .int x2)] (Nat.le_of_ble_eq_true rfl) rfl 5 rfl dX5_wearer_3 ?_
  refine r_iconst 0 rfl 6 rfl dX5_wearer_5 ?_
  refine r_istore 5 [(5, .int 0), (4, .int (-1)), (3, .int 0), (0, .ref (E.2.1 + o0)), (1, .ref (E.2.1 + o1)), (2, .int x2)] (Nat.le_of_ble_eq_true rfl) rfl 8 rfl dX5_wearer_6 ?_
  refine r_sub [3, 4, 5, 2, 1, 0] rfl ?_
  refine g_X5_wearer_L8 h0 h1 (fun v5 d4 => ?_) z_N 0 (-1) 0 d
  refine r_iload 4 0 rfl 49 rfl dX5_wearer_47 ?_
  exact r_ireturn rfl rfl (Nat.le_of_ble_eq_true rfl) (Nat.le_of_ble_eq_true rfl) dX5_wearer_49
def Y_X5_lacking : z_Y := (RX5, cX5_lacking, 5, wsX5_lacking, (some .int), { frames := 2, cells := 0, slots := 0, locals := 43 }, 0, 0)
theorem ok_X5_lacking : z_Ok yX5_lacking Y_X5_lacking 1 := ⟨⟨_, rfl⟩, rfl, rfl, rfl, by decide +kernel, by decide +kernel⟩
theorem w_X5_lacking_0 : Cond.fieldLink RX5 15 "BunchTimes$Standings" "sums" "[I" ∈ wsX5_lacking := by decide +kernel
theorem w_X5_lacking_1 : ∀ w ∈ u_ws RX5 TX5 5, w ∈ wsX5_lacking := by decide +kernel
theorem w_X5_lacking_2 : Cond.fieldLink RX5 18 "BunchTimes$Standings" "places" "[I" ∈ wsX5_lacking := by decide +kernel
def f_X5_lacking (d : z_D) (o0 : Nat) (x1 : Int32) : Option Int32 := ((f_X5_entry d o0 0).bind fun v1 => (if v1 = (-1) then (some 0) else (if v1 = x1 then (some 0) else z_ald d (o0 + 2) 16 x1 (fun v2 => z_ald d (o0 + 2) 16 v1 (fun v3 => z_nam (v2 - v3) (fun v4 => z_ald d (o0 + 3) 16 x1 (fun v5 => z_ald d (o0 + 3) 16 v1 (fun v6 => z_let (fun x_72 : Int32 => (if x_72 = 0 then (some (v4 + 1)) else (some v4))) (fun J72 => z_let (fun x_67 : Unit => (J72 1)) (fun J67 => (if v5 < v6 then (J67 ()) else z_ald d (o0 + 3) 16 x1 (fun v7 => z_ald d (o0 + 3) 16 v1 (fun v8 => z_let (fun x_71 : Unit => (J72 0)) (fun J71 => (if v7 = v8 then (if v1 ≤ x1 then (J71 ()) else (J67 ())) else (J71 ()))))))))))))))))
set_option maxHeartbeats 4000000 in
set_option maxRecDepth 100000 in
theorem c_X5_lacking {E : z_E} {l : Launch} {S : z_S} (d : z_D) (o0 : Nat) (h0 : A_Standings S o0) (x1 : Int32) : z_Sp E l yX5_lacking Y_X5_lacking (cvI S d) [.ref (E.2.1 + o0), .int x1] (S, d) (f_X5_lacking d o0 x1) := by
  refine z_entry (lv := [(0, .ref (E.2.1 + o0)), (1, .int x1)]) (by decide) rfl rfl (Nat.le_of_ble_eq_true rfl) rfl ?_
  unfold f_X5_lacking
  refine r_aload_n 0 0 rfl rfl 1 rfl dX5_lacking_0 ?_
  refine r_iconst 0 rfl 2 rfl dX5_lacking_1 ?_
  refine r_callV_I (c_X5_entry (E := E) (l := l) (S := S) d o0 h0 0) ok_X5_entry ⟨⟨(Nat.le_of_ble_eq_true rfl), (Nat.le_of_ble_eq_true rfl)⟩, (Nat.le_of_ble_eq_true rfl), (Nat.le_of_ble_eq_true rfl)⟩ (h0 0 (Nat.le_of_ble_eq_true rfl)) (Nat.le_of_ble_eq_true rfl) rfl rfl rfl (Nat.le_of_ble_eq_true rfl) gX5_lacking_X5_entry rfl rfl 5 rfl dX5_lacking_2 (fun v1 => ?_)
  refine r_istore_n 2 rfl [(2, .int v1), (0, .ref (E.2.1 + o0)), (1, .int x1)] (Nat.le_of_ble_eq_true rfl) rfl 6 rfl dX5_lacking_5 ?_
  refine r_iload_n 2 0 rfl rfl 7 rfl dX5_lacking_6 ?_
  refine r_iconst (-1) rfl 8 rfl dX5_lacking_7 ?_
  refine r_icmp_eq 16 11 rfl rfl dX5_lacking_8 ?_ ?_
  · refine r_iconst 0 rfl 17 rfl dX5_lacking_16 ?_
    exact r_ireturn rfl rfl (Nat.le_of_ble_eq_true rfl) (Nat.le_of_ble_eq_true rfl) dX5_lacking_17
  · refine r_iload_n 2 0 rfl rfl 12 rfl dX5_lacking_11 ?_
    refine r_iload_n 1 2 rfl rfl 13 rfl dX5_lacking_12 ?_
    refine r_icmp_ne 18 16 rfl rfl dX5_lacking_13 ?_ ?_
    · refine r_aload_n 0 1 rfl rfl 19 rfl dX5_lacking_18 ?_
      refine r_get (h0 0 (Nat.le_of_ble_eq_true rfl)) rfl (Nat.le_of_ble_eq_true rfl) rfl rfl w_X5_lacking_1 1 (Nat.le_of_ble_eq_true rfl) rfl w_X5_lacking_0 (.ref (E.2.1 + (o0 + 2))) rfl 22 rfl dX5_lacking_19 ?_
      refine r_iload_n 1 2 rfl rfl 23 rfl dX5_lacking_22 ?_
      refine r_iald (h0 2 (Nat.le_of_ble_eq_true rfl)) rfl rfl 24 rfl dX5_lacking_23 (fun v2 => ?_)
      refine r_aload_n 0 1 rfl rfl 25 rfl dX5_lacking_24 ?_
      refine r_get (h0 0 (Nat.le_of_ble_eq_true rfl)) rfl (Nat.le_of_ble_eq_true rfl) rfl rfl w_X5_lacking_1 1 (Nat.le_of_ble_eq_true rfl) rfl w_X5_lacking_0 (.ref (E.2.1 + (o0 + 2))) rfl 28 rfl dX5_lacking_25 ?_
      refine r_iload_n 2 0 rfl rfl 29 rfl dX5_lacking_28 ?_
      refine r_iald (h0 2 (Nat.le_of_ble_eq_true rfl)) rfl rfl 30 rfl dX5_lacking_29 (fun v3 => ?_)
      refine r_isub 31 rfl dX5_lacking_30 ?_
      refine r_nami (fun v4 => ?_)
      refine r_istore_n 3 rfl [(3, .int v4), (2, .int v1), (0, .ref (E.2.1 + o0)), (1, .int x1)] (Nat.le_of_ble_eq_true rfl) rfl 32 rfl dX5_lacking_31 ?_
      refine r_aload_n 0 2 rfl rfl 33 rfl dX5_lacking_32 ?_
      refine r_get (h0 0 (Nat.le_of_ble_eq_true rfl)) rfl (Nat.le_of_ble_eq_true rfl) rfl rfl w_X5_lacking_1 2 (Nat.le_of_ble_eq_true rfl) rfl w_X5_lacking_2 (.ref (E.2.1 + (o0 + 3))) rfl 36 rfl dX5_lacking_33 ?_
      refine r_iload_n 1 3 rfl rfl 37 rfl dX5_lacking_36 ?_
      refine r_iald (h0 3 (Nat.le_of_ble_eq_true rfl)) rfl rfl 38 rfl dX5_lacking_37 (fun v5 => ?_)
      refine r_aload_n 0 2 rfl rfl 39 rfl dX5_lacking_38 ?_
      refine r_get (h0 0 (Nat.le_of_ble_eq_true rfl)) rfl (Nat.le_of_ble_eq_true rfl) rfl rfl w_X5_lacking_1 2 (Nat.le_of_ble_eq_true rfl) rfl w_X5_lacking_2 (.ref (E.2.1 + (o0 + 3))) rfl 42 rfl dX5_lacking_39 ?_
      refine r_iload_n 2 1 rfl rfl 43 rfl dX5_lacking_42 ?_
      refine r_iald (h0 3 (Nat.le_of_ble_eq_true rfl)) rfl rfl 44 rfl dX5_lacking_43 (fun v6 => ?_)
      refine r_let 72 (f := fun x_72 : Int32 => [(3, .int v4)]) (g := fun x_72 : Int32 => [.int x_72]) (ww := fun x_72 : Int32 => (S, d)) (fun x_72 => ?_) (fun J72 hJ72 => ?_)
      · refine r_istore 4 [(4, .int x_72), (3, .int v4)] (Nat.le_of_ble_eq_true rfl) rfl 74 rfl dX5_lacking_72 ?_
        refine r_iload 4 0 rfl 76 rfl dX5_lacking_74 ?_
        refine r_if_eq 83 79 rfl rfl dX5_lacking_76 ?_ ?_
        · refine r_iload_n 3 1 rfl rfl 84 rfl dX5_lacking_83 ?_
          refine r_iconst 1 rfl 85 rfl dX5_lacking_84 ?_
          refine r_iadd 86 rfl dX5_lacking_85 ?_
          exact r_ireturn rfl rfl (Nat.le_of_ble_eq_true rfl) (Nat.le_of_ble_eq_true rfl) dX5_lacking_86
        · refine r_iload_n 3 1 rfl rfl 80 rfl dX5_lacking_79 ?_
          refine r_goto 86 rfl dX5_lacking_80 ?_
          exact r_ireturn rfl rfl (Nat.le_of_ble_eq_true rfl) (Nat.le_of_ble_eq_true rfl) dX5_lacking_86
      refine r_let 67 (f := fun x_67 : Unit => [(3, .int v4)]) (g := fun x_67 : Unit => []) (ww := fun x_67 : Unit => (S, d)) (fun x_67 => ?_) (fun J67 hJ67 => ?_)
      · refine r_iconst 1 rfl 68 rfl dX5_lacking_67 ?_
        refine r_goto 72 rfl dX5_lacking_68 ?_
        refine r_sub [0] rfl ?_
        exact hJ72 1
      refine r_icmp_lt 67 47 rfl rfl dX5_lacking_44 ?_ ?_
      · refine r_sub [0] rfl ?_
        exact hJ67 ()
      · refine r_aload_n 0 2 rfl rfl 48 rfl dX5_lacking_47 ?_
        refine r_get (h0 0 (Nat.le_of_ble_eq_true rfl)) rfl (Nat.le_of_ble_eq_true rfl) rfl rfl w_X5_lacking_1 2 (Nat.le_of_ble_eq_true rfl) rfl w_X5_lacking_2 (.ref (E.2.1 + (o0 + 3))) rfl 51 rfl dX5_lacking_48 ?_
        refine r_iload_n 1 3 rfl rfl 52 rfl dX5_lacking_51 ?_
        refine r_iald (h0 3 (Nat.le_of_ble_eq_true rfl)) rfl rfl 53 rfl dX5_lacking_52 (fun v7 => ?_)
        refine r_aload_n 0 2 rfl rfl 54 rfl dX5_lacking_53 ?_
        refine r_get (h0 0 (Nat.le_of_ble_eq_true rfl)) rfl (Nat.le_of_ble_eq_true rfl) rfl rfl w_X5_lacking_1 2 (Nat.le_of_ble_eq_true rfl) rfl w_X5_lacking_2 (.ref (E.2.1 + (o0 + 3))) rfl 57 rfl dX5_lacking_54 ?_
        refine r_iload_n 2 1 rfl rfl 58 rfl dX5_lacking_57 ?_
        refine r_iald (h0 3 (Nat.le_of_ble_eq_true rfl)) rfl rfl 59 rfl dX5_lacking_58 (fun v8 => ?_)
        refine r_let 71 (f := fun x_71 : Unit => [(3, .int v4)]) (g := fun x_71 : Unit => []) (ww := fun x_71 : Unit => (S, d)) (fun x_71 => ?_) (fun J71 hJ71 => ?_)
        · refine r_iconst 0 rfl 72 rfl dX5_lacking_71 ?_
          refine r_sub [0] rfl ?_
          exact hJ72 0
        refine r_icmp_ne 71 62 rfl rfl dX5_lacking_59 ?_ ?_
        · refine r_sub [0] rfl ?_
          exact hJ71 ()
        · refine r_iload_n 1 3 rfl rfl 63 rfl dX5_lacking_62 ?_
          refine r_iload_n 2 1 rfl rfl 64 rfl dX5_lacking_63 ?_
          refine r_icmp_ge 71 67 rfl rfl dX5_lacking_64 ?_ ?_
          · refine r_sub [0] rfl ?_
            exact hJ71 ()
          · refine r_sub [0] rfl ?_
            exact hJ67 ()
    · refine r_iconst 0 rfl 17 rfl dX5_lacking_16 ?_
      exact r_ireturn rfl rfl (Nat.le_of_ble_eq_true rfl) (Nat.le_of_ble_eq_true rfl) dX5_lacking_17
