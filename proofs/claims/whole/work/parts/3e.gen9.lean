/-! 3e.gen9: by gen/mk.py -/
def Y_X9_close : z_Y := (RX9, cX9_close, 1, wsX9_close, (some .int), { frames := 6, cells := 0, slots := 0, locals := 141 }, 0, 0)
theorem ok_X9_close : z_Ok yX9_close Y_X9_close 0 := ⟨⟨_, rfl⟩, rfl, rfl, rfl, by decide +kernel, by decide +kernel⟩
theorem w_X9_close_0 : Cond.fieldLink RX9 39 "BunchTimesModel" "thrown" "I" ∈ wsX9_close := by decide +kernel
theorem w_X9_close_1 : ∀ w ∈ u_ws RX9 TX9 18, w ∈ wsX9_close := by decide +kernel
def f_X9_close (d : z_D) (o0 : Nat) : Option (Int32 × z_D) := z_put d o0 0 0 (fun d1 => z_bX (f_X9_closes d1 o0) (fun v2 d3 => (some (v2, d3))))
set_option maxHeartbeats 4000000 in
set_option maxRecDepth 100000 in
theorem c_X9_close {E : z_E} {l : Launch} {S : z_S} (d : z_D) (o0 : Nat) (h0 : A_Model S o0) : z_Sp E l yX9_close Y_X9_close (cvX S) [.ref (E.2.1 + o0)] (S, d) (f_X9_close d o0) := by
  refine z_entry (lv := [(0, .ref (E.2.1 + o0))]) (by decide) rfl rfl (Nat.le_of_ble_eq_true rfl) rfl ?_
  unfold f_X9_close
  refine r_aload_n 0 0 rfl rfl 1 rfl dX9_close_0 ?_
  refine r_iconst 0 rfl 2 rfl dX9_close_1 ?_
  refine r_put (h0 0 (Nat.le_of_ble_eq_true rfl)) rfl (Nat.le_of_ble_eq_true rfl) rfl rfl w_X9_close_1 tyX9 tyX9_ok nmX9 (Nat.le_of_ble_eq_true rfl) rfl w_X9_close_0 rfl rfl rfl rfl rfl 5 rfl dX9_close_2 (fun d1 => ?_)
  refine r_aload_n 0 0 rfl rfl 6 rfl dX9_close_5 ?_
  refine r_callV_X (c_X9_closes (E := E) (l := l) (S := S) d1 o0 h0) ok_X9_closes ⟨⟨(Nat.le_of_ble_eq_true rfl), (Nat.le_of_ble_eq_true rfl)⟩, (Nat.le_of_ble_eq_true rfl), (Nat.le_of_ble_eq_true rfl)⟩ (h0 0 (Nat.le_of_ble_eq_true rfl)) (Nat.le_of_ble_eq_true rfl) rfl rfl rfl (Nat.le_of_ble_eq_true rfl) gX9_close_X9_closes rfl rfl 9 rfl dX9_close_6 (fun v2 d3 => ?_)
  exact r_ireturn rfl rfl (Nat.le_of_ble_eq_true rfl) (Nat.le_of_ble_eq_true rfl) dX9_close_9
def Y_X9_keep : z_Y := (RX9, cX9_keep, 3, wsX9_keep, (some .boolean), { frames := 1, cells := 0, slots := 0, locals := 22 }, 0, 0)
theorem ok_X9_keep : z_Ok yX9_keep Y_X9_keep 1 := ⟨⟨_, rfl⟩, rfl, rfl, rfl, by decide +kernel, by decide +kernel⟩
theorem w_X9_keep_0 : Cond.fieldLink RX9 39 "BunchTimesModel" "thrown" "I" ∈ wsX9_keep := by decide +kernel
theorem w_X9_keep_1 : ∀ w ∈ u_ws RX9 TX9 18, w ∈ wsX9_keep := by decide +kernel
theorem w_X9_keep_2 : Cond.fieldLink RX9 13 "BunchTimesModel" "keptRows" "[I" ∈ wsX9_keep := by decide +kernel
theorem w_X9_keep_3 : Cond.fieldLink RX9 7 "BunchTimesModel" "row" "[I" ∈ wsX9_keep := by decide +kernel
theorem w_X9_keep_4 : Cond.fieldLink RX9 19 "BunchTimesModel" "isKept" "[Z" ∈ wsX9_keep := by decide +kernel
def f_X9_keep_L18_b (o0 : Nat) (x1 : Int32) (K : z_D → Option (Int32 × z_D)) (R : Int32 → z_D → Option (Int32 × z_D)) (x2 : Int32) (d : z_D) : Option (Int32 × z_D) := (if 2656 ≤ x2 then (K d) else z_ald d (o0 + 1) 2656 x2 (fun v3 => z_ast d (o0 + 2) 5312 ((2656 * x1) + x2) v3 (fun d4 => (R (x2 + 1) d4))))
def f_X9_keep_L18 (o0 : Nat) (x1 : Int32) (K : z_D → Option (Int32 × z_D)) : Nat → Int32 → z_D → Option (Int32 × z_D)
  | 0 => fun _ _ => none
  | n + 1 => f_X9_keep_L18_b o0 x1 K (f_X9_keep_L18 o0 x1 K n)
set_option maxHeartbeats 4000000 in
set_option maxRecDepth 100000 in
theorem g_X9_keep_L18 {E : z_E} {l : Launch} {S : z_S} {o0 : Nat} {x1 : Int32} {K : z_D → Option (Int32 × z_D)} (h0 : A_Model S o0) (hK : ∀ (d9 : z_D), z_G E l Y_X9_keep (cvX S) (K d9) 49 [(0, .ref (E.2.1 + o0)), (1, .int x1)] [] (S, d9) 0 0) : ∀ (n : Nat) (x2 : Int32) (d : z_D), z_G E l Y_X9_keep (cvX S) (f_X9_keep_L18 o0 x1 K n x2 d) 18 [(0, .ref (E.2.1 + o0)), (1, .int x1), (2, .int x2)] [] (S, d) 0 0 := by
  intro n
  induction n with
  | zero => intro _ _; exact r_none
  | succ n ih =>
    intro x2 d
    show z_G E l Y_X9_keep (cvX S) (f_X9_keep_L18_b o0 x1 K (f_X9_keep_L18 o0 x1 K n) x2 d) 18 [(0, .ref (E.2.1 + o0)), (1, .int x1), (2, .int x2)] [] (S, d) 0 0
    unfold f_X9_keep_L18_b
    refine r_iload_n 2 2 rfl rfl 19 rfl dX9_keep_18 ?_
    refine r_sipush 2656 rfl 22 rfl dX9_keep_19 ?_
    refine r_icmp_ge 49 25 rfl rfl dX9_keep_22 ?_ ?_
    · refine r_sub [0, 1] rfl ?_
      exact hK d
    · refine r_aload_n 0 0 rfl rfl 26 rfl dX9_keep_25 ?_
      refine r_get (h0 0 (Nat.le_of_ble_eq_true rfl)) rfl (Nat.le_of_ble_eq_true rfl) rfl rfl w_X9_keep_1 2 (Nat.le_of_ble_eq_true rfl) rfl w_X9_keep_2 (.ref (E.2.1 + (o0 + 2))) rfl 29 rfl dX9_keep_26 ?_
      refine r_sipush 2656 rfl 32 rfl dX9_keep_29 ?_
      refine r_iload_n 1 1 rfl rfl 33 rfl dX9_keep_32 ?_
      refine r_imul 34 rfl dX9_keep_33 ?_
      refine r_iload_n 2 2 rfl rfl 35 rfl dX9_keep_34 ?_
      refine r_iadd 36 rfl dX9_keep_35 ?_
      refine r_aload_n 0 0 rfl rfl 37 rfl dX9_keep_36 ?_
      refine r_get (h0 0 (Nat.le_of_ble_eq_true rfl)) rfl (Nat.le_of_ble_eq_true rfl) rfl rfl w_X9_keep_1 1 (Nat.le_of_ble_eq_true rfl) rfl w_X9_keep_3 (.ref (E.2.1 + (o0 + 1))) rfl 40 rfl dX9_keep_37 ?_
      refine r_iload_n 2 2 rfl rfl 41 rfl dX9_keep_40 ?_
      refine r_iald (h0 1 (Nat.le_of_ble_eq_true rfl)) rfl rfl 42 rfl dX9_keep_41 (fun v3 => ?_)
      refine r_iast (h0 2 (Nat.le_of_ble_eq_true rfl)) rfl rfl 43 rfl dX9_keep_42 (fun d4 => ?_)
      refine r_iinc (x2 + 1) 2 rfl rfl [(2, .int (x2 + 1)), (0, .ref (E.2.1 + o0)), (1, .int x1)] (Nat.le_of_ble_eq_true rfl) rfl 46 rfl dX9_keep_43 ?_
      refine r_goto 18 rfl dX9_keep_46 ?_
      refine r_sub [1, 2, 0] rfl ?_
      exact ih (x2 + 1) d4
def f_X9_keep (d : z_D) (o0 : Nat) (x1 : Int32) : Option (Int32 × z_D) := z_put d o0 0 0 (fun d1 => ((f_X9_isIn x1 0 1).bind fun v2 => (if v2 = 0 then (some (0, d1)) else (f_X9_keep_L18 o0 x1 (fun d5 => z_ast d5 (o0 + 4) 2 x1 (1 &&& 1) (fun d6 => (some (1, d6)))) z_N 0 d1))))
set_option maxHeartbeats 4000000 in
set_option maxRecDepth 100000 in
theorem c_X9_keep {E : z_E} {l : Launch} {S : z_S} (d : z_D) (o0 : Nat) (h0 : A_Model S o0) (x1 : Int32) : z_Sp E l yX9_keep Y_X9_keep (cvX S) [.ref (E.2.1 + o0), .int x1] (S, d) (f_X9_keep d o0 x1) := by
  refine z_entry (lv := [(0, .ref (E.2.1 + o0)), (1, .int x1)]) (by decide) rfl rfl (Nat.le_of_ble_eq_true rfl) rfl ?_
  unfold f_X9_keep
  refine r_aload_n 0 0 rfl rfl 1 rfl dX9_keep_0 ?_
  refine r_iconst 0 rfl 2 rfl dX9_keep_1 ?_
  refine r_put (h0 0 (Nat.le_of_ble_eq_true rfl)) rfl (Nat.le_of_ble_eq_true rfl) rfl rfl w_X9_keep_1 tyX9 tyX9_ok nmX9 (Nat.le_of_ble_eq_true rfl) rfl w_X9_keep_0 rfl rfl rfl rfl rfl 5 rfl dX9_keep_2 (fun d1 => ?_)
  refine r_iload_n 1 1 rfl rfl 6 rfl dX9_keep_5 ?_
  refine r_iconst 0 rfl 7 rfl dX9_keep_6 ?_
  refine r_iconst 1 rfl 8 rfl dX9_keep_7 ?_
  refine r_callS_I (c_X9_isIn (E := E) (l := l) (S := S) d1 x1 0 1) ok_X9_isIn ⟨⟨(Nat.le_of_ble_eq_true rfl), (Nat.le_of_ble_eq_true rfl)⟩, (Nat.le_of_ble_eq_true rfl), (Nat.le_of_ble_eq_true rfl)⟩ rfl (Nat.le_of_ble_eq_true rfl) gX9_keep_X9_isIn rfl rfl 11 rfl dX9_keep_8 (fun v2 => ?_)
  refine r_if_ne 16 14 rfl rfl dX9_keep_11 ?_ ?_
  · refine r_iconst 0 rfl 17 rfl dX9_keep_16 ?_
    refine r_istore_n 2 rfl [(2, .int 0), (0, .ref (E.2.1 + o0)), (1, .int x1)] (Nat.le_of_ble_eq_true rfl) rfl 18 rfl dX9_keep_17 ?_
    refine r_sub [1, 2, 0] rfl ?_
    refine g_X9_keep_L18 h0 (fun d5 => ?_) z_N 0 d1
    refine r_aload_n 0 0 rfl rfl 50 rfl dX9_keep_49 ?_
    refine r_get (h0 0 (Nat.le_of_ble_eq_true rfl)) rfl (Nat.le_of_ble_eq_true rfl) rfl rfl w_X9_keep_1 4 (Nat.le_of_ble_eq_true rfl) rfl w_X9_keep_4 (.ref (E.2.1 + (o0 + 4))) rfl 53 rfl dX9_keep_50 ?_
    refine r_iload_n 1 1 rfl rfl 54 rfl dX9_keep_53 ?_
    refine r_iconst 1 rfl 55 rfl dX9_keep_54 ?_
    refine r_zast (h0 4 (Nat.le_of_ble_eq_true rfl)) rfl rfl 56 rfl dX9_keep_55 (fun d6 => ?_)
    refine r_iconst 1 rfl 57 rfl dX9_keep_56 ?_
    exact r_zreturnc (by decide) rfl rfl (Nat.le_of_ble_eq_true rfl) (Nat.le_of_ble_eq_true rfl) dX9_keep_57
  · refine r_iconst 0 rfl 15 rfl dX9_keep_14 ?_
    exact r_zreturnc (by decide) rfl rfl (Nat.le_of_ble_eq_true rfl) (Nat.le_of_ble_eq_true rfl) dX9_keep_15
def Y_X9_back : z_Y := (RX9, cX9_back, 3, wsX9_back, (some .boolean), { frames := 1, cells := 0, slots := 0, locals := 22 }, 0, 0)
theorem ok_X9_back : z_Ok yX9_back Y_X9_back 1 := ⟨⟨_, rfl⟩, rfl, rfl, rfl, by decide +kernel, by decide +kernel⟩
theorem w_X9_back_0 : Cond.fieldLink RX9 39 "BunchTimesModel" "thrown" "I" ∈ wsX9_back := by decide +kernel
theorem w_X9_back_1 : ∀ w ∈ u_ws RX9 TX9 18, w ∈ wsX9_back := by decide +kernel
theorem w_X9_back_2 : Cond.fieldLink RX9 19 "BunchTimesModel" "isKept" "[Z" ∈ wsX9_back := by decide +kernel
theorem w_X9_back_3 : Cond.fieldLink RX9 7 "BunchTimesModel" "row" "[I" ∈ wsX9_back := by decide +kernel
theorem w_X9_back_4 : Cond.fieldLink RX9 13 "BunchTimesModel" "keptRows" "[I" ∈ wsX9_back := by decide +kernel
def f_X9_back_L27_b (o0 : Nat) (x1 : Int32) (K : z_D → Option (Int32 × z_D)) (R : Int32 → z_D → Option (Int32 × z_D)) (x2 : Int32) (d : z_D) : Option (Int32 × z_D) := (if 2656 ≤ x2 then (K d) else z_ald d (o0 + 2) 5312 ((2656 * x1) + x2) (fun v4 => z_ast d (o0 + 1) 2656 x2 v4 (fun d5 => (R (x2 + 1) d5))))
def f_X9_back_L27 (o0 : Nat) (x1 : Int32) (K : z_D → Option (Int32 × z_D)) : Nat → Int32 → z_D → Option (Int32 × z_D)
  | 0 => fun _ _ => none
  | n + 1 => f_X9_back_L27_b o0 x1 K (f_X9_back_L27 o0 x1 K n)
set_option maxHeartbeats 4000000 in
set_option maxRecDepth 100000 in
theorem g_X9_back_L27 {E : z_E} {l : Launch} {S : z_S} {o0 : Nat} {x1 : Int32} {K : z_D → Option (Int32 × z_D)} (h0 : A_Model S o0) (hK : ∀ (d9 : z_D), z_G E l Y_X9_back (cvX S) (K d9) 58 [] [] (S, d9) 0 0) : ∀ (n : Nat) (x2 : Int32) (d : z_D), z_G E l Y_X9_back (cvX S) (f_X9_back_L27 o0 x1 K n x2 d) 27 [(0, .ref (E.2.1 + o0)), (1, .int x1), (2, .int x2)] [] (S, d) 0 0 := by
  intro n
  induction n with
  | zero => intro _ _; exact r_none
  | succ n ih =>
    intro x2 d
    show z_G E l Y_X9_back (cvX S) (f_X9_back_L27_b o0 x1 K (f_X9_back_L27 o0 x1 K n) x2 d) 27 [(0, .ref (E.2.1 + o0)), (1, .int x1), (2, .int x2)] [] (S, d) 0 0
    unfold f_X9_back_L27_b
    refine r_iload_n 2 2 rfl rfl 28 rfl dX9_back_27 ?_
    refine r_sipush 2656 rfl 31 rfl dX9_back_28 ?_
    refine r_icmp_ge 58 34 rfl rfl dX9_back_31 ?_ ?_
    · refine r_sub [] rfl ?_
      exact hK d
    · refine r_aload_n 0 0 rfl rfl 35 rfl dX9_back_34 ?_
      refine r_get (h0 0 (Nat.le_of_ble_eq_true rfl)) rfl (Nat.le_of_ble_eq_true rfl) rfl rfl w_X9_back_1 1 (Nat.le_of_ble_eq_true rfl) rfl w_X9_back_3 (.ref (E.2.1 + (o0 + 1))) rfl 38 rfl dX9_back_35 ?_
      refine r_iload_n 2 2 rfl rfl 39 rfl dX9_back_38 ?_
      refine r_aload_n 0 0 rfl rfl 40 rfl dX9_back_39 ?_
      refine r_get (h0 0 (Nat.le_of_ble_eq_true rfl)) rfl (Nat.le_of_ble_eq_true rfl) rfl rfl w_X9_back_1 2 (Nat.le_of_ble_eq_true rfl) rfl w_X9_back_4 (.ref (E.2.1 + (o0 + 2))) rfl 43 rfl dX9_back_40 ?_
      refine r_sipush 2656 rfl 46 rfl dX9_back_43 ?_
      refine r_iload_n 1 1 rfl rfl 47 rfl dX9_back_46 ?_
      refine r_imul 48 rfl dX9_back_47 ?_
      refine r_iload_n 2 2 rfl rfl 49 rfl dX9_back_48 ?_
      refine r_iadd 50 rfl dX9_back_49 ?_
      refine r_iald (h0 2 (Nat.le_of_ble_eq_true rfl)) rfl rfl 51 rfl dX9_back_50 (fun v4 => ?_)
      refine r_iast (h0 1 (Nat.le_of_ble_eq_true rfl)) rfl rfl 52 rfl dX9_back_51 (fun d5 => ?_)
      refine r_iinc (x2 + 1) 2 rfl rfl [(2, .int (x2 + 1)), (0, .ref (E.2.1 + o0)), (1, .int x1)] (Nat.le_of_ble_eq_true rfl) rfl 55 rfl dX9_back_52 ?_
      refine r_goto 27 rfl dX9_back_55 ?_
      refine r_sub [1, 2, 0] rfl ?_
      exact ih (x2 + 1) d5
def f_X9_back (d : z_D) (o0 : Nat) (x1 : Int32) : Option (Int32 × z_D) := z_put d o0 0 0 (fun d1 => ((f_X9_isIn x1 0 1).bind fun v2 => (if v2 = 0 then (some (0, d1)) else z_ald d1 (o0 + 4) 2 x1 (fun v3 => (if v3 = 0 then (some (0, d1)) else (f_X9_back_L27 o0 x1 (fun d6 => (some (1, d6))) z_N 0 d1))))))
set_option maxHeartbeats 4000000 in
set_option maxRecDepth 100000 in
theorem c_X9_back {E : z_E} {l : Launch} {S : z_S} (d : z_D) (o0 : Nat) (h0 : A_Model S o0) (x1 : Int32) : z_Sp E l yX9_back Y_X9_back (cvX S) [.ref (E.2.1 + o0), .int x1] (S, d) (f_X9_back d o0 x1) := by
  refine z_entry (lv := [(0, .ref (E.2.1 + o0)), (1, .int x1)]) (by decide) rfl rfl (Nat.le_of_ble_eq_true rfl) rfl ?_
  unfold f_X9_back
  refine r_aload_n 0 0 rfl rfl 1 rfl dX9_back_0 ?_
  refine r_iconst 0 rfl 2 rfl dX9_back_1 ?_
  refine r_put (h0 0 (Nat.le_of_ble_eq_true rfl)) rfl (Nat.le_of_ble_eq_true rfl) rfl rfl w_X9_back_1 tyX9 tyX9_ok nmX9 (Nat.le_of_ble_eq_true rfl) rfl w_X9_back_0 rfl rfl rfl rfl rfl 5 rfl dX9_back_2 (fun d1 => ?_)
  refine r_iload_n 1 1 rfl rfl 6 rfl dX9_back_5 ?_
  refine r_iconst 0 rfl 7 rfl dX9_back_6 ?_
  refine r_iconst 1 rfl 8 rfl dX9_back_7 ?_
  refine r_callS_I (c_X9_isIn (E := E) (l := l) (S := S) d1 x1 0 1) ok_X9_isIn ⟨⟨(Nat.le_of_ble_eq_true rfl), (Nat.le_of_ble_eq_true rfl)⟩, (Nat.le_of_ble_eq_true rfl), (Nat.le_of_ble_eq_true rfl)⟩ rfl (Nat.le_of_ble_eq_true rfl) gX9_back_X9_isIn rfl rfl 11 rfl dX9_back_8 (fun v2 => ?_)
  refine r_if_eq 23 14 rfl rfl dX9_back_11 ?_ ?_
  · refine r_iconst 0 rfl 24 rfl dX9_back_23 ?_
    exact r_zreturnc (by decide) rfl rfl (Nat.le_of_ble_eq_true rfl) (Nat.le_of_ble_eq_true rfl) dX9_back_24
  · refine r_aload_n 0 0 rfl rfl 15 rfl dX9_back_14 ?_
    refine r_get (h0 0 (Nat.le_of_ble_eq_true rfl)) rfl (Nat.le_of_ble_eq_true rfl) rfl rfl w_X9_back_1 4 (Nat.le_of_ble_eq_true rfl) rfl w_X9_back_2 (.ref (E.2.1 + (o0 + 4))) rfl 18 rfl dX9_back_15 ?_
    refine r_iload_n 1 1 rfl rfl 19 rfl dX9_back_18 ?_
    refine r_zald (h0 4 (Nat.le_of_ble_eq_true rfl)) rfl rfl 20 rfl dX9_back_19 (fun v3 => ?_)
    refine r_if_ne 25 23 rfl rfl dX9_back_20 ?_ ?_
    · refine r_iconst 0 rfl 26 rfl dX9_back_25 ?_
      refine r_istore_n 2 rfl [(2, .int 0), (0, .ref (E.2.1 + o0)), (1, .int x1)] (Nat.le_of_ble_eq_true rfl) rfl 27 rfl dX9_back_26 ?_
      refine r_sub [1, 2, 0] rfl ?_
      refine g_X9_back_L27 h0 (fun d6 => ?_) z_N 0 d1
      refine r_iconst 1 rfl 59 rfl dX9_back_58 ?_
      exact r_zreturnc (by decide) rfl rfl (Nat.le_of_ble_eq_true rfl) (Nat.le_of_ble_eq_true rfl) dX9_back_59
    · refine r_iconst 0 rfl 24 rfl dX9_back_23 ?_
      exact r_zreturnc (by decide) rfl rfl (Nat.le_of_ble_eq_true rfl) (Nat.le_of_ble_eq_true rfl) dX9_back_24
def Y_X9_count : z_Y := (RX9, cX9_count, 2, wsX9_count, (some .int), { frames := 4, cells := 0, slots := 0, locals := 86 }, 0, 0)
theorem ok_X9_count : z_Ok yX9_count Y_X9_count 1 := ⟨⟨_, rfl⟩, rfl, rfl, rfl, by decide +kernel, by decide +kernel⟩
theorem w_X9_count_0 : Cond.fieldLink RX9 39 "BunchTimesModel" "thrown" "I" ∈ wsX9_count := by decide +kernel
theorem w_X9_count_1 : ∀ w ∈ u_ws RX9 TX9 18, w ∈ wsX9_count := by decide +kernel
theorem w_X9_count_2 : Cond.fieldLink RX9 7 "BunchTimesModel" "row" "[I" ∈ wsX9_count := by decide +kernel
theorem w_X9_count_3 : Cond.fieldLink RX9 179 "BunchTimesModel" "taped" "I" ∈ wsX9_count := by decide +kernel
def f_X9_count (d : z_D) (o0 : Nat) (x1 : Int32) : Option (Int32 × z_D) := z_put d o0 0 0 (fun d1 => (if x1 = 0 then z_ald d1 (o0 + 1) 2656 0 (fun v2 => (some (v2, d1))) else (if x1 = 1 then z_ald d1 (o0 + 1) 2656 1 (fun v3 => (some (v3, d1))) else (if x1 = 2 then ((f_X9_there d1 o0).bind fun v4 => (some (v4, d1))) else (if x1 = 3 then z_ald d1 (o0 + 1) 2656 2 (fun v5 => (some (v5, d1))) else (if x1 = 4 then ((f_X9_closedMany d1 o0).bind fun v6 => (some (v6, d1))) else (if x1 = 5 then ((f_X9_latest d1 o0).bind fun v7 => (if 0 ≤ v7 then ((f_X9_latest d1 o0).bind fun v8 => ((f_X9_at v8 2).bind fun v9 => z_ald d1 (o0 + 1) 2656 v9 (fun v10 => (some (v10, d1))))) else (some (0, d1)))) else (if x1 = 6 then ((f_X9_latest d1 o0).bind fun v11 => (if 0 ≤ v11 then ((f_X9_latest d1 o0).bind fun v12 => ((f_X9_finishes d1 o0 v12).bind fun v13 => (some (v13, d1)))) else (some (0, d1)))) else (if x1 = 7 then z_ald d1 (o0 + 1) 2656 4 (fun v14 => (some (v14, d1))) else (if x1 = 8 then z_ald d1 (o0 + 1) 2656 5 (fun v15 => (some (v15, d1))) else (if x1 = 9 then (some ((d1 o0 11), d1)) else (some ((-1), d1)))))))))))))
set_option maxHeartbeats 4000000 in
set_option maxRecDepth 100000 in
theorem c_X9_count {E : z_E} {l : Launch} {S : z_S} (d : z_D) (o0 : Nat) (h0 : A_Model S o0) (x1 : Int32) : z_Sp E l yX9_count Y_X9_count (cvX S) [.ref (E.2.1 + o0), .int x1] (S, d) (f_X9_count d o0 x1) := by
  refine z_entry (lv := [(0, .ref (E.2.1 + o0)), (1, .int x1)]) (by decide) rfl rfl (Nat.le_of_ble_eq_true rfl) rfl ?_
  unfold f_X9_count
  refine r_aload_n 0 0 rfl rfl 1 rfl dX9_count_0 ?_
  refine r_iconst 0 rfl 2 rfl dX9_count_1 ?_
  refine r_put (h0 0 (Nat.le_of_ble_eq_true rfl)) rfl (Nat.le_of_ble_eq_true rfl) rfl rfl w_X9_count_1 tyX9 tyX9_ok nmX9 (Nat.le_of_ble_eq_true rfl) rfl w_X9_count_0 rfl rfl rfl rfl rfl 5 rfl dX9_count_2 (fun d1 => ?_)
  refine r_iload_n 1 1 rfl rfl 6 rfl dX9_count_5 ?_
  refine r_tsw 60 rfl rfl rfl rfl dX9_count_6 ?_ (fun hs0 => ?_)
  · refine r_aload_n 0 0 rfl rfl 61 rfl dX9_count_60 ?_
    refine r_get (h0 0 (Nat.le_of_ble_eq_true rfl)) rfl (Nat.le_of_ble_eq_true rfl) rfl rfl w_X9_count_1 1 (Nat.le_of_ble_eq_true rfl) rfl w_X9_count_2 (.ref (E.2.1 + (o0 + 1))) rfl 64 rfl dX9_count_61 ?_
    refine r_iconst 0 rfl 65 rfl dX9_count_64 ?_
    refine r_iald (h0 1 (Nat.le_of_ble_eq_true rfl)) rfl rfl 66 rfl dX9_count_65 (fun v2 => ?_)
    exact r_ireturn rfl rfl (Nat.le_of_ble_eq_true rfl) (Nat.le_of_ble_eq_true rfl) dX9_count_66
  refine r_tsw 67 rfl rfl rfl rfl dX9_count_6 ?_ (fun hs1 => ?_)
  · refine r_aload_n 0 0 rfl rfl 68 rfl dX9_count_67 ?_
    refine r_get (h0 0 (Nat.le_of_ble_eq_true rfl)) rfl (Nat.le_of_ble_eq_true rfl) rfl rfl w_X9_count_1 1 (Nat.le_of_ble_eq_true rfl) rfl w_X9_count_2 (.ref (E.2.1 + (o0 + 1))) rfl 71 rfl dX9_count_68 ?_
    refine r_iconst 1 rfl 72 rfl dX9_count_71 ?_
    refine r_iald (h0 1 (Nat.le_of_ble_eq_true rfl)) rfl rfl 73 rfl dX9_count_72 (fun v3 => ?_)
    exact r_ireturn rfl rfl (Nat.le_of_ble_eq_true rfl) (Nat.le_of_ble_eq_true rfl) dX9_count_73
  refine r_tsw 74 rfl rfl rfl rfl dX9_count_6 ?_ (fun hs2 => ?_)
  · refine r_aload_n 0 0 rfl rfl 75 rfl dX9_count_74 ?_
    refine r_callV_I (c_X9_there (E := E) (l := l) (S := S) d1 o0 h0) ok_X9_there ⟨⟨(Nat.le_of_ble_eq_true rfl), (Nat.le_of_ble_eq_true rfl)⟩, (Nat.le_of_ble_eq_true rfl), (Nat.le_of_ble_eq_true rfl)⟩ (h0 0 (Nat.le_of_ble_eq_true rfl)) (Nat.le_of_ble_eq_true rfl) rfl rfl rfl (Nat.le_of_ble_eq_true rfl) gX9_count_X9_there rfl rfl 78 rfl dX9_count_75 (fun v4 => ?_)
    exact r_ireturn rfl rfl (Nat.le_of_ble_eq_true rfl) (Nat.le_of_ble_eq_true rfl) dX9_count_78
  refine r_tsw 79 rfl rfl rfl rfl dX9_count_6 ?_ (fun hs3 => ?_)
  · refine r_aload_n 0 0 rfl rfl 80 rfl dX9_count_79 ?_
    refine r_get (h0 0 (Nat.le_of_ble_eq_true rfl)) rfl (Nat.le_of_ble_eq_true rfl) rfl rfl w_X9_count_1 1 (Nat.le_of_ble_eq_true rfl) rfl w_X9_count_2 (.ref (E.2.1 + (o0 + 1))) rfl 83 rfl dX9_count_80 ?_
    refine r_iconst 2 rfl 84 rfl dX9_count_83 ?_
    refine r_iald (h0 1 (Nat.le_of_ble_eq_true rfl)) rfl rfl 85 rfl dX9_count_84 (fun v5 => ?_)
    exact r_ireturn rfl rfl (Nat.le_of_ble_eq_true rfl) (Nat.le_of_ble_eq_true rfl) dX9_count_85
  refine r_tsw 86 rfl rfl rfl rfl dX9_count_6 ?_ (fun hs4 => ?_)
  · refine r_aload_n 0 0 rfl rfl 87 rfl dX9_count_86 ?_
    refine r_callV_I (c_X9_closedMany (E := E) (l := l) (S := S) d1 o0 h0) ok_X9_closedMany ⟨⟨(Nat.le_of_ble_eq_true rfl), (Nat.le_of_ble_eq_true rfl)⟩, (Nat.le_of_ble_eq_true rfl), (Nat.le_of_ble_eq_true rfl)⟩ (h0 0 (Nat.le_of_ble_eq_true rfl)) (Nat.le_of_ble_eq_true rfl) rfl rfl rfl (Nat.le_of_ble_eq_true rfl) gX9_count_X9_closedMany rfl rfl 90 rfl dX9_count_87 (fun v6 => ?_)
    exact r_ireturn rfl rfl (Nat.le_of_ble_eq_true rfl) (Nat.le_of_ble_eq_true rfl) dX9_count_90
  refine r_tsw 91 rfl rfl rfl rfl dX9_count_6 ?_ (fun hs5 => ?_)
  · refine r_aload_n 0 0 rfl rfl 92 rfl dX9_count_91 ?_
    refine r_callV_I (c_X9_latest (E := E) (l := l) (S := S) d1 o0 h0) ok_X9_latest ⟨⟨(Nat.le_of_ble_eq_true rfl), (Nat.le_of_ble_eq_true rfl)⟩, (Nat.le_of_ble_eq_true rfl), (Nat.le_of_ble_eq_true rfl)⟩ (h0 0 (Nat.le_of_ble_eq_true rfl)) (Nat.le_of_ble_eq_true rfl) rfl rfl rfl (Nat.le_of_ble_eq_true rfl) gX9_count_X9_latest rfl rfl 95 rfl dX9_count_92 (fun v7 => ?_)
    refine r_if_ge 102 98 rfl rfl dX9_count_95 ?_ ?_
    · refine r_aload_n 0 0 rfl rfl 103 rfl dX9_count_102 ?_
      refine r_get (h0 0 (Nat.le_of_ble_eq_true rfl)) rfl (Nat.le_of_ble_eq_true rfl) rfl rfl w_X9_count_1 1 (Nat.le_of_ble_eq_true rfl) rfl w_X9_count_2 (.ref (E.2.1 + (o0 + 1))) rfl 106 rfl dX9_count_103 ?_
      refine r_aload_n 0 0 rfl rfl 107 rfl dX9_count_106 ?_
      refine r_callV_I (c_X9_latest (E := E) (l := l) (S := S) d1 o0 h0) ok_X9_latest ⟨⟨(Nat.le_of_ble_eq_true rfl), (Nat.le_of_ble_eq_true rfl)⟩, (Nat.le_of_ble_eq_true rfl), (Nat.le_of_ble_eq_true rfl)⟩ (h0 0 (Nat.le_of_ble_eq_true rfl)) (Nat.le_of_ble_eq_true rfl) rfl rfl rfl (Nat.le_of_ble_eq_true rfl) gX9_count_X9_latest rfl rfl 110 rfl dX9_count_107 (fun v8 => ?_)
      refine r_iconst 2 rfl 111 rfl dX9_count_110 ?_
      refine r_callS_I (c_X9_at (E := E) (l := l) (S := S) d1 v8 2) ok_X9_at ⟨⟨(Nat.le_of_ble_eq_true rfl), (Nat.le_of_ble_eq_true rfl)⟩, (Nat.le_of_ble_eq_true rfl), (Nat.le_of_ble_eq_true rfl)⟩ rfl (Nat.le_of_ble_eq_true rfl) gX9_count_X9_at rfl rfl 114 rfl dX9_count_111 (fun v9 => ?_)
      refine r_iald (h0 1 (Nat.le_of_ble_eq_true rfl)) rfl rfl 115 rfl dX9_count_114 (fun v10 => ?_)
      exact r_ireturn rfl rfl (Nat.le_of_ble_eq_true rfl) (Nat.le_of_ble_eq_true rfl) dX9_count_115
    · refine r_iconst 0 rfl 99 rfl dX9_count_98 ?_
      refine r_goto 115 rfl dX9_count_99 ?_
      exact r_ireturn rfl rfl (Nat.le_of_ble_eq_true rfl) (Nat.le_of_ble_eq_true rfl) dX9_count_115
  refine r_tsw 116 rfl rfl rfl rfl dX9_count_6 ?_ (fun hs6 => ?_)
  · refine r_aload_n 0 0 rfl rfl 117 rfl dX9_count_116 ?_
    refine r_callV_I (c_X9_latest (E := E) (l := l) (S := S) d1 o0 h0) ok_X9_latest ⟨⟨(Nat.le_of_ble_eq_true rfl), (Nat.le_of_ble_eq_true rfl)⟩, (Nat.le_of_ble_eq_true rfl), (Nat.le_of_ble_eq_true rfl)⟩ (h0 0 (Nat.le_of_ble_eq_true rfl)) (Nat.le_of_ble_eq_true rfl) rfl rfl rfl (Nat.le_of_ble_eq_true rfl) gX9_count_X9_latest rfl rfl 120 rfl dX9_count_117 (fun v11 => ?_)
    refine r_if_ge 127 123 rfl rfl dX9_count_120 ?_ ?_
    · refine r_aload_n 0 0 rfl rfl 128 rfl dX9_count_127 ?_
      refine r_aload_n 0 0 rfl rfl 129 rfl dX9_count_128 ?_
      refine r_callV_I (c_X9_latest (E := E) (l := l) (S := S) d1 o0 h0) ok_X9_latest ⟨⟨(Nat.le_of_ble_eq_true rfl), (Nat.le_of_ble_eq_true rfl)⟩, (Nat.le_of_ble_eq_true rfl), (Nat.le_of_ble_eq_true rfl)⟩ (h0 0 (Nat.le_of_ble_eq_true rfl)) (Nat.le_of_ble_eq_true rfl) rfl rfl rfl (Nat.le_of_ble_eq_true rfl) gX9_count_X9_latest rfl rfl 132 rfl dX9_count_129 (fun v12 => ?_)
      refine r_callV_I (c_X9_finishes (E := E) (l := l) (S := S) d1 o0 h0 v12) ok_X9_finishes ⟨⟨(Nat.le_of_ble_eq_true rfl), (Nat.le_of_ble_eq_true rfl)⟩, (Nat.le_of_ble_eq_true rfl), (Nat.le_of_ble_eq_true rfl)⟩ (h0 0 (Nat.le_of_ble_eq_true rfl)) (Nat.le_of_ble_eq_true rfl) rfl rfl rfl (Nat.le_of_ble_eq_true rfl) gX9_count_X9_finishes rfl rfl 135 rfl dX9_count_132 (fun v13 => ?_)
      exact r_ireturn rfl rfl (Nat.le_of_ble_eq_true rfl) (Nat.le_of_ble_eq_true rfl) dX9_count_135
    · refine r_iconst 0 rfl 124 rfl dX9_count_123 ?_
      refine r_goto 135 rfl dX9_count_124 ?_
      exact r_ireturn rfl rfl (Nat.le_of_ble_eq_true rfl) (Nat.le_of_ble_eq_true rfl) dX9_count_135
  refine r_tsw 136 rfl rfl rfl rfl dX9_count_6 ?_ (fun hs7 => ?_)
  · refine r_aload_n 0 0 rfl rfl 137 rfl dX9_count_136 ?_
    refine r_get (h0 0 (Nat.le_of_ble_eq_true rfl)) rfl (Nat.le_of_ble_eq_true rfl) rfl rfl w_X9_count_1 1 (Nat.le_of_ble_eq_true rfl) rfl w_X9_count_2 (.ref (E.2.1 + (o0 + 1))) rfl 140 rfl dX9_count_137 ?_
    refine r_iconst 4 rfl 141 rfl dX9_count_140 ?_
    refine r_iald (h0 1 (Nat.le_of_ble_eq_true rfl)) rfl rfl 142 rfl dX9_count_141 (fun v14 => ?_)
    exact r_ireturn rfl rfl (Nat.le_of_ble_eq_true rfl) (Nat.le_of_ble_eq_true rfl) dX9_count_142
  refine r_tsw 143 rfl rfl rfl rfl dX9_count_6 ?_ (fun hs8 => ?_)
  · refine r_aload_n 0 0 rfl rfl 144 rfl dX9_count_143 ?_
    refine r_get (h0 0 (Nat.le_of_ble_eq_true rfl)) rfl (Nat.le_of_ble_eq_true rfl) rfl rfl w_X9_count_1 1 (Nat.le_of_ble_eq_true rfl) rfl w_X9_count_2 (.ref (E.2.1 + (o0 + 1))) rfl 147 rfl dX9_count_144 ?_
    refine r_iconst 5 rfl 148 rfl dX9_count_147 ?_
    refine r_iald (h0 1 (Nat.le_of_ble_eq_true rfl)) rfl rfl 149 rfl dX9_count_148 (fun v15 => ?_)
    exact r_ireturn rfl rfl (Nat.le_of_ble_eq_true rfl) (Nat.le_of_ble_eq_true rfl) dX9_count_149
  refine r_tsw 150 rfl rfl rfl rfl dX9_count_6 ?_ (fun hs9 => ?_)
  · refine r_aload_n 0 0 rfl rfl 151 rfl dX9_count_150 ?_
    refine r_get (h0 0 (Nat.le_of_ble_eq_true rfl)) rfl (Nat.le_of_ble_eq_true rfl) rfl rfl w_X9_count_1 11 (Nat.le_of_ble_eq_true rfl) rfl w_X9_count_3 (.int (d1 o0 11)) rfl 154 rfl dX9_count_151 ?_
    exact r_ireturn rfl rfl (Nat.le_of_ble_eq_true rfl) (Nat.le_of_ble_eq_true rfl) dX9_count_154
  refine r_tswD (lo := 0) (hi := 9) 155 10 rfl (fun j hj => match j, hj with | 0, _ => hs0 | 1, _ => hs1 | 2, _ => hs2 | 3, _ => hs3 | 4, _ => hs4 | 5, _ => hs5 | 6, _ => hs6 | 7, _ => hs7 | 8, _ => hs8 | 9, _ => hs9) rfl dX9_count_6 ?_
  refine r_iconst (-1) rfl 156 rfl dX9_count_155 ?_
  exact r_ireturn rfl rfl (Nat.le_of_ble_eq_true rfl) (Nat.le_of_ble_eq_true rfl) dX9_count_156
def Y_X9_allOf : z_Y := (RX9, cX9_allOf, 5, wsX9_allOf, (some .int), { frames := 1, cells := 0, slots := 0, locals := 22 }, 0, 0)
theorem ok_X9_allOf : z_Ok yX9_allOf Y_X9_allOf 2 := ⟨⟨_, rfl⟩, rfl, rfl, rfl, by decide +kernel, by decide +kernel⟩
theorem w_X9_allOf_0 : Cond.fieldLink RX9 7 "BunchTimesModel" "row" "[I" ∈ wsX9_allOf := by decide +kernel
theorem w_X9_allOf_1 : ∀ w ∈ u_ws RX9 TX9 18, w ∈ wsX9_allOf := by decide +kernel
def f_X9_allOf_L5_b (d : z_D) (o0 : Nat) (x1 : Int32) (x2 : Int32) (K : Int32 → Option Int32) (R : Int32 → Int32 → Option Int32) (x3 : Int32) (x4 : Int32) : Option Int32 := ((f_X9_closedMany d o0).bind fun v1 => (if v1 ≤ x4 then (K x3) else ((f_X9_at_ x4 x1 x2).bind fun v2 => z_ald d (o0 + 1) 2656 v2 (fun v3 => z_nam (x3 + v3) (fun v4 => (R v4 (x4 + 1)))))))
def f_X9_allOf_L5 (d : z_D) (o0 : Nat) (x1 : Int32) (x2 : Int32) (K : Int32 → Option Int32) : Nat → Int32 → Int32 → Option Int32
  | 0 => fun _ _ => none
  | n + 1 => f_X9_allOf_L5_b d o0 x1 x2 K (f_X9_allOf_L5 d o0 x1 x2 K n)
set_option maxHeartbeats 4000000 in
set_option maxRecDepth 100000 in
theorem g_X9_allOf_L5 {E : z_E} {l : Launch} {S : z_S} {d : z_D} {o0 : Nat} {x1 : Int32} {x2 : Int32} {K : Int32 → Option Int32} (h0 : A_Model S o0) (hK : ∀ (y3 : Int32), z_G E l Y_X9_allOf (cvI S d) (K y3) 35 [(3, .int y3)] [] (S, d) 0 0) : ∀ (n : Nat) (x3 : Int32) (x4 : Int32), z_G E l Y_X9_allOf (cvI S d) (f_X9_allOf_L5 d o0 x1 x2 K n x3 x4) 5 [(0, .ref (E.2.1 + o0)), (1, .int x1), (2, .int x2), (3, .int x3), (4, .int x4)] [] (S, d) 0 0 := by
  intro n
  induction n with
  | zero => intro _ _; exact r_none
  | succ n ih =>
    intro x3 x4
    show z_G E l Y_X9_allOf (cvI S d) (f_X9_allOf_L5_b d o0 x1 x2 K (f_X9_allOf_L5 d o0 x1 x2 K n) x3 x4) 5 [(0, .ref (E.2.1 + o0)), (1, .int x1), (2, .int x2), (3, .int x3), (4, .int x4)] [] (S, d) 0 0
    unfold f_X9_allOf_L5_b
    refine r_iload 4 4 rfl 7 rfl dX9_allOf_5 ?_
    refine r_aload_n 0 0 rfl rfl 8 rfl dX9_allOf_7 ?_
    refine r_callV_I (c_X9_closedMany (E := E) (l := l) (S := S) d o0 h0) ok_X9_closedMany ⟨⟨(Nat.le_of_ble_eq_true rfl), (Nat.le_of_ble_eq_true rfl)⟩, (Nat.le_of_ble_eq_true rfl), (Nat.le_of_ble_eq_true rfl)⟩ (h0 0 (Nat.le_of_ble_eq_true rfl)) (Nat.le_of_ble_eq_true rfl) rfl rfl rfl (Nat.le_of_ble_eq_true rfl) gX9_allOf_X9_closedMany rfl rfl 11 rfl dX9_allOf_8 (fun v1 => ?_)
    refine r_icmp_ge 35 14 rfl rfl dX9_allOf_11 ?_ ?_
    · refine r_sub [3] rfl ?_
      exact hK x3
    · refine r_iload_n 3 3 rfl rfl 15 rfl dX9_allOf_14 ?_
      refine r_aload_n 0 0 rfl rfl 16 rfl dX9_allOf_15 ?_
      refine r_get (h0 0 (Nat.le_of_ble_eq_true rfl)) rfl (Nat.le_of_ble_eq_true rfl) rfl rfl w_X9_allOf_1 1 (Nat.le_of_ble_eq_true rfl) rfl w_X9_allOf_0 (.ref (E.2.1 + (o0 + 1))) rfl 19 rfl dX9_allOf_16 ?_
      refine r_iload 4 4 rfl 21 rfl dX9_allOf_19 ?_
      refine r_iload_n 1 1 rfl rfl 22 rfl dX9_allOf_21 ?_
      refine r_iload_n 2 2 rfl rfl 23 rfl dX9_allOf_22 ?_
      refine r_callS_I (c_X9_at_ (E := E) (l := l) (S := S) d x4 x1 x2) ok_X9_at_ ⟨⟨(Nat.le_of_ble_eq_true rfl), (Nat.le_of_ble_eq_true rfl)⟩, (Nat.le_of_ble_eq_true rfl), (Nat.le_of_ble_eq_true rfl)⟩ rfl (Nat.le_of_ble_eq_true rfl) gX9_allOf_X9_at_ rfl rfl 26 rfl dX9_allOf_23 (fun v2 => ?_)
      refine r_iald (h0 1 (Nat.le_of_ble_eq_true rfl)) rfl rfl 27 rfl dX9_allOf_26 (fun v3 => ?_)
      refine r_iadd 28 rfl dX9_allOf_27 ?_
      refine r_nami (fun v4 => ?_)
      refine r_istore_n 3 rfl [(3, .int v4), (0, .ref (E.2.1 + o0)), (1, .int x1), (2, .int x2), (4, .int x4)] (Nat.le_of_ble_eq_true rfl) rfl 29 rfl dX9_allOf_28 ?_
      refine r_iinc (x4 + 1) 4 rfl rfl [(4, .int (x4 + 1)), (3, .int v4), (0, .ref (E.2.1 + o0)), (1, .int x1), (2, .int x2)] (Nat.le_of_ble_eq_true rfl) rfl 32 rfl dX9_allOf_29 ?_
      refine r_goto 5 rfl dX9_allOf_32 ?_
      refine r_sub [2, 3, 4, 1, 0] rfl ?_
      exact ih v4 (x4 + 1)
def f_X9_allOf (d : z_D) (o0 : Nat) (x1 : Int32) (x2 : Int32) : Option Int32 := (f_X9_allOf_L5 d o0 x1 x2 (fun v5 => (some v5)) z_N 0 0)
set_option maxHeartbeats 4000000 in
set_option maxRecDepth 100000 in
theorem c_X9_allOf {E : z_E} {l : Launch} {S : z_S} (d : z_D) (o0 : Nat) (h0 : A_Model S o0) (x1 : Int32) (x2 : Int32) : z_Sp E l yX9_allOf Y_X9_allOf (cvI S d) [.ref (E.2.1 + o0), .int x1, .int x2] (S, d) (f_X9_allOf d o0 x1 x2) := by
  refine z_entry (lv := [(0, .ref (E.2.1 + o0)), (1, .int x1), (2, .int x2)]) (by decide) rfl rfl (Nat.le_of_ble_eq_true rfl) rfl ?_
  unfold f_X9_allOf
  refine r_iconst 0 rfl 1 rfl dX9_allOf_0 ?_
  refine r_istore_n 3 rfl [(3, .int 0), (0, .ref (E.2.1 + o0)), (1, .int x1), (2, .int x2)] (Nat.le_of_ble_eq_true rfl) rfl 2 rfl dX9_allOf_1 ?_
  refine r_iconst 0 rfl 3 rfl dX9_allOf_2 ?_
  refine r_istore 4 [(4, .int 0), (3, .int 0), (0, .ref (E.2.1 + o0)), (1, .int x1), (2, .int x2)] (Nat.le_of_ble_eq_true rfl) rfl 5 rfl dX9_allOf_3 ?_
  refine r_sub [2, 3, 4, 1, 0] rfl ?_
  refine g_X9_allOf_L5 h0 (fun v5 => ?_) z_N 0 0
  refine r_iload_n 3 0 rfl rfl 36 rfl dX9_allOf_35 ?_
  exact r_ireturn rfl rfl (Nat.le_of_ble_eq_true rfl) (Nat.le_of_ble_eq_true rfl) dX9_allOf_36
def Y_X9_of : z_Y := (RX9, cX9_of, 3, wsX9_of, (some .int), { frames := 2, cells := 0, slots := 0, locals := 46 }, 0, 0)
theorem ok_X9_of : z_Ok yX9_of Y_X9_of 2 := ⟨⟨_, rfl⟩, rfl, rfl, rfl, by decide +kernel, by decide +kernel⟩
theorem w_X9_of_0 : Cond.fieldLink RX9 39 "BunchTimesModel" "thrown" "I" ∈ wsX9_of := by decide +kernel
theorem w_X9_of_1 : ∀ w ∈ u_ws RX9 TX9 18, w ∈ wsX9_of := by decide +kernel
theorem w_X9_of_2 : Cond.fieldLink RX9 7 "BunchTimesModel" "row" "[I" ∈ wsX9_of := by decide +kernel
def f_X9_of (d : z_D) (o0 : Nat) (x1 : Int32) (x2 : Int32) : Option (Int32 × z_D) := ((f_X9_isRider d o0 x1).bind fun v1 => z_let (fun x_24 : Int32 => z_put d o0 0 x_24 (fun d2 => (if (d2 o0 0) = 1 then (some (0, d2)) else z_let (fun x_76 : Unit => z_ald d2 (o0 + 1) 2656 ((8 + (3 * x1)) + x2) (fun v3 => (some (v3, d2)))) (fun J76 => (if x2 = 0 then (J76 ()) else (if x2 = 1 then (J76 ()) else (if x2 = 2 then (J76 ()) else (if x2 = 3 then ((f_X9_allOf d2 o0 x1 10).bind fun v4 => (some (v4, d2))) else (if x2 = 4 then ((f_X9_allOf d2 o0 x1 11).bind fun v5 => (some (v5, d2))) else (if x2 = 5 then ((f_X9_allOf d2 o0 x1 9).bind fun v6 => (some (v6, d2))) else ((f_X9_allOf d2 o0 x1 3).bind fun v7 => (some (v7, d2))))))))))))) (fun J24 => z_let (fun x_23 : Unit => (J24 1)) (fun J23 => (if v1 = 0 then (J23 ()) else ((f_X9_isIn x2 0 6).bind fun v8 => (if v8 = 0 then (J23 ()) else (J24 0)))))))
set_option maxHeartbeats 4000000 in
set_option maxRecDepth 100000 in
theorem c_X9_of {E : z_E} {l : Launch} {S : z_S} (d : z_D) (o0 : Nat) (h0 : A_Model S o0) (x1 : Int32) (x2 : Int32) : z_Sp E l yX9_of Y_X9_of (cvX S) [.ref (E.2.1 + o0), .int x1, .int x2] (S, d) (f_X9_of d o0 x1 x2) := by
  refine z_entry (lv := [(0, .ref (E.2.1 + o0)), (1, .int x1), (2, .int x2)]) (by decide) rfl rfl (Nat.le_of_ble_eq_true rfl) rfl ?_
  unfold f_X9_of
  refine r_aload_n 0 0 rfl rfl 1 rfl dX9_of_0 ?_
  refine r_aload_n 0 0 rfl rfl 2 rfl dX9_of_1 ?_
  refine r_iload_n 1 1 rfl rfl 3 rfl dX9_of_2 ?_
  refine r_callV_I (c_X9_isRider (E := E) (l := l) (S := S) d o0 h0 x1) ok_X9_isRider ⟨⟨(Nat.le_of_ble_eq_true rfl), (Nat.le_of_ble_eq_true rfl)⟩, (Nat.le_of_ble_eq_true rfl), (Nat.le_of_ble_eq_true rfl)⟩ (h0 0 (Nat.le_of_ble_eq_true rfl)) (Nat.le_of_ble_eq_true rfl) rfl rfl rfl (Nat.le_of_ble_eq_true rfl) gX9_of_X9_isRider rfl rfl 6 rfl dX9_of_3 (fun v1 => ?_)
  refine r_let 24 (f := fun x_24 : Int32 => [(0, .ref (E.2.1 + o0)), (1, .int x1), (2, .int x2)]) (g := fun x_24 : Int32 => [.int x_24, .ref (E.2.1 + o0)]) (ww := fun x_24 : Int32 => (S, d)) (fun x_24 => ?_) (fun J24 hJ24 => ?_)
  · refine r_put (h0 0 (Nat.le_of_ble_eq_true rfl)) rfl (Nat.le_of_ble_eq_true rfl) rfl rfl w_X9_of_1 tyX9 tyX9_ok nmX9 (Nat.le_of_ble_eq_true rfl) rfl w_X9_of_0 rfl rfl rfl rfl rfl 27 rfl dX9_of_24 (fun d2 => ?_)
    refine r_aload_n 0 0 rfl rfl 28 rfl dX9_of_27 ?_
    refine r_get (h0 0 (Nat.le_of_ble_eq_true rfl)) rfl (Nat.le_of_ble_eq_true rfl) rfl rfl w_X9_of_1 0 (Nat.le_of_ble_eq_true rfl) rfl w_X9_of_0 (.int (d2 o0 0)) rfl 31 rfl dX9_of_28 ?_
    refine r_iconst 1 rfl 32 rfl dX9_of_31 ?_
    refine r_icmp_ne 37 35 rfl rfl dX9_of_32 ?_ ?_
    · refine r_iload_n 2 2 rfl rfl 38 rfl dX9_of_37 ?_
      refine r_let 76 (f := fun x_76 : Unit => [(0, .ref (E.2.1 + o0)), (1, .int x1), (2, .int x2)]) (g := fun x_76 : Unit => []) (ww := fun x_76 : Unit => (S, d2)) (fun x_76 => ?_) (fun J76 hJ76 => ?_)
      · refine r_aload_n 0 0 rfl rfl 77 rfl dX9_of_76 ?_
        refine r_get (h0 0 (Nat.le_of_ble_eq_true rfl)) rfl (Nat.le_of_ble_eq_true rfl) rfl rfl w_X9_of_1 1 (Nat.le_of_ble_eq_true rfl) rfl w_X9_of_2 (.ref (E.2.1 + (o0 + 1))) rfl 80 rfl dX9_of_77 ?_
        refine r_bipush 8 rfl 82 rfl dX9_of_80 ?_
        refine r_iconst 3 rfl 83 rfl dX9_of_82 ?_
        refine r_iload_n 1 1 rfl rfl 84 rfl dX9_of_83 ?_
        refine r_imul 85 rfl dX9_of_84 ?_
        refine r_iadd 86 rfl dX9_of_85 ?_
        refine r_iload_n 2 2 rfl rfl 87 rfl dX9_of_86 ?_
        refine r_iadd 88 rfl dX9_of_87 ?_
        refine r_iald (h0 1 (Nat.le_of_ble_eq_true rfl)) rfl rfl 89 rfl dX9_of_88 (fun v3 => ?_)
        exact r_ireturn rfl rfl (Nat.le_of_ble_eq_true rfl) (Nat.le_of_ble_eq_true rfl) dX9_of_89
      refine r_tsw 76 rfl rfl rfl rfl dX9_of_38 ?_ (fun hs0 => ?_)
      · refine r_sub [0, 1, 2] rfl ?_
        exact hJ76 ()
      refine r_tsw 76 rfl rfl rfl rfl dX9_of_38 ?_ (fun hs1 => ?_)
      · refine r_sub [0, 1, 2] rfl ?_
        exact hJ76 ()
      refine r_tsw 76 rfl rfl rfl rfl dX9_of_38 ?_ (fun hs2 => ?_)
      · refine r_sub [0, 1, 2] rfl ?_
        exact hJ76 ()
      refine r_tsw 90 rfl rfl rfl rfl dX9_of_38 ?_ (fun hs3 => ?_)
      · refine r_aload_n 0 0 rfl rfl 91 rfl dX9_of_90 ?_
        refine r_iload_n 1 1 rfl rfl 92 rfl dX9_of_91 ?_
        refine r_bipush 10 rfl 94 rfl dX9_of_92 ?_
        refine r_callV_I (c_X9_allOf (E := E) (l := l) (S := S) d2 o0 h0 x1 10) ok_X9_allOf ⟨⟨(Nat.le_of_ble_eq_true rfl), (Nat.le_of_ble_eq_true rfl)⟩, (Nat.le_of_ble_eq_true rfl), (Nat.le_of_ble_eq_true rfl)⟩ (h0 0 (Nat.le_of_ble_eq_true rfl)) (Nat.le_of_ble_eq_true rfl) rfl rfl rfl (Nat.le_of_ble_eq_true rfl) gX9_of_X9_allOf rfl rfl 97 rfl dX9_of_94 (fun v4 => ?_)
        exact r_ireturn rfl rfl (Nat.le_of_ble_eq_true rfl) (Nat.le_of_ble_eq_true rfl) dX9_of_97
      refine r_tsw 98 rfl rfl rfl rfl dX9_of_38 ?_ (fun hs4 => ?_)
      · refine r_aload_n 0 0 rfl rfl 99 rfl dX9_of_98 ?_
        refine r_iload_n 1 1 rfl rfl 100 rfl dX9_of_99 ?_
        refine r_bipush 11 rfl 102 rfl dX9_of_100 ?_
        refine r_callV_I (c_X9_allOf (E := E) (l := l) (S := S) d2 o0 h0 x1 11) ok_X9_allOf ⟨⟨(Nat.le_of_ble_eq_true rfl), (Nat.le_of_ble_eq_true rfl)⟩, (Nat.le_of_ble_eq_true rfl), (Nat.le_of_ble_eq_true rfl)⟩ (h0 0 (Nat.le_of_ble_eq_true rfl)) (Nat.le_of_ble_eq_true rfl) rfl rfl rfl (Nat.le_of_ble_eq_true rfl) gX9_of_X9_allOf rfl rfl 105 rfl dX9_of_102 (fun v5 => ?_)
        exact r_ireturn rfl rfl (Nat.le_of_ble_eq_true rfl) (Nat.le_of_ble_eq_true rfl) dX9_of_105
      refine r_tsw 106 rfl rfl rfl rfl dX9_of_38 ?_ (fun hs5 => ?_)
      · refine r_aload_n 0 0 rfl rfl 107 rfl dX9_of_106 ?_
        refine r_iload_n 1 1 rfl rfl 108 rfl dX9_of_107 ?_
        refine r_bipush 9 rfl 110 rfl dX9_of_108 ?_
        refine r_callV_I (c_X9_allOf (E := E) (l := l) (S := S) d2 o0 h0 x1 9) ok_X9_allOf ⟨⟨(Nat.le_of_ble_eq_true rfl), (Nat.le_of_ble_eq_true rfl)⟩, (Nat.le_of_ble_eq_true rfl), (Nat.le_of_ble_eq_true rfl)⟩ (h0 0 (Nat.le_of_ble_eq_true rfl)) (Nat.le_of_ble_eq_true rfl) rfl rfl rfl (Nat.le_of_ble_eq_true rfl) gX9_of_X9_allOf rfl rfl 113 rfl dX9_of_110 (fun v6 => ?_)
        exact r_ireturn rfl rfl (Nat.le_of_ble_eq_true rfl) (Nat.le_of_ble_eq_true rfl) dX9_of_113
      refine r_tswD (lo := 0) (hi := 5) 114 6 rfl (fun j hj => match j, hj with | 0, _ => hs0 | 1, _ => hs1 | 2, _ => hs2 | 3, _ => hs3 | 4, _ => hs4 | 5, _ => hs5) rfl dX9_of_38 ?_
      refine r_aload_n 0 0 rfl rfl 115 rfl dX9_of_114 ?_
      refine r_iload_n 1 1 rfl rfl 116 rfl dX9_of_115 ?_
      refine r_iconst 3 rfl 117 rfl dX9_of_116 ?_
      refine r_callV_I (c_X9_allOf (E := E) (l := l) (S := S) d2 o0 h0 x1 3) ok_X9_allOf ⟨⟨(Nat.le_of_ble_eq_true rfl), (Nat.le_of_ble_eq_true rfl)⟩, (Nat.le_of_ble_eq_true rfl), (Nat.le_of_ble_eq_true rfl)⟩ (h0 0 (Nat.le_of_ble_eq_true rfl)) (Nat.le_of_ble_eq_true rfl) rfl rfl rfl (Nat.le_of_ble_eq_true rfl) gX9_of_X9_allOf rfl rfl 120 rfl dX9_of_117 (fun v7 => ?_)
      exact r_ireturn rfl rfl (Nat.le_of_ble_eq_true rfl) (Nat.le_of_ble_eq_true rfl) dX9_of_120
    · refine r_iconst 0 rfl 36 rfl dX9_of_35 ?_
      exact r_ireturn rfl rfl (Nat.le_of_ble_eq_true rfl) (Nat.le_of_ble_eq_true rfl) dX9_of_36
  refine r_let 23 (f := fun x_23 : Unit => [(0, .ref (E.2.1 + o0)), (1, .int x1), (2, .int x2)]) (g := fun x_23 : Unit => [.ref (E.2.1 + o0)]) (ww := fun x_23 : Unit => (S, d)) (fun x_23 => ?_) (fun J23 hJ23 => ?_)
  · refine r_iconst 1 rfl 24 rfl dX9_of_23 ?_
    refine r_sub [0, 1, 2] rfl ?_
    exact hJ24 1
  refine r_if_eq 23 9 rfl rfl dX9_of_6 ?_ ?_
  · refine r_sub [0, 1, 2] rfl ?_
    exact hJ23 ()
  · refine r_iload_n 2 2 rfl rfl 10 rfl dX9_of_9 ?_
    refine r_iconst 0 rfl 11 rfl dX9_of_10 ?_
    refine r_bipush 6 rfl 13 rfl dX9_of_11 ?_
    refine r_callS_I (c_X9_isIn (E := E) (l := l) (S := S) d x2 0 6) ok_X9_isIn ⟨⟨(Nat.le_of_ble_eq_true rfl), (Nat.le_of_ble_eq_true rfl)⟩, (Nat.le_of_ble_eq_true rfl), (Nat.le_of_ble_eq_true rfl)⟩ rfl (Nat.le_of_ble_eq_true rfl) gX9_of_X9_isIn rfl rfl 16 rfl dX9_of_13 (fun v8 => ?_)
    refine r_if_eq 23 19 rfl rfl dX9_of_16 ?_ ?_
    · refine r_sub [0, 1, 2] rfl ?_
      exact hJ23 ()
    · refine r_iconst 0 rfl 20 rfl dX9_of_19 ?_
      refine r_goto 24 rfl dX9_of_20 ?_
      refine r_sub [0, 1, 2] rfl ?_
      exact hJ24 0
def Y_X9_isClosed : z_Y := (RX9, cX9_isClosed, 2, wsX9_isClosed, (some .boolean), { frames := 1, cells := 0, slots := 0, locals := 22 }, 0, 0)
theorem ok_X9_isClosed : z_Ok yX9_isClosed Y_X9_isClosed 1 := ⟨⟨_, rfl⟩, rfl, rfl, rfl, by decide +kernel, by decide +kernel⟩
def f_X9_isClosed (d : z_D) (o0 : Nat) (x1 : Int32) : Option Int32 := ((f_X9_closedMany d o0).bind fun v1 => ((f_X9_isIn x1 0 (v1 - 1)).bind fun v2 => (z_bool v2 (some v2))))
set_option maxHeartbeats 4000000 in
set_option maxRecDepth 100000 in
theorem c_X9_isClosed {E : z_E} {l : Launch} {S : z_S} (d : z_D) (o0 : Nat) (h0 : A_Model S o0) (x1 : Int32) : z_Sp E l yX9_isClosed Y_X9_isClosed (cvI S d) [.ref (E.2.1 + o0), .int x1] (S, d) (f_X9_isClosed d o0 x1) := by
  refine z_entry (lv := [(0, .ref (E.2.1 + o0)), (1, .int x1)]) (by decide) rfl rfl (Nat.le_of_ble_eq_true rfl) rfl ?_
  unfold f_X9_isClosed
  refine r_iload_n 1 1 rfl rfl 1 rfl dX9_isClosed_0 ?_
  refine r_iconst 0 rfl 2 rfl dX9_isClosed_1 ?_
  refine r_aload_n 0 0 rfl rfl 3 rfl dX9_isClosed_2 ?_
  refine r_callV_I (c_X9_closedMany (E := E) (l := l) (S := S) d o0 h0) ok_X9_closedMany ⟨⟨(Nat.le_of_ble_eq_true rfl), (Nat.le_of_ble_eq_true rfl)⟩, (Nat.le_of_ble_eq_true rfl), (Nat.le_of_ble_eq_true rfl)⟩ (h0 0 (Nat.le_of_ble_eq_true rfl)) (Nat.le_of_ble_eq_true rfl) rfl rfl rfl (Nat.le_of_ble_eq_true rfl) gX9_isClosed_X9_closedMany rfl rfl 6 rfl dX9_isClosed_3 (fun v1 => ?_)
  refine r_iconst 1 rfl 7 rfl dX9_isClosed_6 ?_
  refine r_isub 8 rfl dX9_isClosed_7 ?_
  refine r_callS_I (c_X9_isIn (E := E) (l := l) (S := S) d x1 0 (v1 - 1)) ok_X9_isIn ⟨⟨(Nat.le_of_ble_eq_true rfl), (Nat.le_of_ble_eq_true rfl)⟩, (Nat.le_of_ble_eq_true rfl), (Nat.le_of_ble_eq_true rfl)⟩ rfl (Nat.le_of_ble_eq_true rfl) gX9_isClosed_X9_isIn rfl rfl 11 rfl dX9_isClosed_8 (fun v2 => ?_)
  exact r_zreturn rfl rfl (Nat.le_of_ble_eq_true rfl) (Nat.le_of_ble_eq_true rfl) dX9_isClosed_11
def Y_X9_lesser : z_Y := (RX9, cX9_lesser, 6, wsX9_lesser, (some .int), { frames := 1, cells := 0, slots := 0, locals := 22 }, 0, 0)
theorem ok_X9_lesser : z_Ok yX9_lesser Y_X9_lesser 2 := ⟨⟨_, rfl⟩, rfl, rfl, rfl, by decide +kernel, by decide +kernel⟩
theorem w_X9_lesser_0 : Cond.fieldLink RX9 7 "BunchTimesModel" "row" "[I" ∈ wsX9_lesser := by decide +kernel
theorem w_X9_lesser_1 : ∀ w ∈ u_ws RX9 TX9 18, w ∈ wsX9_lesser := by decide +kernel
def f_X9_lesser_L5_b (d : z_D) (o0 : Nat) (x1 : Int32) (x2 : Int32) (K : Int32 → Option Int32) (R : Int32 → Int32 → Option Int32) (x3 : Int32) (x4 : Int32) : Option Int32 := z_ald d (o0 + 1) 2656 1 (fun v1 => (if v1 ≤ x4 then (K x3) else ((f_X9_at_ x1 x4 5).bind fun v2 => z_ald d (o0 + 1) 2656 v2 (fun v3 => ((f_X9_at_ x1 x4 6).bind fun v4 => z_ald d (o0 + 1) 2656 v4 (fun v5 => z_nam (v3 - v5) (fun v6 => (if x2 = 0 then (if v6 ≤ 0 then z_nam (x3 + 0) (fun v7 => (R v7 (x4 + 1))) else z_nam (x3 + 1) (fun v8 => (R v8 (x4 + 1)))) else z_nam (x3 + v6) (fun v9 => (R v9 (x4 + 1)))))))))))
def f_X9_lesser_L5 (d : z_D) (o0 : Nat) (x1 : Int32) (x2 : Int32) (K : Int32 → Option Int32) : Nat → Int32 → Int32 → Option Int32
  | 0 => fun _ _ => none
  | n + 1 => f_X9_lesser_L5_b d o0 x1 x2 K (f_X9_lesser_L5 d o0 x1 x2 K n)
set_option maxHeartbeats 4000000 in
set_option maxRecDepth 100000 in
theorem g_X9_lesser_L5 {E : z_E} {l : Launch} {S : z_S} {d : z_D} {o0 : Nat} {x1 : Int32} {x2 : Int32} {K : Int32 → Option Int32} (h0 : A_Model S o0) (hK : ∀ (y3 : Int32), z_G E l Y_X9_lesser (cvI S d) (K y3) 72 [(3, .int y3)] [] (S, d) 0 0) : ∀ (n : Nat) (x3 : Int32) (x4 : Int32), z_G E l Y_X9_lesser (cvI S d) (f_X9_lesser_L5 d o0 x1 x2 K n x3 x4) 5 [(0, .ref (E.2.1 + o0)), (1, .int x1), (2, .int x2), (3, .int x3), (4, .int x4)] [] (S, d) 0 0 := by
  intro n
  induction n with
  | zero => intro _ _; exact r_none
  | succ n ih =>
    intro x3 x4
    show z_G E l Y_X9_lesser (cvI S d) (f_X9_lesser_L5_b d o0 x1 x2 K (f_X9_lesser_L5 d o0 x1 x2 K n) x3 x4) 5 [(0, .ref (E.2.1 + o0)), (1, .int x1), (2, .int x2), (3, .int x3), (4, .int x4)] [] (S, d) 0 0
    unfold f_X9_lesser_L5_b
    refine r_iload 4 4 rfl 7 rfl dX9_lesser_5 ?_
    refine r_aload_n 0 0 rfl rfl 8 rfl dX9_lesser_7 ?_
    refine r_get (h0 0 (Nat.le_of_ble_eq_true rfl)) rfl (Nat.le_of_ble_eq_true rfl) rfl rfl w_X9_lesser_1 1 (Nat.le_of_ble_eq_true rfl) rfl w_X9_lesser_0 (.ref (E.2.1 + (o0 + 1))) rfl 11 rfl dX9_lesser_8 ?_
    refine r_iconst 1 rfl 12 rfl dX9_lesser_11 ?_
    refine r_iald (h0 1 (Nat.le_of_ble_eq_true rfl)) rfl rfl 13 rfl dX9_lesser_12 (fun v1 => ?_)
    refine r_icmp_ge 72 16 rfl rfl dX9_lesser_13 ?_ ?_
    · refine r_sub [3] rfl ?_
      exact hK x3
    · refine r_aload_n 0 0 rfl rfl 17 rfl dX9_lesser_16 ?_
      refine r_get (h0 0 (Nat.le_of_ble_eq_true rfl)) rfl (Nat.le_of_ble_eq_true rfl) rfl rfl w_X9_lesser_1 1 (Nat.le_of_ble_eq_true rfl) rfl w_X9_lesser_0 (.ref (E.2.1 + (o0 + 1))) rfl 20 rfl dX9_lesser_17 ?_
      refine r_iload_n 1 1 rfl rfl 21 rfl dX9_lesser_20 ?_
      refine r_iload 4 4 rfl 23 rfl dX9_lesser_21 ?_
      refine r_iconst 5 rfl 24 rfl dX9_lesser_23 ?_
      refine r_callS_I (c_X9_at_ (E := E) (l := l) (S := S) d x1 x4 5) ok_X9_at_ ⟨⟨(Nat.le_of_ble_eq_true rfl), (Nat.le_of_ble_eq_true rfl)⟩, (Nat.le_of_ble_eq_true rfl), (Nat.le_of_ble_eq_true rfl)⟩ rfl (Nat.le_of_ble_eq_true rfl) gX9_lesser_X9_at_ rfl rfl 27 rfl dX9_lesser_24 (fun v2 => ?_)
      refine r_iald (h0 1 (Nat.le_of_ble_eq_true rfl)) rfl rfl 28 rfl dX9_lesser_27 (fun v3 => ?_)
      refine r_aload_n 0 0 rfl rfl 29 rfl dX9_lesser_28 ?_
      refine r_get (h0 0 (Nat.le_of_ble_eq_true rfl)) rfl (Nat.le_of_ble_eq_true rfl) rfl rfl w_X9_lesser_1 1 (Nat.le_of_ble_eq_true rfl) rfl w_X9_lesser_0 (.ref (E.2.1 + (o0 + 1))) rfl 32 rfl dX9_lesser_29 ?_
      refine r_iload_n 1 1 rfl rfl 33 rfl dX9_lesser_32 ?_
      refine r_iload 4 4 rfl 35 rfl dX9_lesser_33 ?_
      refine r_bipush 6 rfl 37 rfl dX9_lesser_35 ?_
      refine r_callS_I (c_X9_at_ (E := E) (l := l) (S := S) d x1 x4 6) ok_X9_at_ ⟨⟨(Nat.le_of_ble_eq_true rfl), (Nat.le_of_ble_eq_true rfl)⟩, (Nat.le_of_ble_eq_true rfl), (Nat.le_of_ble_eq_true rfl)⟩ rfl (Nat.le_of_ble_eq_true rfl) gX9_lesser_X9_at_ rfl rfl 40 rfl dX9_lesser_37 (fun v4 => ?_)
      refine r_iald (h0 1 (Nat.le_of_ble_eq_true rfl)) rfl rfl 41 rfl dX9_lesser_40 (fun v5 => ?_)
      refine r_isub 42 rfl dX9_lesser_41 ?_
      refine r_nami (fun v6 => ?_)
      refine r_istore 5 [(5, .int v6), (0, .ref (E.2.1 + o0)), (1, .int x1), (2, .int x2), (3, .int x3), (4, .int x4)] (Nat.le_of_ble_eq_true rfl) rfl 44 rfl dX9_lesser_42 ?_
      refine r_iload_n 3 4 rfl rfl 45 rfl dX9_lesser_44 ?_
      refine r_iload_n 2 3 rfl rfl 46 rfl dX9_lesser_45 ?_
      refine r_if_eq 54 49 rfl rfl dX9_lesser_46 ?_ ?_
      · refine r_iload 5 0 rfl 56 rfl dX9_lesser_54 ?_
        refine r_if_le 63 59 rfl rfl dX9_lesser_56 ?_ ?_
        · refine r_iconst 0 rfl 64 rfl dX9_lesser_63 ?_
          refine r_iadd 65 rfl dX9_lesser_64 ?_
          refine r_nami (fun v7 => ?_)
          refine r_istore_n 3 rfl [(3, .int v7), (5, .int v6), (0, .ref (E.2.1 + o0)), (1, .int x1), (2, .int x2), (4, .int x4)] (Nat.le_of_ble_eq_true rfl) rfl 66 rfl dX9_lesser_65 ?_
          refine r_iinc (x4 + 1) 5 rfl rfl [(4, .int (x4 + 1)), (3, .int v7), (5, .int v6), (0, .ref (E.2.1 + o0)), (1, .int x1), (2, .int x2)] (Nat.le_of_ble_eq_true rfl) rfl 69 rfl dX9_lesser_66 ?_
          refine r_goto 5 rfl dX9_lesser_69 ?_
          refine r_sub [3, 4, 5, 1, 0] rfl ?_
          exact ih v7 (x4 + 1)
        · refine r_iconst 1 rfl 60 rfl dX9_lesser_59 ?_
          refine r_goto 64 rfl dX9_lesser_60 ?_
          refine r_iadd 65 rfl dX9_lesser_64 ?_
          refine r_nami (fun v8 => ?_)
          refine r_istore_n 3 rfl [(3, .int v8), (5, .int v6), (0, .ref (E.2.1 + o0)), (1, .int x1), (2, .int x2), (4, .int x4)] (Nat.le_of_ble_eq_true rfl) rfl 66 rfl dX9_lesser_65 ?_
          refine r_iinc (x4 + 1) 5 rfl rfl [(4, .int (x4 + 1)), (3, .int v8), (5, .int v6), (0, .ref (E.2.1 + o0)), (1, .int x1), (2, .int x2)] (Nat.le_of_ble_eq_true rfl) rfl 69 rfl dX9_lesser_66 ?_
          refine r_goto 5 rfl dX9_lesser_69 ?_
          refine r_sub [3, 4, 5, 1, 0] rfl ?_
          exact ih v8 (x4 + 1)
      · refine r_iload 5 0 rfl 51 rfl dX9_lesser_49 ?_
        refine r_goto 64 rfl dX9_lesser_51 ?_
        refine r_iadd 65 rfl dX9_lesser_64 ?_
        refine r_nami (fun v9 => ?_)
        refine r_istore_n 3 rfl [(3, .int v9), (5, .int v6), (0, .ref (E.2.1 + o0)), (1, .int x1), (2, .int x2), (4, .int x4)] (Nat.le_of_ble_eq_true rfl) rfl 66 rfl dX9_lesser_65 ?_
        refine r_iinc (x4 + 1) 5 rfl rfl [(4, .int (x4 + 1)), (3, .int v9), (5, .int v6), (0, .ref (E.2.1 + o0)), (1, .int x1), (2, .int x2)] (Nat.le_of_ble_eq_true rfl) rfl 69 rfl dX9_lesser_66 ?_
        refine r_goto 5 rfl dX9_lesser_69 ?_
        refine r_sub [3, 4, 5, 1, 0] rfl ?_
        exact ih v9 (x4 + 1)
def f_X9_lesser (d : z_D) (o0 : Nat) (x1 : Int32) (x2 : Int32) : Option Int32 := (f_X9_lesser_L5 d o0 x1 x2 (fun v10 => (some v10)) z_N 0 0)
set_option maxHeartbeats 4000000 in
set_option maxRecDepth 100000 in
theorem c_X9_lesser {E : z_E} {l : Launch} {S : z_S} (d : z_D) (o0 : Nat) (h0 : A_Model S o0) (x1 : Int32) (x2 : Int32) : z_Sp E l yX9_lesser Y_X9_lesser (cvI S d) [.ref (E.2.1 + o0), .int x1, .int x2] (S, d) (f_X9_lesser d o0 x1 x2) := by
  refine z_entry (lv := [(0, .ref (E.2.1 + o0)), (1, .int x1), (2, .int x2)]) (by decide) rfl rfl (Nat.le_of_ble_eq_true rfl) rfl ?_
  unfold f_X9_lesser
  refine r_iconst 0 rfl 1 rfl dX9_lesser_0 ?_
  refine r_istore_n 3 rfl [(3, .int 0), (0, .ref (E.2.1 + o0)), (1, .int x1), (2, .int x2)] (Nat.le_of_ble_eq_true rfl) rfl 2 rfl dX9_lesser_1 ?_
  refine r_iconst 0 rfl 3 rfl dX9_lesser_2 ?_
  refine r_istore 4 [(4, .int 0), (3, .int 0), (0, .ref (E.2.1 + o0)), (1, .int x1), (2, .int x2)] (Nat.le_of_ble_eq_true rfl) rfl 5 rfl dX9_lesser_3 ?_
  refine r_sub [2, 3, 4, 1, 0] rfl ?_
  refine g_X9_lesser_L5 h0 (fun v10 => ?_) z_N 0 0
  refine r_iload_n 3 0 rfl rfl 73 rfl dX9_lesser_72 ?_
  exact r_ireturn rfl rfl (Nat.le_of_ble_eq_true rfl) (Nat.le_of_ble_eq_true rfl) dX9_lesser_73
def Y_X9_told : z_Y := (RX9, cX9_told, 3, wsX9_told, (some .int), { frames := 2, cells := 0, slots := 0, locals := 47 }, 0, 0)
theorem ok_X9_told : z_Ok yX9_told Y_X9_told 2 := ⟨⟨_, rfl⟩, rfl, rfl, rfl, by decide +kernel, by decide +kernel⟩
theorem w_X9_told_0 : Cond.fieldLink RX9 39 "BunchTimesModel" "thrown" "I" ∈ wsX9_told := by decide +kernel
theorem w_X9_told_1 : ∀ w ∈ u_ws RX9 TX9 18, w ∈ wsX9_told := by decide +kernel
theorem w_X9_told_2 : Cond.fieldLink RX9 7 "BunchTimesModel" "row" "[I" ∈ wsX9_told := by decide +kernel
def f_X9_told (d : z_D) (o0 : Nat) (x1 : Int32) (x2 : Int32) : Option (Int32 × z_D) := z_put d o0 0 0 (fun d1 => ((f_X9_isClosed d1 o0 x1).bind fun v2 => (if v2 = 0 then (some ((-1), d1)) else (if x2 = 0 then ((f_X9_at x1 0).bind fun v3 => z_ald d1 (o0 + 1) 2656 v3 (fun v4 => (some (v4, d1)))) else (if x2 = 1 then ((f_X9_at x1 1).bind fun v5 => z_ald d1 (o0 + 1) 2656 v5 (fun v6 => (some (v6, d1)))) else (if x2 = 2 then ((f_X9_at x1 5).bind fun v7 => z_ald d1 (o0 + 1) 2656 v7 (fun v8 => (some (v8, d1)))) else (if x2 = 3 then ((f_X9_at x1 6).bind fun v9 => z_ald d1 (o0 + 1) 2656 v9 (fun v10 => (some (v10, d1)))) else (if x2 = 4 then ((f_X9_at x1 7).bind fun v11 => z_ald d1 (o0 + 1) 2656 v11 (fun v12 => (some (v12, d1)))) else (if x2 = 5 then ((f_X9_at x1 8).bind fun v13 => z_ald d1 (o0 + 1) 2656 v13 (fun v14 => (some (v14, d1)))) else (if x2 = 6 then ((f_X9_at x1 9).bind fun v15 => z_ald d1 (o0 + 1) 2656 v15 (fun v16 => (some (v16, d1)))) else (if x2 = 7 then ((f_X9_at x1 10).bind fun v17 => z_ald d1 (o0 + 1) 2656 v17 (fun v18 => (some (v18, d1)))) else (if x2 = 8 then ((f_X9_at x1 11).bind fun v19 => z_ald d1 (o0 + 1) 2656 v19 (fun v20 => (some (v20, d1)))) else (if x2 = 9 then ((f_X9_lesser d1 o0 x1 0).bind fun v21 => (some (v21, d1))) else (if x2 = 10 then ((f_X9_lesser d1 o0 x1 1).bind fun v22 => (some (v22, d1))) else (some ((-1), d1))))))))))))))))
set_option maxHeartbeats 4000000 in
set_option maxRecDepth 100000 in
theorem c_X9_told {E : z_E} {l : Launch} {S : z_S} (d : z_D) (o0 : Nat) (h0 : A_Model S o0) (x1 : Int32) (x2 : Int32) : z_Sp E l yX9_told Y_X9_told (cvX S) [.ref (E.2.1 + o0), .int x1, .int x2] (S, d) (f_X9_told d o0 x1 x2) := by
  refine z_entry (lv := [(0, .ref (E.2.1 + o0)), (1, .int x1), (2, .int x2)]) (by decide) rfl rfl (Nat.le_of_ble_eq_true rfl) rfl ?_
  unfold f_X9_told
  refine r_aload_n 0 0 rfl rfl 1 rfl dX9_told_0 ?_
  refine r_iconst 0 rfl 2 rfl dX9_told_1 ?_
  refine r_put (h0 0 (Nat.le_of_ble_eq_true rfl)) rfl (Nat.le_of_ble_eq_true rfl) rfl rfl w_X9_told_1 tyX9 tyX9_ok nmX9 (Nat.le_of_ble_eq_true rfl) rfl w_X9_told_0 rfl rfl rfl rfl rfl 5 rfl dX9_told_2 (fun d1 => ?_)
  refine r_aload_n 0 0 rfl rfl 6 rfl dX9_told_5 ?_
  refine r_iload_n 1 1 rfl rfl 7 rfl dX9_told_6 ?_
  refine r_callV_I (c_X9_isClosed (E := E) (l := l) (S := S) d1 o0 h0 x1) ok_X9_isClosed ⟨⟨(Nat.le_of_ble_eq_true rfl), (Nat.le_of_ble_eq_true rfl)⟩, (Nat.le_of_ble_eq_true rfl), (Nat.le_of_ble_eq_true rfl)⟩ (h0 0 (Nat.le_of_ble_eq_true rfl)) (Nat.le_of_ble_eq_true rfl) rfl rfl rfl (Nat.le_of_ble_eq_true rfl) gX9_told_X9_isClosed rfl rfl 10 rfl dX9_told_7 (fun v2 => ?_)
  refine r_if_ne 15 13 rfl rfl dX9_told_10 ?_ ?_
  · refine r_iload_n 2 2 rfl rfl 16 rfl dX9_told_15 ?_
    refine r_tsw 76 rfl rfl rfl rfl dX9_told_16 ?_ (fun hs0 => ?_)
    · refine r_aload_n 0 0 rfl rfl 77 rfl dX9_told_76 ?_
      refine r_get (h0 0 (Nat.le_of_ble_eq_true rfl)) rfl (Nat.le_of_ble_eq_true rfl) rfl rfl w_X9_told_1 1 (Nat.le_of_ble_eq_true rfl) rfl w_X9_told_2 (.ref (E.2.1 + (o0 + 1))) rfl 80 rfl dX9_told_77 ?_
      refine r_iload_n 1 1 rfl rfl 81 rfl dX9_told_80 ?_
      refine r_iconst 0 rfl 82 rfl dX9_told_81 ?_
      refine r_callS_I (c_X9_at (E := E) (l := l) (S := S) d1 x1 0) ok_X9_at ⟨⟨(Nat.le_of_ble_eq_true rfl), (Nat.le_of_ble_eq_true rfl)⟩, (Nat.le_of_ble_eq_true rfl), (Nat.le_of_ble_eq_true rfl)⟩ rfl (Nat.le_of_ble_eq_true rfl) gX9_told_X9_at rfl rfl 85 rfl dX9_told_82 (fun v3 => ?_)
      refine r_iald (h0 1 (Nat.le_of_ble_eq_true rfl)) rfl rfl 86 rfl dX9_told_85 (fun v4 => ?_)
      exact r_ireturn rfl rfl (Nat.le_of_ble_eq_true rfl) (Nat.le_of_ble_eq_true rfl) dX9_told_86
    refine r_tsw 87 rfl rfl rfl rfl dX9_told_16 ?_ (fun hs1 => ?_)
    · refine r_aload_n 0 0 rfl rfl 88 rfl dX9_told_87 ?_
      refine r_get (h0 0 (Nat.le_of_ble_eq_true rfl)) rfl (Nat.le_of_ble_eq_true rfl) rfl rfl w_X9_told_1 1 (Nat.le_of_ble_eq_true rfl) rfl w_X9_told_2 (.ref (E.2.1 + (o0 + 1))) rfl 91 rfl dX9_told_88 ?_
      refine r_iload_n 1 1 rfl rfl 92 rfl dX9_told_91 ?_
      refine r_iconst 1 rfl 93 rfl dX9_told_92 ?_
      refine r_callS_I (c_X9_at (E := E) (l := l) (S := S) d1 x1 1) ok_X9_at ⟨⟨(Nat.le_of_ble_eq_true rfl), (Nat.le_of_ble_eq_true rfl)⟩, (Nat.le_of_ble_eq_true rfl), (Nat.le_of_ble_eq_true rfl)⟩ rfl (Nat.le_of_ble_eq_true rfl) gX9_told_X9_at rfl rfl 96 rfl dX9_told_93 (fun v5 => ?_)
      refine r_iald (h0 1 (Nat.le_of_ble_eq_true rfl)) rfl rfl 97 rfl dX9_told_96 (fun v6 => ?_)
      exact r_ireturn rfl rfl (Nat.le_of_ble_eq_true rfl) (Nat.le_of_ble_eq_true rfl) dX9_told_97
    refine r_tsw 98 rfl rfl rfl rfl dX9_told_16 ?_ (fun hs2 => ?_)
    · refine r_aload_n 0 0 rfl rfl 99 rfl dX9_told_98 ?_
      refine r_get (h0 0 (Nat.le_of_ble_eq_true rfl)) rfl (Nat.le_of_ble_eq_true rfl) rfl rfl w_X9_told_1 1 (Nat.le_of_ble_eq_true rfl) rfl w_X9_told_2 (.ref (E.2.1 + (o0 + 1))) rfl 102 rfl dX9_told_99 ?_
      refine r_iload_n 1 1 rfl rfl 103 rfl dX9_told_102 ?_
      refine r_iconst 5 rfl 104 rfl dX9_told_103 ?_
      refine r_callS_I (c_X9_at (E := E) (l := l) (S := S) d1 x1 5) ok_X9_at ⟨⟨(Nat.le_of_ble_eq_true rfl), (Nat.le_of_ble_eq_true rfl)⟩, (Nat.le_of_ble_eq_true rfl), (Nat.le_of_ble_eq_true rfl)⟩ rfl (Nat.le_of_ble_eq_true rfl) gX9_told_X9_at rfl rfl 107 rfl dX9_told_104 (fun v7 => ?_)
      refine r_iald (h0 1 (Nat.le_of_ble_eq_true rfl)) rfl rfl 108 rfl dX9_told_107 (fun v8 => ?_)
      exact r_ireturn rfl rfl (Nat.le_of_ble_eq_true rfl) (Nat.le_of_ble_eq_true rfl) dX9_told_108
    refine r_tsw 109 rfl rfl rfl rfl dX9_told_16 ?_ (fun hs3 => ?_)
    · refine r_aload_n 0 0 rfl rfl 110 rfl dX9_told_109 ?_
      refine r_get (h0 0 (Nat.le_of_ble_eq_true rfl)) rfl (Nat.le_of_ble_eq_true rfl) rfl rfl w_X9_told_1 1 (Nat.le_of_ble_eq_true rfl) rfl w_X9_told_2 (.ref (E.2.1 + (o0 + 1))) rfl 113 rfl dX9_told_110 ?_
      refine r_iload_n 1 1 rfl rfl 114 rfl dX9_told_113 ?_
      refine r_bipush 6 rfl 116 rfl dX9_told_114 ?_
      refine r_callS_I (c_X9_at (E := E) (l := l) (S := S) d1 x1 6) ok_X9_at ⟨⟨(Nat.le_of_ble_eq_true rfl), (Nat.le_of_ble_eq_true rfl)⟩, (Nat.le_of_ble_eq_true rfl), (Nat.le_of_ble_eq_true rfl)⟩ rfl (Nat.le_of_ble_eq_true rfl) gX9_told_X9_at rfl rfl 119 rfl dX9_told_116 (fun v9 => ?_)
      refine r_iald (h0 1 (Nat.le_of_ble_eq_true rfl)) rfl rfl 120 rfl dX9_told_119 (fun v10 => ?_)
      exact r_ireturn rfl rfl (Nat.le_of_ble_eq_true rfl) (Nat.le_of_ble_eq_true rfl) dX9_told_120
    refine r_tsw 121 rfl rfl rfl rfl dX9_told_16 ?_ (fun hs4 => ?_)
    · refine r_aload_n 0 0 rfl rfl 122 rfl dX9_told_121 ?_
      refine r_get (h0 0 (Nat.le_of_ble_eq_true rfl)) rfl (Nat.le_of_ble_eq_true rfl) rfl rfl w_X9_told_1 1 (Nat.le_of_ble_eq_true rfl) rfl w_X9_told_2 (.ref (E.2.1 + (o0 + 1))) rfl 125 rfl dX9_told_122 ?_
      refine r_iload_n 1 1 rfl rfl 126 rfl dX9_told_125 ?_
      refine r_bipush 7 rfl 128 rfl dX9_told_126 ?_
      refine r_callS_I (c_X9_at (E := E) (l := l) (S := S) d1 x1 7) ok_X9_at ⟨⟨(Nat.le_of_ble_eq_true rfl), (Nat.le_of_ble_eq_true rfl)⟩, (Nat.le_of_ble_eq_true rfl), (Nat.le_of_ble_eq_true rfl)⟩ rfl (Nat.le_of_ble_eq_true rfl) gX9_told_X9_at rfl rfl 131 rfl dX9_told_128 (fun v11 => ?_)
      refine r_iald (h0 1 (Nat.le_of_ble_eq_true rfl)) rfl rfl 132 rfl dX9_told_131 (fun v12 => ?_)
      exact r_ireturn rfl rfl (Nat.le_of_ble_eq_true rfl) (Nat.le_of_ble_eq_true rfl) dX9_told_132
    refine r_tsw 133 rfl rfl rfl rfl dX9_told_16 ?_ (fun hs5 => ?_)
    · refine r_aload_n 0 0 rfl rfl 134 rfl dX9_told_133 ?_
      refine r_get (h0 0 (Nat.le_of_ble_eq_true rfl)) rfl (Nat.le_of_ble_eq_true rfl) rfl rfl w_X9_told_1 1 (Nat.le_of_ble_eq_true rfl) rfl w_X9_told_2 (.ref (E.2.1 + (o0 + 1))) rfl 137 rfl dX9_told_134 ?_
      refine r_iload_n 1 1 rfl rfl 138 rfl dX9_told_137 ?_
      refine r_bipush 8 rfl 140 rfl dX9_told_138 ?_
      refine r_callS_I (c_X9_at (E := E) (l := l) (S := S) d1 x1 8) ok_X9_at ⟨⟨(Nat.le_of_ble_eq_true rfl), (Nat.le_of_ble_eq_true rfl)⟩, (Nat.le_of_ble_eq_true rfl), (Nat.le_of_ble_eq_true rfl)⟩ rfl (Nat.le_of_ble_eq_true rfl) gX9_told_X9_at rfl rfl 143 rfl dX9_told_140 (fun v13 => ?_)
      refine r_iald (h0 1 (Nat.le_of_ble_eq_true rfl)) rfl rfl 144 rfl dX9_told_143 (fun v14 => ?_)
      exact r_ireturn rfl rfl (Nat.le_of_ble_eq_true rfl) (Nat.le_of_ble_eq_true rfl) dX9_told_144
    refine r_tsw 145 rfl rfl rfl rfl dX9_told_16 ?_ (fun hs6 => ?_)
    · refine r_aload_n 0 0 rfl rfl 146 rfl dX9_told_145 ?_
      refine r_get (h0 0 (Nat.le_of_ble_eq_true rfl)) rfl (Nat.le_of_ble_eq_true rfl) rfl rfl w_X9_told_1 1 (Nat.le_of_ble_eq_true rfl) rfl w_X9_told_2 (.ref (E.2.1 + (o0 + 1))) rfl 149 rfl dX9_told_146 ?_
      refine r_iload_n 1 1 rfl rfl 150 rfl dX9_told_149 ?_
      refine r_bipush 9 rfl 152 rfl dX9_told_150 ?_
      refine r_callS_I (c_X9_at (E := E) (l := l) (S := S) d1 x1 9) ok_X9_at ⟨⟨(Nat.le_of_ble_eq_true rfl), (Nat.le_of_ble_eq_true rfl)⟩, (Nat.le_of_ble_eq_true rfl), (Nat.le_of_ble_eq_true rfl)⟩ rfl (Nat.le_of_ble_eq_true rfl) gX9_told_X9_at rfl rfl 155 rfl dX9_told_152 (fun v15 => ?_)
      refine r_iald (h0 1 (Nat.le_of_ble_eq_true rfl)) rfl rfl 156 rfl dX9_told_155 (fun v16 => ?_)
      exact r_ireturn rfl rfl (Nat.le_of_ble_eq_true rfl) (Nat.le_of_ble_eq_true rfl) dX9_told_156
    refine r_tsw 157 rfl rfl rfl rfl dX9_told_16 ?_ (fun hs7 => ?_)
    · refine r_aload_n 0 0 rfl rfl 158 rfl dX9_told_157 ?_
      refine r_get (h0 0 (Nat.le_of_ble_eq_true rfl)) rfl (Nat.le_of_ble_eq_true rfl) rfl rfl w_X9_told_1 1 (Nat.le_of_ble_eq_true rfl) rfl w_X9_told_2 (.ref (E.2.1 + (o0 + 1))) rfl 161 rfl dX9_told_158 ?_
      refine r_iload_n 1 1 rfl rfl 162 rfl dX9_told_161 ?_
      refine r_bipush 10 rfl 164 rfl dX9_told_162 ?_
      refine r_callS_I (c_X9_at (E := E) (l := l) (S := S) d1 x1 10) ok_X9_at ⟨⟨(Nat.le_of_ble_eq_true rfl), (Nat.le_of_ble_eq_true rfl)⟩, (Nat.le_of_ble_eq_true rfl), (Nat.le_of_ble_eq_true rfl)⟩ rfl (Nat.le_of_ble_eq_true rfl) gX9_told_X9_at rfl rfl 167 rfl dX9_told_164 (fun v17 => ?_)
      refine r_iald (h0 1 (Nat.le_of_ble_eq_true rfl)) rfl rfl 168 rfl dX9_told_167 (fun v18 => ?_)
      exact r_ireturn rfl rfl (Nat.le_of_ble_eq_true rfl) (Nat.le_of_ble_eq_true rfl) dX9_told_168
    refine r_tsw 169 rfl rfl rfl rfl dX9_told_16 ?_ (fun hs8 => ?_)
    · refine r_aload_n 0 0 rfl rfl 170 rfl dX9_told_169 ?_
      refine r_get (h0 0 (Nat.le_of_ble_eq_true rfl)) rfl (Nat.le_of_ble_eq_true rfl) rfl rfl w_X9_told_1 1 (Nat.le_of_ble_eq_true rfl) rfl w_X9_told_2 (.ref (E.2.1 + (o0 + 1))) rfl 173 rfl dX9_told_170 ?_
      refine r_iload_n 1 1 rfl rfl 174 rfl dX9_told_173 ?_
      refine r_bipush 11 rfl 176 rfl dX9_told_174 ?_
      refine r_callS_I (c_X9_at (E := E) (l := l) (S := S) d1 x1 11) ok_X9_at ⟨⟨(Nat.le_of_ble_eq_true rfl), (Nat.le_of_ble_eq_true rfl)⟩, (Nat.le_of_ble_eq_true rfl), (Nat.le_of_ble_eq_true rfl)⟩ rfl (Nat.le_of_ble_eq_true rfl) gX9_told_X9_at rfl rfl 179 rfl dX9_told_176 (fun v19 => ?_)
      refine r_iald (h0 1 (Nat.le_of_ble_eq_true rfl)) rfl rfl 180 rfl dX9_told_179 (fun v20 => ?_)
      exact r_ireturn rfl rfl (Nat.le_of_ble_eq_true rfl) (Nat.le_of_ble_eq_true rfl) dX9_told_180
    refine r_tsw 181 rfl rfl rfl rfl dX9_told_16 ?_ (fun hs9 => ?_)
    · refine r_aload_n 0 0 rfl rfl 182 rfl dX9_told_181 ?_
      refine r_iload_n 1 1 rfl rfl 183 rfl dX9_told_182 ?_
      refine r_iconst 0 rfl 184 rfl dX9_told_183 ?_
      refine r_callV_I (c_X9_lesser (E := E) (l := l) (S := S) d1 o0 h0 x1 0) ok_X9_lesser ⟨⟨(Nat.le_of_ble_eq_true rfl), (Nat.le_of_ble_eq_true rfl)⟩, (Nat.le_of_ble_eq_true rfl), (Nat.le_of_ble_eq_true rfl)⟩ (h0 0 (Nat.le_of_ble_eq_true rfl)) (Nat.le_of_ble_eq_true rfl) rfl rfl rfl (Nat.le_of_ble_eq_true rfl) gX9_told_X9_lesser rfl rfl 187 rfl dX9_told_184 (fun v21 => ?_)
      exact r_ireturn rfl rfl (Nat.le_of_ble_eq_true rfl) (Nat.le_of_ble_eq_true rfl) dX9_told_187
    refine r_tsw 188 rfl rfl rfl rfl dX9_told_16 ?_ (fun hs10 => ?_)
    · refine r_aload_n 0 0 rfl rfl 189 rfl dX9_told_188 ?_
      refine r_iload_n 1 1 rfl rfl 190 rfl dX9_told_189 ?_
      refine r_iconst 1 rfl 191 rfl dX9_told_190 ?_
      refine r_callV_I (c_X9_lesser (E := E) (l := l) (S := S) d1 o0 h0 x1 1) ok_X9_lesser ⟨⟨(Nat.le_of_ble_eq_true rfl), (Nat.le_of_ble_eq_true rfl)⟩, (Nat.le_of_ble_eq_true rfl), (Nat.le_of_ble_eq_true rfl)⟩ (h0 0 (Nat.le_of_ble_eq_true rfl)) (Nat.le_of_ble_eq_true rfl) rfl rfl rfl (Nat.le_of_ble_eq_true rfl) gX9_told_X9_lesser rfl rfl 194 rfl dX9_told_191 (fun v22 => ?_)
      exact r_ireturn rfl rfl (Nat.le_of_ble_eq_true rfl) (Nat.le_of_ble_eq_true rfl) dX9_told_194
    refine r_tswD (lo := 0) (hi := 10) 195 11 rfl (fun j hj => match j, hj with | 0, _ => hs0 | 1, _ => hs1 | 2, _ => hs2 | 3, _ => hs3 | 4, _ => hs4 | 5, _ => hs5 | 6, _ => hs6 | 7, _ => hs7 | 8, _ => hs8 | 9, _ => hs9 | 10, _ => hs10) rfl dX9_told_16 ?_
    refine r_iconst (-1) rfl 196 rfl dX9_told_195 ?_
    exact r_ireturn rfl rfl (Nat.le_of_ble_eq_true rfl) (Nat.le_of_ble_eq_true rfl) dX9_told_196
  · refine r_iconst (-1) rfl 14 rfl dX9_told_13 ?_
    exact r_ireturn rfl rfl (Nat.le_of_ble_eq_true rfl) (Nat.le_of_ble_eq_true rfl) dX9_told_14
def Y_X9_order : z_Y := (RX9, cX9_order, 3, wsX9_order, (some .int), { frames := 3, cells := 0, slots := 0, locals := 67 }, 0, 0)
theorem ok_X9_order : z_Ok yX9_order Y_X9_order 2 := ⟨⟨_, rfl⟩, rfl, rfl, rfl, by decide +kernel, by decide +kernel⟩
theorem w_X9_order_0 : Cond.fieldLink RX9 39 "BunchTimesModel" "thrown" "I" ∈ wsX9_order := by decide +kernel
theorem w_X9_order_1 : ∀ w ∈ u_ws RX9 TX9 18, w ∈ wsX9_order := by decide +kernel
theorem w_X9_order_2 : Cond.fieldLink RX9 114 "BunchTimesModel" "orderMany" "I" ∈ wsX9_order := by decide +kernel
theorem w_X9_order_3 : Cond.fieldLink RX9 23 "BunchTimesModel" "order" "[I" ∈ wsX9_order := by decide +kernel
def f_X9_order (d : z_D) (o0 : Nat) (x1 : Int32) (x2 : Int32) : Option (Int32 × z_D) := z_put d o0 0 0 (fun d1 => ((f_X9_isClosed d1 o0 x1).bind fun v2 => (if v2 = 0 then (some ((-1), d1)) else ((f_X9_laysOrder d1 o0 x1).bind fun d3 => ((f_X9_isIn x2 0 ((d3 o0 6) - 1)).bind fun v4 => (if v4 = 0 then (some ((-1), d3)) else z_ald d3 (o0 + 5) 16 x2 (fun v5 => (some (v5, d3)))))))))
set_option maxHeartbeats 4000000 in
set_option maxRecDepth 100000 in
theorem c_X9_order {E : z_E} {l : Launch} {S : z_S} (d : z_D) (o0 : Nat) (h0 : A_Model S o0) (x1 : Int32) (x2 : Int32) : z_Sp E l yX9_order Y_X9_order (cvX S) [.ref (E.2.1 + o0), .int x1, .int x2] (S, d) (f_X9_order d o0 x1 x2) := by
  refine z_entry (lv := [(0, .ref (E.2.1 + o0)), (1, .int x1), (2, .int x2)]) (by decide) rfl rfl (Nat.le_of_ble_eq_true rfl) rfl ?_
  unfold f_X9_order
  refine r_aload_n 0 0 rfl rfl 1 rfl dX9_order_0 ?_
  refine r_iconst 0 rfl 2 rfl dX9_order_1 ?_
  refine r_put (h0 0 (Nat.le_of_ble_eq_true rfl)) rfl (Nat.le_of_ble_eq_true rfl) rfl rfl w_X9_order_1 tyX9 tyX9_ok nmX9 (Nat.le_of_ble_eq_true rfl) rfl w_X9_order_0 rfl rfl rfl rfl rfl 5 rfl dX9_order_2 (fun d1 => ?_)
  refine r_aload_n 0 0 rfl rfl 6 rfl dX9_order_5 ?_
  refine r_iload_n 1 1 rfl rfl 7 rfl dX9_order_6 ?_
  refine r_callV_I (c_X9_isClosed (E := E) (l := l) (S := S) d1 o0 h0 x1) ok_X9_isClosed ⟨⟨(Nat.le_of_ble_eq_true rfl), (Nat.le_of_ble_eq_true rfl)⟩, (Nat.le_of_ble_eq_true rfl), (Nat.le_of_ble_eq_true rfl)⟩ (h0 0 (Nat.le_of_ble_eq_true rfl)) (Nat.le_of_ble_eq_true rfl) rfl rfl rfl (Nat.le_of_ble_eq_true rfl) gX9_order_X9_isClosed rfl rfl 10 rfl dX9_order_7 (fun v2 => ?_)
  refine r_if_ne 15 13 rfl rfl dX9_order_10 ?_ ?_
  · refine r_aload_n 0 0 rfl rfl 16 rfl dX9_order_15 ?_
    refine r_iload_n 1 1 rfl rfl 17 rfl dX9_order_16 ?_
    refine r_callV_V (c_X9_laysOrder (E := E) (l := l) (S := S) d1 o0 h0 x1) ok_X9_laysOrder ⟨⟨(Nat.le_of_ble_eq_true rfl), (Nat.le_of_ble_eq_true rfl)⟩, (Nat.le_of_ble_eq_true rfl), (Nat.le_of_ble_eq_true rfl)⟩ (h0 0 (Nat.le_of_ble_eq_true rfl)) (Nat.le_of_ble_eq_true rfl) rfl rfl rfl (Nat.le_of_ble_eq_true rfl) gX9_order_X9_laysOrder rfl rfl 20 rfl dX9_order_17 (fun d3 => ?_)
    refine r_iload_n 2 2 rfl rfl 21 rfl dX9_order_20 ?_
    refine r_iconst 0 rfl 22 rfl dX9_order_21 ?_
    refine r_aload_n 0 0 rfl rfl 23 rfl dX9_order_22 ?_
    refine r_get (h0 0 (Nat.le_of_ble_eq_true rfl)) rfl (Nat.le_of_ble_eq_true rfl) rfl rfl w_X9_order_1 6 (Nat.le_of_ble_eq_true rfl) rfl w_X9_order_2 (.int (d3 o0 6)) rfl 26 rfl dX9_order_23 ?_
    refine r_iconst 1 rfl 27 rfl dX9_order_26 ?_
    refine r_isub 28 rfl dX9_order_27 ?_
    refine r_callS_I (c_X9_isIn (E := E) (l := l) (S := S) d3 x2 0 ((d3 o0 6) - 1)) ok_X9_isIn ⟨⟨(Nat.le_of_ble_eq_true rfl), (Nat.le_of_ble_eq_true rfl)⟩, (Nat.le_of_ble_eq_true rfl), (Nat.le_of_ble_eq_true rfl)⟩ rfl (Nat.le_of_ble_eq_true rfl) gX9_order_X9_isIn rfl rfl 31 rfl dX9_order_28 (fun v4 => ?_)
    refine r_if_eq 43 34 rfl rfl dX9_order_31 ?_ ?_
    · refine r_iconst (-1) rfl 44 rfl dX9_order_43 ?_
      exact r_ireturn rfl rfl (Nat.le_of_ble_eq_true rfl) (Nat.le_of_ble_eq_true rfl) dX9_order_44
    · refine r_aload_n 0 0 rfl rfl 35 rfl dX9_order_34 ?_
      refine r_get (h0 0 (Nat.le_of_ble_eq_true rfl)) rfl (Nat.le_of_ble_eq_true rfl) rfl rfl w_X9_order_1 5 (Nat.le_of_ble_eq_true rfl) rfl w_X9_order_3 (.ref (E.2.1 + (o0 + 5))) rfl 38 rfl dX9_order_35 ?_
      refine r_iload_n 2 2 rfl rfl 39 rfl dX9_order_38 ?_
      refine r_iald (h0 5 (Nat.le_of_ble_eq_true rfl)) rfl rfl 40 rfl dX9_order_39 (fun v5 => ?_)
      refine r_goto 44 rfl dX9_order_40 ?_
      exact r_ireturn rfl rfl (Nat.le_of_ble_eq_true rfl) (Nat.le_of_ble_eq_true rfl) dX9_order_44
  · refine r_iconst (-1) rfl 14 rfl dX9_order_13 ?_
    exact r_ireturn rfl rfl (Nat.le_of_ble_eq_true rfl) (Nat.le_of_ble_eq_true rfl) dX9_order_14
def Y_X9_result : z_Y := (RX9, cX9_result, 4, wsX9_result, (some .int), { frames := 2, cells := 0, slots := 0, locals := 44 }, 0, 0)
theorem ok_X9_result : z_Ok yX9_result Y_X9_result 3 := ⟨⟨_, rfl⟩, rfl, rfl, rfl, by decide +kernel, by decide +kernel⟩
theorem w_X9_result_0 : Cond.fieldLink RX9 39 "BunchTimesModel" "thrown" "I" ∈ wsX9_result := by decide +kernel
theorem w_X9_result_1 : ∀ w ∈ u_ws RX9 TX9 18, w ∈ wsX9_result := by decide +kernel
theorem w_X9_result_2 : Cond.fieldLink RX9 7 "BunchTimesModel" "row" "[I" ∈ wsX9_result := by decide +kernel
def f_X9_result (d : z_D) (o0 : Nat) (x1 : Int32) (x2 : Int32) (x3 : Int32) : Option (Int32 × z_D) := z_put d o0 0 0 (fun d1 => ((f_X9_isClosed d1 o0 x1).bind fun v2 => (if v2 = 0 then (some ((-1), d1)) else ((f_X9_isRider d1 o0 x2).bind fun v3 => (if v3 = 0 then (some ((-1), d1)) else ((f_X9_hasFinish d1 o0 x1 x2).bind fun v4 => (if v4 = 0 then (some ((-1), d1)) else (if x3 = 0 then ((f_X9_at_ x1 x2 0).bind fun v5 => z_ald d1 (o0 + 1) 2656 v5 (fun v6 => (some (v6, d1)))) else (if x3 = 1 then ((f_X9_at_ x1 x2 5).bind fun v7 => z_ald d1 (o0 + 1) 2656 v7 (fun v8 => (some (v8, d1)))) else (if x3 = 2 then ((f_X9_at_ x1 x2 6).bind fun v9 => z_ald d1 (o0 + 1) 2656 v9 (fun v10 => (some (v10, d1)))) else (if x3 = 3 then ((f_X9_at_ x1 x2 7).bind fun v11 => z_ald d1 (o0 + 1) 2656 v11 (fun v12 => (some (v12, d1)))) else (if x3 = 4 then ((f_X9_at_ x1 x2 8).bind fun v13 => z_ald d1 (o0 + 1) 2656 v13 (fun v14 => (some (v14, d1)))) else (if x3 = 5 then ((f_X9_at_ x1 x2 9).bind fun v15 => z_ald d1 (o0 + 1) 2656 v15 (fun v16 => (some (v16, d1)))) else (if x3 = 6 then ((f_X9_at_ x1 x2 10).bind fun v17 => z_ald d1 (o0 + 1) 2656 v17 (fun v18 => (some (v18, d1)))) else (if x3 = 7 then ((f_X9_at_ x1 x2 11).bind fun v19 => z_ald d1 (o0 + 1) 2656 v19 (fun v20 => (some (v20, d1)))) else (some ((-1), d1)))))))))))))))))
set_option maxHeartbeats 4000000 in
set_option maxRecDepth 100000 in
theorem c_X9_result {E : z_E} {l : Launch} {S : z_S} (d : z_D) (o0 : Nat) (h0 : A_Model S o0) (x1 : Int32) (x2 : Int32) (x3 : Int32) : z_Sp E l yX9_result Y_X9_result (cvX S) [.ref (E.2.1 + o0), .int x1, .int x2, .int x3] (S, d) (f_X9_result d o0 x1 x2 x3) := by
  refine z_entry (lv := [(0, .ref (E.2.1 + o0)), (1, .int x1), (2, .int x2), (3, .int x3)]) (by decide) rfl rfl (Nat.le_of_ble_eq_true rfl) rfl ?_
  unfold f_X9_result
  refine r_aload_n 0 0 rfl rfl 1 rfl dX9_result_0 ?_
  refine r_iconst 0 rfl 2 rfl dX9_result_1 ?_
  refine r_put (h0 0 (Nat.le_of_ble_eq_true rfl)) rfl (Nat.le_of_ble_eq_true rfl) rfl rfl w_X9_result_1 tyX9 tyX9_ok nmX9 (Nat.le_of_ble_eq_true rfl) rfl w_X9_result_0 rfl rfl rfl rfl rfl 5 rfl dX9_result_2 (fun d1 => ?_)
  refine r_aload_n 0 0 rfl rfl 6 rfl dX9_result_5 ?_
  refine r_iload_n 1 1 rfl rfl 7 rfl dX9_result_6 ?_
  refine r_callV_I (c_X9_isClosed (E := E) (l := l) (S := S) d1 o0 h0 x1) ok_X9_isClosed ⟨⟨(Nat.le_of_ble_eq_true rfl), (Nat.le_of_ble_eq_true rfl)⟩, (Nat.le_of_ble_eq_true rfl), (Nat.le_of_ble_eq_true rfl)⟩ (h0 0 (Nat.le_of_ble_eq_true rfl)) (Nat.le_of_ble_eq_true rfl) rfl rfl rfl (Nat.le_of_ble_eq_true rfl) gX9_result_X9_isClosed rfl rfl 10 rfl dX9_result_7 (fun v2 => ?_)
  refine r_if_eq 30 13 rfl rfl dX9_result_10 ?_ ?_
  · refine r_iconst (-1) rfl 31 rfl dX9_result_30 ?_
    exact r_ireturn rfl rfl (Nat.le_of_ble_eq_true rfl) (Nat.le_of_ble_eq_true rfl) dX9_result_31
  · refine r_aload_n 0 0 rfl rfl 14 rfl dX9_result_13 ?_
    refine r_iload_n 2 2 rfl rfl 15 rfl dX9_result_14 ?_
    refine r_callV_I (c_X9_isRider (E := E) (l := l) (S := S) d1 o0 h0 x2) ok_X9_isRider ⟨⟨(Nat.le_of_ble_eq_true rfl), (Nat.le_of_ble_eq_true rfl)⟩, (Nat.le_of_ble_eq_true rfl), (Nat.le_of_ble_eq_true rfl)⟩ (h0 0 (Nat.le_of_ble_eq_true rfl)) (Nat.le_of_ble_eq_true rfl) rfl rfl rfl (Nat.le_of_ble_eq_true rfl) gX9_result_X9_isRider rfl rfl 18 rfl dX9_result_15 (fun v3 => ?_)
    refine r_if_eq 30 21 rfl rfl dX9_result_18 ?_ ?_
    · refine r_iconst (-1) rfl 31 rfl dX9_result_30 ?_
      exact r_ireturn rfl rfl (Nat.le_of_ble_eq_true rfl) (Nat.le_of_ble_eq_true rfl) dX9_result_31
    · refine r_aload_n 0 0 rfl rfl 22 rfl dX9_result_21 ?_
      refine r_iload_n 1 1 rfl rfl 23 rfl dX9_result_22 ?_
      refine r_iload_n 2 2 rfl rfl 24 rfl dX9_result_23 ?_
      refine r_callV_I (c_X9_hasFinish (E := E) (l := l) (S := S) d1 o0 h0 x1 x2) ok_X9_hasFinish ⟨⟨(Nat.le_of_ble_eq_true rfl), (Nat.le_of_ble_eq_true rfl)⟩, (Nat.le_of_ble_eq_true rfl), (Nat.le_of_ble_eq_true rfl)⟩ (h0 0 (Nat.le_of_ble_eq_true rfl)) (Nat.le_of_ble_eq_true rfl) rfl rfl rfl (Nat.le_of_ble_eq_true rfl) gX9_result_X9_hasFinish rfl rfl 27 rfl dX9_result_24 (fun v4 => ?_)
      refine r_if_ne 32 30 rfl rfl dX9_result_27 ?_ ?_
      · refine r_iload_n 3 3 rfl rfl 33 rfl dX9_result_32 ?_
        refine r_tsw 80 rfl rfl rfl rfl dX9_result_33 ?_ (fun hs0 => ?_)
        · refine r_aload_n 0 0 rfl rfl 81 rfl dX9_result_80 ?_
          refine r_get (h0 0 (Nat.le_of_ble_eq_true rfl)) rfl (Nat.le_of_ble_eq_true rfl) rfl rfl w_X9_result_1 1 (Nat.le_of_ble_eq_true rfl) rfl w_X9_result_2 (.ref (E.2.1 + (o0 + 1))) rfl 84 rfl dX9_result_81 ?_
          refine r_iload_n 1 1 rfl rfl 85 rfl dX9_result_84 ?_
          refine r_iload_n 2 2 rfl rfl 86 rfl dX9_result_85 ?_
          refine r_iconst 0 rfl 87 rfl dX9_result_86 ?_
          refine r_callS_I (c_X9_at_ (E := E) (l := l) (S := S) d1 x1 x2 0) ok_X9_at_ ⟨⟨(Nat.le_of_ble_eq_true rfl), (Nat.le_of_ble_eq_true rfl)⟩, (Nat.le_of_ble_eq_true rfl), (Nat.le_of_ble_eq_true rfl)⟩ rfl (Nat.le_of_ble_eq_true rfl) gX9_result_X9_at_ rfl rfl 90 rfl dX9_result_87 (fun v5 => ?_)
          refine r_iald (h0 1 (Nat.le_of_ble_eq_true rfl)) rfl rfl 91 rfl dX9_result_90 (fun v6 => ?_)
          exact r_ireturn rfl rfl (Nat.le_of_ble_eq_true rfl) (Nat.le_of_ble_eq_true rfl) dX9_result_91
        refine r_tsw 92 rfl rfl rfl rfl dX9_result_33 ?_ (fun hs1 => ?_)
        · refine r_aload_n 0 0 rfl rfl 93 rfl dX9_result_92 ?_
          refine r_get (h0 0 (Nat.le_of_ble_eq_true rfl)) rfl (Nat.le_of_ble_eq_true rfl) rfl rfl w_X9_result_1 1 (Nat.le_of_ble_eq_true rfl) rfl w_X9_result_2 (.ref (E.2.1 + (o0 + 1))) rfl 96 rfl dX9_result_93 ?_
          refine r_iload_n 1 1 rfl rfl 97 rfl dX9_result_96 ?_
          refine r_iload_n 2 2 rfl rfl 98 rfl dX9_result_97 ?_
          refine r_iconst 5 rfl 99 rfl dX9_result_98 ?_
          refine r_callS_I (c_X9_at_ (E := E) (l := l) (S := S) d1 x1 x2 5) ok_X9_at_ ⟨⟨(Nat.le_of_ble_eq_true rfl), (Nat.le_of_ble_eq_true rfl)⟩, (Nat.le_of_ble_eq_true rfl), (Nat.le_of_ble_eq_true rfl)⟩ rfl (Nat.le_of_ble_eq_true rfl) gX9_result_X9_at_ rfl rfl 102 rfl dX9_result_99 (fun v7 => ?_)
          refine r_iald (h0 1 (Nat.le_of_ble_eq_true rfl)) rfl rfl 103 rfl dX9_result_102 (fun v8 => ?_)
          exact r_ireturn rfl rfl (Nat.le_of_ble_eq_true rfl) (Nat.le_of_ble_eq_true rfl) dX9_result_103
        refine r_tsw 104 rfl rfl rfl rfl dX9_result_33 ?_ (fun hs2 => ?_)
        · refine r_aload_n 0 0 rfl rfl 105 rfl dX9_result_104 ?_
          refine r_get (h0 0 (Nat.le_of_ble_eq_true rfl)) rfl (Nat.le_of_ble_eq_true rfl) rfl rfl w_X9_result_1 1 (Nat.le_of_ble_eq_true rfl) rfl w_X9_result_2 (.ref (E.2.1 + (o0 + 1))) rfl 108 rfl dX9_result_105 ?_
          refine r_iload_n 1 1 rfl rfl 109 rfl dX9_result_108 ?_
          refine r_iload_n 2 2 rfl rfl 110 rfl dX9_result_109 ?_
          refine r_bipush 6 rfl 112 rfl dX9_result_110 ?_
          refine r_callS_I (c_X9_at_ (E := E) (l := l) (S := S) d1 x1 x2 6) ok_X9_at_ ⟨⟨(Nat.le_of_ble_eq_true rfl), (Nat.le_of_ble_eq_true rfl)⟩, (Nat.le_of_ble_eq_true rfl), (Nat.le_of_ble_eq_true rfl)⟩ rfl (Nat.le_of_ble_eq_true rfl) gX9_result_X9_at_ rfl rfl 115 rfl dX9_result_112 (fun v9 => ?_)
          refine r_iald (h0 1 (Nat.le_of_ble_eq_true rfl)) rfl rfl 116 rfl dX9_result_115 (fun v10 => ?_)
          exact r_ireturn rfl rfl (Nat.le_of_ble_eq_true rfl) (Nat.le_of_ble_eq_true rfl) dX9_result_116
        refine r_tsw 117 rfl rfl rfl rfl dX9_result_33 ?_ (fun hs3 => ?_)
        · refine r_aload_n 0 0 rfl rfl 118 rfl dX9_result_117 ?_
          refine r_get (h0 0 (Nat.le_of_ble_eq_true rfl)) rfl (Nat.le_of_ble_eq_true rfl) rfl rfl w_X9_result_1 1 (Nat.le_of_ble_eq_true rfl) rfl w_X9_result_2 (.ref (E.2.1 + (o0 + 1))) rfl 121 rfl dX9_result_118 ?_
          refine r_iload_n 1 1 rfl rfl 122 rfl dX9_result_121 ?_
          refine r_iload_n 2 2 rfl rfl 123 rfl dX9_result_122 ?_
          refine r_bipush 7 rfl 125 rfl dX9_result_123 ?_
          refine r_callS_I (c_X9_at_ (E := E) (l := l) (S := S) d1 x1 x2 7) ok_X9_at_ ⟨⟨(Nat.le_of_ble_eq_true rfl), (Nat.le_of_ble_eq_true rfl)⟩, (Nat.le_of_ble_eq_true rfl), (Nat.le_of_ble_eq_true rfl)⟩ rfl (Nat.le_of_ble_eq_true rfl) gX9_result_X9_at_ rfl rfl 128 rfl dX9_result_125 (fun v11 => ?_)
          refine r_iald (h0 1 (Nat.le_of_ble_eq_true rfl)) rfl rfl 129 rfl dX9_result_128 (fun v12 => ?_)
          exact r_ireturn rfl rfl (Nat.le_of_ble_eq_true rfl) (Nat.le_of_ble_eq_true rfl) dX9_result_129
        refine r_tsw 130 rfl rfl rfl rfl dX9_result_33 ?_ (fun hs4 => ?_)
        · refine r_aload_n 0 0 rfl rfl 131 rfl dX9_result_130 ?_
          refine r_get (h0 0 (Nat.le_of_ble_eq_true rfl)) rfl (Nat.le_of_ble_eq_true rfl) rfl rfl w_X9_result_1 1 (Nat.le_of_ble_eq_true rfl) rfl w_X9_result_2 (.ref (E.2.1 + (o0 + 1))) rfl 134 rfl dX9_result_131 ?_
          refine r_iload_n 1 1 rfl rfl 135 rfl dX9_result_134 ?_
          refine r_iload_n 2 2 rfl rfl 136 rfl dX9_result_135 ?_
          refine r_bipush 8 rfl 138 rfl dX9_result_136 ?_
          refine r_callS_I (c_X9_at_ (E := E) (l := l) (S := S) d1 x1 x2 8) ok_X9_at_ ⟨⟨(Nat.le_of_ble_eq_true rfl), (Nat.le_of_ble_eq_true rfl)⟩, (Nat.le_of_ble_eq_true rfl), (Nat.le_of_ble_eq_true rfl)⟩ rfl (Nat.le_of_ble_eq_true rfl) gX9_result_X9_at_ rfl rfl 141 rfl dX9_result_138 (fun v13 => ?_)
          refine r_iald (h0 1 (Nat.le_of_ble_eq_true rfl)) rfl rfl 142 rfl dX9_result_141 (fun v14 => ?_)
          exact r_ireturn rfl rfl (Nat.le_of_ble_eq_true rfl) (Nat.le_of_ble_eq_true rfl) dX9_result_142
        refine r_tsw 143 rfl rfl rfl rfl dX9_result_33 ?_ (fun hs5 => ?_)
        · refine r_aload_n 0 0 rfl rfl 144 rfl dX9_result_143 ?_
          refine r_get (h0 0 (Nat.le_of_ble_eq_true rfl)) rfl (Nat.le_of_ble_eq_true rfl) rfl rfl w_X9_result_1 1 (Nat.le_of_ble_eq_true rfl) rfl w_X9_result_2 (.ref (E.2.1 + (o0 + 1))) rfl 147 rfl dX9_result_144 ?_
          refine r_iload_n 1 1 rfl rfl 148 rfl dX9_result_147 ?_
          refine r_iload_n 2 2 rfl rfl 149 rfl dX9_result_148 ?_
          refine r_bipush 9 rfl 151 rfl dX9_result_149 ?_
          refine r_callS_I (c_X9_at_ (E := E) (l := l) (S := S) d1 x1 x2 9) ok_X9_at_ ⟨⟨(Nat.le_of_ble_eq_true rfl), (Nat.le_of_ble_eq_true rfl)⟩, (Nat.le_of_ble_eq_true rfl), (Nat.le_of_ble_eq_true rfl)⟩ rfl (Nat.le_of_ble_eq_true rfl) gX9_result_X9_at_ rfl rfl 154 rfl dX9_result_151 (fun v15 => ?_)
          refine r_iald (h0 1 (Nat.le_of_ble_eq_true rfl)) rfl rfl 155 rfl dX9_result_154 (fun v16 => ?_)
          exact r_ireturn rfl rfl (Nat.le_of_ble_eq_true rfl) (Nat.le_of_ble_eq_true rfl) dX9_result_155
        refine r_tsw 156 rfl rfl rfl rfl dX9_result_33 ?_ (fun hs6 => ?_)
        · refine r_aload_n 0 0 rfl rfl 157 rfl dX9_result_156 ?_
          refine r_get (h0 0 (Nat.le_of_ble_eq_true rfl)) rfl (Nat.le_of_ble_eq_true rfl) rfl rfl w_X9_result_1 1 (Nat.le_of_ble_eq_true rfl) rfl w_X9_result_2 (.ref (E.2.1 + (o0 + 1))) rfl 160 rfl dX9_result_157 ?_
          refine r_iload_n 1 1 rfl rfl 161 rfl dX9_result_160 ?_
          refine r_iload_n 2 2 rfl rfl 162 rfl dX9_result_161 ?_
          refine r_bipush 10 rfl 164 rfl dX9_result_162 ?_
          refine r_callS_I (c_X9_at_ (E := E) (l := l) (S := S) d1 x1 x2 10) ok_X9_at_ ⟨⟨(Nat.le_of_ble_eq_true rfl), (Nat.le_of_ble_eq_true rfl)⟩, (Nat.le_of_ble_eq_true rfl), (Nat.le_of_ble_eq_true rfl)⟩ rfl (Nat.le_of_ble_eq_true rfl) gX9_result_X9_at_ rfl rfl 167 rfl dX9_result_164 (fun v17 => ?_)
          refine r_iald (h0 1 (Nat.le_of_ble_eq_true rfl)) rfl rfl 168 rfl dX9_result_167 (fun v18 => ?_)
          exact r_ireturn rfl rfl (Nat.le_of_ble_eq_true rfl) (Nat.le_of_ble_eq_true rfl) dX9_result_168
        refine r_tsw 169 rfl rfl rfl rfl dX9_result_33 ?_ (fun hs7 => ?_)
        · refine r_aload_n 0 0 rfl rfl 170 rfl dX9_result_169 ?_
          refine r_get (h0 0 (Nat.le_of_ble_eq_true rfl)) rfl (Nat.le_of_ble_eq_true rfl) rfl rfl w_X9_result_1 1 (Nat.le_of_ble_eq_true rfl) rfl w_X9_result_2 (.ref (E.2.1 + (o0 + 1))) rfl 173 rfl dX9_result_170 ?_
          refine r_iload_n 1 1 rfl rfl 174 rfl dX9_result_173 ?_
          refine r_iload_n 2 2 rfl rfl 175 rfl dX9_result_174 ?_
          refine r_bipush 11 rfl 177 rfl dX9_result_175 ?_
          refine r_callS_I (c_X9_at_ (E := E) (l := l) (S := S) d1 x1 x2 11) ok_X9_at_ ⟨⟨(Nat.le_of_ble_eq_true rfl), (Nat.le_of_ble_eq_true rfl)⟩, (Nat.le_of_ble_eq_true rfl), (Nat.le_of_ble_eq_true rfl)⟩ rfl (Nat.le_of_ble_eq_true rfl) gX9_result_X9_at_ rfl rfl 180 rfl dX9_result_177 (fun v19 => ?_)
          refine r_iald (h0 1 (Nat.le_of_ble_eq_true rfl)) rfl rfl 181 rfl dX9_result_180 (fun v20 => ?_)
          exact r_ireturn rfl rfl (Nat.le_of_ble_eq_true rfl) (Nat.le_of_ble_eq_true rfl) dX9_result_181
        refine r_tswD (lo := 0) (hi := 7) 182 8 rfl (fun j hj => match j, hj with | 0, _ => hs0 | 1, _ => hs1 | 2, _ => hs2 | 3, _ => hs3 | 4, _ => hs4 | 5, _ => hs5 | 6, _ => hs6 | 7, _ => hs7) rfl dX9_result_33 ?_
        refine r_iconst (-1) rfl 183 rfl dX9_result_182 ?_
        exact r_ireturn rfl rfl (Nat.le_of_ble_eq_true rfl) (Nat.le_of_ble_eq_true rfl) dX9_result_183
      · refine r_iconst (-1) rfl 31 rfl dX9_result_30 ?_
        exact r_ireturn rfl rfl (Nat.le_of_ble_eq_true rfl) (Nat.le_of_ble_eq_true rfl) dX9_result_31
def Y_X9_parted : z_Y := (RX9, cX9_parted, 3, wsX9_parted, (some .int), { frames := 3, cells := 0, slots := 0, locals := 68 }, 0, 0)
theorem ok_X9_parted : z_Ok yX9_parted Y_X9_parted 2 := ⟨⟨_, rfl⟩, rfl, rfl, rfl, by decide +kernel, by decide +kernel⟩
theorem w_X9_parted_0 : Cond.fieldLink RX9 39 "BunchTimesModel" "thrown" "I" ∈ wsX9_parted := by decide +kernel
theorem w_X9_parted_1 : ∀ w ∈ u_ws RX9 TX9 18, w ∈ wsX9_parted := by decide +kernel
def f_X9_parted (d : z_D) (o0 : Nat) (x1 : Int32) (x2 : Int32) : Option (Int32 × z_D) := z_put d o0 0 0 (fun d1 => ((f_X9_isClosed d1 o0 x1).bind fun v2 => (if v2 = 0 then (some ((-1), d1)) else ((f_X9_isIn x2 1 99).bind fun v3 => (if v3 = 0 then (some ((-1), d1)) else ((f_X9_laysOrder d1 o0 x1).bind fun d4 => ((f_X9_bunches d4 o0 x1 x2).bind fun v5 => (some (v5, d4)))))))))
set_option maxHeartbeats 4000000 in
set_option maxRecDepth 100000 in
theorem c_X9_parted {E : z_E} {l : Launch} {S : z_S} (d : z_D) (o0 : Nat) (h0 : A_Model S o0) (x1 : Int32) (x2 : Int32) : z_Sp E l yX9_parted Y_X9_parted (cvX S) [.ref (E.2.1 + o0), .int x1, .int x2] (S, d) (f_X9_parted d o0 x1 x2) := by
  refine z_entry (lv := [(0, .ref (E.2.1 + o0)), (1, .int x1), (2, .int x2)]) (by decide) rfl rfl (Nat.le_of_ble_eq_true rfl) rfl ?_
  unfold f_X9_parted
  refine r_aload_n 0 0 rfl rfl 1 rfl dX9_parted_0 ?_
  refine r_iconst 0 rfl 2 rfl dX9_parted_1 ?_
  refine r_put (h0 0 (Nat.le_of_ble_eq_true rfl)) rfl (Nat.le_of_ble_eq_true rfl) rfl rfl w_X9_parted_1 tyX9 tyX9_ok nmX9 (Nat.le_of_ble_eq_true rfl) rfl w_X9_parted_0 rfl rfl rfl rfl rfl 5 rfl dX9_parted_2 (fun d1 => ?_)
  refine r_aload_n 0 0 rfl rfl 6 rfl dX9_parted_5 ?_
  refine r_iload_n 1 1 rfl rfl 7 rfl dX9_parted_6 ?_
  refine r_callV_I (c_X9_isClosed (E := E) (l := l) (S := S) d1 o0 h0 x1) ok_X9_isClosed ⟨⟨(Nat.le_of_ble_eq_true rfl), (Nat.le_of_ble_eq_true rfl)⟩, (Nat.le_of_ble_eq_true rfl), (Nat.le_of_ble_eq_true rfl)⟩ (h0 0 (Nat.le_of_ble_eq_true rfl)) (Nat.le_of_ble_eq_true rfl) rfl rfl rfl (Nat.le_of_ble_eq_true rfl) gX9_parted_X9_isClosed rfl rfl 10 rfl dX9_parted_7 (fun v2 => ?_)
  refine r_if_eq 23 13 rfl rfl dX9_parted_10 ?_ ?_
  · refine r_iconst (-1) rfl 24 rfl dX9_parted_23 ?_
    exact r_ireturn rfl rfl (Nat.le_of_ble_eq_true rfl) (Nat.le_of_ble_eq_true rfl) dX9_parted_24
  · refine r_iload_n 2 2 rfl rfl 14 rfl dX9_parted_13 ?_
    refine r_iconst 1 rfl 15 rfl dX9_parted_14 ?_
    refine r_bipush 99 rfl 17 rfl dX9_parted_15 ?_
    refine r_callS_I (c_X9_isIn (E := E) (l := l) (S := S) d1 x2 1 99) ok_X9_isIn ⟨⟨(Nat.le_of_ble_eq_true rfl), (Nat.le_of_ble_eq_true rfl)⟩, (Nat.le_of_ble_eq_true rfl), (Nat.le_of_ble_eq_true rfl)⟩ rfl (Nat.le_of_ble_eq_true rfl) gX9_parted_X9_isIn rfl rfl 20 rfl dX9_parted_17 (fun v3 => ?_)
    refine r_if_ne 25 23 rfl rfl dX9_parted_20 ?_ ?_
    · refine r_aload_n 0 0 rfl rfl 26 rfl dX9_parted_25 ?_
      refine r_iload_n 1 1 rfl rfl 27 rfl dX9_parted_26 ?_
      refine r_callV_V (c_X9_laysOrder (E := E) (l := l) (S := S) d1 o0 h0 x1) ok_X9_laysOrder ⟨⟨(Nat.le_of_ble_eq_true rfl), (Nat.le_of_ble_eq_true rfl)⟩, (Nat.le_of_ble_eq_true rfl), (Nat.le_of_ble_eq_true rfl)⟩ (h0 0 (Nat.le_of_ble_eq_true rfl)) (Nat.le_of_ble_eq_true rfl) rfl rfl rfl (Nat.le_of_ble_eq_true rfl) gX9_parted_X9_laysOrder rfl rfl 30 rfl dX9_parted_27 (fun d4 => ?_)
      refine r_aload_n 0 0 rfl rfl 31 rfl dX9_parted_30 ?_
      refine r_iload_n 1 1 rfl rfl 32 rfl dX9_parted_31 ?_
      refine r_iload_n 2 2 rfl rfl 33 rfl dX9_parted_32 ?_
      refine r_callV_I (c_X9_bunches (E := E) (l := l) (S := S) d4 o0 h0 x1 x2) ok_X9_bunches ⟨⟨(Nat.le_of_ble_eq_true rfl), (Nat.le_of_ble_eq_true rfl)⟩, (Nat.le_of_ble_eq_true rfl), (Nat.le_of_ble_eq_true rfl)⟩ (h0 0 (Nat.le_of_ble_eq_true rfl)) (Nat.le_of_ble_eq_true rfl) rfl rfl rfl (Nat.le_of_ble_eq_true rfl) gX9_parted_X9_bunches rfl rfl 36 rfl dX9_parted_33 (fun v5 => ?_)
      exact r_ireturn rfl rfl (Nat.le_of_ble_eq_true rfl) (Nat.le_of_ble_eq_true rfl) dX9_parted_36
    · refine r_iconst (-1) rfl 24 rfl dX9_parted_23 ?_
      exact r_ireturn rfl rfl (Nat.le_of_ble_eq_true rfl) (Nat.le_of_ble_eq_true rfl) dX9_parted_24
