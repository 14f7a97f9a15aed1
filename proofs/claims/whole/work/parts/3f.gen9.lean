/-! 3f.gen9: by gen/mk.py -/
def Y_X9_together : z_Y := (RX9, cX9_together, 3, wsX9_together, (some .int), { frames := 3, cells := 0, slots := 0, locals := 68 }, 0, 0)
theorem ok_X9_together : z_Ok yX9_together Y_X9_together 1 := ⟨⟨_, rfl⟩, rfl, rfl, rfl, by decide +kernel, by decide +kernel⟩
theorem w_X9_together_0 : Cond.fieldLink RX9 39 "BunchTimesModel" "thrown" "I" ∈ wsX9_together := by decide +kernel
theorem w_X9_together_1 : ∀ w ∈ u_ws RX9 TX9 18, w ∈ wsX9_together := by decide +kernel
def f_X9_together_L22_b (d : z_D) (o0 : Nat) (x1 : Int32) (K : Unit → Option (Int32 × z_D)) (R : Int32 → Option (Int32 × z_D)) (x2 : Int32) : Option (Int32 × z_D) := (if 100 ≤ x2 then (K ()) else ((f_X9_bunches d o0 x1 x2).bind fun v4 => (if v4 = 1 then (some (x2, d)) else (R (x2 + 1)))))
def f_X9_together_L22 (d : z_D) (o0 : Nat) (x1 : Int32) (K : Unit → Option (Int32 × z_D)) : Nat → Int32 → Option (Int32 × z_D)
  | 0 => fun _ => none
  | n + 1 => f_X9_together_L22_b d o0 x1 K (f_X9_together_L22 d o0 x1 K n)
set_option maxHeartbeats 4000000 in
set_option maxRecDepth 100000 in
theorem g_X9_together_L22 {E : z_E} {l : Launch} {S : z_S} {d : z_D} {o0 : Nat} {x1 : Int32} {K : Unit → Option (Int32 × z_D)} (h0 : A_Model S o0) (hK : ∀ y9 : Unit, z_G E l Y_X9_together (cvX S) (K y9) 46 [] [] (S, d) 0 0) : ∀ (n : Nat) (x2 : Int32), z_G E l Y_X9_together (cvX S) (f_X9_together_L22 d o0 x1 K n x2) 22 [(0, .ref (E.2.1 + o0)), (1, .int x1), (2, .int x2)] [] (S, d) 0 0 := by
  intro n
  induction n with
  | zero => intro _; exact r_none
  | succ n ih =>
    intro x2
    show z_G E l Y_X9_together (cvX S) (f_X9_together_L22_b d o0 x1 K (f_X9_together_L22 d o0 x1 K n) x2) 22 [(0, .ref (E.2.1 + o0)), (1, .int x1), (2, .int x2)] [] (S, d) 0 0
    unfold f_X9_together_L22_b
    refine r_iload_n 2 2 rfl rfl 23 rfl dX9_together_22 ?_
    refine r_bipush 100 rfl 25 rfl dX9_together_23 ?_
    refine r_icmp_ge 46 28 rfl rfl dX9_together_25 ?_ ?_
    · refine r_sub [] rfl ?_
      exact hK ()
    · refine r_aload_n 0 0 rfl rfl 29 rfl dX9_together_28 ?_
      refine r_iload_n 1 1 rfl rfl 30 rfl dX9_together_29 ?_
      refine r_iload_n 2 2 rfl rfl 31 rfl dX9_together_30 ?_
      refine r_callV_I (c_X9_bunches (E := E) (l := l) (S := S) d o0 h0 x1 x2) ok_X9_bunches ⟨⟨(Nat.le_of_ble_eq_true rfl), (Nat.le_of_ble_eq_true rfl)⟩, (Nat.le_of_ble_eq_true rfl), (Nat.le_of_ble_eq_true rfl)⟩ (h0 0 (Nat.le_of_ble_eq_true rfl)) (Nat.le_of_ble_eq_true rfl) rfl rfl rfl (Nat.le_of_ble_eq_true rfl) gX9_together_X9_bunches rfl rfl 34 rfl dX9_together_31 (fun v4 => ?_)
      refine r_iconst 1 rfl 35 rfl dX9_together_34 ?_
      refine r_icmp_ne 40 38 rfl rfl dX9_together_35 ?_ ?_
      · refine r_iinc (x2 + 1) 2 rfl rfl [(2, .int (x2 + 1)), (0, .ref (E.2.1 + o0)), (1, .int x1)] (Nat.le_of_ble_eq_true rfl) rfl 43 rfl dX9_together_40 ?_
        refine r_goto 22 rfl dX9_together_43 ?_
        refine r_sub [1, 2, 0] rfl ?_
        exact ih (x2 + 1)
      · refine r_iload_n 2 2 rfl rfl 39 rfl dX9_together_38 ?_
        exact r_ireturn rfl rfl (Nat.le_of_ble_eq_true rfl) (Nat.le_of_ble_eq_true rfl) dX9_together_39
def f_X9_together (d : z_D) (o0 : Nat) (x1 : Int32) : Option (Int32 × z_D) := z_put d o0 0 0 (fun d1 => ((f_X9_isClosed d1 o0 x1).bind fun v2 => (if v2 = 0 then (some ((-1), d1)) else ((f_X9_laysOrder d1 o0 x1).bind fun d3 => (f_X9_together_L22 d3 o0 x1 (fun _ => (some ((-1), d3))) z_N 1)))))
set_option maxHeartbeats 4000000 in
set_option maxRecDepth 100000 in
theorem c_X9_together {E : z_E} {l : Launch} {S : z_S} (d : z_D) (o0 : Nat) (h0 : A_Model S o0) (x1 : Int32) : z_Sp E l yX9_together Y_X9_together (cvX S) [.ref (E.2.1 + o0), .int x1] (S, d) (f_X9_together d o0 x1) := by
  refine z_entry (lv := [(0, .ref (E.2.1 + o0)), (1, .int x1)]) (by decide) rfl rfl (Nat.le_of_ble_eq_true rfl) rfl ?_
  unfold f_X9_together
  refine r_aload_n 0 0 rfl rfl 1 rfl dX9_together_0 ?_
  refine r_iconst 0 rfl 2 rfl dX9_together_1 ?_
  refine r_put (h0 0 (Nat.le_of_ble_eq_true rfl)) rfl (Nat.le_of_ble_eq_true rfl) rfl rfl w_X9_together_1 tyX9 tyX9_ok nmX9 (Nat.le_of_ble_eq_true rfl) rfl w_X9_together_0 rfl rfl rfl rfl rfl 5 rfl dX9_together_2 (fun d1 => ?_)
  refine r_aload_n 0 0 rfl rfl 6 rfl dX9_together_5 ?_
  refine r_iload_n 1 1 rfl rfl 7 rfl dX9_together_6 ?_
  refine r_callV_I (c_X9_isClosed (E := E) (l := l) (S := S) d1 o0 h0 x1) ok_X9_isClosed ⟨⟨(Nat.le_of_ble_eq_true rfl), (Nat.le_of_ble_eq_true rfl)⟩, (Nat.le_of_ble_eq_true rfl), (Nat.le_of_ble_eq_true rfl)⟩ (h0 0 (Nat.le_of_ble_eq_true rfl)) (Nat.le_of_ble_eq_true rfl) rfl rfl rfl (Nat.le_of_ble_eq_true rfl) gX9_together_X9_isClosed rfl rfl 10 rfl dX9_together_7 (fun v2 => ?_)
  refine r_if_ne 15 13 rfl rfl dX9_together_10 ?_ ?_
  · refine r_aload_n 0 0 rfl rfl 16 rfl dX9_together_15 ?_
    refine r_iload_n 1 1 rfl rfl 17 rfl dX9_together_16 ?_
    refine r_callV_V (c_X9_laysOrder (E := E) (l := l) (S := S) d1 o0 h0 x1) ok_X9_laysOrder ⟨⟨(Nat.le_of_ble_eq_true rfl), (Nat.le_of_ble_eq_true rfl)⟩, (Nat.le_of_ble_eq_true rfl), (Nat.le_of_ble_eq_true rfl)⟩ (h0 0 (Nat.le_of_ble_eq_true rfl)) (Nat.le_of_ble_eq_true rfl) rfl rfl rfl (Nat.le_of_ble_eq_true rfl) gX9_together_X9_laysOrder rfl rfl 20 rfl dX9_together_17 (fun d3 => ?_)
    refine r_iconst 1 rfl 21 rfl dX9_together_20 ?_
    refine r_istore_n 2 rfl [(2, .int 1), (0, .ref (E.2.1 + o0)), (1, .int x1)] (Nat.le_of_ble_eq_true rfl) rfl 22 rfl dX9_together_21 ?_
    refine r_sub [1, 2, 0] rfl ?_
    refine g_X9_together_L22 h0 (fun _ => ?_) z_N 1
    refine r_iconst (-1) rfl 47 rfl dX9_together_46 ?_
    exact r_ireturn rfl rfl (Nat.le_of_ble_eq_true rfl) (Nat.le_of_ble_eq_true rfl) dX9_together_47
  · refine r_iconst (-1) rfl 14 rfl dX9_together_13 ?_
    exact r_ireturn rfl rfl (Nat.le_of_ble_eq_true rfl) (Nat.le_of_ble_eq_true rfl) dX9_together_14
def Y_X9_escaped : z_Y := (RX9, cX9_escaped, 5, wsX9_escaped, (some .int), { frames := 3, cells := 0, slots := 0, locals := 67 }, 0, 0)
theorem ok_X9_escaped : z_Ok yX9_escaped Y_X9_escaped 1 := ⟨⟨_, rfl⟩, rfl, rfl, rfl, by decide +kernel, by decide +kernel⟩
theorem w_X9_escaped_0 : Cond.fieldLink RX9 39 "BunchTimesModel" "thrown" "I" ∈ wsX9_escaped := by decide +kernel
theorem w_X9_escaped_1 : ∀ w ∈ u_ws RX9 TX9 18, w ∈ wsX9_escaped := by decide +kernel
theorem w_X9_escaped_2 : Cond.fieldLink RX9 114 "BunchTimesModel" "orderMany" "I" ∈ wsX9_escaped := by decide +kernel
def f_X9_escaped_L27_b (d : z_D) (o0 : Nat) (x1 : Int32) (K : Int32 → Option (Int32 × z_D)) (R : Int32 → Int32 → Int32 → Option (Int32 × z_D)) (x2 : Int32) (x3 : Int32) (x4 : Int32) : Option (Int32 × z_D) := (if (d o0 6) ≤ x4 then (K x2) else ((f_X9_space d o0 x1 x4).bind fun v4 => (if x3 < v4 then ((f_X9_space d o0 x1 x4).bind fun v5 => (R x4 v5 (x4 + 1))) else (R x2 x3 (x4 + 1)))))
def f_X9_escaped_L27 (d : z_D) (o0 : Nat) (x1 : Int32) (K : Int32 → Option (Int32 × z_D)) : Nat → Int32 → Int32 → Int32 → Option (Int32 × z_D)
  | 0 => fun _ _ _ => none
  | n + 1 => f_X9_escaped_L27_b d o0 x1 K (f_X9_escaped_L27 d o0 x1 K n)
set_option maxHeartbeats 4000000 in
set_option maxRecDepth 100000 in
theorem g_X9_escaped_L27 {E : z_E} {l : Launch} {S : z_S} {d : z_D} {o0 : Nat} {x1 : Int32} {K : Int32 → Option (Int32 × z_D)} (h0 : A_Model S o0) (hK : ∀ (y2 : Int32), z_G E l Y_X9_escaped (cvX S) (K y2) 67 [(2, .int y2)] [] (S, d) 0 0) : ∀ (n : Nat) (x2 : Int32) (x3 : Int32) (x4 : Int32), z_G E l Y_X9_escaped (cvX S) (f_X9_escaped_L27 d o0 x1 K n x2 x3 x4) 27 [(0, .ref (E.2.1 + o0)), (1, .int x1), (2, .int x2), (3, .int x3), (4, .int x4)] [] (S, d) 0 0 := by
  intro n
  induction n with
  | zero => intro _ _ _; exact r_none
  | succ n ih =>
    intro x2 x3 x4
    show z_G E l Y_X9_escaped (cvX S) (f_X9_escaped_L27_b d o0 x1 K (f_X9_escaped_L27 d o0 x1 K n) x2 x3 x4) 27 [(0, .ref (E.2.1 + o0)), (1, .int x1), (2, .int x2), (3, .int x3), (4, .int x4)] [] (S, d) 0 0
    unfold f_X9_escaped_L27_b
    refine r_iload 4 4 rfl 29 rfl dX9_escaped_27 ?_
    refine r_aload_n 0 0 rfl rfl 30 rfl dX9_escaped_29 ?_
    refine r_get (h0 0 (Nat.le_of_ble_eq_true rfl)) rfl (Nat.le_of_ble_eq_true rfl) rfl rfl w_X9_escaped_1 6 (Nat.le_of_ble_eq_true rfl) rfl w_X9_escaped_2 (.int (d o0 6)) rfl 33 rfl dX9_escaped_30 ?_
    refine r_icmp_ge 67 36 rfl rfl dX9_escaped_33 ?_ ?_
    · refine r_sub [2] rfl ?_
      exact hK x2
    · refine r_aload_n 0 0 rfl rfl 37 rfl dX9_escaped_36 ?_
      refine r_iload_n 1 1 rfl rfl 38 rfl dX9_escaped_37 ?_
      refine r_iload 4 4 rfl 40 rfl dX9_escaped_38 ?_
      refine r_callV_I (c_X9_space (E := E) (l := l) (S := S) d o0 h0 x1 x4) ok_X9_space ⟨⟨(Nat.le_of_ble_eq_true rfl), (Nat.le_of_ble_eq_true rfl)⟩, (Nat.le_of_ble_eq_true rfl), (Nat.le_of_ble_eq_true rfl)⟩ (h0 0 (Nat.le_of_ble_eq_true rfl)) (Nat.le_of_ble_eq_true rfl) rfl rfl rfl (Nat.le_of_ble_eq_true rfl) gX9_escaped_X9_space rfl rfl 43 rfl dX9_escaped_40 (fun v4 => ?_)
      refine r_iload_n 3 3 rfl rfl 44 rfl dX9_escaped_43 ?_
      refine r_icmp_gt 50 47 rfl rfl dX9_escaped_44 ?_ ?_
      · refine r_aload_n 0 0 rfl rfl 51 rfl dX9_escaped_50 ?_
        refine r_iload_n 1 1 rfl rfl 52 rfl dX9_escaped_51 ?_
        refine r_iload 4 4 rfl 54 rfl dX9_escaped_52 ?_
        refine r_callV_I (c_X9_space (E := E) (l := l) (S := S) d o0 h0 x1 x4) ok_X9_space ⟨⟨(Nat.le_of_ble_eq_true rfl), (Nat.le_of_ble_eq_true rfl)⟩, (Nat.le_of_ble_eq_true rfl), (Nat.le_of_ble_eq_true rfl)⟩ (h0 0 (Nat.le_of_ble_eq_true rfl)) (Nat.le_of_ble_eq_true rfl) rfl rfl rfl (Nat.le_of_ble_eq_true rfl) gX9_escaped_X9_space rfl rfl 57 rfl dX9_escaped_54 (fun v5 => ?_)
        refine r_istore_n 3 rfl [(3, .int v5), (0, .ref (E.2.1 + o0)), (1, .int x1), (2, .int x2), (4, .int x4)] (Nat.le_of_ble_eq_true rfl) rfl 58 rfl dX9_escaped_57 ?_
        refine r_iload 4 4 rfl 60 rfl dX9_escaped_58 ?_
        refine r_istore_n 2 rfl [(2, .int x4), (3, .int v5), (0, .ref (E.2.1 + o0)), (1, .int x1), (4, .int x4)] (Nat.le_of_ble_eq_true rfl) rfl 61 rfl dX9_escaped_60 ?_
        refine r_iinc (x4 + 1) 4 rfl rfl [(4, .int (x4 + 1)), (2, .int x4), (3, .int v5), (0, .ref (E.2.1 + o0)), (1, .int x1)] (Nat.le_of_ble_eq_true rfl) rfl 64 rfl dX9_escaped_61 ?_
        refine r_goto 27 rfl dX9_escaped_64 ?_
        refine r_sub [3, 4, 1, 2, 0] rfl ?_
        exact ih x4 v5 (x4 + 1)
      · refine r_goto 61 rfl dX9_escaped_47 ?_
        refine r_iinc (x4 + 1) 4 rfl rfl [(4, .int (x4 + 1)), (0, .ref (E.2.1 + o0)), (1, .int x1), (2, .int x2), (3, .int x3)] (Nat.le_of_ble_eq_true rfl) rfl 64 rfl dX9_escaped_61 ?_
        refine r_goto 27 rfl dX9_escaped_64 ?_
        refine r_sub [1, 2, 3, 4, 0] rfl ?_
        exact ih x2 x3 (x4 + 1)
def f_X9_escaped (d : z_D) (o0 : Nat) (x1 : Int32) : Option (Int32 × z_D) := z_put d o0 0 0 (fun d1 => ((f_X9_isClosed d1 o0 x1).bind fun v2 => (if v2 = 0 then (some ((-1), d1)) else ((f_X9_laysOrder d1 o0 x1).bind fun d3 => (f_X9_escaped_L27 d3 o0 x1 (fun v6 => (some (v6, d3))) z_N (-1) (-1) 1)))))
set_option maxHeartbeats 4000000 in
set_option maxRecDepth 100000 in
theorem c_X9_escaped {E : z_E} {l : Launch} {S : z_S} (d : z_D) (o0 : Nat) (h0 : A_Model S o0) (x1 : Int32) : z_Sp E l yX9_escaped Y_X9_escaped (cvX S) [.ref (E.2.1 + o0), .int x1] (S, d) (f_X9_escaped d o0 x1) := by
  refine z_entry (lv := [(0, .ref (E.2.1 + o0)), (1, .int x1)]) (by decide) rfl rfl (Nat.le_of_ble_eq_true rfl) rfl ?_
  unfold f_X9_escaped
  refine r_aload_n 0 0 rfl rfl 1 rfl dX9_escaped_0 ?_
  refine r_iconst 0 rfl 2 rfl dX9_escaped_1 ?_
  refine r_put (h0 0 (Nat.le_of_ble_eq_true rfl)) rfl (Nat.le_of_ble_eq_true rfl) rfl rfl w_X9_escaped_1 tyX9 tyX9_ok nmX9 (Nat.le_of_ble_eq_true rfl) rfl w_X9_escaped_0 rfl rfl rfl rfl rfl 5 rfl dX9_escaped_2 (fun d1 => ?_)
  refine r_aload_n 0 0 rfl rfl 6 rfl dX9_escaped_5 ?_
  refine r_iload_n 1 1 rfl rfl 7 rfl dX9_escaped_6 ?_
  refine r_callV_I (c_X9_isClosed (E := E) (l := l) (S := S) d1 o0 h0 x1) ok_X9_isClosed ⟨⟨(Nat.le_of_ble_eq_true rfl), (Nat.le_of_ble_eq_true rfl)⟩, (Nat.le_of_ble_eq_true rfl), (Nat.le_of_ble_eq_true rfl)⟩ (h0 0 (Nat.le_of_ble_eq_true rfl)) (Nat.le_of_ble_eq_true rfl) rfl rfl rfl (Nat.le_of_ble_eq_true rfl) gX9_escaped_X9_isClosed rfl rfl 10 rfl dX9_escaped_7 (fun v2 => ?_)
  refine r_if_ne 15 13 rfl rfl dX9_escaped_10 ?_ ?_
  · refine r_aload_n 0 0 rfl rfl 16 rfl dX9_escaped_15 ?_
    refine r_iload_n 1 1 rfl rfl 17 rfl dX9_escaped_16 ?_
    refine r_callV_V (c_X9_laysOrder (E := E) (l := l) (S := S) d1 o0 h0 x1) ok_X9_laysOrder ⟨⟨(Nat.le_of_ble_eq_true rfl), (Nat.le_of_ble_eq_true rfl)⟩, (Nat.le_of_ble_eq_true rfl), (Nat.le_of_ble_eq_true rfl)⟩ (h0 0 (Nat.le_of_ble_eq_true rfl)) (Nat.le_of_ble_eq_true rfl) rfl rfl rfl (Nat.le_of_ble_eq_true rfl) gX9_escaped_X9_laysOrder rfl rfl 20 rfl dX9_escaped_17 (fun d3 => ?_)
    refine r_iconst (-1) rfl 21 rfl dX9_escaped_20 ?_
    refine r_istore_n 2 rfl [(2, .int (-1)), (0, .ref (E.2.1 + o0)), (1, .int x1)] (Nat.le_of_ble_eq_true rfl) rfl 22 rfl dX9_escaped_21 ?_
    refine r_iconst (-1) rfl 23 rfl dX9_escaped_22 ?_
    refine r_istore_n 3 rfl [(3, .int (-1)), (2, .int (-1)), (0, .ref (E.2.1 + o0)), (1, .int x1)] (Nat.le_of_ble_eq_true rfl) rfl 24 rfl dX9_escaped_23 ?_
    refine r_iconst 1 rfl 25 rfl dX9_escaped_24 ?_
    refine r_istore 4 [(4, .int 1), (3, .int (-1)), (2, .int (-1)), (0, .ref (E.2.1 + o0)), (1, .int x1)] (Nat.le_of_ble_eq_true rfl) rfl 27 rfl dX9_escaped_25 ?_
    refine r_sub [3, 4, 2, 1, 0] rfl ?_
    refine g_X9_escaped_L27 h0 (fun v6 => ?_) z_N (-1) (-1) 1
    refine r_iload_n 2 0 rfl rfl 68 rfl dX9_escaped_67 ?_
    exact r_ireturn rfl rfl (Nat.le_of_ble_eq_true rfl) (Nat.le_of_ble_eq_true rfl) dX9_escaped_68
  · refine r_iconst (-1) rfl 14 rfl dX9_escaped_13 ?_
    exact r_ireturn rfl rfl (Nat.le_of_ble_eq_true rfl) (Nat.le_of_ble_eq_true rfl) dX9_escaped_14
def Y_X9_totalBut : z_Y := (RX9, cX9_totalBut, 5, wsX9_totalBut, (some .int), { frames := 2, cells := 0, slots := 0, locals := 44 }, 0, 0)
theorem ok_X9_totalBut : z_Ok yX9_totalBut Y_X9_totalBut 2 := ⟨⟨_, rfl⟩, rfl, rfl, rfl, by decide +kernel, by decide +kernel⟩
theorem w_X9_totalBut_0 : Cond.fieldLink RX9 7 "BunchTimesModel" "row" "[I" ∈ wsX9_totalBut := by decide +kernel
theorem w_X9_totalBut_1 : ∀ w ∈ u_ws RX9 TX9 18, w ∈ wsX9_totalBut := by decide +kernel
def f_X9_totalBut_L5_b (d : z_D) (o0 : Nat) (x1 : Int32) (x2 : Int32) (K : Int32 → Option Int32) (R : Int32 → Int32 → Option Int32) (x3 : Int32) (x4 : Int32) : Option Int32 := ((f_X9_closedMany d o0).bind fun v1 => (if v1 ≤ x4 then (K x3) else (if x4 = x2 then (R x3 (x4 + 1)) else ((f_X9_hasFinish d o0 x4 x1).bind fun v2 => (if v2 = 0 then ((f_X9_at x4 9).bind fun v3 => z_ald d (o0 + 1) 2656 v3 (fun v4 => z_nam (x3 + v4) (fun v5 => (R v5 (x4 + 1))))) else ((f_X9_at_ x4 x1 6).bind fun v6 => z_ald d (o0 + 1) 2656 v6 (fun v7 => ((f_X9_at_ x4 x1 3).bind fun v8 => z_ald d (o0 + 1) 2656 v8 (fun v9 => ((f_X9_at_ x4 x1 9).bind fun v10 => z_ald d (o0 + 1) 2656 v10 (fun v11 => z_nam (x3 + ((v7 + v9) - v11)) (fun v12 => (R v12 (x4 + 1))))))))))))))
def f_X9_totalBut_L5 (d : z_D) (o0 : Nat) (x1 : Int32) (x2 : Int32) (K : Int32 → Option Int32) : Nat → Int32 → Int32 → Option Int32
  | 0 => fun _ _ => none
  | n + 1 => f_X9_totalBut_L5_b d o0 x1 x2 K (f_X9_totalBut_L5 d o0 x1 x2 K n)
set_option maxHeartbeats 4000000 in
set_option maxRecDepth 100000 in
theorem g_X9_totalBut_L5 {E : z_E} {l : Launch} {S : z_S} {d : z_D} {o0 : Nat} {x1 : Int32} {x2 : Int32} {K : Int32 → Option Int32} (h0 : A_Model S o0) (hK : ∀ (y3 : Int32), z_G E l Y_X9_totalBut (cvI S d) (K y3) 97 [(3, .int y3)] [] (S, d) 0 0) : ∀ (n : Nat) (x3 : Int32) (x4 : Int32), z_G E l Y_X9_totalBut (cvI S d) (f_X9_totalBut_L5 d o0 x1 x2 K n x3 x4) 5 [(0, .ref (E.2.1 + o0)), (1, .int x1), (2, .int x2), (3, .int x3), (4, .int x4)] [] (S, d) 0 0 := by
  intro n
  induction n with
  | zero => intro _ _; exact r_none
  | succ n ih =>
    intro x3 x4
    show z_G E l Y_X9_totalBut (cvI S d) (f_X9_totalBut_L5_b d o0 x1 x2 K (f_X9_totalBut_L5 d o0 x1 x2 K n) x3 x4) 5 [(0, .ref (E.2.1 + o0)), (1, .int x1), (2, .int x2), (3, .int x3), (4, .int x4)] [] (S, d) 0 0
    unfold f_X9_totalBut_L5_b
    refine r_iload 4 4 rfl 7 rfl dX9_totalBut_5 ?_
    refine r_aload_n 0 0 rfl rfl 8 rfl dX9_totalBut_7 ?_
    refine r_callV_I (c_X9_closedMany (E := E) (l := l) (S := S) d o0 h0) ok_X9_closedMany ⟨⟨(Nat.le_of_ble_eq_true rfl), (Nat.le_of_ble_eq_true rfl)⟩, (Nat.le_of_ble_eq_true rfl), (Nat.le_of_ble_eq_true rfl)⟩ (h0 0 (Nat.le_of_ble_eq_true rfl)) (Nat.le_of_ble_eq_true rfl) rfl rfl rfl (Nat.le_of_ble_eq_true rfl) gX9_totalBut_X9_closedMany rfl rfl 11 rfl dX9_totalBut_8 (fun v1 => ?_)
    refine r_icmp_ge 97 14 rfl rfl dX9_totalBut_11 ?_ ?_
    · refine r_sub [3] rfl ?_
      exact hK x3
    · refine r_iload 4 4 rfl 16 rfl dX9_totalBut_14 ?_
      refine r_iload_n 2 2 rfl rfl 17 rfl dX9_totalBut_16 ?_
      refine r_icmp_ne 23 20 rfl rfl dX9_totalBut_17 ?_ ?_
      · refine r_iload_n 3 3 rfl rfl 24 rfl dX9_totalBut_23 ?_
        refine r_aload_n 0 0 rfl rfl 25 rfl dX9_totalBut_24 ?_
        refine r_iload 4 4 rfl 27 rfl dX9_totalBut_25 ?_
        refine r_iload_n 1 1 rfl rfl 28 rfl dX9_totalBut_27 ?_
        refine r_callV_I (c_X9_hasFinish (E := E) (l := l) (S := S) d o0 h0 x4 x1) ok_X9_hasFinish ⟨⟨(Nat.le_of_ble_eq_true rfl), (Nat.le_of_ble_eq_true rfl)⟩, (Nat.le_of_ble_eq_true rfl), (Nat.le_of_ble_eq_true rfl)⟩ (h0 0 (Nat.le_of_ble_eq_true rfl)) (Nat.le_of_ble_eq_true rfl) rfl rfl rfl (Nat.le_of_ble_eq_true rfl) gX9_totalBut_X9_hasFinish rfl rfl 31 rfl dX9_totalBut_28 (fun v2 => ?_)
        refine r_if_eq 77 34 rfl rfl dX9_totalBut_31 ?_ ?_
        · refine r_aload_n 0 0 rfl rfl 78 rfl dX9_totalBut_77 ?_
          refine r_get (h0 0 (Nat.le_of_ble_eq_true rfl)) rfl (Nat.le_of_ble_eq_true rfl) rfl rfl w_X9_totalBut_1 1 (Nat.le_of_ble_eq_true rfl) rfl w_X9_totalBut_0 (.ref (E.2.1 + (o0 + 1))) rfl 81 rfl dX9_totalBut_78 ?_
          refine r_iload 4 4 rfl 83 rfl dX9_totalBut_81 ?_
          refine r_bipush 9 rfl 85 rfl dX9_totalBut_83 ?_
          refine r_callS_I (c_X9_at (E := E) (l := l) (S := S) d x4 9) ok_X9_at ⟨⟨(Nat.le_of_ble_eq_true rfl), (Nat.le_of_ble_eq_true rfl)⟩, (Nat.le_of_ble_eq_true rfl), (Nat.le_of_ble_eq_true rfl)⟩ rfl (Nat.le_of_ble_eq_true rfl) gX9_totalBut_X9_at rfl rfl 88 rfl dX9_totalBut_85 (fun v3 => ?_)
          refine r_iald (h0 1 (Nat.le_of_ble_eq_true rfl)) rfl rfl 89 rfl dX9_totalBut_88 (fun v4 => ?_)
          refine r_iadd 90 rfl dX9_totalBut_89 ?_
          refine r_nami (fun v5 => ?_)
          refine r_istore_n 3 rfl [(3, .int v5), (0, .ref (E.2.1 + o0)), (1, .int x1), (2, .int x2), (4, .int x4)] (Nat.le_of_ble_eq_true rfl) rfl 91 rfl dX9_totalBut_90 ?_
          refine r_iinc (x4 + 1) 4 rfl rfl [(4, .int (x4 + 1)), (3, .int v5), (0, .ref (E.2.1 + o0)), (1, .int x1), (2, .int x2)] (Nat.le_of_ble_eq_true rfl) rfl 94 rfl dX9_totalBut_91 ?_
          refine r_goto 5 rfl dX9_totalBut_94 ?_
          refine r_sub [2, 3, 4, 1, 0] rfl ?_
          exact ih v5 (x4 + 1)
        · refine r_aload_n 0 0 rfl rfl 35 rfl dX9_totalBut_34 ?_
          refine r_get (h0 0 (Nat.le_of_ble_eq_true rfl)) rfl (Nat.le_of_ble_eq_true rfl) rfl rfl w_X9_totalBut_1 1 (Nat.le_of_ble_eq_true rfl) rfl w_X9_totalBut_0 (.ref (E.2.1 + (o0 + 1))) rfl 38 rfl dX9_totalBut_35 ?_
          refine r_iload 4 4 rfl 40 rfl dX9_totalBut_38 ?_
          refine r_iload_n 1 1 rfl rfl 41 rfl dX9_totalBut_40 ?_
          refine r_bipush 6 rfl 43 rfl dX9_totalBut_41 ?_
          refine r_callS_I (c_X9_at_ (E := E) (l := l) (S := S) d x4 x1 6) ok_X9_at_ ⟨⟨(Nat.le_of_ble_eq_true rfl), (Nat.le_of_ble_eq_true rfl)⟩, (Nat.le_of_ble_eq_true rfl), (Nat.le_of_ble_eq_true rfl)⟩ rfl (Nat.le_of_ble_eq_true rfl) gX9_totalBut_X9_at_ rfl rfl 46 rfl dX9_totalBut_43 (fun v6 => ?_)
          refine r_iald (h0 1 (Nat.le_of_ble_eq_true rfl)) rfl rfl 47 rfl dX9_totalBut_46 (fun v7 => ?_)
          refine r_aload_n 0 0 rfl rfl 48 rfl dX9_totalBut_47 ?_
          refine r_get (h0 0 (Nat.le_of_ble_eq_true rfl)) rfl (Nat.le_of_ble_eq_true rfl) rfl rfl w_X9_totalBut_1 1 (Nat.le_of_ble_eq_true rfl) rfl w_X9_totalBut_0 (.ref (E.2.1 + (o0 + 1))) rfl 51 rfl dX9_totalBut_48 ?_
          refine r_iload 4 4 rfl 53 rfl dX9_totalBut_51 ?_
          refine r_iload_n 1 1 rfl rfl 54 rfl dX9_totalBut_53 ?_
          refine r_iconst 3 rfl 55 rfl dX9_totalBut_54 ?_
          refine r_callS_I (c_X9_at_ (E := E) (l := l) (S := S) d x4 x1 3) ok_X9_at_ ⟨⟨(Nat.le_of_ble_eq_true rfl), (Nat.le_of_ble_eq_true rfl)⟩, (Nat.le_of_ble_eq_true rfl), (Nat.le_of_ble_eq_true rfl)⟩ rfl (Nat.le_of_ble_eq_true rfl) gX9_totalBut_X9_at_ rfl rfl 58 rfl dX9_totalBut_55 (fun v8 => ?_)
          refine r_iald (h0 1 (Nat.le_of_ble_eq_true rfl)) rfl rfl 59 rfl dX9_totalBut_58 (fun v9 => ?_)
          refine r_iadd 60 rfl dX9_totalBut_59 ?_
          refine r_aload_n 0 0 rfl rfl 61 rfl dX9_totalBut_60 ?_
          refine r_get (h0 0 (Nat.le_of_ble_eq_true rfl)) rfl (Nat.le_of_ble_eq_true rfl) rfl rfl w_X9_totalBut_1 1 (Nat.le_of_ble_eq_true rfl) rfl w_X9_totalBut_0 (.ref (E.2.1 + (o0 + 1))) rfl 64 rfl dX9_totalBut_61 ?_
          refine r_iload 4 4 rfl 66 rfl dX9_totalBut_64 ?_
          refine r_iload_n 1 1 rfl rfl 67 rfl dX9_totalBut_66 ?_
          refine r_bipush 9 rfl 69 rfl dX9_totalBut_67 ?_
          refine r_callS_I (c_X9_at_ (E := E) (l := l) (S := S) d x4 x1 9) ok_X9_at_ ⟨⟨(Nat.le_of_ble_eq_true rfl), (Nat.le_of_ble_eq_true rfl)⟩, (Nat.le_of_ble_eq_true rfl), (Nat.le_of_ble_eq_true rfl)⟩ rfl (Nat.le_of_ble_eq_true rfl) gX9_totalBut_X9_at_ rfl rfl 72 rfl dX9_totalBut_69 (fun v10 => ?_)
          refine r_iald (h0 1 (Nat.le_of_ble_eq_true rfl)) rfl rfl 73 rfl dX9_totalBut_72 (fun v11 => ?_)
          refine r_isub 74 rfl dX9_totalBut_73 ?_
          refine r_goto 89 rfl dX9_totalBut_74 ?_
          refine r_iadd 90 rfl dX9_totalBut_89 ?_
          refine r_nami (fun v12 => ?_)
          refine r_istore_n 3 rfl [(3, .int v12), (0, .ref (E.2.1 + o0)), (1, .int x1), (2, .int x2), (4, .int x4)] (Nat.le_of_ble_eq_true rfl) rfl 91 rfl dX9_totalBut_90 ?_
          refine r_iinc (x4 + 1) 4 rfl rfl [(4, .int (x4 + 1)), (3, .int v12), (0, .ref (E.2.1 + o0)), (1, .int x1), (2, .int x2)] (Nat.le_of_ble_eq_true rfl) rfl 94 rfl dX9_totalBut_91 ?_
          refine r_goto 5 rfl dX9_totalBut_94 ?_
          refine r_sub [2, 3, 4, 1, 0] rfl ?_
          exact ih v12 (x4 + 1)
      · refine r_goto 91 rfl dX9_totalBut_20 ?_
        refine r_iinc (x4 + 1) 4 rfl rfl [(4, .int (x4 + 1)), (0, .ref (E.2.1 + o0)), (1, .int x1), (2, .int x2), (3, .int x3)] (Nat.le_of_ble_eq_true rfl) rfl 94 rfl dX9_totalBut_91 ?_
        refine r_goto 5 rfl dX9_totalBut_94 ?_
        refine r_sub [1, 2, 3, 4, 0] rfl ?_
        exact ih x3 (x4 + 1)
def f_X9_totalBut (d : z_D) (o0 : Nat) (x1 : Int32) (x2 : Int32) : Option Int32 := (f_X9_totalBut_L5 d o0 x1 x2 (fun v13 => (some v13)) z_N 0 0)
set_option maxHeartbeats 4000000 in
set_option maxRecDepth 100000 in
theorem c_X9_totalBut {E : z_E} {l : Launch} {S : z_S} (d : z_D) (o0 : Nat) (h0 : A_Model S o0) (x1 : Int32) (x2 : Int32) : z_Sp E l yX9_totalBut Y_X9_totalBut (cvI S d) [.ref (E.2.1 + o0), .int x1, .int x2] (S, d) (f_X9_totalBut d o0 x1 x2) := by
  refine z_entry (lv := [(0, .ref (E.2.1 + o0)), (1, .int x1), (2, .int x2)]) (by decide) rfl rfl (Nat.le_of_ble_eq_true rfl) rfl ?_
  unfold f_X9_totalBut
  refine r_iconst 0 rfl 1 rfl dX9_totalBut_0 ?_
  refine r_istore_n 3 rfl [(3, .int 0), (0, .ref (E.2.1 + o0)), (1, .int x1), (2, .int x2)] (Nat.le_of_ble_eq_true rfl) rfl 2 rfl dX9_totalBut_1 ?_
  refine r_iconst 0 rfl 3 rfl dX9_totalBut_2 ?_
  refine r_istore 4 [(4, .int 0), (3, .int 0), (0, .ref (E.2.1 + o0)), (1, .int x1), (2, .int x2)] (Nat.le_of_ble_eq_true rfl) rfl 5 rfl dX9_totalBut_3 ?_
  refine r_sub [2, 3, 4, 1, 0] rfl ?_
  refine g_X9_totalBut_L5 h0 (fun v13 => ?_) z_N 0 0
  refine r_iload_n 3 0 rfl rfl 98 rfl dX9_totalBut_97 ?_
  exact r_ireturn rfl rfl (Nat.le_of_ble_eq_true rfl) (Nat.le_of_ble_eq_true rfl) dX9_totalBut_98
def Y_X9_placesBut : z_Y := (RX9, cX9_placesBut, 5, wsX9_placesBut, (some .int), { frames := 2, cells := 0, slots := 0, locals := 44 }, 0, 0)
theorem ok_X9_placesBut : z_Ok yX9_placesBut Y_X9_placesBut 2 := ⟨⟨_, rfl⟩, rfl, rfl, rfl, by decide +kernel, by decide +kernel⟩
theorem w_X9_placesBut_0 : Cond.fieldLink RX9 7 "BunchTimesModel" "row" "[I" ∈ wsX9_placesBut := by decide +kernel
theorem w_X9_placesBut_1 : ∀ w ∈ u_ws RX9 TX9 18, w ∈ wsX9_placesBut := by decide +kernel
def f_X9_placesBut_L5_b (d : z_D) (o0 : Nat) (x1 : Int32) (x2 : Int32) (K : Int32 → Option Int32) (R : Int32 → Int32 → Option Int32) (x3 : Int32) (x4 : Int32) : Option Int32 := ((f_X9_closedMany d o0).bind fun v1 => (if v1 ≤ x4 then (K x3) else (if x4 = x2 then z_nam (x3 + 0) (fun v7 => (R v7 (x4 + 1))) else ((f_X9_hasFinish d o0 x4 x1).bind fun v2 => (if v2 = 0 then z_nam (x3 + 99) (fun v3 => (R v3 (x4 + 1))) else ((f_X9_at_ x4 x1 8).bind fun v4 => z_ald d (o0 + 1) 2656 v4 (fun v5 => z_nam (x3 + v5) (fun v6 => (R v6 (x4 + 1))))))))))
def f_X9_placesBut_L5 (d : z_D) (o0 : Nat) (x1 : Int32) (x2 : Int32) (K : Int32 → Option Int32) : Nat → Int32 → Int32 → Option Int32
  | 0 => fun _ _ => none
  | n + 1 => f_X9_placesBut_L5_b d o0 x1 x2 K (f_X9_placesBut_L5 d o0 x1 x2 K n)
set_option maxHeartbeats 4000000 in
set_option maxRecDepth 100000 in
theorem g_X9_placesBut_L5 {E : z_E} {l : Launch} {S : z_S} {d : z_D} {o0 : Nat} {x1 : Int32} {x2 : Int32} {K : Int32 → Option Int32} (h0 : A_Model S o0) (hK : ∀ (y3 : Int32), z_G E l Y_X9_placesBut (cvI S d) (K y3) 61 [(3, .int y3)] [] (S, d) 0 0) : ∀ (n : Nat) (x3 : Int32) (x4 : Int32), z_G E l Y_X9_placesBut (cvI S d) (f_X9_placesBut_L5 d o0 x1 x2 K n x3 x4) 5 [(0, .ref (E.2.1 + o0)), (1, .int x1), (2, .int x2), (3, .int x3), (4, .int x4)] [] (S, d) 0 0 := by
  intro n
  induction n with
  | zero => intro _ _; exact r_none
  | succ n ih =>
    intro x3 x4
    show z_G E l Y_X9_placesBut (cvI S d) (f_X9_placesBut_L5_b d o0 x1 x2 K (f_X9_placesBut_L5 d o0 x1 x2 K n) x3 x4) 5 [(0, .ref (E.2.1 + o0)), (1, .int x1), (2, .int x2), (3, .int x3), (4, .int x4)] [] (S, d) 0 0
    unfold f_X9_placesBut_L5_b
    refine r_iload 4 4 rfl 7 rfl dX9_placesBut_5 ?_
    refine r_aload_n 0 0 rfl rfl 8 rfl dX9_placesBut_7 ?_
    refine r_callV_I (c_X9_closedMany (E := E) (l := l) (S := S) d o0 h0) ok_X9_closedMany ⟨⟨(Nat.le_of_ble_eq_true rfl), (Nat.le_of_ble_eq_true rfl)⟩, (Nat.le_of_ble_eq_true rfl), (Nat.le_of_ble_eq_true rfl)⟩ (h0 0 (Nat.le_of_ble_eq_true rfl)) (Nat.le_of_ble_eq_true rfl) rfl rfl rfl (Nat.le_of_ble_eq_true rfl) gX9_placesBut_X9_closedMany rfl rfl 11 rfl dX9_placesBut_8 (fun v1 => ?_)
    refine r_icmp_ge 61 14 rfl rfl dX9_placesBut_11 ?_ ?_
    · refine r_sub [3] rfl ?_
      exact hK x3
    · refine r_iload_n 3 3 rfl rfl 15 rfl dX9_placesBut_14 ?_
      refine r_iload 4 4 rfl 17 rfl dX9_placesBut_15 ?_
      refine r_iload_n 2 2 rfl rfl 18 rfl dX9_placesBut_17 ?_
      refine r_icmp_ne 25 21 rfl rfl dX9_placesBut_18 ?_ ?_
      · refine r_aload_n 0 0 rfl rfl 26 rfl dX9_placesBut_25 ?_
        refine r_iload 4 4 rfl 28 rfl dX9_placesBut_26 ?_
        refine r_iload_n 1 1 rfl rfl 29 rfl dX9_placesBut_28 ?_
        refine r_callV_I (c_X9_hasFinish (E := E) (l := l) (S := S) d o0 h0 x4 x1) ok_X9_hasFinish ⟨⟨(Nat.le_of_ble_eq_true rfl), (Nat.le_of_ble_eq_true rfl)⟩, (Nat.le_of_ble_eq_true rfl), (Nat.le_of_ble_eq_true rfl)⟩ (h0 0 (Nat.le_of_ble_eq_true rfl)) (Nat.le_of_ble_eq_true rfl) rfl rfl rfl (Nat.le_of_ble_eq_true rfl) gX9_placesBut_X9_hasFinish rfl rfl 32 rfl dX9_placesBut_29 (fun v2 => ?_)
        refine r_if_eq 51 35 rfl rfl dX9_placesBut_32 ?_ ?_
        · refine r_bipush 99 rfl 53 rfl dX9_placesBut_51 ?_
          refine r_iadd 54 rfl dX9_placesBut_53 ?_
          refine r_nami (fun v3 => ?_)
          refine r_istore_n 3 rfl [(3, .int v3), (0, .ref (E.2.1 + o0)), (1, .int x1), (2, .int x2), (4, .int x4)] (Nat.le_of_ble_eq_true rfl) rfl 55 rfl dX9_placesBut_54 ?_
          refine r_iinc (x4 + 1) 4 rfl rfl [(4, .int (x4 + 1)), (3, .int v3), (0, .ref (E.2.1 + o0)), (1, .int x1), (2, .int x2)] (Nat.le_of_ble_eq_true rfl) rfl 58 rfl dX9_placesBut_55 ?_
          refine r_goto 5 rfl dX9_placesBut_58 ?_
          refine r_sub [2, 3, 4, 1, 0] rfl ?_
          exact ih v3 (x4 + 1)
        · refine r_aload_n 0 0 rfl rfl 36 rfl dX9_placesBut_35 ?_
          refine r_get (h0 0 (Nat.le_of_ble_eq_true rfl)) rfl (Nat.le_of_ble_eq_true rfl) rfl rfl w_X9_placesBut_1 1 (Nat.le_of_ble_eq_true rfl) rfl w_X9_placesBut_0 (.ref (E.2.1 + (o0 + 1))) rfl 39 rfl dX9_placesBut_36 ?_
          refine r_iload 4 4 rfl 41 rfl dX9_placesBut_39 ?_
          refine r_iload_n 1 1 rfl rfl 42 rfl dX9_placesBut_41 ?_
          refine r_bipush 8 rfl 44 rfl dX9_placesBut_42 ?_
          refine r_callS_I (c_X9_at_ (E := E) (l := l) (S := S) d x4 x1 8) ok_X9_at_ ⟨⟨(Nat.le_of_ble_eq_true rfl), (Nat.le_of_ble_eq_true rfl)⟩, (Nat.le_of_ble_eq_true rfl), (Nat.le_of_ble_eq_true rfl)⟩ rfl (Nat.le_of_ble_eq_true rfl) gX9_placesBut_X9_at_ rfl rfl 47 rfl dX9_placesBut_44 (fun v4 => ?_)
          refine r_iald (h0 1 (Nat.le_of_ble_eq_true rfl)) rfl rfl 48 rfl dX9_placesBut_47 (fun v5 => ?_)
          refine r_goto 53 rfl dX9_placesBut_48 ?_
          refine r_iadd 54 rfl dX9_placesBut_53 ?_
          refine r_nami (fun v6 => ?_)
          refine r_istore_n 3 rfl [(3, .int v6), (0, .ref (E.2.1 + o0)), (1, .int x1), (2, .int x2), (4, .int x4)] (Nat.le_of_ble_eq_true rfl) rfl 55 rfl dX9_placesBut_54 ?_
          refine r_iinc (x4 + 1) 4 rfl rfl [(4, .int (x4 + 1)), (3, .int v6), (0, .ref (E.2.1 + o0)), (1, .int x1), (2, .int x2)] (Nat.le_of_ble_eq_true rfl) rfl 58 rfl dX9_placesBut_55 ?_
          refine r_goto 5 rfl dX9_placesBut_58 ?_
          refine r_sub [2, 3, 4, 1, 0] rfl ?_
          exact ih v6 (x4 + 1)
      · refine r_iconst 0 rfl 22 rfl dX9_placesBut_21 ?_
        refine r_goto 53 rfl dX9_placesBut_22 ?_
        refine r_iadd 54 rfl dX9_placesBut_53 ?_
        refine r_nami (fun v7 => ?_)
        refine r_istore_n 3 rfl [(3, .int v7), (0, .ref (E.2.1 + o0)), (1, .int x1), (2, .int x2), (4, .int x4)] (Nat.le_of_ble_eq_true rfl) rfl 55 rfl dX9_placesBut_54 ?_
        refine r_iinc (x4 + 1) 4 rfl rfl [(4, .int (x4 + 1)), (3, .int v7), (0, .ref (E.2.1 + o0)), (1, .int x1), (2, .int x2)] (Nat.le_of_ble_eq_true rfl) rfl 58 rfl dX9_placesBut_55 ?_
        refine r_goto 5 rfl dX9_placesBut_58 ?_
        refine r_sub [2, 3, 4, 1, 0] rfl ?_
        exact ih v7 (x4 + 1)
def f_X9_placesBut (d : z_D) (o0 : Nat) (x1 : Int32) (x2 : Int32) : Option Int32 := (f_X9_placesBut_L5 d o0 x1 x2 (fun v8 => (some v8)) z_N 0 0)
set_option maxHeartbeats 4000000 in
set_option maxRecDepth 100000 in
theorem c_X9_placesBut {E : z_E} {l : Launch} {S : z_S} (d : z_D) (o0 : Nat) (h0 : A_Model S o0) (x1 : Int32) (x2 : Int32) : z_Sp E l yX9_placesBut Y_X9_placesBut (cvI S d) [.ref (E.2.1 + o0), .int x1, .int x2] (S, d) (f_X9_placesBut d o0 x1 x2) := by
  refine z_entry (lv := [(0, .ref (E.2.1 + o0)), (1, .int x1), (2, .int x2)]) (by decide) rfl rfl (Nat.le_of_ble_eq_true rfl) rfl ?_
  unfold f_X9_placesBut
  refine r_iconst 0 rfl 1 rfl dX9_placesBut_0 ?_
  refine r_istore_n 3 rfl [(3, .int 0), (0, .ref (E.2.1 + o0)), (1, .int x1), (2, .int x2)] (Nat.le_of_ble_eq_true rfl) rfl 2 rfl dX9_placesBut_1 ?_
  refine r_iconst 0 rfl 3 rfl dX9_placesBut_2 ?_
  refine r_istore 4 [(4, .int 0), (3, .int 0), (0, .ref (E.2.1 + o0)), (1, .int x1), (2, .int x2)] (Nat.le_of_ble_eq_true rfl) rfl 5 rfl dX9_placesBut_3 ?_
  refine r_sub [2, 3, 4, 1, 0] rfl ?_
  refine g_X9_placesBut_L5 h0 (fun v8 => ?_) z_N 0 0
  refine r_iload_n 3 0 rfl rfl 62 rfl dX9_placesBut_61 ?_
  exact r_ireturn rfl rfl (Nat.le_of_ble_eq_true rfl) (Nat.le_of_ble_eq_true rfl) dX9_placesBut_62
def Y_X9_isAhead : z_Y := (RX9, cX9_isAhead, 9, wsX9_isAhead, (some .boolean), { frames := 3, cells := 0, slots := 0, locals := 68 }, 0, 0)
theorem ok_X9_isAhead : z_Ok yX9_isAhead Y_X9_isAhead 4 := ⟨⟨_, rfl⟩, rfl, rfl, rfl, by decide +kernel, by decide +kernel⟩
def f_X9_isAhead (d : z_D) (o0 : Nat) (x1 : Int32) (x2 : Int32) (x3 : Int32) (x4 : Int32) : Option Int32 := ((f_X9_totalBut d o0 x1 x4).bind fun v1 => z_nam (v1 - x3) (fun v2 => ((f_X9_totalBut d o0 x2 x4).bind fun v3 => (if v2 = v3 then ((f_X9_placesBut d o0 x1 x4).bind fun v4 => ((f_X9_placesBut d o0 x2 x4).bind fun v5 => (if v4 = v5 then (if x2 ≤ x1 then (some 0) else (some 1)) else (if v5 ≤ v4 then (some 0) else (some 1))))) else (if v3 ≤ v2 then (some 0) else (some 1))))))
set_option maxHeartbeats 4000000 in
set_option maxRecDepth 100000 in
theorem c_X9_isAhead {E : z_E} {l : Launch} {S : z_S} (d : z_D) (o0 : Nat) (h0 : A_Model S o0) (x1 : Int32) (x2 : Int32) (x3 : Int32) (x4 : Int32) : z_Sp E l yX9_isAhead Y_X9_isAhead (cvI S d) [.ref (E.2.1 + o0), .int x1, .int x2, .int x3, .int x4] (S, d) (f_X9_isAhead d o0 x1 x2 x3 x4) := by
  refine z_entry (lv := [(0, .ref (E.2.1 + o0)), (1, .int x1), (2, .int x2), (3, .int x3), (4, .int x4)]) (by decide) rfl rfl (Nat.le_of_ble_eq_true rfl) rfl ?_
  unfold f_X9_isAhead
  refine r_aload_n 0 0 rfl rfl 1 rfl dX9_isAhead_0 ?_
  refine r_iload_n 1 1 rfl rfl 2 rfl dX9_isAhead_1 ?_
  refine r_iload 4 4 rfl 4 rfl dX9_isAhead_2 ?_
  refine r_callV_I (c_X9_totalBut (E := E) (l := l) (S := S) d o0 h0 x1 x4) ok_X9_totalBut ⟨⟨(Nat.le_of_ble_eq_true rfl), (Nat.le_of_ble_eq_true rfl)⟩, (Nat.le_of_ble_eq_true rfl), (Nat.le_of_ble_eq_true rfl)⟩ (h0 0 (Nat.le_of_ble_eq_true rfl)) (Nat.le_of_ble_eq_true rfl) rfl rfl rfl (Nat.le_of_ble_eq_true rfl) gX9_isAhead_X9_totalBut rfl rfl 7 rfl dX9_isAhead_4 (fun v1 => ?_)
  refine r_iload_n 3 3 rfl rfl 8 rfl dX9_isAhead_7 ?_
  refine r_isub 9 rfl dX9_isAhead_8 ?_
  refine r_nami (fun v2 => ?_)
  refine r_istore 5 [(5, .int v2), (0, .ref (E.2.1 + o0)), (1, .int x1), (2, .int x2), (3, .int x3), (4, .int x4)] (Nat.le_of_ble_eq_true rfl) rfl 11 rfl dX9_isAhead_9 ?_
  refine r_aload_n 0 1 rfl rfl 12 rfl dX9_isAhead_11 ?_
  refine r_iload_n 2 3 rfl rfl 13 rfl dX9_isAhead_12 ?_
  refine r_iload 4 5 rfl 15 rfl dX9_isAhead_13 ?_
  refine r_callV_I (c_X9_totalBut (E := E) (l := l) (S := S) d o0 h0 x2 x4) ok_X9_totalBut ⟨⟨(Nat.le_of_ble_eq_true rfl), (Nat.le_of_ble_eq_true rfl)⟩, (Nat.le_of_ble_eq_true rfl), (Nat.le_of_ble_eq_true rfl)⟩ (h0 0 (Nat.le_of_ble_eq_true rfl)) (Nat.le_of_ble_eq_true rfl) rfl rfl rfl (Nat.le_of_ble_eq_true rfl) gX9_isAhead_X9_totalBut rfl rfl 18 rfl dX9_isAhead_15 (fun v3 => ?_)
  refine r_istore 6 [(6, .int v3), (5, .int v2), (0, .ref (E.2.1 + o0)), (1, .int x1), (2, .int x2), (3, .int x3), (4, .int x4)] (Nat.le_of_ble_eq_true rfl) rfl 20 rfl dX9_isAhead_18 ?_
  refine r_iload 5 1 rfl 22 rfl dX9_isAhead_20 ?_
  refine r_iload 6 0 rfl 24 rfl dX9_isAhead_22 ?_
  refine r_icmp_eq 40 27 rfl rfl dX9_isAhead_24 ?_ ?_
  · refine r_aload_n 0 2 rfl rfl 41 rfl dX9_isAhead_40 ?_
    refine r_iload_n 1 3 rfl rfl 42 rfl dX9_isAhead_41 ?_
    refine r_iload 4 6 rfl 44 rfl dX9_isAhead_42 ?_
    refine r_callV_I (c_X9_placesBut (E := E) (l := l) (S := S) d o0 h0 x1 x4) ok_X9_placesBut ⟨⟨(Nat.le_of_ble_eq_true rfl), (Nat.le_of_ble_eq_true rfl)⟩, (Nat.le_of_ble_eq_true rfl), (Nat.le_of_ble_eq_true rfl)⟩ (h0 0 (Nat.le_of_ble_eq_true rfl)) (Nat.le_of_ble_eq_true rfl) rfl rfl rfl (Nat.le_of_ble_eq_true rfl) gX9_isAhead_X9_placesBut rfl rfl 47 rfl dX9_isAhead_44 (fun v4 => ?_)
    refine r_istore 7 [(7, .int v4), (6, .int v3), (5, .int v2), (0, .ref (E.2.1 + o0)), (1, .int x1), (2, .int x2), (3, .int x3), (4, .int x4)] (Nat.le_of_ble_eq_true rfl) rfl 49 rfl dX9_isAhead_47 ?_
    refine r_aload_n 0 3 rfl rfl 50 rfl dX9_isAhead_49 ?_
    refine r_iload_n 2 5 rfl rfl 51 rfl dX9_isAhead_50 ?_
    refine r_iload 4 7 rfl 53 rfl dX9_isAhead_51 ?_
    refine r_callV_I (c_X9_placesBut (E := E) (l := l) (S := S) d o0 h0 x2 x4) ok_X9_placesBut ⟨⟨(Nat.le_of_ble_eq_true rfl), (Nat.le_of_ble_eq_true rfl)⟩, (Nat.le_of_ble_eq_true rfl), (Nat.le_of_ble_eq_true rfl)⟩ (h0 0 (Nat.le_of_ble_eq_true rfl)) (Nat.le_of_ble_eq_true rfl) rfl rfl rfl (Nat.le_of_ble_eq_true rfl) gX9_isAhead_X9_placesBut rfl rfl 56 rfl dX9_isAhead_53 (fun v5 => ?_)
    refine r_istore 8 [(8, .int v5), (7, .int v4), (6, .int v3), (5, .int v2), (0, .ref (E.2.1 + o0)), (1, .int x1), (2, .int x2), (3, .int x3), (4, .int x4)] (Nat.le_of_ble_eq_true rfl) rfl 58 rfl dX9_isAhead_56 ?_
    refine r_iload 7 1 rfl 60 rfl dX9_isAhead_58 ?_
    refine r_iload 8 0 rfl 62 rfl dX9_isAhead_60 ?_
    refine r_icmp_eq 80 65 rfl rfl dX9_isAhead_62 ?_ ?_
    · refine r_iload_n 1 5 rfl rfl 81 rfl dX9_isAhead_80 ?_
      refine r_iload_n 2 6 rfl rfl 82 rfl dX9_isAhead_81 ?_
      refine r_icmp_ge 89 85 rfl rfl dX9_isAhead_82 ?_ ?_
      · refine r_iconst 0 rfl 90 rfl dX9_isAhead_89 ?_
        exact r_zreturnc (by decide) rfl rfl (Nat.le_of_ble_eq_true rfl) (Nat.le_of_ble_eq_true rfl) dX9_isAhead_90
      · refine r_iconst 1 rfl 86 rfl dX9_isAhead_85 ?_
        refine r_goto 90 rfl dX9_isAhead_86 ?_
        exact r_zreturnc (by decide) rfl rfl (Nat.le_of_ble_eq_true rfl) (Nat.le_of_ble_eq_true rfl) dX9_isAhead_90
    · refine r_iload 7 1 rfl 67 rfl dX9_isAhead_65 ?_
      refine r_iload 8 0 rfl 69 rfl dX9_isAhead_67 ?_
      refine r_icmp_ge 76 72 rfl rfl dX9_isAhead_69 ?_ ?_
      · refine r_iconst 0 rfl 77 rfl dX9_isAhead_76 ?_
        refine r_goto 90 rfl dX9_isAhead_77 ?_
        exact r_zreturnc (by decide) rfl rfl (Nat.le_of_ble_eq_true rfl) (Nat.le_of_ble_eq_true rfl) dX9_isAhead_90
      · refine r_iconst 1 rfl 73 rfl dX9_isAhead_72 ?_
        refine r_goto 90 rfl dX9_isAhead_73 ?_
        exact r_zreturnc (by decide) rfl rfl (Nat.le_of_ble_eq_true rfl) (Nat.le_of_ble_eq_true rfl) dX9_isAhead_90
  · refine r_iload 5 1 rfl 29 rfl dX9_isAhead_27 ?_
    refine r_iload 6 0 rfl 31 rfl dX9_isAhead_29 ?_
    refine r_icmp_ge 38 34 rfl rfl dX9_isAhead_31 ?_ ?_
    · refine r_iconst 0 rfl 39 rfl dX9_isAhead_38 ?_
      exact r_zreturnc (by decide) rfl rfl (Nat.le_of_ble_eq_true rfl) (Nat.le_of_ble_eq_true rfl) dX9_isAhead_39
    · refine r_iconst 1 rfl 35 rfl dX9_isAhead_34 ?_
      refine r_goto 39 rfl dX9_isAhead_35 ?_
      exact r_zreturnc (by decide) rfl rfl (Nat.le_of_ble_eq_true rfl) (Nat.le_of_ble_eq_true rfl) dX9_isAhead_39
def Y_X9_isOn : z_Y := (RX9, cX9_isOn, 3, wsX9_isOn, (some .boolean), { frames := 3, cells := 0, slots := 0, locals := 64 }, 0, 0)
theorem ok_X9_isOn : z_Ok yX9_isOn Y_X9_isOn 2 := ⟨⟨_, rfl⟩, rfl, rfl, rfl, by decide +kernel, by decide +kernel⟩
theorem w_X9_isOn_0 : Cond.fieldLink RX9 7 "BunchTimesModel" "row" "[I" ∈ wsX9_isOn := by decide +kernel
theorem w_X9_isOn_1 : ∀ w ∈ u_ws RX9 TX9 18, w ∈ wsX9_isOn := by decide +kernel
def f_X9_isOn (d : z_D) (o0 : Nat) (x1 : Int32) (x2 : Int32) : Option Int32 := ((f_X9_isThere d o0 x2).bind fun v1 => (if v1 = 0 then (some 0) else (if x1 = 0 then (some 1) else z_let (fun x_37 : Unit => z_let (fun x_52 : Unit => (if x1 = 2 then ((f_X9_allOf d o0 x2 11).bind fun v2 => (if v2 ≤ 0 then (some 0) else (some 1))) else (some 0))) (fun J52 => (if x1 = 1 then ((f_X9_allOf d o0 x2 10).bind fun v3 => (if 0 < v3 then (some 1) else (J52 ()))) else (J52 ())))) (fun J37 => (if x1 = 3 then z_ald d (o0 + 1) 2656 ((8 + (3 * x2)) + 1) (fun v4 => (if v4 ≤ 25 then (some 1) else (J37 ()))) else (J37 ()))))))
set_option maxHeartbeats 4000000 in
set_option maxRecDepth 100000 in
theorem c_X9_isOn {E : z_E} {l : Launch} {S : z_S} (d : z_D) (o0 : Nat) (h0 : A_Model S o0) (x1 : Int32) (x2 : Int32) : z_Sp E l yX9_isOn Y_X9_isOn (cvI S d) [.ref (E.2.1 + o0), .int x1, .int x2] (S, d) (f_X9_isOn d o0 x1 x2) := by
  refine z_entry (lv := [(0, .ref (E.2.1 + o0)), (1, .int x1), (2, .int x2)]) (by decide) rfl rfl (Nat.le_of_ble_eq_true rfl) rfl ?_
  unfold f_X9_isOn
  refine r_aload_n 0 0 rfl rfl 1 rfl dX9_isOn_0 ?_
  refine r_iload_n 2 2 rfl rfl 2 rfl dX9_isOn_1 ?_
  refine r_callV_I (c_X9_isThere (E := E) (l := l) (S := S) d o0 h0 x2) ok_X9_isThere ⟨⟨(Nat.le_of_ble_eq_true rfl), (Nat.le_of_ble_eq_true rfl)⟩, (Nat.le_of_ble_eq_true rfl), (Nat.le_of_ble_eq_true rfl)⟩ (h0 0 (Nat.le_of_ble_eq_true rfl)) (Nat.le_of_ble_eq_true rfl) rfl rfl rfl (Nat.le_of_ble_eq_true rfl) gX9_isOn_X9_isThere rfl rfl 5 rfl dX9_isOn_2 (fun v1 => ?_)
  refine r_if_ne 10 8 rfl rfl dX9_isOn_5 ?_ ?_
  · refine r_iload_n 1 1 rfl rfl 11 rfl dX9_isOn_10 ?_
    refine r_if_eq 67 14 rfl rfl dX9_isOn_11 ?_ ?_
    · refine r_iconst 1 rfl 68 rfl dX9_isOn_67 ?_
      refine r_goto 72 rfl dX9_isOn_68 ?_
      exact r_zreturnc (by decide) rfl rfl (Nat.le_of_ble_eq_true rfl) (Nat.le_of_ble_eq_true rfl) dX9_isOn_72
    · refine r_iload_n 1 1 rfl rfl 15 rfl dX9_isOn_14 ?_
      refine r_iconst 3 rfl 16 rfl dX9_isOn_15 ?_
      refine r_let 37 (f := fun x_37 : Unit => [(0, .ref (E.2.1 + o0)), (1, .int x1), (2, .int x2)]) (g := fun x_37 : Unit => []) (ww := fun x_37 : Unit => (S, d)) (fun x_37 => ?_) (fun J37 hJ37 => ?_)
      · refine r_iload_n 1 1 rfl rfl 38 rfl dX9_isOn_37 ?_
        refine r_iconst 1 rfl 39 rfl dX9_isOn_38 ?_
        refine r_let 52 (f := fun x_52 : Unit => [(0, .ref (E.2.1 + o0)), (1, .int x1), (2, .int x2)]) (g := fun x_52 : Unit => []) (ww := fun x_52 : Unit => (S, d)) (fun x_52 => ?_) (fun J52 hJ52 => ?_)
        · refine r_iload_n 1 1 rfl rfl 53 rfl dX9_isOn_52 ?_
          refine r_iconst 2 rfl 54 rfl dX9_isOn_53 ?_
          refine r_icmp_ne 71 57 rfl rfl dX9_isOn_54 ?_ ?_
          · refine r_iconst 0 rfl 72 rfl dX9_isOn_71 ?_
            exact r_zreturnc (by decide) rfl rfl (Nat.le_of_ble_eq_true rfl) (Nat.le_of_ble_eq_true rfl) dX9_isOn_72
          · refine r_aload_n 0 0 rfl rfl 58 rfl dX9_isOn_57 ?_
            refine r_iload_n 2 2 rfl rfl 59 rfl dX9_isOn_58 ?_
            refine r_bipush 11 rfl 61 rfl dX9_isOn_59 ?_
            refine r_callV_I (c_X9_allOf (E := E) (l := l) (S := S) d o0 h0 x2 11) ok_X9_allOf ⟨⟨(Nat.le_of_ble_eq_true rfl), (Nat.le_of_ble_eq_true rfl)⟩, (Nat.le_of_ble_eq_true rfl), (Nat.le_of_ble_eq_true rfl)⟩ (h0 0 (Nat.le_of_ble_eq_true rfl)) (Nat.le_of_ble_eq_true rfl) rfl rfl rfl (Nat.le_of_ble_eq_true rfl) gX9_isOn_X9_allOf rfl rfl 64 rfl dX9_isOn_61 (fun v2 => ?_)
            refine r_if_le 71 67 rfl rfl dX9_isOn_64 ?_ ?_
            · refine r_iconst 0 rfl 72 rfl dX9_isOn_71 ?_
              exact r_zreturnc (by decide) rfl rfl (Nat.le_of_ble_eq_true rfl) (Nat.le_of_ble_eq_true rfl) dX9_isOn_72
            · refine r_iconst 1 rfl 68 rfl dX9_isOn_67 ?_
              refine r_goto 72 rfl dX9_isOn_68 ?_
              exact r_zreturnc (by decide) rfl rfl (Nat.le_of_ble_eq_true rfl) (Nat.le_of_ble_eq_true rfl) dX9_isOn_72
        refine r_icmp_ne 52 42 rfl rfl dX9_isOn_39 ?_ ?_
        · refine r_sub [0, 1, 2] rfl ?_
          exact hJ52 ()
        · refine r_aload_n 0 0 rfl rfl 43 rfl dX9_isOn_42 ?_
          refine r_iload_n 2 2 rfl rfl 44 rfl dX9_isOn_43 ?_
          refine r_bipush 10 rfl 46 rfl dX9_isOn_44 ?_
          refine r_callV_I (c_X9_allOf (E := E) (l := l) (S := S) d o0 h0 x2 10) ok_X9_allOf ⟨⟨(Nat.le_of_ble_eq_true rfl), (Nat.le_of_ble_eq_true rfl)⟩, (Nat.le_of_ble_eq_true rfl), (Nat.le_of_ble_eq_true rfl)⟩ (h0 0 (Nat.le_of_ble_eq_true rfl)) (Nat.le_of_ble_eq_true rfl) rfl rfl rfl (Nat.le_of_ble_eq_true rfl) gX9_isOn_X9_allOf rfl rfl 49 rfl dX9_isOn_46 (fun v3 => ?_)
          refine r_if_gt 67 52 rfl rfl dX9_isOn_49 ?_ ?_
          · refine r_iconst 1 rfl 68 rfl dX9_isOn_67 ?_
            refine r_goto 72 rfl dX9_isOn_68 ?_
            exact r_zreturnc (by decide) rfl rfl (Nat.le_of_ble_eq_true rfl) (Nat.le_of_ble_eq_true rfl) dX9_isOn_72
          · refine r_sub [0, 1, 2] rfl ?_
            exact hJ52 ()
      refine r_icmp_ne 37 19 rfl rfl dX9_isOn_16 ?_ ?_
      · refine r_sub [0, 1, 2] rfl ?_
        exact hJ37 ()
      · refine r_aload_n 0 0 rfl rfl 20 rfl dX9_isOn_19 ?_
        refine r_get (h0 0 (Nat.le_of_ble_eq_true rfl)) rfl (Nat.le_of_ble_eq_true rfl) rfl rfl w_X9_isOn_1 1 (Nat.le_of_ble_eq_true rfl) rfl w_X9_isOn_0 (.ref (E.2.1 + (o0 + 1))) rfl 23 rfl dX9_isOn_20 ?_
        refine r_bipush 8 rfl 25 rfl dX9_isOn_23 ?_
        refine r_iconst 3 rfl 26 rfl dX9_isOn_25 ?_
        refine r_iload_n 2 2 rfl rfl 27 rfl dX9_isOn_26 ?_
        refine r_imul 28 rfl dX9_isOn_27 ?_
        refine r_iadd 29 rfl dX9_isOn_28 ?_
        refine r_iconst 1 rfl 30 rfl dX9_isOn_29 ?_
        refine r_iadd 31 rfl dX9_isOn_30 ?_
        refine r_iald (h0 1 (Nat.le_of_ble_eq_true rfl)) rfl rfl 32 rfl dX9_isOn_31 (fun v4 => ?_)
        refine r_bipush 25 rfl 34 rfl dX9_isOn_32 ?_
        refine r_icmp_le 67 37 rfl rfl dX9_isOn_34 ?_ ?_
        · refine r_iconst 1 rfl 68 rfl dX9_isOn_67 ?_
          refine r_goto 72 rfl dX9_isOn_68 ?_
          exact r_zreturnc (by decide) rfl rfl (Nat.le_of_ble_eq_true rfl) (Nat.le_of_ble_eq_true rfl) dX9_isOn_72
        · refine r_sub [0, 1, 2] rfl ?_
          exact hJ37 ()
  · refine r_iconst 0 rfl 9 rfl dX9_isOn_8 ?_
    exact r_zreturnc (by decide) rfl rfl (Nat.le_of_ble_eq_true rfl) (Nat.le_of_ble_eq_true rfl) dX9_isOn_9
def Y_X9_isBefore : z_Y := (RX9, cX9_isBefore, 5, wsX9_isBefore, (some .boolean), { frames := 4, cells := 0, slots := 0, locals := 96 }, 0, 0)
theorem ok_X9_isBefore : z_Ok yX9_isBefore Y_X9_isBefore 3 := ⟨⟨_, rfl⟩, rfl, rfl, rfl, by decide +kernel, by decide +kernel⟩
def f_X9_isBefore (d : z_D) (o0 : Nat) (x1 : Int32) (x2 : Int32) (x3 : Int32) : Option Int32 := z_let (fun x_12 : Int32 => ((f_X9_isIn x1 1 2).bind fun v1 => z_let (fun x_63 : Unit => ((f_X9_isAhead d o0 x2 x3 0 (-1)).bind fun v2 => (z_bool v2 (some v2)))) (fun J63 => (if v1 = 0 then (J63 ()) else ((f_X9_allOf d o0 x2 x_12).bind fun v3 => ((f_X9_allOf d o0 x3 x_12).bind fun v4 => (if v3 = v4 then (J63 ()) else ((f_X9_allOf d o0 x2 x_12).bind fun v5 => ((f_X9_allOf d o0 x3 x_12).bind fun v6 => (if v5 ≤ v6 then (some 0) else (some 1))))))))))) (fun J12 => (if x1 = 1 then (J12 10) else (J12 11)))
set_option maxHeartbeats 4000000 in
set_option maxRecDepth 100000 in
theorem c_X9_isBefore {E : z_E} {l : Launch} {S : z_S} (d : z_D) (o0 : Nat) (h0 : A_Model S o0) (x1 : Int32) (x2 : Int32) (x3 : Int32) : z_Sp E l yX9_isBefore Y_X9_isBefore (cvI S d) [.ref (E.2.1 + o0), .int x1, .int x2, .int x3] (S, d) (f_X9_isBefore d o0 x1 x2 x3) := by
  refine z_entry (lv := [(0, .ref (E.2.1 + o0)), (1, .int x1), (2, .int x2), (3, .int x3)]) (by decide) rfl rfl (Nat.le_of_ble_eq_true rfl) rfl ?_
  unfold f_X9_isBefore
  refine r_iload_n 1 1 rfl rfl 1 rfl dX9_isBefore_0 ?_
  refine r_iconst 1 rfl 2 rfl dX9_isBefore_1 ?_
  refine r_let 12 (f := fun x_12 : Int32 => [(0, .ref (E.2.1 + o0)), (1, .int x1), (2, .int x2), (3, .int x3)]) (g := fun x_12 : Int32 => [.int x_12]) (ww := fun x_12 : Int32 => (S, d)) (fun x_12 => ?_) (fun J12 hJ12 => ?_)
  · refine r_istore 4 [(4, .int x_12), (0, .ref (E.2.1 + o0)), (1, .int x1), (2, .int x2), (3, .int x3)] (Nat.le_of_ble_eq_true rfl) rfl 14 rfl dX9_isBefore_12 ?_
    refine r_iload_n 1 2 rfl rfl 15 rfl dX9_isBefore_14 ?_
    refine r_iconst 1 rfl 16 rfl dX9_isBefore_15 ?_
    refine r_iconst 2 rfl 17 rfl dX9_isBefore_16 ?_
    refine r_callS_I (c_X9_isIn (E := E) (l := l) (S := S) d x1 1 2) ok_X9_isIn ⟨⟨(Nat.le_of_ble_eq_true rfl), (Nat.le_of_ble_eq_true rfl)⟩, (Nat.le_of_ble_eq_true rfl), (Nat.le_of_ble_eq_true rfl)⟩ rfl (Nat.le_of_ble_eq_true rfl) gX9_isBefore_X9_isIn rfl rfl 20 rfl dX9_isBefore_17 (fun v1 => ?_)
    refine r_let 63 (f := fun x_63 : Unit => [(0, .ref (E.2.1 + o0)), (2, .int x2), (3, .int x3)]) (g := fun x_63 : Unit => []) (ww := fun x_63 : Unit => (S, d)) (fun x_63 => ?_) (fun J63 hJ63 => ?_)
    · refine r_aload_n 0 0 rfl rfl 64 rfl dX9_isBefore_63 ?_
      refine r_iload_n 2 1 rfl rfl 65 rfl dX9_isBefore_64 ?_
      refine r_iload_n 3 2 rfl rfl 66 rfl dX9_isBefore_65 ?_
      refine r_iconst 0 rfl 67 rfl dX9_isBefore_66 ?_
      refine r_iconst (-1) rfl 68 rfl dX9_isBefore_67 ?_
      refine r_callV_I (c_X9_isAhead (E := E) (l := l) (S := S) d o0 h0 x2 x3 0 (-1)) ok_X9_isAhead ⟨⟨(Nat.le_of_ble_eq_true rfl), (Nat.le_of_ble_eq_true rfl)⟩, (Nat.le_of_ble_eq_true rfl), (Nat.le_of_ble_eq_true rfl)⟩ (h0 0 (Nat.le_of_ble_eq_true rfl)) (Nat.le_of_ble_eq_true rfl) rfl rfl rfl (Nat.le_of_ble_eq_true rfl) gX9_isBefore_X9_isAhead rfl rfl 71 rfl dX9_isBefore_68 (fun v2 => ?_)
      exact r_zreturn rfl rfl (Nat.le_of_ble_eq_true rfl) (Nat.le_of_ble_eq_true rfl) dX9_isBefore_71
    refine r_if_eq 63 23 rfl rfl dX9_isBefore_20 ?_ ?_
    · refine r_sub [1, 3, 4] rfl ?_
      exact hJ63 ()
    · refine r_aload_n 0 1 rfl rfl 24 rfl dX9_isBefore_23 ?_
      refine r_iload_n 2 3 rfl rfl 25 rfl dX9_isBefore_24 ?_
      refine r_iload 4 0 rfl 27 rfl dX9_isBefore_25 ?_
      refine r_callV_I (c_X9_allOf (E := E) (l := l) (S := S) d o0 h0 x2 x_12) ok_X9_allOf ⟨⟨(Nat.le_of_ble_eq_true rfl), (Nat.le_of_ble_eq_true rfl)⟩, (Nat.le_of_ble_eq_true rfl), (Nat.le_of_ble_eq_true rfl)⟩ (h0 0 (Nat.le_of_ble_eq_true rfl)) (Nat.le_of_ble_eq_true rfl) rfl rfl rfl (Nat.le_of_ble_eq_true rfl) gX9_isBefore_X9_allOf rfl rfl 30 rfl dX9_isBefore_27 (fun v3 => ?_)
      refine r_aload_n 0 1 rfl rfl 31 rfl dX9_isBefore_30 ?_
      refine r_iload_n 3 4 rfl rfl 32 rfl dX9_isBefore_31 ?_
      refine r_iload 4 0 rfl 34 rfl dX9_isBefore_32 ?_
      refine r_callV_I (c_X9_allOf (E := E) (l := l) (S := S) d o0 h0 x3 x_12) ok_X9_allOf ⟨⟨(Nat.le_of_ble_eq_true rfl), (Nat.le_of_ble_eq_true rfl)⟩, (Nat.le_of_ble_eq_true rfl), (Nat.le_of_ble_eq_true rfl)⟩ (h0 0 (Nat.le_of_ble_eq_true rfl)) (Nat.le_of_ble_eq_true rfl) rfl rfl rfl (Nat.le_of_ble_eq_true rfl) gX9_isBefore_X9_allOf rfl rfl 37 rfl dX9_isBefore_34 (fun v4 => ?_)
      refine r_icmp_eq 63 40 rfl rfl dX9_isBefore_37 ?_ ?_
      · refine r_sub [1, 3, 4] rfl ?_
        exact hJ63 ()
      · refine r_aload_n 0 1 rfl rfl 41 rfl dX9_isBefore_40 ?_
        refine r_iload_n 2 3 rfl rfl 42 rfl dX9_isBefore_41 ?_
        refine r_iload 4 0 rfl 44 rfl dX9_isBefore_42 ?_
        refine r_callV_I (c_X9_allOf (E := E) (l := l) (S := S) d o0 h0 x2 x_12) ok_X9_allOf ⟨⟨(Nat.le_of_ble_eq_true rfl), (Nat.le_of_ble_eq_true rfl)⟩, (Nat.le_of_ble_eq_true rfl), (Nat.le_of_ble_eq_true rfl)⟩ (h0 0 (Nat.le_of_ble_eq_true rfl)) (Nat.le_of_ble_eq_true rfl) rfl rfl rfl (Nat.le_of_ble_eq_true rfl) gX9_isBefore_X9_allOf rfl rfl 47 rfl dX9_isBefore_44 (fun v5 => ?_)
        refine r_aload_n 0 1 rfl rfl 48 rfl dX9_isBefore_47 ?_
        refine r_iload_n 3 4 rfl rfl 49 rfl dX9_isBefore_48 ?_
        refine r_iload 4 0 rfl 51 rfl dX9_isBefore_49 ?_
        refine r_callV_I (c_X9_allOf (E := E) (l := l) (S := S) d o0 h0 x3 x_12) ok_X9_allOf ⟨⟨(Nat.le_of_ble_eq_true rfl), (Nat.le_of_ble_eq_true rfl)⟩, (Nat.le_of_ble_eq_true rfl), (Nat.le_of_ble_eq_true rfl)⟩ (h0 0 (Nat.le_of_ble_eq_true rfl)) (Nat.le_of_ble_eq_true rfl) rfl rfl rfl (Nat.le_of_ble_eq_true rfl) gX9_isBefore_X9_allOf rfl rfl 54 rfl dX9_isBefore_51 (fun v6 => ?_)
        refine r_icmp_le 61 57 rfl rfl dX9_isBefore_54 ?_ ?_
        · refine r_iconst 0 rfl 62 rfl dX9_isBefore_61 ?_
          exact r_zreturnc (by decide) rfl rfl (Nat.le_of_ble_eq_true rfl) (Nat.le_of_ble_eq_true rfl) dX9_isBefore_62
        · refine r_iconst 1 rfl 58 rfl dX9_isBefore_57 ?_
          refine r_goto 62 rfl dX9_isBefore_58 ?_
          exact r_zreturnc (by decide) rfl rfl (Nat.le_of_ble_eq_true rfl) (Nat.le_of_ble_eq_true rfl) dX9_isBefore_62
  refine r_icmp_ne 10 5 rfl rfl dX9_isBefore_2 ?_ ?_
  · refine r_bipush 11 rfl 12 rfl dX9_isBefore_10 ?_
    refine r_sub [0, 1, 2, 3] rfl ?_
    exact hJ12 11
  · refine r_bipush 10 rfl 7 rfl dX9_isBefore_5 ?_
    refine r_goto 12 rfl dX9_isBefore_7 ?_
    refine r_sub [0, 1, 2, 3] rfl ?_
    exact hJ12 10
def Y_X9_isTeamOn : z_Y := (RX9, cX9_isTeamOn, 4, wsX9_isTeamOn, (some .boolean), { frames := 3, cells := 0, slots := 0, locals := 64 }, 0, 0)
theorem ok_X9_isTeamOn : z_Ok yX9_isTeamOn Y_X9_isTeamOn 1 := ⟨⟨_, rfl⟩, rfl, rfl, rfl, by decide +kernel, by decide +kernel⟩
theorem w_X9_isTeamOn_0 : Cond.fieldLink RX9 7 "BunchTimesModel" "row" "[I" ∈ wsX9_isTeamOn := by decide +kernel
theorem w_X9_isTeamOn_1 : ∀ w ∈ u_ws RX9 TX9 18, w ∈ wsX9_isTeamOn := by decide +kernel
def f_X9_isTeamOn_L4_b (d : z_D) (o0 : Nat) (x1 : Int32) (K : Int32 → Option Int32) (R : Int32 → Int32 → Option Int32) (x2 : Int32) (x3 : Int32) : Option Int32 := z_ald d (o0 + 1) 2656 1 (fun v1 => (if v1 ≤ x3 then (K x2) else ((f_X9_isThere d o0 x3).bind fun v2 => (if v2 = 0 then z_nam (x2 + 0) (fun v3 => (R v3 (x3 + 1))) else z_ald d (o0 + 1) 2656 (8 + (3 * x3)) (fun v4 => (if v4 = x1 then z_nam (x2 + 1) (fun v6 => (R v6 (x3 + 1))) else z_nam (x2 + 0) (fun v5 => (R v5 (x3 + 1)))))))))
def f_X9_isTeamOn_L4 (d : z_D) (o0 : Nat) (x1 : Int32) (K : Int32 → Option Int32) : Nat → Int32 → Int32 → Option Int32
  | 0 => fun _ _ => none
  | n + 1 => f_X9_isTeamOn_L4_b d o0 x1 K (f_X9_isTeamOn_L4 d o0 x1 K n)
set_option maxHeartbeats 4000000 in
set_option maxRecDepth 100000 in
theorem g_X9_isTeamOn_L4 {E : z_E} {l : Launch} {S : z_S} {d : z_D} {o0 : Nat} {x1 : Int32} {K : Int32 → Option Int32} (h0 : A_Model S o0) (hK : ∀ (y2 : Int32), z_G E l Y_X9_isTeamOn (cvI S d) (K y2) 51 [(2, .int y2)] [] (S, d) 0 0) : ∀ (n : Nat) (x2 : Int32) (x3 : Int32), z_G E l Y_X9_isTeamOn (cvI S d) (f_X9_isTeamOn_L4 d o0 x1 K n x2 x3) 4 [(0, .ref (E.2.1 + o0)), (1, .int x1), (2, .int x2), (3, .int x3)] [] (S, d) 0 0 := by
  intro n
  induction n with
  | zero => intro _ _; exact r_none
  | succ n ih =>
    intro x2 x3
    show z_G E l Y_X9_isTeamOn (cvI S d) (f_X9_isTeamOn_L4_b d o0 x1 K (f_X9_isTeamOn_L4 d o0 x1 K n) x2 x3) 4 [(0, .ref (E.2.1 + o0)), (1, .int x1), (2, .int x2), (3, .int x3)] [] (S, d) 0 0
    unfold f_X9_isTeamOn_L4_b
    refine r_iload_n 3 3 rfl rfl 5 rfl dX9_isTeamOn_4 ?_
    refine r_aload_n 0 0 rfl rfl 6 rfl dX9_isTeamOn_5 ?_
    refine r_get (h0 0 (Nat.le_of_ble_eq_true rfl)) rfl (Nat.le_of_ble_eq_true rfl) rfl rfl w_X9_isTeamOn_1 1 (Nat.le_of_ble_eq_true rfl) rfl w_X9_isTeamOn_0 (.ref (E.2.1 + (o0 + 1))) rfl 9 rfl dX9_isTeamOn_6 ?_
    refine r_iconst 1 rfl 10 rfl dX9_isTeamOn_9 ?_
    refine r_iald (h0 1 (Nat.le_of_ble_eq_true rfl)) rfl rfl 11 rfl dX9_isTeamOn_10 (fun v1 => ?_)
    refine r_icmp_ge 51 14 rfl rfl dX9_isTeamOn_11 ?_ ?_
    · refine r_sub [2] rfl ?_
      exact hK x2
    · refine r_iload_n 2 2 rfl rfl 15 rfl dX9_isTeamOn_14 ?_
      refine r_aload_n 0 0 rfl rfl 16 rfl dX9_isTeamOn_15 ?_
      refine r_iload_n 3 3 rfl rfl 17 rfl dX9_isTeamOn_16 ?_
      refine r_callV_I (c_X9_isThere (E := E) (l := l) (S := S) d o0 h0 x3) ok_X9_isThere ⟨⟨(Nat.le_of_ble_eq_true rfl), (Nat.le_of_ble_eq_true rfl)⟩, (Nat.le_of_ble_eq_true rfl), (Nat.le_of_ble_eq_true rfl)⟩ (h0 0 (Nat.le_of_ble_eq_true rfl)) (Nat.le_of_ble_eq_true rfl) rfl rfl rfl (Nat.le_of_ble_eq_true rfl) gX9_isTeamOn_X9_isThere rfl rfl 20 rfl dX9_isTeamOn_17 (fun v2 => ?_)
      refine r_if_eq 42 23 rfl rfl dX9_isTeamOn_20 ?_ ?_
      · refine r_iconst 0 rfl 43 rfl dX9_isTeamOn_42 ?_
        refine r_iadd 44 rfl dX9_isTeamOn_43 ?_
        refine r_nami (fun v3 => ?_)
        refine r_istore_n 2 rfl [(2, .int v3), (0, .ref (E.2.1 + o0)), (1, .int x1), (3, .int x3)] (Nat.le_of_ble_eq_true rfl) rfl 45 rfl dX9_isTeamOn_44 ?_
        refine r_iinc (x3 + 1) 3 rfl rfl [(3, .int (x3 + 1)), (2, .int v3), (0, .ref (E.2.1 + o0)), (1, .int x1)] (Nat.le_of_ble_eq_true rfl) rfl 48 rfl dX9_isTeamOn_45 ?_
        refine r_goto 4 rfl dX9_isTeamOn_48 ?_
        refine r_sub [2, 3, 1, 0] rfl ?_
        exact ih v3 (x3 + 1)
      · refine r_aload_n 0 0 rfl rfl 24 rfl dX9_isTeamOn_23 ?_
        refine r_get (h0 0 (Nat.le_of_ble_eq_true rfl)) rfl (Nat.le_of_ble_eq_true rfl) rfl rfl w_X9_isTeamOn_1 1 (Nat.le_of_ble_eq_true rfl) rfl w_X9_isTeamOn_0 (.ref (E.2.1 + (o0 + 1))) rfl 27 rfl dX9_isTeamOn_24 ?_
        refine r_bipush 8 rfl 29 rfl dX9_isTeamOn_27 ?_
        refine r_iconst 3 rfl 30 rfl dX9_isTeamOn_29 ?_
        refine r_iload_n 3 3 rfl rfl 31 rfl dX9_isTeamOn_30 ?_
        refine r_imul 32 rfl dX9_isTeamOn_31 ?_
        refine r_iadd 33 rfl dX9_isTeamOn_32 ?_
        refine r_iald (h0 1 (Nat.le_of_ble_eq_true rfl)) rfl rfl 34 rfl dX9_isTeamOn_33 (fun v4 => ?_)
        refine r_iload_n 1 1 rfl rfl 35 rfl dX9_isTeamOn_34 ?_
        refine r_icmp_ne 42 38 rfl rfl dX9_isTeamOn_35 ?_ ?_
        · refine r_iconst 0 rfl 43 rfl dX9_isTeamOn_42 ?_
          refine r_iadd 44 rfl dX9_isTeamOn_43 ?_
          refine r_nami (fun v5 => ?_)
          refine r_istore_n 2 rfl [(2, .int v5), (0, .ref (E.2.1 + o0)), (1, .int x1), (3, .int x3)] (Nat.le_of_ble_eq_true rfl) rfl 45 rfl dX9_isTeamOn_44 ?_
          refine r_iinc (x3 + 1) 3 rfl rfl [(3, .int (x3 + 1)), (2, .int v5), (0, .ref (E.2.1 + o0)), (1, .int x1)] (Nat.le_of_ble_eq_true rfl) rfl 48 rfl dX9_isTeamOn_45 ?_
          refine r_goto 4 rfl dX9_isTeamOn_48 ?_
          refine r_sub [2, 3, 1, 0] rfl ?_
          exact ih v5 (x3 + 1)
        · refine r_iconst 1 rfl 39 rfl dX9_isTeamOn_38 ?_
          refine r_goto 43 rfl dX9_isTeamOn_39 ?_
          refine r_iadd 44 rfl dX9_isTeamOn_43 ?_
          refine r_nami (fun v6 => ?_)
          refine r_istore_n 2 rfl [(2, .int v6), (0, .ref (E.2.1 + o0)), (1, .int x1), (3, .int x3)] (Nat.le_of_ble_eq_true rfl) rfl 45 rfl dX9_isTeamOn_44 ?_
          refine r_iinc (x3 + 1) 3 rfl rfl [(3, .int (x3 + 1)), (2, .int v6), (0, .ref (E.2.1 + o0)), (1, .int x1)] (Nat.le_of_ble_eq_true rfl) rfl 48 rfl dX9_isTeamOn_45 ?_
          refine r_goto 4 rfl dX9_isTeamOn_48 ?_
          refine r_sub [2, 3, 1, 0] rfl ?_
          exact ih v6 (x3 + 1)
def f_X9_isTeamOn (d : z_D) (o0 : Nat) (x1 : Int32) : Option Int32 := (f_X9_isTeamOn_L4 d o0 x1 (fun v7 => (if v7 ≤ 2 then (some 0) else (some 1))) z_N 0 0)
set_option maxHeartbeats 4000000 in
set_option maxRecDepth 100000 in
theorem c_X9_isTeamOn {E : z_E} {l : Launch} {S : z_S} (d : z_D) (o0 : Nat) (h0 : A_Model S o0) (x1 : Int32) : z_Sp E l yX9_isTeamOn Y_X9_isTeamOn (cvI S d) [.ref (E.2.1 + o0), .int x1] (S, d) (f_X9_isTeamOn d o0 x1) := by
  refine z_entry (lv := [(0, .ref (E.2.1 + o0)), (1, .int x1)]) (by decide) rfl rfl (Nat.le_of_ble_eq_true rfl) rfl ?_
  unfold f_X9_isTeamOn
  refine r_iconst 0 rfl 1 rfl dX9_isTeamOn_0 ?_
  refine r_istore_n 2 rfl [(2, .int 0), (0, .ref (E.2.1 + o0)), (1, .int x1)] (Nat.le_of_ble_eq_true rfl) rfl 2 rfl dX9_isTeamOn_1 ?_
  refine r_iconst 0 rfl 3 rfl dX9_isTeamOn_2 ?_
  refine r_istore_n 3 rfl [(3, .int 0), (2, .int 0), (0, .ref (E.2.1 + o0)), (1, .int x1)] (Nat.le_of_ble_eq_true rfl) rfl 4 rfl dX9_isTeamOn_3 ?_
  refine r_sub [2, 3, 1, 0] rfl ?_
  refine g_X9_isTeamOn_L4 h0 (fun v7 => ?_) z_N 0 0
  refine r_iload_n 2 0 rfl rfl 52 rfl dX9_isTeamOn_51 ?_
  refine r_iconst 2 rfl 53 rfl dX9_isTeamOn_52 ?_
  refine r_icmp_le 60 56 rfl rfl dX9_isTeamOn_53 ?_ ?_
  · refine r_iconst 0 rfl 61 rfl dX9_isTeamOn_60 ?_
    exact r_zreturnc (by decide) rfl rfl (Nat.le_of_ble_eq_true rfl) (Nat.le_of_ble_eq_true rfl) dX9_isTeamOn_61
  · refine r_iconst 1 rfl 57 rfl dX9_isTeamOn_56 ?_
    refine r_goto 61 rfl dX9_isTeamOn_57 ?_
    exact r_zreturnc (by decide) rfl rfl (Nat.le_of_ble_eq_true rfl) (Nat.le_of_ble_eq_true rfl) dX9_isTeamOn_61
def Y_X9_threeOf : z_Y := (RX9, cX9_threeOf, 7, wsX9_threeOf, (some .int), { frames := 2, cells := 0, slots := 0, locals := 44 }, 0, 0)
theorem ok_X9_threeOf : z_Ok yX9_threeOf Y_X9_threeOf 2 := ⟨⟨_, rfl⟩, rfl, rfl, rfl, by decide +kernel, by decide +kernel⟩
theorem w_X9_threeOf_0 : Cond.fieldLink RX9 7 "BunchTimesModel" "row" "[I" ∈ wsX9_threeOf := by decide +kernel
theorem w_X9_threeOf_1 : ∀ w ∈ u_ws RX9 TX9 18, w ∈ wsX9_threeOf := by decide +kernel
theorem w_X9_threeOf_2 : Cond.fieldLink RX9 29 "BunchTimesModel" "least" "[I" ∈ wsX9_threeOf := by decide +kernel
def f_X9_threeOf_L91_b (o0 : Nat) (x1 : Int32) (x2 : Int32) (x3 : Int32) (x4 : Int32) (x5 : Int32) (K : Int32 → z_D → Option (Int32 × z_D)) (R : Int32 → z_D → Option (Int32 × z_D)) (x6 : Int32) (d : z_D) : Option (Int32 × z_D) := (if x6 ≤ 0 then (K x6 d) else z_ald d (o0 + 7) 3 (x6 - 1) (fun v6 => (if v6 ≤ x5 then (K x6 d) else z_ald d (o0 + 7) 3 (x6 - 1) (fun v7 => z_ast d (o0 + 7) 3 x6 v7 (fun d8 => (R (x6 + (-1)) d8))))))
def f_X9_threeOf_L91 (o0 : Nat) (x1 : Int32) (x2 : Int32) (x3 : Int32) (x4 : Int32) (x5 : Int32) (K : Int32 → z_D → Option (Int32 × z_D)) : Nat → Int32 → z_D → Option (Int32 × z_D)
  | 0 => fun _ _ => none
  | n + 1 => f_X9_threeOf_L91_b o0 x1 x2 x3 x4 x5 K (f_X9_threeOf_L91 o0 x1 x2 x3 x4 x5 K n)
set_option maxHeartbeats 4000000 in
set_option maxRecDepth 100000 in
theorem g_X9_threeOf_L91 {E : z_E} {l : Launch} {S : z_S} {o0 : Nat} {x1 : Int32} {x2 : Int32} {x3 : Int32} {x4 : Int32} {x5 : Int32} {K : Int32 → z_D → Option (Int32 × z_D)} (h0 : A_Model S o0) (hK : ∀ (y6 : Int32) (d9 : z_D), z_G E l Y_X9_threeOf (cvX S) (K y6 d9) 132 [(0, .ref (E.2.1 + o0)), (1, .int x1), (2, .int x2), (3, .int x3), (4, .int x4), (5, .int x5), (6, .int y6)] [] (S, d9) 0 0) : ∀ (n : Nat) (x6 : Int32) (d : z_D), z_G E l Y_X9_threeOf (cvX S) (f_X9_threeOf_L91 o0 x1 x2 x3 x4 x5 K n x6 d) 91 [(0, .ref (E.2.1 + o0)), (1, .int x1), (2, .int x2), (3, .int x3), (4, .int x4), (5, .int x5), (6, .int x6)] [] (S, d) 0 0 := by
  intro n
  induction n with
  | zero => intro _ _; exact r_none
  | succ n ih =>
    intro x6 d
    show z_G E l Y_X9_threeOf (cvX S) (f_X9_threeOf_L91_b o0 x1 x2 x3 x4 x5 K (f_X9_threeOf_L91 o0 x1 x2 x3 x4 x5 K n) x6 d) 91 [(0, .ref (E.2.1 + o0)), (1, .int x1), (2, .int x2), (3, .int x3), (4, .int x4), (5, .int x5), (6, .int x6)] [] (S, d) 0 0
    unfold f_X9_threeOf_L91_b
    refine r_iload 6 6 rfl 93 rfl dX9_threeOf_91 ?_
    refine r_if_le 132 96 rfl rfl dX9_threeOf_93 ?_ ?_
    · refine r_sub [0, 1, 2, 3, 4, 5, 6] rfl ?_
      exact hK x6 d
    · refine r_aload_n 0 0 rfl rfl 97 rfl dX9_threeOf_96 ?_
      refine r_get (h0 0 (Nat.le_of_ble_eq_true rfl)) rfl (Nat.le_of_ble_eq_true rfl) rfl rfl w_X9_threeOf_1 9 (Nat.le_of_ble_eq_true rfl) rfl w_X9_threeOf_2 (.ref (E.2.1 + (o0 + 7))) rfl 100 rfl dX9_threeOf_97 ?_
      refine r_iload 6 6 rfl 102 rfl dX9_threeOf_100 ?_
      refine r_iconst 1 rfl 103 rfl dX9_threeOf_102 ?_
      refine r_isub 104 rfl dX9_threeOf_103 ?_
      refine r_iald (h0 7 (Nat.le_of_ble_eq_true rfl)) rfl rfl 105 rfl dX9_threeOf_104 (fun v6 => ?_)
      refine r_iload 5 5 rfl 107 rfl dX9_threeOf_105 ?_
      refine r_icmp_le 132 110 rfl rfl dX9_threeOf_107 ?_ ?_
      · refine r_sub [0, 1, 2, 3, 4, 5, 6] rfl ?_
        exact hK x6 d
      · refine r_aload_n 0 0 rfl rfl 111 rfl dX9_threeOf_110 ?_
        refine r_get (h0 0 (Nat.le_of_ble_eq_true rfl)) rfl (Nat.le_of_ble_eq_true rfl) rfl rfl w_X9_threeOf_1 9 (Nat.le_of_ble_eq_true rfl) rfl w_X9_threeOf_2 (.ref (E.2.1 + (o0 + 7))) rfl 114 rfl dX9_threeOf_111 ?_
        refine r_iload 6 6 rfl 116 rfl dX9_threeOf_114 ?_
        refine r_aload_n 0 0 rfl rfl 117 rfl dX9_threeOf_116 ?_
        refine r_get (h0 0 (Nat.le_of_ble_eq_true rfl)) rfl (Nat.le_of_ble_eq_true rfl) rfl rfl w_X9_threeOf_1 9 (Nat.le_of_ble_eq_true rfl) rfl w_X9_threeOf_2 (.ref (E.2.1 + (o0 + 7))) rfl 120 rfl dX9_threeOf_117 ?_
        refine r_iload 6 6 rfl 122 rfl dX9_threeOf_120 ?_
        refine r_iconst 1 rfl 123 rfl dX9_threeOf_122 ?_
        refine r_isub 124 rfl dX9_threeOf_123 ?_
        refine r_iald (h0 7 (Nat.le_of_ble_eq_true rfl)) rfl rfl 125 rfl dX9_threeOf_124 (fun v7 => ?_)
        refine r_iast (h0 7 (Nat.le_of_ble_eq_true rfl)) rfl rfl 126 rfl dX9_threeOf_125 (fun d8 => ?_)
        refine r_iinc (x6 + (-1)) 6 rfl (congrArg (fun y => x6 + y) (by decide)) [(6, .int (x6 + (-1))), (0, .ref (E.2.1 + o0)), (1, .int x1), (2, .int x2), (3, .int x3), (4, .int x4), (5, .int x5)] (Nat.le_of_ble_eq_true rfl) rfl 129 rfl dX9_threeOf_126 ?_
        refine r_goto 91 rfl dX9_threeOf_129 ?_
        refine r_sub [1, 2, 3, 4, 5, 6, 0] rfl ?_
        exact ih (x6 + (-1)) d8
def f_X9_threeOf_L5_b (o0 : Nat) (x1 : Int32) (x2 : Int32) (K : Int32 → z_D → Option (Int32 × z_D)) (R : Int32 → Int32 → z_D → Option (Int32 × z_D)) (x3 : Int32) (x4 : Int32) (d : z_D) : Option (Int32 × z_D) := z_ald d (o0 + 1) 2656 1 (fun v1 => (if v1 ≤ x4 then (K x3 d) else z_ald d (o0 + 1) 2656 (8 + (3 * x4)) (fun v2 => (if v2 = x2 then ((f_X9_hasFinish d o0 x1 x4).bind fun v3 => (if v3 = 0 then (R x3 (x4 + 1) d) else ((f_X9_at_ x1 x4 6).bind fun v4 => z_ald d (o0 + 1) 2656 v4 (fun v5 => z_let (fun x_70 : Int32 => (if x3 < 3 then (f_X9_threeOf_L91 o0 x1 x2 x3 x4 v5 (fun v10 d9 => z_ast d9 (o0 + 7) 3 v10 v5 (fun d11 => (R (x3 + 1) (x4 + 1) d11))) z_N x_70 d) else z_ald d (o0 + 7) 3 2 (fun v12 => (if v5 < v12 then (f_X9_threeOf_L91 o0 x1 x2 x3 x4 v5 (fun v14 d13 => z_ast d13 (o0 + 7) 3 v14 v5 (fun d15 => (R (x3 + 1) (x4 + 1) d15))) z_N x_70 d) else (R x3 (x4 + 1) d))))) (fun J70 => (if 3 ≤ x3 then (J70 2) else (J70 x3))))))) else (R x3 (x4 + 1) d)))))
def f_X9_threeOf_L5 (o0 : Nat) (x1 : Int32) (x2 : Int32) (K : Int32 → z_D → Option (Int32 × z_D)) : Nat → Int32 → Int32 → z_D → Option (Int32 × z_D)
  | 0 => fun _ _ _ => none
  | n + 1 => f_X9_threeOf_L5_b o0 x1 x2 K (f_X9_threeOf_L5 o0 x1 x2 K n)
set_option maxHeartbeats 4000000 in
set_option maxRecDepth 100000 in
theorem g_X9_threeOf_L5 {E : z_E} {l : Launch} {S : z_S} {o0 : Nat} {x1 : Int32} {x2 : Int32} {K : Int32 → z_D → Option (Int32 × z_D)} (h0 : A_Model S o0) (hK : ∀ (y3 : Int32) (d9 : z_D), z_G E l Y_X9_threeOf (cvX S) (K y3 d9) 150 [(0, .ref (E.2.1 + o0)), (1, .int x1), (3, .int y3)] [] (S, d9) 0 0) : ∀ (n : Nat) (x3 : Int32) (x4 : Int32) (d : z_D), z_G E l Y_X9_threeOf (cvX S) (f_X9_threeOf_L5 o0 x1 x2 K n x3 x4 d) 5 [(0, .ref (E.2.1 + o0)), (1, .int x1), (2, .int x2), (3, .int x3), (4, .int x4)] [] (S, d) 0 0 := by
  intro n
  induction n with
  | zero => intro _ _ _; exact r_none
  | succ n ih =>
    intro x3 x4 d
    show z_G E l Y_X9_threeOf (cvX S) (f_X9_threeOf_L5_b o0 x1 x2 K (f_X9_threeOf_L5 o0 x1 x2 K n) x3 x4 d) 5 [(0, .ref (E.2.1 + o0)), (1, .int x1), (2, .int x2), (3, .int x3), (4, .int x4)] [] (S, d) 0 0
    unfold f_X9_threeOf_L5_b
    refine r_iload 4 4 rfl 7 rfl dX9_threeOf_5 ?_
    refine r_aload_n 0 0 rfl rfl 8 rfl dX9_threeOf_7 ?_
    refine r_get (h0 0 (Nat.le_of_ble_eq_true rfl)) rfl (Nat.le_of_ble_eq_true rfl) rfl rfl w_X9_threeOf_1 1 (Nat.le_of_ble_eq_true rfl) rfl w_X9_threeOf_0 (.ref (E.2.1 + (o0 + 1))) rfl 11 rfl dX9_threeOf_8 ?_
    refine r_iconst 1 rfl 12 rfl dX9_threeOf_11 ?_
    refine r_iald (h0 1 (Nat.le_of_ble_eq_true rfl)) rfl rfl 13 rfl dX9_threeOf_12 (fun v1 => ?_)
    refine r_icmp_ge 150 16 rfl rfl dX9_threeOf_13 ?_ ?_
    · refine r_sub [0, 1, 3] rfl ?_
      exact hK x3 d
    · refine r_aload_n 0 0 rfl rfl 17 rfl dX9_threeOf_16 ?_
      refine r_get (h0 0 (Nat.le_of_ble_eq_true rfl)) rfl (Nat.le_of_ble_eq_true rfl) rfl rfl w_X9_threeOf_1 1 (Nat.le_of_ble_eq_true rfl) rfl w_X9_threeOf_0 (.ref (E.2.1 + (o0 + 1))) rfl 20 rfl dX9_threeOf_17 ?_
      refine r_bipush 8 rfl 22 rfl dX9_threeOf_20 ?_
      refine r_iconst 3 rfl 23 rfl dX9_threeOf_22 ?_
      refine r_iload 4 4 rfl 25 rfl dX9_threeOf_23 ?_
      refine r_imul 26 rfl dX9_threeOf_25 ?_
      refine r_iadd 27 rfl dX9_threeOf_26 ?_
      refine r_iald (h0 1 (Nat.le_of_ble_eq_true rfl)) rfl rfl 28 rfl dX9_threeOf_27 (fun v2 => ?_)
      refine r_iload_n 2 2 rfl rfl 29 rfl dX9_threeOf_28 ?_
      refine r_icmp_ne 144 32 rfl rfl dX9_threeOf_29 ?_ ?_
      · refine r_iinc (x4 + 1) 4 rfl rfl [(4, .int (x4 + 1)), (0, .ref (E.2.1 + o0)), (1, .int x1), (2, .int x2), (3, .int x3)] (Nat.le_of_ble_eq_true rfl) rfl 147 rfl dX9_threeOf_144 ?_
        refine r_goto 5 rfl dX9_threeOf_147 ?_
        refine r_sub [1, 2, 3, 4, 0] rfl ?_
        exact ih x3 (x4 + 1) d
      · refine r_aload_n 0 0 rfl rfl 33 rfl dX9_threeOf_32 ?_
        refine r_iload_n 1 1 rfl rfl 34 rfl dX9_threeOf_33 ?_
        refine r_iload 4 4 rfl 36 rfl dX9_threeOf_34 ?_
        refine r_callV_I (c_X9_hasFinish (E := E) (l := l) (S := S) d o0 h0 x1 x4) ok_X9_hasFinish ⟨⟨(Nat.le_of_ble_eq_true rfl), (Nat.le_of_ble_eq_true rfl)⟩, (Nat.le_of_ble_eq_true rfl), (Nat.le_of_ble_eq_true rfl)⟩ (h0 0 (Nat.le_of_ble_eq_true rfl)) (Nat.le_of_ble_eq_true rfl) rfl rfl rfl (Nat.le_of_ble_eq_true rfl) gX9_threeOf_X9_hasFinish rfl rfl 39 rfl dX9_threeOf_36 (fun v3 => ?_)
        refine r_if_ne 45 42 rfl rfl dX9_threeOf_39 ?_ ?_
        · refine r_aload_n 0 0 rfl rfl 46 rfl dX9_threeOf_45 ?_
          refine r_get (h0 0 (Nat.le_of_ble_eq_true rfl)) rfl (Nat.le_of_ble_eq_true rfl) rfl rfl w_X9_threeOf_1 1 (Nat.le_of_ble_eq_true rfl) rfl w_X9_threeOf_0 (.ref (E.2.1 + (o0 + 1))) rfl 49 rfl dX9_threeOf_46 ?_
          refine r_iload_n 1 1 rfl rfl 50 rfl dX9_threeOf_49 ?_
          refine r_iload 4 4 rfl 52 rfl dX9_threeOf_50 ?_
          refine r_bipush 6 rfl 54 rfl dX9_threeOf_52 ?_
          refine r_callS_I (c_X9_at_ (E := E) (l := l) (S := S) d x1 x4 6) ok_X9_at_ ⟨⟨(Nat.le_of_ble_eq_true rfl), (Nat.le_of_ble_eq_true rfl)⟩, (Nat.le_of_ble_eq_true rfl), (Nat.le_of_ble_eq_true rfl)⟩ rfl (Nat.le_of_ble_eq_true rfl) gX9_threeOf_X9_at_ rfl rfl 57 rfl dX9_threeOf_54 (fun v4 => ?_)
          refine r_iald (h0 1 (Nat.le_of_ble_eq_true rfl)) rfl rfl 58 rfl dX9_threeOf_57 (fun v5 => ?_)
          refine r_istore 5 [(5, .int v5), (0, .ref (E.2.1 + o0)), (1, .int x1), (2, .int x2), (3, .int x3), (4, .int x4)] (Nat.le_of_ble_eq_true rfl) rfl 60 rfl dX9_threeOf_58 ?_
          refine r_iload_n 3 4 rfl rfl 61 rfl dX9_threeOf_60 ?_
          refine r_iconst 3 rfl 62 rfl dX9_threeOf_61 ?_
          refine r_let 70 (f := fun x_70 : Int32 => [(0, .ref (E.2.1 + o0)), (1, .int x1), (2, .int x2), (3, .int x3), (4, .int x4), (5, .int v5)]) (g := fun x_70 : Int32 => [.int x_70]) (ww := fun x_70 : Int32 => (S, d)) (fun x_70 => ?_) (fun J70 hJ70 => ?_)
          · refine r_istore 6 [(6, .int x_70), (0, .ref (E.2.1 + o0)), (1, .int x1), (2, .int x2), (3, .int x3), (4, .int x4), (5, .int v5)] (Nat.le_of_ble_eq_true rfl) rfl 72 rfl dX9_threeOf_70 ?_
            refine r_iload_n 3 4 rfl rfl 73 rfl dX9_threeOf_72 ?_
            refine r_iconst 3 rfl 74 rfl dX9_threeOf_73 ?_
            refine r_icmp_lt 91 77 rfl rfl dX9_threeOf_74 ?_ ?_
            · refine r_sub [1, 2, 3, 4, 5, 6, 0] rfl ?_
              refine g_X9_threeOf_L91 h0 (fun v10 d9 => ?_) z_N x_70 d
              refine r_aload_n 0 0 rfl rfl 133 rfl dX9_threeOf_132 ?_
              refine r_get (h0 0 (Nat.le_of_ble_eq_true rfl)) rfl (Nat.le_of_ble_eq_true rfl) rfl rfl w_X9_threeOf_1 9 (Nat.le_of_ble_eq_true rfl) rfl w_X9_threeOf_2 (.ref (E.2.1 + (o0 + 7))) rfl 136 rfl dX9_threeOf_133 ?_
              refine r_iload 6 6 rfl 138 rfl dX9_threeOf_136 ?_
              refine r_iload 5 5 rfl 140 rfl dX9_threeOf_138 ?_
              refine r_iast (h0 7 (Nat.le_of_ble_eq_true rfl)) rfl rfl 141 rfl dX9_threeOf_140 (fun d11 => ?_)
              refine r_iinc (x3 + 1) 3 rfl rfl [(3, .int (x3 + 1)), (0, .ref (E.2.1 + o0)), (1, .int x1), (2, .int x2), (4, .int x4), (5, .int v5), (6, .int v10)] (Nat.le_of_ble_eq_true rfl) rfl 144 rfl dX9_threeOf_141 ?_
              refine r_iinc (x4 + 1) 4 rfl rfl [(4, .int (x4 + 1)), (3, .int (x3 + 1)), (0, .ref (E.2.1 + o0)), (1, .int x1), (2, .int x2), (5, .int v5), (6, .int v10)] (Nat.le_of_ble_eq_true rfl) rfl 147 rfl dX9_threeOf_144 ?_
              refine r_goto 5 rfl dX9_threeOf_147 ?_
              refine r_sub [2, 3, 4, 1, 0] rfl ?_
              exact ih (x3 + 1) (x4 + 1) d11
            · refine r_aload_n 0 1 rfl rfl 78 rfl dX9_threeOf_77 ?_
              refine r_get (h0 0 (Nat.le_of_ble_eq_true rfl)) rfl (Nat.le_of_ble_eq_true rfl) rfl rfl w_X9_threeOf_1 9 (Nat.le_of_ble_eq_true rfl) rfl w_X9_threeOf_2 (.ref (E.2.1 + (o0 + 7))) rfl 81 rfl dX9_threeOf_78 ?_
              refine r_iconst 2 rfl 82 rfl dX9_threeOf_81 ?_
              refine r_iald (h0 7 (Nat.le_of_ble_eq_true rfl)) rfl rfl 83 rfl dX9_threeOf_82 (fun v12 => ?_)
              refine r_iload 5 6 rfl 85 rfl dX9_threeOf_83 ?_
              refine r_icmp_gt 91 88 rfl rfl dX9_threeOf_85 ?_ ?_
              · refine r_sub [1, 2, 3, 4, 5, 6, 0] rfl ?_
                refine g_X9_threeOf_L91 h0 (fun v14 d13 => ?_) z_N x_70 d
                refine r_aload_n 0 0 rfl rfl 133 rfl dX9_threeOf_132 ?_
                refine r_get (h0 0 (Nat.le_of_ble_eq_true rfl)) rfl (Nat.le_of_ble_eq_true rfl) rfl rfl w_X9_threeOf_1 9 (Nat.le_of_ble_eq_true rfl) rfl w_X9_threeOf_2 (.ref (E.2.1 + (o0 + 7))) rfl 136 rfl dX9_threeOf_133 ?_
                refine r_iload 6 6 rfl 138 rfl dX9_threeOf_136 ?_
                refine r_iload 5 5 rfl 140 rfl dX9_threeOf_138 ?_
                refine r_iast (h0 7 (Nat.le_of_ble_eq_true rfl)) rfl rfl 141 rfl dX9_threeOf_140 (fun d15 => ?_)
                refine r_iinc (x3 + 1) 3 rfl rfl [(3, .int (x3 + 1)), (0, .ref (E.2.1 + o0)), (1, .int x1), (2, .int x2), (4, .int x4), (5, .int v5), (6, .int v14)] (Nat.le_of_ble_eq_true rfl) rfl 144 rfl dX9_threeOf_141 ?_
                refine r_iinc (x4 + 1) 4 rfl rfl [(4, .int (x4 + 1)), (3, .int (x3 + 1)), (0, .ref (E.2.1 + o0)), (1, .int x1), (2, .int x2), (5, .int v5), (6, .int v14)] (Nat.le_of_ble_eq_true rfl) rfl 147 rfl dX9_threeOf_144 ?_
                refine r_goto 5 rfl dX9_threeOf_147 ?_
                refine r_sub [2, 3, 4, 1, 0] rfl ?_
                exact ih (x3 + 1) (x4 + 1) d15
              · refine r_goto 144 rfl dX9_threeOf_88 ?_
                refine r_iinc (x4 + 1) 5 rfl rfl [(4, .int (x4 + 1)), (6, .int x_70), (0, .ref (E.2.1 + o0)), (1, .int x1), (2, .int x2), (3, .int x3), (5, .int v5)] (Nat.le_of_ble_eq_true rfl) rfl 147 rfl dX9_threeOf_144 ?_
                refine r_goto 5 rfl dX9_threeOf_147 ?_
                refine r_sub [2, 3, 4, 5, 0] rfl ?_
                exact ih x3 (x4 + 1) d
          refine r_icmp_ge 69 65 rfl rfl dX9_threeOf_62 ?_ ?_
          · refine r_iconst 2 rfl 70 rfl dX9_threeOf_69 ?_
            refine r_sub [1, 2, 3, 4, 5, 0] rfl ?_
            exact hJ70 2
          · refine r_iload_n 3 4 rfl rfl 66 rfl dX9_threeOf_65 ?_
            refine r_goto 70 rfl dX9_threeOf_66 ?_
            refine r_sub [1, 2, 3, 4, 5, 0] rfl ?_
            exact hJ70 x3
        · refine r_goto 144 rfl dX9_threeOf_42 ?_
          refine r_iinc (x4 + 1) 4 rfl rfl [(4, .int (x4 + 1)), (0, .ref (E.2.1 + o0)), (1, .int x1), (2, .int x2), (3, .int x3)] (Nat.le_of_ble_eq_true rfl) rfl 147 rfl dX9_threeOf_144 ?_
          refine r_goto 5 rfl dX9_threeOf_147 ?_
          refine r_sub [1, 2, 3, 4, 0] rfl ?_
          exact ih x3 (x4 + 1) d
def f_X9_threeOf (d : z_D) (o0 : Nat) (x1 : Int32) (x2 : Int32) : Option (Int32 × z_D) := (f_X9_threeOf_L5 o0 x1 x2 (fun v17 d16 => (if 3 ≤ v17 then z_ald d16 (o0 + 7) 3 0 (fun v18 => z_ald d16 (o0 + 7) 3 1 (fun v19 => z_ald d16 (o0 + 7) 3 2 (fun v20 => (some (((v18 + v19) + v20), d16))))) else ((f_X9_at x1 9).bind fun v21 => z_ald d16 (o0 + 1) 2656 v21 (fun v22 => (some ((3 * v22), d16)))))) z_N 0 0 d)
set_option maxHeartbeats 4000000 in
set_option maxRecDepth 100000 in
theorem c_X9_threeOf {E : z_E} {l : Launch} {S : z_S} (d : z_D) (o0 : Nat) (h0 : A_Model S o0) (x1 : Int32) (x2 : Int32) : z_Sp E l yX9_threeOf Y_X9_threeOf (cvX S) [.ref (E.2.1 + o0), .int x1, .int x2] (S, d) (f_X9_threeOf d o0 x1 x2) := by
  refine z_entry (lv := [(0, .ref (E.2.1 + o0)), (1, .int x1), (2, .int x2)]) (by decide) rfl rfl (Nat.le_of_ble_eq_true rfl) rfl ?_
  unfold f_X9_threeOf
  refine r_iconst 0 rfl 1 rfl dX9_threeOf_0 ?_
  refine r_istore_n 3 rfl [(3, .int 0), (0, .ref (E.2.1 + o0)), (1, .int x1), (2, .int x2)] (Nat.le_of_ble_eq_true rfl) rfl 2 rfl dX9_threeOf_1 ?_
  refine r_iconst 0 rfl 3 rfl dX9_threeOf_2 ?_
  refine r_istore 4 [(4, .int 0), (3, .int 0), (0, .ref (E.2.1 + o0)), (1, .int x1), (2, .int x2)] (Nat.le_of_ble_eq_true rfl) rfl 5 rfl dX9_threeOf_3 ?_
  refine r_sub [2, 3, 4, 1, 0] rfl ?_
  refine g_X9_threeOf_L5 h0 (fun v17 d16 => ?_) z_N 0 0 d
  refine r_iload_n 3 2 rfl rfl 151 rfl dX9_threeOf_150 ?_
  refine r_iconst 3 rfl 152 rfl dX9_threeOf_151 ?_
  refine r_icmp_ge 171 155 rfl rfl dX9_threeOf_152 ?_ ?_
  · refine r_aload_n 0 0 rfl rfl 172 rfl dX9_threeOf_171 ?_
    refine r_get (h0 0 (Nat.le_of_ble_eq_true rfl)) rfl (Nat.le_of_ble_eq_true rfl) rfl rfl w_X9_threeOf_1 9 (Nat.le_of_ble_eq_true rfl) rfl w_X9_threeOf_2 (.ref (E.2.1 + (o0 + 7))) rfl 175 rfl dX9_threeOf_172 ?_
    refine r_iconst 0 rfl 176 rfl dX9_threeOf_175 ?_
    refine r_iald (h0 7 (Nat.le_of_ble_eq_true rfl)) rfl rfl 177 rfl dX9_threeOf_176 (fun v18 => ?_)
    refine r_aload_n 0 0 rfl rfl 178 rfl dX9_threeOf_177 ?_
    refine r_get (h0 0 (Nat.le_of_ble_eq_true rfl)) rfl (Nat.le_of_ble_eq_true rfl) rfl rfl w_X9_threeOf_1 9 (Nat.le_of_ble_eq_true rfl) rfl w_X9_threeOf_2 (.ref (E.2.1 + (o0 + 7))) rfl 181 rfl dX9_threeOf_178 ?_
    refine r_iconst 1 rfl 182 rfl dX9_threeOf_181 ?_
    refine r_iald (h0 7 (Nat.le_of_ble_eq_true rfl)) rfl rfl 183 rfl dX9_threeOf_182 (fun v19 => ?_)
    refine r_iadd 184 rfl dX9_threeOf_183 ?_
    refine r_aload_n 0 0 rfl rfl 185 rfl dX9_threeOf_184 ?_
    refine r_get (h0 0 (Nat.le_of_ble_eq_true rfl)) rfl (Nat.le_of_ble_eq_true rfl) rfl rfl w_X9_threeOf_1 9 (Nat.le_of_ble_eq_true rfl) rfl w_X9_threeOf_2 (.ref (E.2.1 + (o0 + 7))) rfl 188 rfl dX9_threeOf_185 ?_
    refine r_iconst 2 rfl 189 rfl dX9_threeOf_188 ?_
    refine r_iald (h0 7 (Nat.le_of_ble_eq_true rfl)) rfl rfl 190 rfl dX9_threeOf_189 (fun v20 => ?_)
    refine r_iadd 191 rfl dX9_threeOf_190 ?_
    exact r_ireturn rfl rfl (Nat.le_of_ble_eq_true rfl) (Nat.le_of_ble_eq_true rfl) dX9_threeOf_191
  · refine r_iconst 3 rfl 156 rfl dX9_threeOf_155 ?_
    refine r_aload_n 0 0 rfl rfl 157 rfl dX9_threeOf_156 ?_
    refine r_get (h0 0 (Nat.le_of_ble_eq_true rfl)) rfl (Nat.le_of_ble_eq_true rfl) rfl rfl w_X9_threeOf_1 1 (Nat.le_of_ble_eq_true rfl) rfl w_X9_threeOf_0 (.ref (E.2.1 + (o0 + 1))) rfl 160 rfl dX9_threeOf_157 ?_
    refine r_iload_n 1 1 rfl rfl 161 rfl dX9_threeOf_160 ?_
    refine r_bipush 9 rfl 163 rfl dX9_threeOf_161 ?_
    refine r_callS_I (c_X9_at (E := E) (l := l) (S := S) d16 x1 9) ok_X9_at ⟨⟨(Nat.le_of_ble_eq_true rfl), (Nat.le_of_ble_eq_true rfl)⟩, (Nat.le_of_ble_eq_true rfl), (Nat.le_of_ble_eq_true rfl)⟩ rfl (Nat.le_of_ble_eq_true rfl) gX9_threeOf_X9_at rfl rfl 166 rfl dX9_threeOf_163 (fun v21 => ?_)
    refine r_iald (h0 1 (Nat.le_of_ble_eq_true rfl)) rfl rfl 167 rfl dX9_threeOf_166 (fun v22 => ?_)
    refine r_imul 168 rfl dX9_threeOf_167 ?_
    refine r_goto 191 rfl dX9_threeOf_168 ?_
    exact r_ireturn rfl rfl (Nat.le_of_ble_eq_true rfl) (Nat.le_of_ble_eq_true rfl) dX9_threeOf_191
def Y_X9_teamTotal : z_Y := (RX9, cX9_teamTotal, 4, wsX9_teamTotal, (some .int), { frames := 3, cells := 0, slots := 0, locals := 70 }, 0, 0)
theorem ok_X9_teamTotal : z_Ok yX9_teamTotal Y_X9_teamTotal 1 := ⟨⟨_, rfl⟩, rfl, rfl, rfl, by decide +kernel, by decide +kernel⟩
def f_X9_teamTotal_L4_b (o0 : Nat) (x1 : Int32) (K : Int32 → z_D → Option (Int32 × z_D)) (R : Int32 → Int32 → z_D → Option (Int32 × z_D)) (x2 : Int32) (x3 : Int32) (d : z_D) : Option (Int32 × z_D) := ((f_X9_closedMany d o0).bind fun v1 => (if v1 ≤ x3 then (K x2 d) else z_bX (f_X9_threeOf d o0 x3 x1) (fun v2 d3 => z_nam (x2 + v2) (fun v4 => (R v4 (x3 + 1) d3)))))
def f_X9_teamTotal_L4 (o0 : Nat) (x1 : Int32) (K : Int32 → z_D → Option (Int32 × z_D)) : Nat → Int32 → Int32 → z_D → Option (Int32 × z_D)
  | 0 => fun _ _ _ => none
  | n + 1 => f_X9_teamTotal_L4_b o0 x1 K (f_X9_teamTotal_L4 o0 x1 K n)
set_option maxHeartbeats 4000000 in
set_option maxRecDepth 100000 in
theorem g_X9_teamTotal_L4 {E : z_E} {l : Launch} {S : z_S} {o0 : Nat} {x1 : Int32} {K : Int32 → z_D → Option (Int32 × z_D)} (h0 : A_Model S o0) (hK : ∀ (y2 : Int32) (d9 : z_D), z_G E l Y_X9_teamTotal (cvX S) (K y2 d9) 27 [(2, .int y2)] [] (S, d9) 0 0) : ∀ (n : Nat) (x2 : Int32) (x3 : Int32) (d : z_D), z_G E l Y_X9_teamTotal (cvX S) (f_X9_teamTotal_L4 o0 x1 K n x2 x3 d) 4 [(0, .ref (E.2.1 + o0)), (1, .int x1), (2, .int x2), (3, .int x3)] [] (S, d) 0 0 := by
  intro n
  induction n with
  | zero => intro _ _ _; exact r_none
  | succ n ih =>
    intro x2 x3 d
    show z_G E l Y_X9_teamTotal (cvX S) (f_X9_teamTotal_L4_b o0 x1 K (f_X9_teamTotal_L4 o0 x1 K n) x2 x3 d) 4 [(0, .ref (E.2.1 + o0)), (1, .int x1), (2, .int x2), (3, .int x3)] [] (S, d) 0 0
    unfold f_X9_teamTotal_L4_b
    refine r_iload_n 3 3 rfl rfl 5 rfl dX9_teamTotal_4 ?_
    refine r_aload_n 0 0 rfl rfl 6 rfl dX9_teamTotal_5 ?_
    refine r_callV_I (c_X9_closedMany (E := E) (l := l) (S := S) d o0 h0) ok_X9_closedMany ⟨⟨(Nat.le_of_ble_eq_true rfl), (Nat.le_of_ble_eq_true rfl)⟩, (Nat.le_of_ble_eq_true rfl), (Nat.le_of_ble_eq_true rfl)⟩ (h0 0 (Nat.le_of_ble_eq_true rfl)) (Nat.le_of_ble_eq_true rfl) rfl rfl rfl (Nat.le_of_ble_eq_true rfl) gX9_teamTotal_X9_closedMany rfl rfl 9 rfl dX9_teamTotal_6 (fun v1 => ?_)
    refine r_icmp_ge 27 12 rfl rfl dX9_teamTotal_9 ?_ ?_
    · refine r_sub [2] rfl ?_
      exact hK x2 d
    · refine r_iload_n 2 2 rfl rfl 13 rfl dX9_teamTotal_12 ?_
      refine r_aload_n 0 0 rfl rfl 14 rfl dX9_teamTotal_13 ?_
      refine r_iload_n 3 3 rfl rfl 15 rfl dX9_teamTotal_14 ?_
      refine r_iload_n 1 1 rfl rfl 16 rfl dX9_teamTotal_15 ?_
      refine r_callV_X (c_X9_threeOf (E := E) (l := l) (S := S) d o0 h0 x3 x1) ok_X9_threeOf ⟨⟨(Nat.le_of_ble_eq_true rfl), (Nat.le_of_ble_eq_true rfl)⟩, (Nat.le_of_ble_eq_true rfl), (Nat.le_of_ble_eq_true rfl)⟩ (h0 0 (Nat.le_of_ble_eq_true rfl)) (Nat.le_of_ble_eq_true rfl) rfl rfl rfl (Nat.le_of_ble_eq_true rfl) gX9_teamTotal_X9_threeOf rfl rfl 19 rfl dX9_teamTotal_16 (fun v2 d3 => ?_)
      refine r_iadd 20 rfl dX9_teamTotal_19 ?_
      refine r_nami (fun v4 => ?_)
      refine r_istore_n 2 rfl [(2, .int v4), (0, .ref (E.2.1 + o0)), (1, .int x1), (3, .int x3)] (Nat.le_of_ble_eq_true rfl) rfl 21 rfl dX9_teamTotal_20 ?_
      refine r_iinc (x3 + 1) 3 rfl rfl [(3, .int (x3 + 1)), (2, .int v4), (0, .ref (E.2.1 + o0)), (1, .int x1)] (Nat.le_of_ble_eq_true rfl) rfl 24 rfl dX9_teamTotal_21 ?_
      refine r_goto 4 rfl dX9_teamTotal_24 ?_
      refine r_sub [2, 3, 1, 0] rfl ?_
      exact ih v4 (x3 + 1) d3
def f_X9_teamTotal (d : z_D) (o0 : Nat) (x1 : Int32) : Option (Int32 × z_D) := (f_X9_teamTotal_L4 o0 x1 (fun v6 d5 => (some (v6, d5))) z_N 0 0 d)
set_option maxHeartbeats 4000000 in
set_option maxRecDepth 100000 in
theorem c_X9_teamTotal {E : z_E} {l : Launch} {S : z_S} (d : z_D) (o0 : Nat) (h0 : A_Model S o0) (x1 : Int32) : z_Sp E l yX9_teamTotal Y_X9_teamTotal (cvX S) [.ref (E.2.1 + o0), .int x1] (S, d) (f_X9_teamTotal d o0 x1) := by
  refine z_entry (lv := [(0, .ref (E.2.1 + o0)), (1, .int x1)]) (by decide) rfl rfl (Nat.le_of_ble_eq_true rfl) rfl ?_
  unfold f_X9_teamTotal
  refine r_iconst 0 rfl 1 rfl dX9_teamTotal_0 ?_
  refine r_istore_n 2 rfl [(2, .int 0), (0, .ref (E.2.1 + o0)), (1, .int x1)] (Nat.le_of_ble_eq_true rfl) rfl 2 rfl dX9_teamTotal_1 ?_
  refine r_iconst 0 rfl 3 rfl dX9_teamTotal_2 ?_
  refine r_istore_n 3 rfl [(3, .int 0), (2, .int 0), (0, .ref (E.2.1 + o0)), (1, .int x1)] (Nat.le_of_ble_eq_true rfl) rfl 4 rfl dX9_teamTotal_3 ?_
  refine r_sub [2, 3, 1, 0] rfl ?_
  refine g_X9_teamTotal_L4 h0 (fun v6 d5 => ?_) z_N 0 0 d
  refine r_iload_n 2 0 rfl rfl 28 rfl dX9_teamTotal_27 ?_
  exact r_ireturn rfl rfl (Nat.le_of_ble_eq_true rfl) (Nat.le_of_ble_eq_true rfl) dX9_teamTotal_28
def Y_X9_ranksTeams : z_Y := (RX9, cX9_ranksTeams, 3, wsX9_ranksTeams, none, { frames := 4, cells := 0, slots := 0, locals := 93 }, 0, 0)
theorem ok_X9_ranksTeams : z_Ok yX9_ranksTeams Y_X9_ranksTeams 0 := ⟨⟨_, rfl⟩, rfl, rfl, rfl, by decide +kernel, by decide +kernel⟩
theorem w_X9_ranksTeams_0 : Cond.fieldLink RX9 7 "BunchTimesModel" "row" "[I" ∈ wsX9_ranksTeams := by decide +kernel
theorem w_X9_ranksTeams_1 : ∀ w ∈ u_ws RX9 TX9 18, w ∈ wsX9_ranksTeams := by decide +kernel
theorem w_X9_ranksTeams_2 : Cond.fieldLink RX9 205 "BunchTimesModel" "rankedMany" "I" ∈ wsX9_ranksTeams := by decide +kernel
theorem w_X9_ranksTeams_3 : Cond.fieldLink RX9 26 "BunchTimesModel" "ranked" "[I" ∈ wsX9_ranksTeams := by decide +kernel
def f_X9_ranksTeams_L28_b (o0 : Nat) (x1 : Int32) (K : Int32 → z_D → Option z_D) (R : Int32 → z_D → Option z_D) (x2 : Int32) (d : z_D) : Option z_D := (if x2 ≤ 0 then (K x2 d) else z_bX (f_X9_teamTotal d o0 x1) (fun v4 d5 => z_ald d5 (o0 + 6) 16 (x2 - 1) (fun v6 => z_bX (f_X9_teamTotal d5 o0 v6) (fun v7 d8 => (if v7 ≤ v4 then (K x2 d8) else z_ald d8 (o0 + 6) 16 (x2 - 1) (fun v9 => z_ast d8 (o0 + 6) 16 x2 v9 (fun d10 => (R (x2 + (-1)) d10))))))))
def f_X9_ranksTeams_L28 (o0 : Nat) (x1 : Int32) (K : Int32 → z_D → Option z_D) : Nat → Int32 → z_D → Option z_D
  | 0 => fun _ _ => none
  | n + 1 => f_X9_ranksTeams_L28_b o0 x1 K (f_X9_ranksTeams_L28 o0 x1 K n)
set_option maxHeartbeats 4000000 in
set_option maxRecDepth 100000 in
theorem g_X9_ranksTeams_L28 {E : z_E} {l : Launch} {S : z_S} {o0 : Nat} {x1 : Int32} {K : Int32 → z_D → Option z_D} (h0 : A_Model S o0) (hK : ∀ (y2 : Int32) (d9 : z_D), z_G E l Y_X9_ranksTeams (cvV S) (K y2 d9) 72 [(0, .ref (E.2.1 + o0)), (1, .int x1), (2, .int y2)] [] (S, d9) 0 0) : ∀ (n : Nat) (x2 : Int32) (d : z_D), z_G E l Y_X9_ranksTeams (cvV S) (f_X9_ranksTeams_L28 o0 x1 K n x2 d) 28 [(0, .ref (E.2.1 + o0)), (1, .int x1), (2, .int x2)] [] (S, d) 0 0 := by
  intro n
  induction n with
  | zero => intro _ _; exact r_none
  | succ n ih =>
    intro x2 d
    show z_G E l Y_X9_ranksTeams (cvV S) (f_X9_ranksTeams_L28_b o0 x1 K (f_X9_ranksTeams_L28 o0 x1 K n) x2 d) 28 [(0, .ref (E.2.1 + o0)), (1, .int x1), (2, .int x2)] [] (S, d) 0 0
    unfold f_X9_ranksTeams_L28_b
    refine r_iload_n 2 2 rfl rfl 29 rfl dX9_ranksTeams_28 ?_
    refine r_if_le 72 32 rfl rfl dX9_ranksTeams_29 ?_ ?_
    · refine r_sub [0, 1, 2] rfl ?_
      exact hK x2 d
    · refine r_aload_n 0 0 rfl rfl 33 rfl dX9_ranksTeams_32 ?_
      refine r_iload_n 1 1 rfl rfl 34 rfl dX9_ranksTeams_33 ?_
      refine r_callV_X (c_X9_teamTotal (E := E) (l := l) (S := S) d o0 h0 x1) ok_X9_teamTotal ⟨⟨(Nat.le_of_ble_eq_true rfl), (Nat.le_of_ble_eq_true rfl)⟩, (Nat.le_of_ble_eq_true rfl), (Nat.le_of_ble_eq_true rfl)⟩ (h0 0 (Nat.le_of_ble_eq_true rfl)) (Nat.le_of_ble_eq_true rfl) rfl rfl rfl (Nat.le_of_ble_eq_true rfl) gX9_ranksTeams_X9_teamTotal rfl rfl 37 rfl dX9_ranksTeams_34 (fun v4 d5 => ?_)
      refine r_aload_n 0 0 rfl rfl 38 rfl dX9_ranksTeams_37 ?_
      refine r_aload_n 0 0 rfl rfl 39 rfl dX9_ranksTeams_38 ?_
      refine r_get (h0 0 (Nat.le_of_ble_eq_true rfl)) rfl (Nat.le_of_ble_eq_true rfl) rfl rfl w_X9_ranksTeams_1 7 (Nat.le_of_ble_eq_true rfl) rfl w_X9_ranksTeams_3 (.ref (E.2.1 + (o0 + 6))) rfl 42 rfl dX9_ranksTeams_39 ?_
      refine r_iload_n 2 2 rfl rfl 43 rfl dX9_ranksTeams_42 ?_
      refine r_iconst 1 rfl 44 rfl dX9_ranksTeams_43 ?_
      refine r_isub 45 rfl dX9_ranksTeams_44 ?_
      refine r_iald (h0 6 (Nat.le_of_ble_eq_true rfl)) rfl rfl 46 rfl dX9_ranksTeams_45 (fun v6 => ?_)
      refine r_callV_X (c_X9_teamTotal (E := E) (l := l) (S := S) d5 o0 h0 v6) ok_X9_teamTotal ⟨⟨(Nat.le_of_ble_eq_true rfl), (Nat.le_of_ble_eq_true rfl)⟩, (Nat.le_of_ble_eq_true rfl), (Nat.le_of_ble_eq_true rfl)⟩ (h0 0 (Nat.le_of_ble_eq_true rfl)) (Nat.le_of_ble_eq_true rfl) rfl rfl rfl (Nat.le_of_ble_eq_true rfl) gX9_ranksTeams_X9_teamTotal rfl rfl 49 rfl dX9_ranksTeams_46 (fun v7 d8 => ?_)
      refine r_icmp_ge 72 52 rfl rfl dX9_ranksTeams_49 ?_ ?_
      · refine r_sub [0, 1, 2] rfl ?_
        exact hK x2 d8
      · refine r_aload_n 0 0 rfl rfl 53 rfl dX9_ranksTeams_52 ?_
        refine r_get (h0 0 (Nat.le_of_ble_eq_true rfl)) rfl (Nat.le_of_ble_eq_true rfl) rfl rfl w_X9_ranksTeams_1 7 (Nat.le_of_ble_eq_true rfl) rfl w_X9_ranksTeams_3 (.ref (E.2.1 + (o0 + 6))) rfl 56 rfl dX9_ranksTeams_53 ?_
        refine r_iload_n 2 2 rfl rfl 57 rfl dX9_ranksTeams_56 ?_
        refine r_aload_n 0 0 rfl rfl 58 rfl dX9_ranksTeams_57 ?_
        refine r_get (h0 0 (Nat.le_of_ble_eq_true rfl)) rfl (Nat.le_of_ble_eq_true rfl) rfl rfl w_X9_ranksTeams_1 7 (Nat.le_of_ble_eq_true rfl) rfl w_X9_ranksTeams_3 (.ref (E.2.1 + (o0 + 6))) rfl 61 rfl dX9_ranksTeams_58 ?_
        refine r_iload_n 2 2 rfl rfl 62 rfl dX9_ranksTeams_61 ?_
        refine r_iconst 1 rfl 63 rfl dX9_ranksTeams_62 ?_
        refine r_isub 64 rfl dX9_ranksTeams_63 ?_
        refine r_iald (h0 6 (Nat.le_of_ble_eq_true rfl)) rfl rfl 65 rfl dX9_ranksTeams_64 (fun v9 => ?_)
        refine r_iast (h0 6 (Nat.le_of_ble_eq_true rfl)) rfl rfl 66 rfl dX9_ranksTeams_65 (fun d10 => ?_)
        refine r_iinc (x2 + (-1)) 2 rfl (congrArg (fun y => x2 + y) (by decide)) [(2, .int (x2 + (-1))), (0, .ref (E.2.1 + o0)), (1, .int x1)] (Nat.le_of_ble_eq_true rfl) rfl 69 rfl dX9_ranksTeams_66 ?_
        refine r_goto 28 rfl dX9_ranksTeams_69 ?_
        refine r_sub [1, 2, 0] rfl ?_
        exact ih (x2 + (-1)) d10
def f_X9_ranksTeams_L2_b (o0 : Nat) (K : z_D → Option z_D) (R : Int32 → z_D → Option z_D) (x1 : Int32) (d : z_D) : Option z_D := z_ald d (o0 + 1) 2656 0 (fun v1 => (if v1 ≤ x1 then (K d) else ((f_X9_isTeamOn d o0 x1).bind fun v2 => (if v2 = 0 then (R (x1 + 1) d) else z_nam (d o0 8) (fun v3 => (f_X9_ranksTeams_L28 o0 x1 (fun v12 d11 => z_ast d11 (o0 + 6) 16 v12 x1 (fun d13 => z_put d13 o0 8 ((d13 o0 8) + 1) (fun d14 => (R (x1 + 1) d14)))) z_N v3 d))))))
def f_X9_ranksTeams_L2 (o0 : Nat) (K : z_D → Option z_D) : Nat → Int32 → z_D → Option z_D
  | 0 => fun _ _ => none
  | n + 1 => f_X9_ranksTeams_L2_b o0 K (f_X9_ranksTeams_L2 o0 K n)
set_option maxHeartbeats 4000000 in
set_option maxRecDepth 100000 in
theorem g_X9_ranksTeams_L2 {E : z_E} {l : Launch} {S : z_S} {o0 : Nat} {K : z_D → Option z_D} (h0 : A_Model S o0) (hK : ∀ (d9 : z_D), z_G E l Y_X9_ranksTeams (cvV S) (K d9) 95 [] [] (S, d9) 0 0) : ∀ (n : Nat) (x1 : Int32) (d : z_D), z_G E l Y_X9_ranksTeams (cvV S) (f_X9_ranksTeams_L2 o0 K n x1 d) 2 [(0, .ref (E.2.1 + o0)), (1, .int x1)] [] (S, d) 0 0 := by
  intro n
  induction n with
  | zero => intro _ _; exact r_none
  | succ n ih =>
    intro x1 d
    show z_G E l Y_X9_ranksTeams (cvV S) (f_X9_ranksTeams_L2_b o0 K (f_X9_ranksTeams_L2 o0 K n) x1 d) 2 [(0, .ref (E.2.1 + o0)), (1, .int x1)] [] (S, d) 0 0
    unfold f_X9_ranksTeams_L2_b
    refine r_iload_n 1 1 rfl rfl 3 rfl dX9_ranksTeams_2 ?_
    refine r_aload_n 0 0 rfl rfl 4 rfl dX9_ranksTeams_3 ?_
    refine r_get (h0 0 (Nat.le_of_ble_eq_true rfl)) rfl (Nat.le_of_ble_eq_true rfl) rfl rfl w_X9_ranksTeams_1 1 (Nat.le_of_ble_eq_true rfl) rfl w_X9_ranksTeams_0 (.ref (E.2.1 + (o0 + 1))) rfl 7 rfl dX9_ranksTeams_4 ?_
    refine r_iconst 0 rfl 8 rfl dX9_ranksTeams_7 ?_
    refine r_iald (h0 1 (Nat.le_of_ble_eq_true rfl)) rfl rfl 9 rfl dX9_ranksTeams_8 (fun v1 => ?_)
    refine r_icmp_ge 95 12 rfl rfl dX9_ranksTeams_9 ?_ ?_
    · refine r_sub [] rfl ?_
      exact hK d
    · refine r_aload_n 0 0 rfl rfl 13 rfl dX9_ranksTeams_12 ?_
      refine r_iload_n 1 1 rfl rfl 14 rfl dX9_ranksTeams_13 ?_
      refine r_callV_I (c_X9_isTeamOn (E := E) (l := l) (S := S) d o0 h0 x1) ok_X9_isTeamOn ⟨⟨(Nat.le_of_ble_eq_true rfl), (Nat.le_of_ble_eq_true rfl)⟩, (Nat.le_of_ble_eq_true rfl), (Nat.le_of_ble_eq_true rfl)⟩ (h0 0 (Nat.le_of_ble_eq_true rfl)) (Nat.le_of_ble_eq_true rfl) rfl rfl rfl (Nat.le_of_ble_eq_true rfl) gX9_ranksTeams_X9_isTeamOn rfl rfl 17 rfl dX9_ranksTeams_14 (fun v2 => ?_)
      refine r_if_ne 23 20 rfl rfl dX9_ranksTeams_17 ?_ ?_
      · refine r_aload_n 0 0 rfl rfl 24 rfl dX9_ranksTeams_23 ?_
        refine r_get (h0 0 (Nat.le_of_ble_eq_true rfl)) rfl (Nat.le_of_ble_eq_true rfl) rfl rfl w_X9_ranksTeams_1 8 (Nat.le_of_ble_eq_true rfl) rfl w_X9_ranksTeams_2 (.int (d o0 8)) rfl 27 rfl dX9_ranksTeams_24 ?_
        refine r_nami (fun v3 => ?_)
        refine r_istore_n 2 rfl [(2, .int v3), (0, .ref (E.2.1 + o0)), (1, .int x1)] (Nat.le_of_ble_eq_true rfl) rfl 28 rfl dX9_ranksTeams_27 ?_
        refine r_sub [1, 2, 0] rfl ?_
        refine g_X9_ranksTeams_L28 h0 (fun v12 d11 => ?_) z_N v3 d
        refine r_aload_n 0 0 rfl rfl 73 rfl dX9_ranksTeams_72 ?_
        refine r_get (h0 0 (Nat.le_of_ble_eq_true rfl)) rfl (Nat.le_of_ble_eq_true rfl) rfl rfl w_X9_ranksTeams_1 7 (Nat.le_of_ble_eq_true rfl) rfl w_X9_ranksTeams_3 (.ref (E.2.1 + (o0 + 6))) rfl 76 rfl dX9_ranksTeams_73 ?_
        refine r_iload_n 2 2 rfl rfl 77 rfl dX9_ranksTeams_76 ?_
        refine r_iload_n 1 1 rfl rfl 78 rfl dX9_ranksTeams_77 ?_
        refine r_iast (h0 6 (Nat.le_of_ble_eq_true rfl)) rfl rfl 79 rfl dX9_ranksTeams_78 (fun d13 => ?_)
        refine r_aload_n 0 0 rfl rfl 80 rfl dX9_ranksTeams_79 ?_
        refine r_dup rfl 81 rfl dX9_ranksTeams_80 ?_
        refine r_get (h0 0 (Nat.le_of_ble_eq_true rfl)) rfl (Nat.le_of_ble_eq_true rfl) rfl rfl w_X9_ranksTeams_1 8 (Nat.le_of_ble_eq_true rfl) rfl w_X9_ranksTeams_2 (.int (d13 o0 8)) rfl 84 rfl dX9_ranksTeams_81 ?_
        refine r_iconst 1 rfl 85 rfl dX9_ranksTeams_84 ?_
        refine r_iadd 86 rfl dX9_ranksTeams_85 ?_
        refine r_put (h0 0 (Nat.le_of_ble_eq_true rfl)) rfl (Nat.le_of_ble_eq_true rfl) rfl rfl w_X9_ranksTeams_1 tyX9 tyX9_ok nmX9 (Nat.le_of_ble_eq_true rfl) rfl w_X9_ranksTeams_2 rfl rfl rfl rfl rfl 89 rfl dX9_ranksTeams_86 (fun d14 => ?_)
        refine r_iinc (x1 + 1) 1 rfl rfl [(1, .int (x1 + 1)), (0, .ref (E.2.1 + o0)), (2, .int v12)] (Nat.le_of_ble_eq_true rfl) rfl 92 rfl dX9_ranksTeams_89 ?_
        refine r_goto 2 rfl dX9_ranksTeams_92 ?_
        refine r_sub [1, 0] rfl ?_
        exact ih (x1 + 1) d14
      · refine r_goto 89 rfl dX9_ranksTeams_20 ?_
        refine r_iinc (x1 + 1) 1 rfl rfl [(1, .int (x1 + 1)), (0, .ref (E.2.1 + o0))] (Nat.le_of_ble_eq_true rfl) rfl 92 rfl dX9_ranksTeams_89 ?_
        refine r_goto 2 rfl dX9_ranksTeams_92 ?_
        refine r_sub [1, 0] rfl ?_
        exact ih (x1 + 1) d
def f_X9_ranksTeams (d : z_D) (o0 : Nat) : Option z_D := (f_X9_ranksTeams_L2 o0 (fun d15 => (some d15)) z_N 0 d)
set_option maxHeartbeats 4000000 in
set_option maxRecDepth 100000 in
theorem c_X9_ranksTeams {E : z_E} {l : Launch} {S : z_S} (d : z_D) (o0 : Nat) (h0 : A_Model S o0) : z_Sp E l yX9_ranksTeams Y_X9_ranksTeams (cvV S) [.ref (E.2.1 + o0)] (S, d) (f_X9_ranksTeams d o0) := by
  refine z_entry (lv := [(0, .ref (E.2.1 + o0))]) (by decide) rfl rfl (Nat.le_of_ble_eq_true rfl) rfl ?_
  unfold f_X9_ranksTeams
  refine r_iconst 0 rfl 1 rfl dX9_ranksTeams_0 ?_
  refine r_istore_n 1 rfl [(1, .int 0), (0, .ref (E.2.1 + o0))] (Nat.le_of_ble_eq_true rfl) rfl 2 rfl dX9_ranksTeams_1 ?_
  refine r_sub [1, 0] rfl ?_
  refine g_X9_ranksTeams_L2 h0 (fun d15 => ?_) z_N 0 d
  exact r_return rfl rfl (Nat.le_of_ble_eq_true rfl) (Nat.le_of_ble_eq_true rfl) dX9_ranksTeams_95
def Y_X9_ranks : z_Y := (RX9, cX9_ranks, 4, wsX9_ranks, none, { frames := 5, cells := 0, slots := 0, locals := 120 }, 0, 0)
theorem ok_X9_ranks : z_Ok yX9_ranks Y_X9_ranks 1 := ⟨⟨_, rfl⟩, rfl, rfl, rfl, by decide +kernel, by decide +kernel⟩
theorem w_X9_ranks_0 : Cond.fieldLink RX9 205 "BunchTimesModel" "rankedMany" "I" ∈ wsX9_ranks := by decide +kernel
theorem w_X9_ranks_1 : ∀ w ∈ u_ws RX9 TX9 18, w ∈ wsX9_ranks := by decide +kernel
theorem w_X9_ranks_2 : Cond.fieldLink RX9 7 "BunchTimesModel" "row" "[I" ∈ wsX9_ranks := by decide +kernel
theorem w_X9_ranks_3 : Cond.fieldLink RX9 26 "BunchTimesModel" "ranked" "[I" ∈ wsX9_ranks := by decide +kernel
def f_X9_ranks_L52_b (o0 : Nat) (x1 : Int32) (x2 : Int32) (K : Int32 → z_D → Option z_D) (R : Int32 → z_D → Option z_D) (x3 : Int32) (d : z_D) : Option z_D := (if x3 ≤ 0 then (K x3 d) else z_ald d (o0 + 6) 16 (x3 - 1) (fun v6 => ((f_X9_isBefore d o0 x1 x2 v6).bind fun v7 => (if v7 = 0 then (K x3 d) else z_ald d (o0 + 6) 16 (x3 - 1) (fun v8 => z_ast d (o0 + 6) 16 x3 v8 (fun d9 => (R (x3 + (-1)) d9)))))))
def f_X9_ranks_L52 (o0 : Nat) (x1 : Int32) (x2 : Int32) (K : Int32 → z_D → Option z_D) : Nat → Int32 → z_D → Option z_D
  | 0 => fun _ _ => none
  | n + 1 => f_X9_ranks_L52_b o0 x1 x2 K (f_X9_ranks_L52 o0 x1 x2 K n)
set_option maxHeartbeats 4000000 in
set_option maxRecDepth 100000 in
theorem g_X9_ranks_L52 {E : z_E} {l : Launch} {S : z_S} {o0 : Nat} {x1 : Int32} {x2 : Int32} {K : Int32 → z_D → Option z_D} (h0 : A_Model S o0) (hK : ∀ (y3 : Int32) (d9 : z_D), z_G E l Y_X9_ranks (cvV S) (K y3 d9) 93 [(0, .ref (E.2.1 + o0)), (1, .int x1), (2, .int x2), (3, .int y3)] [] (S, d9) 0 0) : ∀ (n : Nat) (x3 : Int32) (d : z_D), z_G E l Y_X9_ranks (cvV S) (f_X9_ranks_L52 o0 x1 x2 K n x3 d) 52 [(0, .ref (E.2.1 + o0)), (1, .int x1), (2, .int x2), (3, .int x3)] [] (S, d) 0 0 := by
  intro n
  induction n with
  | zero => intro _ _; exact r_none
  | succ n ih =>
    intro x3 d
    show z_G E l Y_X9_ranks (cvV S) (f_X9_ranks_L52_b o0 x1 x2 K (f_X9_ranks_L52 o0 x1 x2 K n) x3 d) 52 [(0, .ref (E.2.1 + o0)), (1, .int x1), (2, .int x2), (3, .int x3)] [] (S, d) 0 0
    unfold f_X9_ranks_L52_b
    refine r_iload_n 3 3 rfl rfl 53 rfl dX9_ranks_52 ?_
    refine r_if_le 93 56 rfl rfl dX9_ranks_53 ?_ ?_
    · refine r_sub [0, 1, 2, 3] rfl ?_
      exact hK x3 d
    · refine r_aload_n 0 0 rfl rfl 57 rfl dX9_ranks_56 ?_
      refine r_iload_n 1 1 rfl rfl 58 rfl dX9_ranks_57 ?_
      refine r_iload_n 2 2 rfl rfl 59 rfl dX9_ranks_58 ?_
      refine r_aload_n 0 0 rfl rfl 60 rfl dX9_ranks_59 ?_
      refine r_get (h0 0 (Nat.le_of_ble_eq_true rfl)) rfl (Nat.le_of_ble_eq_true rfl) rfl rfl w_X9_ranks_1 7 (Nat.le_of_ble_eq_true rfl) rfl w_X9_ranks_3 (.ref (E.2.1 + (o0 + 6))) rfl 63 rfl dX9_ranks_60 ?_
      refine r_iload_n 3 3 rfl rfl 64 rfl dX9_ranks_63 ?_
      refine r_iconst 1 rfl 65 rfl dX9_ranks_64 ?_
      refine r_isub 66 rfl dX9_ranks_65 ?_
      refine r_iald (h0 6 (Nat.le_of_ble_eq_true rfl)) rfl rfl 67 rfl dX9_ranks_66 (fun v6 => ?_)
      refine r_callV_I (c_X9_isBefore (E := E) (l := l) (S := S) d o0 h0 x1 x2 v6) ok_X9_isBefore ⟨⟨(Nat.le_of_ble_eq_true rfl), (Nat.le_of_ble_eq_true rfl)⟩, (Nat.le_of_ble_eq_true rfl), (Nat.le_of_ble_eq_true rfl)⟩ (h0 0 (Nat.le_of_ble_eq_true rfl)) (Nat.le_of_ble_eq_true rfl) rfl rfl rfl (Nat.le_of_ble_eq_true rfl) gX9_ranks_X9_isBefore rfl rfl 70 rfl dX9_ranks_67 (fun v7 => ?_)
      refine r_if_eq 93 73 rfl rfl dX9_ranks_70 ?_ ?_
      · refine r_sub [0, 1, 2, 3] rfl ?_
        exact hK x3 d
      · refine r_aload_n 0 0 rfl rfl 74 rfl dX9_ranks_73 ?_
        refine r_get (h0 0 (Nat.le_of_ble_eq_true rfl)) rfl (Nat.le_of_ble_eq_true rfl) rfl rfl w_X9_ranks_1 7 (Nat.le_of_ble_eq_true rfl) rfl w_X9_ranks_3 (.ref (E.2.1 + (o0 + 6))) rfl 77 rfl dX9_ranks_74 ?_
        refine r_iload_n 3 3 rfl rfl 78 rfl dX9_ranks_77 ?_
        refine r_aload_n 0 0 rfl rfl 79 rfl dX9_ranks_78 ?_
        refine r_get (h0 0 (Nat.le_of_ble_eq_true rfl)) rfl (Nat.le_of_ble_eq_true rfl) rfl rfl w_X9_ranks_1 7 (Nat.le_of_ble_eq_true rfl) rfl w_X9_ranks_3 (.ref (E.2.1 + (o0 + 6))) rfl 82 rfl dX9_ranks_79 ?_
        refine r_iload_n 3 3 rfl rfl 83 rfl dX9_ranks_82 ?_
        refine r_iconst 1 rfl 84 rfl dX9_ranks_83 ?_
        refine r_isub 85 rfl dX9_ranks_84 ?_
        refine r_iald (h0 6 (Nat.le_of_ble_eq_true rfl)) rfl rfl 86 rfl dX9_ranks_85 (fun v8 => ?_)
        refine r_iast (h0 6 (Nat.le_of_ble_eq_true rfl)) rfl rfl 87 rfl dX9_ranks_86 (fun d9 => ?_)
        refine r_iinc (x3 + (-1)) 3 rfl (congrArg (fun y => x3 + y) (by decide)) [(3, .int (x3 + (-1))), (0, .ref (E.2.1 + o0)), (1, .int x1), (2, .int x2)] (Nat.le_of_ble_eq_true rfl) rfl 90 rfl dX9_ranks_87 ?_
        refine r_goto 52 rfl dX9_ranks_90 ?_
        refine r_sub [1, 2, 3, 0] rfl ?_
        exact ih (x3 + (-1)) d9
def f_X9_ranks_L25_b (o0 : Nat) (x1 : Int32) (K : z_D → Option z_D) (R : Int32 → z_D → Option z_D) (x2 : Int32) (d : z_D) : Option z_D := z_ald d (o0 + 1) 2656 1 (fun v3 => (if v3 ≤ x2 then (K d) else ((f_X9_isOn d o0 x1 x2).bind fun v4 => (if v4 = 0 then (R (x2 + 1) d) else z_nam (d o0 8) (fun v5 => (f_X9_ranks_L52 o0 x1 x2 (fun v11 d10 => z_ast d10 (o0 + 6) 16 v11 x2 (fun d12 => z_put d12 o0 8 ((d12 o0 8) + 1) (fun d13 => (R (x2 + 1) d13)))) z_N v5 d))))))
def f_X9_ranks_L25 (o0 : Nat) (x1 : Int32) (K : z_D → Option z_D) : Nat → Int32 → z_D → Option z_D
  | 0 => fun _ _ => none
  | n + 1 => f_X9_ranks_L25_b o0 x1 K (f_X9_ranks_L25 o0 x1 K n)
set_option maxHeartbeats 4000000 in
set_option maxRecDepth 100000 in
theorem g_X9_ranks_L25 {E : z_E} {l : Launch} {S : z_S} {o0 : Nat} {x1 : Int32} {K : z_D → Option z_D} (h0 : A_Model S o0) (hK : ∀ (d9 : z_D), z_G E l Y_X9_ranks (cvV S) (K d9) 116 [] [] (S, d9) 0 0) : ∀ (n : Nat) (x2 : Int32) (d : z_D), z_G E l Y_X9_ranks (cvV S) (f_X9_ranks_L25 o0 x1 K n x2 d) 25 [(0, .ref (E.2.1 + o0)), (1, .int x1), (2, .int x2)] [] (S, d) 0 0 := by
  intro n
  induction n with
  | zero => intro _ _; exact r_none
  | succ n ih =>
    intro x2 d
    show z_G E l Y_X9_ranks (cvV S) (f_X9_ranks_L25_b o0 x1 K (f_X9_ranks_L25 o0 x1 K n) x2 d) 25 [(0, .ref (E.2.1 + o0)), (1, .int x1), (2, .int x2)] [] (S, d) 0 0
    unfold f_X9_ranks_L25_b
    refine r_iload_n 2 2 rfl rfl 26 rfl dX9_ranks_25 ?_
    refine r_aload_n 0 0 rfl rfl 27 rfl dX9_ranks_26 ?_
    refine r_get (h0 0 (Nat.le_of_ble_eq_true rfl)) rfl (Nat.le_of_ble_eq_true rfl) rfl rfl w_X9_ranks_1 1 (Nat.le_of_ble_eq_true rfl) rfl w_X9_ranks_2 (.ref (E.2.1 + (o0 + 1))) rfl 30 rfl dX9_ranks_27 ?_
    refine r_iconst 1 rfl 31 rfl dX9_ranks_30 ?_
    refine r_iald (h0 1 (Nat.le_of_ble_eq_true rfl)) rfl rfl 32 rfl dX9_ranks_31 (fun v3 => ?_)
    refine r_icmp_ge 116 35 rfl rfl dX9_ranks_32 ?_ ?_
    · refine r_sub [] rfl ?_
      exact hK d
    · refine r_aload_n 0 0 rfl rfl 36 rfl dX9_ranks_35 ?_
      refine r_iload_n 1 1 rfl rfl 37 rfl dX9_ranks_36 ?_
      refine r_iload_n 2 2 rfl rfl 38 rfl dX9_ranks_37 ?_
      refine r_callV_I (c_X9_isOn (E := E) (l := l) (S := S) d o0 h0 x1 x2) ok_X9_isOn ⟨⟨(Nat.le_of_ble_eq_true rfl), (Nat.le_of_ble_eq_true rfl)⟩, (Nat.le_of_ble_eq_true rfl), (Nat.le_of_ble_eq_true rfl)⟩ (h0 0 (Nat.le_of_ble_eq_true rfl)) (Nat.le_of_ble_eq_true rfl) rfl rfl rfl (Nat.le_of_ble_eq_true rfl) gX9_ranks_X9_isOn rfl rfl 41 rfl dX9_ranks_38 (fun v4 => ?_)
      refine r_if_ne 47 44 rfl rfl dX9_ranks_41 ?_ ?_
      · refine r_aload_n 0 0 rfl rfl 48 rfl dX9_ranks_47 ?_
        refine r_get (h0 0 (Nat.le_of_ble_eq_true rfl)) rfl (Nat.le_of_ble_eq_true rfl) rfl rfl w_X9_ranks_1 8 (Nat.le_of_ble_eq_true rfl) rfl w_X9_ranks_0 (.int (d o0 8)) rfl 51 rfl dX9_ranks_48 ?_
        refine r_nami (fun v5 => ?_)
        refine r_istore_n 3 rfl [(3, .int v5), (0, .ref (E.2.1 + o0)), (1, .int x1), (2, .int x2)] (Nat.le_of_ble_eq_true rfl) rfl 52 rfl dX9_ranks_51 ?_
        refine r_sub [1, 2, 3, 0] rfl ?_
        refine g_X9_ranks_L52 h0 (fun v11 d10 => ?_) z_N v5 d
        refine r_aload_n 0 0 rfl rfl 94 rfl dX9_ranks_93 ?_
        refine r_get (h0 0 (Nat.le_of_ble_eq_true rfl)) rfl (Nat.le_of_ble_eq_true rfl) rfl rfl w_X9_ranks_1 7 (Nat.le_of_ble_eq_true rfl) rfl w_X9_ranks_3 (.ref (E.2.1 + (o0 + 6))) rfl 97 rfl dX9_ranks_94 ?_
        refine r_iload_n 3 3 rfl rfl 98 rfl dX9_ranks_97 ?_
        refine r_iload_n 2 2 rfl rfl 99 rfl dX9_ranks_98 ?_
        refine r_iast (h0 6 (Nat.le_of_ble_eq_true rfl)) rfl rfl 100 rfl dX9_ranks_99 (fun d12 => ?_)
        refine r_aload_n 0 0 rfl rfl 101 rfl dX9_ranks_100 ?_
        refine r_dup rfl 102 rfl dX9_ranks_101 ?_
        refine r_get (h0 0 (Nat.le_of_ble_eq_true rfl)) rfl (Nat.le_of_ble_eq_true rfl) rfl rfl w_X9_ranks_1 8 (Nat.le_of_ble_eq_true rfl) rfl w_X9_ranks_0 (.int (d12 o0 8)) rfl 105 rfl dX9_ranks_102 ?_
        refine r_iconst 1 rfl 106 rfl dX9_ranks_105 ?_
        refine r_iadd 107 rfl dX9_ranks_106 ?_
        refine r_put (h0 0 (Nat.le_of_ble_eq_true rfl)) rfl (Nat.le_of_ble_eq_true rfl) rfl rfl w_X9_ranks_1 tyX9 tyX9_ok nmX9 (Nat.le_of_ble_eq_true rfl) rfl w_X9_ranks_0 rfl rfl rfl rfl rfl 110 rfl dX9_ranks_107 (fun d13 => ?_)
        refine r_iinc (x2 + 1) 2 rfl rfl [(2, .int (x2 + 1)), (0, .ref (E.2.1 + o0)), (1, .int x1), (3, .int v11)] (Nat.le_of_ble_eq_true rfl) rfl 113 rfl dX9_ranks_110 ?_
        refine r_goto 25 rfl dX9_ranks_113 ?_
        refine r_sub [1, 2, 0] rfl ?_
        exact ih (x2 + 1) d13
      · refine r_goto 110 rfl dX9_ranks_44 ?_
        refine r_iinc (x2 + 1) 2 rfl rfl [(2, .int (x2 + 1)), (0, .ref (E.2.1 + o0)), (1, .int x1)] (Nat.le_of_ble_eq_true rfl) rfl 113 rfl dX9_ranks_110 ?_
        refine r_goto 25 rfl dX9_ranks_113 ?_
        refine r_sub [1, 2, 0] rfl ?_
        exact ih (x2 + 1) d
def f_X9_ranks (d : z_D) (o0 : Nat) (x1 : Int32) : Option z_D := z_put d o0 8 0 (fun d1 => ((f_X9_closedMany d1 o0).bind fun v2 => (if v2 = 0 then (some d1) else (if x1 = 4 then ((f_X9_ranksTeams d1 o0).bind fun d15 => (some d15)) else (f_X9_ranks_L25 o0 x1 (fun d14 => (some d14)) z_N 0 d1)))))
set_option maxHeartbeats 4000000 in
set_option maxRecDepth 100000 in
theorem c_X9_ranks {E : z_E} {l : Launch} {S : z_S} (d : z_D) (o0 : Nat) (h0 : A_Model S o0) (x1 : Int32) : z_Sp E l yX9_ranks Y_X9_ranks (cvV S) [.ref (E.2.1 + o0), .int x1] (S, d) (f_X9_ranks d o0 x1) := by
  refine z_entry (lv := [(0, .ref (E.2.1 + o0)), (1, .int x1)]) (by decide) rfl rfl (Nat.le_of_ble_eq_true rfl) rfl ?_
  unfold f_X9_ranks
  refine r_aload_n 0 0 rfl rfl 1 rfl dX9_ranks_0 ?_
  refine r_iconst 0 rfl 2 rfl dX9_ranks_1 ?_
  refine r_put (h0 0 (Nat.le_of_ble_eq_true rfl)) rfl (Nat.le_of_ble_eq_true rfl) rfl rfl w_X9_ranks_1 tyX9 tyX9_ok nmX9 (Nat.le_of_ble_eq_true rfl) rfl w_X9_ranks_0 rfl rfl rfl rfl rfl 5 rfl dX9_ranks_2 (fun d1 => ?_)
  refine r_aload_n 0 0 rfl rfl 6 rfl dX9_ranks_5 ?_
  refine r_callV_I (c_X9_closedMany (E := E) (l := l) (S := S) d1 o0 h0) ok_X9_closedMany ⟨⟨(Nat.le_of_ble_eq_true rfl), (Nat.le_of_ble_eq_true rfl)⟩, (Nat.le_of_ble_eq_true rfl), (Nat.le_of_ble_eq_true rfl)⟩ (h0 0 (Nat.le_of_ble_eq_true rfl)) (Nat.le_of_ble_eq_true rfl) rfl rfl rfl (Nat.le_of_ble_eq_true rfl) gX9_ranks_X9_closedMany rfl rfl 9 rfl dX9_ranks_6 (fun v2 => ?_)
  refine r_if_ne 13 12 rfl rfl dX9_ranks_9 ?_ ?_
  · refine r_iload_n 1 1 rfl rfl 14 rfl dX9_ranks_13 ?_
    refine r_iconst 4 rfl 15 rfl dX9_ranks_14 ?_
    refine r_icmp_ne 23 18 rfl rfl dX9_ranks_15 ?_ ?_
    · refine r_iconst 0 rfl 24 rfl dX9_ranks_23 ?_
      refine r_istore_n 2 rfl [(2, .int 0), (0, .ref (E.2.1 + o0)), (1, .int x1)] (Nat.le_of_ble_eq_true rfl) rfl 25 rfl dX9_ranks_24 ?_
      refine r_sub [1, 2, 0] rfl ?_
      refine g_X9_ranks_L25 h0 (fun d14 => ?_) z_N 0 d1
      exact r_return rfl rfl (Nat.le_of_ble_eq_true rfl) (Nat.le_of_ble_eq_true rfl) dX9_ranks_116
    · refine r_aload_n 0 0 rfl rfl 19 rfl dX9_ranks_18 ?_
      refine r_callV_V (c_X9_ranksTeams (E := E) (l := l) (S := S) d1 o0 h0) ok_X9_ranksTeams ⟨⟨(Nat.le_of_ble_eq_true rfl), (Nat.le_of_ble_eq_true rfl)⟩, (Nat.le_of_ble_eq_true rfl), (Nat.le_of_ble_eq_true rfl)⟩ (h0 0 (Nat.le_of_ble_eq_true rfl)) (Nat.le_of_ble_eq_true rfl) rfl rfl rfl (Nat.le_of_ble_eq_true rfl) gX9_ranks_X9_ranksTeams rfl rfl 22 rfl dX9_ranks_19 (fun d15 => ?_)
      exact r_return rfl rfl (Nat.le_of_ble_eq_true rfl) (Nat.le_of_ble_eq_true rfl) dX9_ranks_22
  · exact r_return rfl rfl (Nat.le_of_ble_eq_true rfl) (Nat.le_of_ble_eq_true rfl) dX9_ranks_12
