/-! 3g.gen9: by gen/mk.py -/
def Y_X9_list : z_Y := (RX9, cX9_list, 3, wsX9_list, (some .int), { frames := 6, cells := 0, slots := 0, locals := 143 }, 0, 0)
theorem ok_X9_list : z_Ok yX9_list Y_X9_list 2 := ⟨⟨_, rfl⟩, rfl, rfl, rfl, by decide +kernel, by decide +kernel⟩
theorem w_X9_list_0 : Cond.fieldLink RX9 39 "BunchTimesModel" "thrown" "I" ∈ wsX9_list := by decide +kernel
theorem w_X9_list_1 : ∀ w ∈ u_ws RX9 TX9 18, w ∈ wsX9_list := by decide +kernel
theorem w_X9_list_2 : Cond.fieldLink RX9 205 "BunchTimesModel" "rankedMany" "I" ∈ wsX9_list := by decide +kernel
theorem w_X9_list_3 : Cond.fieldLink RX9 26 "BunchTimesModel" "ranked" "[I" ∈ wsX9_list := by decide +kernel
def f_X9_list (d : z_D) (o0 : Nat) (x1 : Int32) (x2 : Int32) : Option (Int32 × z_D) := z_put d o0 0 0 (fun d1 => ((f_X9_isIn x1 0 4).bind fun v2 => (if v2 = 0 then (some ((-1), d1)) else ((f_X9_ranks d1 o0 x1).bind fun d3 => ((f_X9_isIn x2 0 ((d3 o0 8) - 1)).bind fun v4 => (if v4 = 0 then (some ((-1), d3)) else z_ald d3 (o0 + 6) 16 x2 (fun v5 => (some (v5, d3)))))))))
set_option maxHeartbeats 4000000 in
set_option maxRecDepth 100000 in
theorem c_X9_list {E : z_E} {l : Launch} {S : z_S} (d : z_D) (o0 : Nat) (h0 : A_Model S o0) (x1 : Int32) (x2 : Int32) : z_Sp E l yX9_list Y_X9_list (cvX S) [.ref (E.2.1 + o0), .int x1, .int x2] (S, d) (f_X9_list d o0 x1 x2) := by
  refine z_entry (lv := [(0, .ref (E.2.1 + o0)), (1, .int x1), (2, .int x2)]) (by decide) rfl rfl (Nat.le_of_ble_eq_true rfl) rfl ?_
  unfold f_X9_list
  refine r_aload_n 0 0 rfl rfl 1 rfl dX9_list_0 ?_
  refine r_iconst 0 rfl 2 rfl dX9_list_1 ?_
  refine r_put (h0 0 (Nat.le_of_ble_eq_true rfl)) rfl (Nat.le_of_ble_eq_true rfl) rfl rfl w_X9_list_1 tyX9 tyX9_ok nmX9 (Nat.le_of_ble_eq_true rfl) rfl w_X9_list_0 rfl rfl rfl rfl rfl 5 rfl dX9_list_2 (fun d1 => ?_)
  refine r_iload_n 1 1 rfl rfl 6 rfl dX9_list_5 ?_
  refine r_iconst 0 rfl 7 rfl dX9_list_6 ?_
  refine r_iconst 4 rfl 8 rfl dX9_list_7 ?_
  refine r_callS_I (c_X9_isIn (E := E) (l := l) (S := S) d1 x1 0 4) ok_X9_isIn ⟨⟨(Nat.le_of_ble_eq_true rfl), (Nat.le_of_ble_eq_true rfl)⟩, (Nat.le_of_ble_eq_true rfl), (Nat.le_of_ble_eq_true rfl)⟩ rfl (Nat.le_of_ble_eq_true rfl) gX9_list_X9_isIn rfl rfl 11 rfl dX9_list_8 (fun v2 => ?_)
  refine r_if_ne 16 14 rfl rfl dX9_list_11 ?_ ?_
  · refine r_aload_n 0 0 rfl rfl 17 rfl dX9_list_16 ?_
    refine r_iload_n 1 1 rfl rfl 18 rfl dX9_list_17 ?_
    refine r_callV_V (c_X9_ranks (E := E) (l := l) (S := S) d1 o0 h0 x1) ok_X9_ranks ⟨⟨(Nat.le_of_ble_eq_true rfl), (Nat.le_of_ble_eq_true rfl)⟩, (Nat.le_of_ble_eq_true rfl), (Nat.le_of_ble_eq_true rfl)⟩ (h0 0 (Nat.le_of_ble_eq_true rfl)) (Nat.le_of_ble_eq_true rfl) rfl rfl rfl (Nat.le_of_ble_eq_true rfl) gX9_list_X9_ranks rfl rfl 21 rfl dX9_list_18 (fun d3 => ?_)
    refine r_iload_n 2 2 rfl rfl 22 rfl dX9_list_21 ?_
    refine r_iconst 0 rfl 23 rfl dX9_list_22 ?_
    refine r_aload_n 0 0 rfl rfl 24 rfl dX9_list_23 ?_
    refine r_get (h0 0 (Nat.le_of_ble_eq_true rfl)) rfl (Nat.le_of_ble_eq_true rfl) rfl rfl w_X9_list_1 8 (Nat.le_of_ble_eq_true rfl) rfl w_X9_list_2 (.int (d3 o0 8)) rfl 27 rfl dX9_list_24 ?_
    refine r_iconst 1 rfl 28 rfl dX9_list_27 ?_
    refine r_isub 29 rfl dX9_list_28 ?_
    refine r_callS_I (c_X9_isIn (E := E) (l := l) (S := S) d3 x2 0 ((d3 o0 8) - 1)) ok_X9_isIn ⟨⟨(Nat.le_of_ble_eq_true rfl), (Nat.le_of_ble_eq_true rfl)⟩, (Nat.le_of_ble_eq_true rfl), (Nat.le_of_ble_eq_true rfl)⟩ rfl (Nat.le_of_ble_eq_true rfl) gX9_list_X9_isIn rfl rfl 32 rfl dX9_list_29 (fun v4 => ?_)
    refine r_if_eq 44 35 rfl rfl dX9_list_32 ?_ ?_
    · refine r_iconst (-1) rfl 45 rfl dX9_list_44 ?_
      exact r_ireturn rfl rfl (Nat.le_of_ble_eq_true rfl) (Nat.le_of_ble_eq_true rfl) dX9_list_45
    · refine r_aload_n 0 0 rfl rfl 36 rfl dX9_list_35 ?_
      refine r_get (h0 0 (Nat.le_of_ble_eq_true rfl)) rfl (Nat.le_of_ble_eq_true rfl) rfl rfl w_X9_list_1 7 (Nat.le_of_ble_eq_true rfl) rfl w_X9_list_3 (.ref (E.2.1 + (o0 + 6))) rfl 39 rfl dX9_list_36 ?_
      refine r_iload_n 2 2 rfl rfl 40 rfl dX9_list_39 ?_
      refine r_iald (h0 6 (Nat.le_of_ble_eq_true rfl)) rfl rfl 41 rfl dX9_list_40 (fun v5 => ?_)
      refine r_goto 45 rfl dX9_list_41 ?_
      exact r_ireturn rfl rfl (Nat.le_of_ble_eq_true rfl) (Nat.le_of_ble_eq_true rfl) dX9_list_45
  · refine r_iconst (-1) rfl 15 rfl dX9_list_14 ?_
    exact r_ireturn rfl rfl (Nat.le_of_ble_eq_true rfl) (Nat.le_of_ble_eq_true rfl) dX9_list_15
def Y_X9_total : z_Y := (RX9, cX9_total, 3, wsX9_total, (some .int), { frames := 4, cells := 0, slots := 0, locals := 93 }, 0, 0)
theorem ok_X9_total : z_Ok yX9_total Y_X9_total 2 := ⟨⟨_, rfl⟩, rfl, rfl, rfl, by decide +kernel, by decide +kernel⟩
theorem w_X9_total_0 : Cond.fieldLink RX9 39 "BunchTimesModel" "thrown" "I" ∈ wsX9_total := by decide +kernel
theorem w_X9_total_1 : ∀ w ∈ u_ws RX9 TX9 18, w ∈ wsX9_total := by decide +kernel
theorem w_X9_total_2 : Cond.constant RX9 229 (-1000000) ∈ wsX9_total := by decide +kernel
theorem w_X9_total_3 : Cond.fieldLink RX9 7 "BunchTimesModel" "row" "[I" ∈ wsX9_total := by decide +kernel
def f_X9_total (d : z_D) (o0 : Nat) (x1 : Int32) (x2 : Int32) : Option (Int32 × z_D) := z_put d o0 0 0 (fun d1 => (if x2 = 0 then ((f_X9_isThere d1 o0 x1).bind fun v2 => (if v2 = 0 then (some ((-1000000), d1)) else ((f_X9_totalBut d1 o0 x1 (-1)).bind fun v3 => (some (v3, d1))))) else ((f_X9_closedMany d1 o0).bind fun v4 => (if v4 ≤ 0 then (some ((-1000000), d1)) else z_ald d1 (o0 + 1) 2656 0 (fun v5 => ((f_X9_isIn x1 0 (v5 - 1)).bind fun v6 => (if v6 = 0 then (some ((-1000000), d1)) else ((f_X9_isTeamOn d1 o0 x1).bind fun v7 => (if v7 = 0 then (some ((-1000000), d1)) else z_bX (f_X9_teamTotal d1 o0 x1) (fun v8 d9 => (some (v8, d9))))))))))))
set_option maxHeartbeats 4000000 in
set_option maxRecDepth 100000 in
theorem c_X9_total {E : z_E} {l : Launch} {S : z_S} (d : z_D) (o0 : Nat) (h0 : A_Model S o0) (x1 : Int32) (x2 : Int32) : z_Sp E l yX9_total Y_X9_total (cvX S) [.ref (E.2.1 + o0), .int x1, .int x2] (S, d) (f_X9_total d o0 x1 x2) := by
  refine z_entry (lv := [(0, .ref (E.2.1 + o0)), (1, .int x1), (2, .int x2)]) (by decide) rfl rfl (Nat.le_of_ble_eq_true rfl) rfl ?_
  unfold f_X9_total
  refine r_aload_n 0 0 rfl rfl 1 rfl dX9_total_0 ?_
  refine r_iconst 0 rfl 2 rfl dX9_total_1 ?_
  refine r_put (h0 0 (Nat.le_of_ble_eq_true rfl)) rfl (Nat.le_of_ble_eq_true rfl) rfl rfl w_X9_total_1 tyX9 tyX9_ok nmX9 (Nat.le_of_ble_eq_true rfl) rfl w_X9_total_0 rfl rfl rfl rfl rfl 5 rfl dX9_total_2 (fun d1 => ?_)
  refine r_iload_n 2 2 rfl rfl 6 rfl dX9_total_5 ?_
  refine r_if_eq 51 9 rfl rfl dX9_total_6 ?_ ?_
  · refine r_aload_n 0 0 rfl rfl 52 rfl dX9_total_51 ?_
    refine r_iload_n 1 1 rfl rfl 53 rfl dX9_total_52 ?_
    refine r_callV_I (c_X9_isThere (E := E) (l := l) (S := S) d1 o0 h0 x1) ok_X9_isThere ⟨⟨(Nat.le_of_ble_eq_true rfl), (Nat.le_of_ble_eq_true rfl)⟩, (Nat.le_of_ble_eq_true rfl), (Nat.le_of_ble_eq_true rfl)⟩ (h0 0 (Nat.le_of_ble_eq_true rfl)) (Nat.le_of_ble_eq_true rfl) rfl rfl rfl (Nat.le_of_ble_eq_true rfl) gX9_total_X9_isThere rfl rfl 56 rfl dX9_total_53 (fun v2 => ?_)
    refine r_if_eq 68 59 rfl rfl dX9_total_56 ?_ ?_
    · refine r_ldc (v := (-1000000)) w_X9_total_2 70 rfl dX9_total_68 ?_
      exact r_ireturn rfl rfl (Nat.le_of_ble_eq_true rfl) (Nat.le_of_ble_eq_true rfl) dX9_total_70
    · refine r_aload_n 0 0 rfl rfl 60 rfl dX9_total_59 ?_
      refine r_iload_n 1 1 rfl rfl 61 rfl dX9_total_60 ?_
      refine r_iconst (-1) rfl 62 rfl dX9_total_61 ?_
      refine r_callV_I (c_X9_totalBut (E := E) (l := l) (S := S) d1 o0 h0 x1 (-1)) ok_X9_totalBut ⟨⟨(Nat.le_of_ble_eq_true rfl), (Nat.le_of_ble_eq_true rfl)⟩, (Nat.le_of_ble_eq_true rfl), (Nat.le_of_ble_eq_true rfl)⟩ (h0 0 (Nat.le_of_ble_eq_true rfl)) (Nat.le_of_ble_eq_true rfl) rfl rfl rfl (Nat.le_of_ble_eq_true rfl) gX9_total_X9_totalBut rfl rfl 65 rfl dX9_total_62 (fun v3 => ?_)
      refine r_goto 70 rfl dX9_total_65 ?_
      exact r_ireturn rfl rfl (Nat.le_of_ble_eq_true rfl) (Nat.le_of_ble_eq_true rfl) dX9_total_70
  · refine r_aload_n 0 0 rfl rfl 10 rfl dX9_total_9 ?_
    refine r_callV_I (c_X9_closedMany (E := E) (l := l) (S := S) d1 o0 h0) ok_X9_closedMany ⟨⟨(Nat.le_of_ble_eq_true rfl), (Nat.le_of_ble_eq_true rfl)⟩, (Nat.le_of_ble_eq_true rfl), (Nat.le_of_ble_eq_true rfl)⟩ (h0 0 (Nat.le_of_ble_eq_true rfl)) (Nat.le_of_ble_eq_true rfl) rfl rfl rfl (Nat.le_of_ble_eq_true rfl) gX9_total_X9_closedMany rfl rfl 13 rfl dX9_total_10 (fun v4 => ?_)
    refine r_if_le 48 16 rfl rfl dX9_total_13 ?_ ?_
    · refine r_ldc (v := (-1000000)) w_X9_total_2 50 rfl dX9_total_48 ?_
      exact r_ireturn rfl rfl (Nat.le_of_ble_eq_true rfl) (Nat.le_of_ble_eq_true rfl) dX9_total_50
    · refine r_iload_n 1 1 rfl rfl 17 rfl dX9_total_16 ?_
      refine r_iconst 0 rfl 18 rfl dX9_total_17 ?_
      refine r_aload_n 0 0 rfl rfl 19 rfl dX9_total_18 ?_
      refine r_get (h0 0 (Nat.le_of_ble_eq_true rfl)) rfl (Nat.le_of_ble_eq_true rfl) rfl rfl w_X9_total_1 1 (Nat.le_of_ble_eq_true rfl) rfl w_X9_total_3 (.ref (E.2.1 + (o0 + 1))) rfl 22 rfl dX9_total_19 ?_
      refine r_iconst 0 rfl 23 rfl dX9_total_22 ?_
      refine r_iald (h0 1 (Nat.le_of_ble_eq_true rfl)) rfl rfl 24 rfl dX9_total_23 (fun v5 => ?_)
      refine r_iconst 1 rfl 25 rfl dX9_total_24 ?_
      refine r_isub 26 rfl dX9_total_25 ?_
      refine r_callS_I (c_X9_isIn (E := E) (l := l) (S := S) d1 x1 0 (v5 - 1)) ok_X9_isIn ⟨⟨(Nat.le_of_ble_eq_true rfl), (Nat.le_of_ble_eq_true rfl)⟩, (Nat.le_of_ble_eq_true rfl), (Nat.le_of_ble_eq_true rfl)⟩ rfl (Nat.le_of_ble_eq_true rfl) gX9_total_X9_isIn rfl rfl 29 rfl dX9_total_26 (fun v6 => ?_)
      refine r_if_eq 48 32 rfl rfl dX9_total_29 ?_ ?_
      · refine r_ldc (v := (-1000000)) w_X9_total_2 50 rfl dX9_total_48 ?_
        exact r_ireturn rfl rfl (Nat.le_of_ble_eq_true rfl) (Nat.le_of_ble_eq_true rfl) dX9_total_50
      · refine r_aload_n 0 0 rfl rfl 33 rfl dX9_total_32 ?_
        refine r_iload_n 1 1 rfl rfl 34 rfl dX9_total_33 ?_
        refine r_callV_I (c_X9_isTeamOn (E := E) (l := l) (S := S) d1 o0 h0 x1) ok_X9_isTeamOn ⟨⟨(Nat.le_of_ble_eq_true rfl), (Nat.le_of_ble_eq_true rfl)⟩, (Nat.le_of_ble_eq_true rfl), (Nat.le_of_ble_eq_true rfl)⟩ (h0 0 (Nat.le_of_ble_eq_true rfl)) (Nat.le_of_ble_eq_true rfl) rfl rfl rfl (Nat.le_of_ble_eq_true rfl) gX9_total_X9_isTeamOn rfl rfl 37 rfl dX9_total_34 (fun v7 => ?_)
        refine r_if_eq 48 40 rfl rfl dX9_total_37 ?_ ?_
        · refine r_ldc (v := (-1000000)) w_X9_total_2 50 rfl dX9_total_48 ?_
          exact r_ireturn rfl rfl (Nat.le_of_ble_eq_true rfl) (Nat.le_of_ble_eq_true rfl) dX9_total_50
        · refine r_aload_n 0 0 rfl rfl 41 rfl dX9_total_40 ?_
          refine r_iload_n 1 1 rfl rfl 42 rfl dX9_total_41 ?_
          refine r_callV_X (c_X9_teamTotal (E := E) (l := l) (S := S) d1 o0 h0 x1) ok_X9_teamTotal ⟨⟨(Nat.le_of_ble_eq_true rfl), (Nat.le_of_ble_eq_true rfl)⟩, (Nat.le_of_ble_eq_true rfl), (Nat.le_of_ble_eq_true rfl)⟩ (h0 0 (Nat.le_of_ble_eq_true rfl)) (Nat.le_of_ble_eq_true rfl) rfl rfl rfl (Nat.le_of_ble_eq_true rfl) gX9_total_X9_teamTotal rfl rfl 45 rfl dX9_total_42 (fun v8 d9 => ?_)
          refine r_goto 50 rfl dX9_total_45 ?_
          exact r_ireturn rfl rfl (Nat.le_of_ble_eq_true rfl) (Nat.le_of_ble_eq_true rfl) dX9_total_50
def Y_X9_firstFree : z_Y := (RX9, cX9_firstFree, 4, wsX9_firstFree, (some .int), { frames := 6, cells := 0, slots := 0, locals := 143 }, 0, 0)
theorem ok_X9_firstFree : z_Ok yX9_firstFree Y_X9_firstFree 2 := ⟨⟨_, rfl⟩, rfl, rfl, rfl, by decide +kernel, by decide +kernel⟩
theorem w_X9_firstFree_0 : Cond.fieldLink RX9 205 "BunchTimesModel" "rankedMany" "I" ∈ wsX9_firstFree := by decide +kernel
theorem w_X9_firstFree_1 : ∀ w ∈ u_ws RX9 TX9 18, w ∈ wsX9_firstFree := by decide +kernel
theorem w_X9_firstFree_2 : Cond.fieldLink RX9 26 "BunchTimesModel" "ranked" "[I" ∈ wsX9_firstFree := by decide +kernel
def f_X9_firstFree_L7_b (d : z_D) (o0 : Nat) (x2 : Int32) (K : Unit → Option (Int32 × z_D)) (R : Int32 → Option (Int32 × z_D)) (x3 : Int32) : Option (Int32 × z_D) := (if (d o0 8) ≤ x3 then (K ()) else z_ald d (o0 + 6) 16 x3 (fun v2 => (if ((x2 >>> (v2 &&& 31)) &&& 1) = 0 then z_ald d (o0 + 6) 16 x3 (fun v3 => (some (v3, d))) else (R (x3 + 1)))))
def f_X9_firstFree_L7 (d : z_D) (o0 : Nat) (x2 : Int32) (K : Unit → Option (Int32 × z_D)) : Nat → Int32 → Option (Int32 × z_D)
  | 0 => fun _ => none
  | n + 1 => f_X9_firstFree_L7_b d o0 x2 K (f_X9_firstFree_L7 d o0 x2 K n)
set_option maxHeartbeats 4000000 in
set_option maxRecDepth 100000 in
theorem g_X9_firstFree_L7 {E : z_E} {l : Launch} {S : z_S} {d : z_D} {o0 : Nat} {x2 : Int32} {K : Unit → Option (Int32 × z_D)} (h0 : A_Model S o0) (hK : ∀ y9 : Unit, z_G E l Y_X9_firstFree (cvX S) (K y9) 41 [] [] (S, d) 0 0) : ∀ (n : Nat) (x3 : Int32), z_G E l Y_X9_firstFree (cvX S) (f_X9_firstFree_L7 d o0 x2 K n x3) 7 [(0, .ref (E.2.1 + o0)), (2, .int x2), (3, .int x3)] [] (S, d) 0 0 := by
  intro n
  induction n with
  | zero => intro _; exact r_none
  | succ n ih =>
    intro x3
    show z_G E l Y_X9_firstFree (cvX S) (f_X9_firstFree_L7_b d o0 x2 K (f_X9_firstFree_L7 d o0 x2 K n) x3) 7 [(0, .ref (E.2.1 + o0)), (2, .int x2), (3, .int x3)] [] (S, d) 0 0
    unfold f_X9_firstFree_L7_b
    refine r_iload_n 3 2 rfl rfl 8 rfl dX9_firstFree_7 ?_
    refine r_aload_n 0 0 rfl rfl 9 rfl dX9_firstFree_8 ?_
    refine r_get (h0 0 (Nat.le_of_ble_eq_true rfl)) rfl (Nat.le_of_ble_eq_true rfl) rfl rfl w_X9_firstFree_1 8 (Nat.le_of_ble_eq_true rfl) rfl w_X9_firstFree_0 (.int (d o0 8)) rfl 12 rfl dX9_firstFree_9 ?_
    refine r_icmp_ge 41 15 rfl rfl dX9_firstFree_12 ?_ ?_
    · refine r_sub [] rfl ?_
      exact hK ()
    · refine r_iload_n 2 1 rfl rfl 16 rfl dX9_firstFree_15 ?_
      refine r_aload_n 0 0 rfl rfl 17 rfl dX9_firstFree_16 ?_
      refine r_get (h0 0 (Nat.le_of_ble_eq_true rfl)) rfl (Nat.le_of_ble_eq_true rfl) rfl rfl w_X9_firstFree_1 7 (Nat.le_of_ble_eq_true rfl) rfl w_X9_firstFree_2 (.ref (E.2.1 + (o0 + 6))) rfl 20 rfl dX9_firstFree_17 ?_
      refine r_iload_n 3 2 rfl rfl 21 rfl dX9_firstFree_20 ?_
      refine r_iald (h0 6 (Nat.le_of_ble_eq_true rfl)) rfl rfl 22 rfl dX9_firstFree_21 (fun v2 => ?_)
      refine r_ishr 23 rfl dX9_firstFree_22 ?_
      refine r_iconst 1 rfl 24 rfl dX9_firstFree_23 ?_
      refine r_iand 25 rfl dX9_firstFree_24 ?_
      refine r_if_ne 35 28 rfl rfl dX9_firstFree_25 ?_ ?_
      · refine r_iinc (x3 + 1) 2 rfl rfl [(3, .int (x3 + 1)), (0, .ref (E.2.1 + o0)), (2, .int x2)] (Nat.le_of_ble_eq_true rfl) rfl 38 rfl dX9_firstFree_35 ?_
        refine r_goto 7 rfl dX9_firstFree_38 ?_
        refine r_sub [1, 2, 0] rfl ?_
        exact ih (x3 + 1)
      · refine r_aload_n 0 0 rfl rfl 29 rfl dX9_firstFree_28 ?_
        refine r_get (h0 0 (Nat.le_of_ble_eq_true rfl)) rfl (Nat.le_of_ble_eq_true rfl) rfl rfl w_X9_firstFree_1 7 (Nat.le_of_ble_eq_true rfl) rfl w_X9_firstFree_2 (.ref (E.2.1 + (o0 + 6))) rfl 32 rfl dX9_firstFree_29 ?_
        refine r_iload_n 3 2 rfl rfl 33 rfl dX9_firstFree_32 ?_
        refine r_iald (h0 6 (Nat.le_of_ble_eq_true rfl)) rfl rfl 34 rfl dX9_firstFree_33 (fun v3 => ?_)
        exact r_ireturn rfl rfl (Nat.le_of_ble_eq_true rfl) (Nat.le_of_ble_eq_true rfl) dX9_firstFree_34
def f_X9_firstFree (d : z_D) (o0 : Nat) (x1 : Int32) (x2 : Int32) : Option (Int32 × z_D) := ((f_X9_ranks d o0 x1).bind fun d1 => (f_X9_firstFree_L7 d1 o0 x2 (fun _ => (some ((-1), d1))) z_N 0))
set_option maxHeartbeats 4000000 in
set_option maxRecDepth 100000 in
theorem c_X9_firstFree {E : z_E} {l : Launch} {S : z_S} (d : z_D) (o0 : Nat) (h0 : A_Model S o0) (x1 : Int32) (x2 : Int32) : z_Sp E l yX9_firstFree Y_X9_firstFree (cvX S) [.ref (E.2.1 + o0), .int x1, .int x2] (S, d) (f_X9_firstFree d o0 x1 x2) := by
  refine z_entry (lv := [(0, .ref (E.2.1 + o0)), (1, .int x1), (2, .int x2)]) (by decide) rfl rfl (Nat.le_of_ble_eq_true rfl) rfl ?_
  unfold f_X9_firstFree
  refine r_aload_n 0 0 rfl rfl 1 rfl dX9_firstFree_0 ?_
  refine r_iload_n 1 1 rfl rfl 2 rfl dX9_firstFree_1 ?_
  refine r_callV_V (c_X9_ranks (E := E) (l := l) (S := S) d o0 h0 x1) ok_X9_ranks ⟨⟨(Nat.le_of_ble_eq_true rfl), (Nat.le_of_ble_eq_true rfl)⟩, (Nat.le_of_ble_eq_true rfl), (Nat.le_of_ble_eq_true rfl)⟩ (h0 0 (Nat.le_of_ble_eq_true rfl)) (Nat.le_of_ble_eq_true rfl) rfl rfl rfl (Nat.le_of_ble_eq_true rfl) gX9_firstFree_X9_ranks rfl rfl 5 rfl dX9_firstFree_2 (fun d1 => ?_)
  refine r_iconst 0 rfl 6 rfl dX9_firstFree_5 ?_
  refine r_istore_n 3 rfl [(3, .int 0), (0, .ref (E.2.1 + o0)), (1, .int x1), (2, .int x2)] (Nat.le_of_ble_eq_true rfl) rfl 7 rfl dX9_firstFree_6 ?_
  refine r_sub [1, 3, 0] rfl ?_
  refine g_X9_firstFree_L7 h0 (fun _ => ?_) z_N 0
  refine r_iconst (-1) rfl 42 rfl dX9_firstFree_41 ?_
  exact r_ireturn rfl rfl (Nat.le_of_ble_eq_true rfl) (Nat.le_of_ble_eq_true rfl) dX9_firstFree_42
def Y_X9_jersey : z_Y := (RX9, cX9_jersey, 6, wsX9_jersey, (some .int), { frames := 7, cells := 0, slots := 0, locals := 166 }, 0, 0)
theorem ok_X9_jersey : z_Ok yX9_jersey Y_X9_jersey 2 := ⟨⟨_, rfl⟩, rfl, rfl, rfl, by decide +kernel, by decide +kernel⟩
theorem w_X9_jersey_0 : Cond.fieldLink RX9 39 "BunchTimesModel" "thrown" "I" ∈ wsX9_jersey := by decide +kernel
theorem w_X9_jersey_1 : ∀ w ∈ u_ws RX9 TX9 18, w ∈ wsX9_jersey := by decide +kernel
def f_X9_jersey_L35_b (o0 : Nat) (x1 : Int32) (K : Int32 → z_D → Option (Int32 × z_D)) (R : Int32 → Int32 → Int32 → z_D → Option (Int32 × z_D)) (x3 : Int32) (x4 : Int32) (x5 : Int32) (d : z_D) : Option (Int32 × z_D) := (if x1 < x5 then (K x4 d) else z_bX (f_X9_firstFree d o0 x5 x3) (fun v3 d4 => (if v3 = (-1) then z_nam (x3 ||| 0) (fun v6 => (R v6 v3 (x5 + 1) d4)) else z_nam (x3 ||| (1 <<< (v3 &&& 31))) (fun v5 => (R v5 v3 (x5 + 1) d4)))))
def f_X9_jersey_L35 (o0 : Nat) (x1 : Int32) (K : Int32 → z_D → Option (Int32 × z_D)) : Nat → Int32 → Int32 → Int32 → z_D → Option (Int32 × z_D)
  | 0 => fun _ _ _ _ => none
  | n + 1 => f_X9_jersey_L35_b o0 x1 K (f_X9_jersey_L35 o0 x1 K n)
set_option maxHeartbeats 4000000 in
set_option maxRecDepth 100000 in
theorem g_X9_jersey_L35 {E : z_E} {l : Launch} {S : z_S} {o0 : Nat} {x1 : Int32} {K : Int32 → z_D → Option (Int32 × z_D)} (h0 : A_Model S o0) (hK : ∀ (y4 : Int32) (d9 : z_D), z_G E l Y_X9_jersey (cvX S) (K y4 d9) 73 [(4, .int y4)] [] (S, d9) 0 0) : ∀ (n : Nat) (x3 : Int32) (x4 : Int32) (x5 : Int32) (d : z_D), z_G E l Y_X9_jersey (cvX S) (f_X9_jersey_L35 o0 x1 K n x3 x4 x5 d) 35 [(0, .ref (E.2.1 + o0)), (1, .int x1), (3, .int x3), (4, .int x4), (5, .int x5)] [] (S, d) 0 0 := by
  intro n
  induction n with
  | zero => intro _ _ _ _; exact r_none
  | succ n ih =>
    intro x3 x4 x5 d
    show z_G E l Y_X9_jersey (cvX S) (f_X9_jersey_L35_b o0 x1 K (f_X9_jersey_L35 o0 x1 K n) x3 x4 x5 d) 35 [(0, .ref (E.2.1 + o0)), (1, .int x1), (3, .int x3), (4, .int x4), (5, .int x5)] [] (S, d) 0 0
    unfold f_X9_jersey_L35_b
    refine r_iload 5 4 rfl 37 rfl dX9_jersey_35 ?_
    refine r_iload_n 1 1 rfl rfl 38 rfl dX9_jersey_37 ?_
    refine r_icmp_gt 73 41 rfl rfl dX9_jersey_38 ?_ ?_
    · refine r_sub [3] rfl ?_
      exact hK x4 d
    · refine r_aload_n 0 0 rfl rfl 42 rfl dX9_jersey_41 ?_
      refine r_iload 5 4 rfl 44 rfl dX9_jersey_42 ?_
      refine r_iload_n 3 2 rfl rfl 45 rfl dX9_jersey_44 ?_
      refine r_callV_X (c_X9_firstFree (E := E) (l := l) (S := S) d o0 h0 x5 x3) ok_X9_firstFree ⟨⟨(Nat.le_of_ble_eq_true rfl), (Nat.le_of_ble_eq_true rfl)⟩, (Nat.le_of_ble_eq_true rfl), (Nat.le_of_ble_eq_true rfl)⟩ (h0 0 (Nat.le_of_ble_eq_true rfl)) (Nat.le_of_ble_eq_true rfl) rfl rfl rfl (Nat.le_of_ble_eq_true rfl) gX9_jersey_X9_firstFree rfl rfl 48 rfl dX9_jersey_45 (fun v3 d4 => ?_)
      refine r_istore 4 [(4, .int v3), (0, .ref (E.2.1 + o0)), (1, .int x1), (3, .int x3), (5, .int x5)] (Nat.le_of_ble_eq_true rfl) rfl 50 rfl dX9_jersey_48 ?_
      refine r_iload_n 3 3 rfl rfl 51 rfl dX9_jersey_50 ?_
      refine r_iload 4 0 rfl 53 rfl dX9_jersey_51 ?_
      refine r_iconst (-1) rfl 54 rfl dX9_jersey_53 ?_
      refine r_icmp_ne 61 57 rfl rfl dX9_jersey_54 ?_ ?_
      · refine r_iconst 1 rfl 62 rfl dX9_jersey_61 ?_
        refine r_iload 4 0 rfl 64 rfl dX9_jersey_62 ?_
        refine r_ishl 65 rfl dX9_jersey_64 ?_
        refine r_ior 66 rfl dX9_jersey_65 ?_
        refine r_nami (fun v5 => ?_)
        refine r_istore_n 3 rfl [(3, .int v5), (4, .int v3), (0, .ref (E.2.1 + o0)), (1, .int x1), (5, .int x5)] (Nat.le_of_ble_eq_true rfl) rfl 67 rfl dX9_jersey_66 ?_
        refine r_iinc (x5 + 1) 4 rfl rfl [(5, .int (x5 + 1)), (3, .int v5), (4, .int v3), (0, .ref (E.2.1 + o0)), (1, .int x1)] (Nat.le_of_ble_eq_true rfl) rfl 70 rfl dX9_jersey_67 ?_
        refine r_goto 35 rfl dX9_jersey_70 ?_
        refine r_sub [3, 4, 1, 2, 0] rfl ?_
        exact ih v5 v3 (x5 + 1) d4
      · refine r_iconst 0 rfl 58 rfl dX9_jersey_57 ?_
        refine r_goto 65 rfl dX9_jersey_58 ?_
        refine r_ior 66 rfl dX9_jersey_65 ?_
        refine r_nami (fun v6 => ?_)
        refine r_istore_n 3 rfl [(3, .int v6), (4, .int v3), (0, .ref (E.2.1 + o0)), (1, .int x1), (5, .int x5)] (Nat.le_of_ble_eq_true rfl) rfl 67 rfl dX9_jersey_66 ?_
        refine r_iinc (x5 + 1) 4 rfl rfl [(5, .int (x5 + 1)), (3, .int v6), (4, .int v3), (0, .ref (E.2.1 + o0)), (1, .int x1)] (Nat.le_of_ble_eq_true rfl) rfl 70 rfl dX9_jersey_67 ?_
        refine r_goto 35 rfl dX9_jersey_70 ?_
        refine r_sub [3, 4, 1, 2, 0] rfl ?_
        exact ih v6 v3 (x5 + 1) d4
def f_X9_jersey (d : z_D) (o0 : Nat) (x1 : Int32) (x2 : Int32) : Option (Int32 × z_D) := z_put d o0 0 0 (fun d1 => ((f_X9_isIn x1 0 3).bind fun v2 => (if v2 = 0 then (some ((-1), d1)) else (if x2 = 0 then (f_X9_jersey_L35 o0 x1 (fun v8 d7 => (some (v8, d7))) z_N 0 (-1) 0 d1) else z_bX (f_X9_firstFree d1 o0 x1 0) (fun v9 d10 => (some (v9, d10)))))))
set_option maxHeartbeats 4000000 in
set_option maxRecDepth 100000 in
theorem c_X9_jersey {E : z_E} {l : Launch} {S : z_S} (d : z_D) (o0 : Nat) (h0 : A_Model S o0) (x1 : Int32) (x2 : Int32) : z_Sp E l yX9_jersey Y_X9_jersey (cvX S) [.ref (E.2.1 + o0), .int x1, .int x2] (S, d) (f_X9_jersey d o0 x1 x2) := by
  refine z_entry (lv := [(0, .ref (E.2.1 + o0)), (1, .int x1), (2, .int x2)]) (by decide) rfl rfl (Nat.le_of_ble_eq_true rfl) rfl ?_
  unfold f_X9_jersey
  refine r_aload_n 0 0 rfl rfl 1 rfl dX9_jersey_0 ?_
  refine r_iconst 0 rfl 2 rfl dX9_jersey_1 ?_
  refine r_put (h0 0 (Nat.le_of_ble_eq_true rfl)) rfl (Nat.le_of_ble_eq_true rfl) rfl rfl w_X9_jersey_1 tyX9 tyX9_ok nmX9 (Nat.le_of_ble_eq_true rfl) rfl w_X9_jersey_0 rfl rfl rfl rfl rfl 5 rfl dX9_jersey_2 (fun d1 => ?_)
  refine r_iload_n 1 1 rfl rfl 6 rfl dX9_jersey_5 ?_
  refine r_iconst 0 rfl 7 rfl dX9_jersey_6 ?_
  refine r_iconst 3 rfl 8 rfl dX9_jersey_7 ?_
  refine r_callS_I (c_X9_isIn (E := E) (l := l) (S := S) d1 x1 0 3) ok_X9_isIn ⟨⟨(Nat.le_of_ble_eq_true rfl), (Nat.le_of_ble_eq_true rfl)⟩, (Nat.le_of_ble_eq_true rfl), (Nat.le_of_ble_eq_true rfl)⟩ rfl (Nat.le_of_ble_eq_true rfl) gX9_jersey_X9_isIn rfl rfl 11 rfl dX9_jersey_8 (fun v2 => ?_)
  refine r_if_ne 16 14 rfl rfl dX9_jersey_11 ?_ ?_
  · refine r_iload_n 2 2 rfl rfl 17 rfl dX9_jersey_16 ?_
    refine r_if_eq 27 20 rfl rfl dX9_jersey_17 ?_ ?_
    · refine r_iconst 0 rfl 28 rfl dX9_jersey_27 ?_
      refine r_istore_n 3 rfl [(3, .int 0), (0, .ref (E.2.1 + o0)), (1, .int x1), (2, .int x2)] (Nat.le_of_ble_eq_true rfl) rfl 29 rfl dX9_jersey_28 ?_
      refine r_iconst (-1) rfl 30 rfl dX9_jersey_29 ?_
      refine r_istore 4 [(4, .int (-1)), (3, .int 0), (0, .ref (E.2.1 + o0)), (1, .int x1), (2, .int x2)] (Nat.le_of_ble_eq_true rfl) rfl 32 rfl dX9_jersey_30 ?_
      refine r_iconst 0 rfl 33 rfl dX9_jersey_32 ?_
      refine r_istore 5 [(5, .int 0), (4, .int (-1)), (3, .int 0), (0, .ref (E.2.1 + o0)), (1, .int x1), (2, .int x2)] (Nat.le_of_ble_eq_true rfl) rfl 35 rfl dX9_jersey_33 ?_
      refine r_sub [3, 4, 2, 1, 0] rfl ?_
      refine g_X9_jersey_L35 h0 (fun v8 d7 => ?_) z_N 0 (-1) 0 d1
      refine r_iload 4 0 rfl 75 rfl dX9_jersey_73 ?_
      exact r_ireturn rfl rfl (Nat.le_of_ble_eq_true rfl) (Nat.le_of_ble_eq_true rfl) dX9_jersey_75
    · refine r_aload_n 0 0 rfl rfl 21 rfl dX9_jersey_20 ?_
      refine r_iload_n 1 1 rfl rfl 22 rfl dX9_jersey_21 ?_
      refine r_iconst 0 rfl 23 rfl dX9_jersey_22 ?_
      refine r_callV_X (c_X9_firstFree (E := E) (l := l) (S := S) d1 o0 h0 x1 0) ok_X9_firstFree ⟨⟨(Nat.le_of_ble_eq_true rfl), (Nat.le_of_ble_eq_true rfl)⟩, (Nat.le_of_ble_eq_true rfl), (Nat.le_of_ble_eq_true rfl)⟩ (h0 0 (Nat.le_of_ble_eq_true rfl)) (Nat.le_of_ble_eq_true rfl) rfl rfl rfl (Nat.le_of_ble_eq_true rfl) gX9_jersey_X9_firstFree rfl rfl 26 rfl dX9_jersey_23 (fun v9 d10 => ?_)
      exact r_ireturn rfl rfl (Nat.le_of_ble_eq_true rfl) (Nat.le_of_ble_eq_true rfl) dX9_jersey_26
  · refine r_iconst (-1) rfl 15 rfl dX9_jersey_14 ?_
    exact r_ireturn rfl rfl (Nat.le_of_ble_eq_true rfl) (Nat.le_of_ble_eq_true rfl) dX9_jersey_15
def Y_X9_needs : z_Y := (RX9, cX9_needs, 5, wsX9_needs, (some .int), { frames := 4, cells := 0, slots := 0, locals := 96 }, 0, 0)
theorem ok_X9_needs : z_Ok yX9_needs Y_X9_needs 1 := ⟨⟨_, rfl⟩, rfl, rfl, rfl, by decide +kernel, by decide +kernel⟩
theorem w_X9_needs_0 : Cond.fieldLink RX9 39 "BunchTimesModel" "thrown" "I" ∈ wsX9_needs := by decide +kernel
theorem w_X9_needs_1 : ∀ w ∈ u_ws RX9 TX9 18, w ∈ wsX9_needs := by decide +kernel
theorem w_X9_needs_2 : Cond.fieldLink RX9 7 "BunchTimesModel" "row" "[I" ∈ wsX9_needs := by decide +kernel
def f_X9_needs_L26_b (d : z_D) (o0 : Nat) (x1 : Int32) (K : Int32 → Option (Int32 × z_D)) (R : Int32 → Int32 → Option (Int32 × z_D)) (x2 : Int32) (x3 : Int32) : Option (Int32 × z_D) := z_ald d (o0 + 1) 2656 1 (fun v4 => (if v4 ≤ x3 then (K x2) else (if x3 = x1 then (R x2 (x3 + 1)) else ((f_X9_isThere d o0 x3).bind fun v5 => (if v5 = 0 then (R x2 (x3 + 1)) else ((f_X9_totalBut d o0 x1 (-1)).bind fun v6 => ((f_X9_totalBut d o0 x3 (-1)).bind fun v7 => z_nam (v6 - v7) (fun v8 => z_let (fun x_109 : Int32 => (if x_109 ≤ x2 then (R x2 (x3 + 1)) else (R x_109 (x3 + 1)))) (fun J109 => z_let (fun x_100 : Unit => (J109 (v8 + 1))) (fun J100 => z_let (fun x_84 : Unit => z_let (fun x_107 : Unit => (J109 v8)) (fun J107 => (if v8 = 0 then ((f_X9_isAhead d o0 x1 x3 0 (-1)).bind fun v9 => (if v9 = 0 then (J100 ()) else (J107 ()))) else (J107 ())))) (fun J84 => (if v8 ≤ 0 then (J84 ()) else ((f_X9_isAhead d o0 x1 x3 v8 (-1)).bind fun v10 => (if v10 = 0 then (J100 ()) else (J84 ())))))))))))))))
def f_X9_needs_L26 (d : z_D) (o0 : Nat) (x1 : Int32) (K : Int32 → Option (Int32 × z_D)) : Nat → Int32 → Int32 → Option (Int32 × z_D)
  | 0 => fun _ _ => none
  | n + 1 => f_X9_needs_L26_b d o0 x1 K (f_X9_needs_L26 d o0 x1 K n)
set_option maxHeartbeats 4000000 in
set_option maxRecDepth 100000 in
theorem g_X9_needs_L26 {E : z_E} {l : Launch} {S : z_S} {d : z_D} {o0 : Nat} {x1 : Int32} {K : Int32 → Option (Int32 × z_D)} (h0 : A_Model S o0) (hK : ∀ (y2 : Int32), z_G E l Y_X9_needs (cvX S) (K y2) 130 [(2, .int y2)] [] (S, d) 0 0) : ∀ (n : Nat) (x2 : Int32) (x3 : Int32), z_G E l Y_X9_needs (cvX S) (f_X9_needs_L26 d o0 x1 K n x2 x3) 26 [(0, .ref (E.2.1 + o0)), (1, .int x1), (2, .int x2), (3, .int x3)] [] (S, d) 0 0 := by
  intro n
  induction n with
  | zero => intro _ _; exact r_none
  | succ n ih =>
    intro x2 x3
    show z_G E l Y_X9_needs (cvX S) (f_X9_needs_L26_b d o0 x1 K (f_X9_needs_L26 d o0 x1 K n) x2 x3) 26 [(0, .ref (E.2.1 + o0)), (1, .int x1), (2, .int x2), (3, .int x3)] [] (S, d) 0 0
    unfold f_X9_needs_L26_b
    refine r_iload_n 3 3 rfl rfl 27 rfl dX9_needs_26 ?_
    refine r_aload_n 0 0 rfl rfl 28 rfl dX9_needs_27 ?_
    refine r_get (h0 0 (Nat.le_of_ble_eq_true rfl)) rfl (Nat.le_of_ble_eq_true rfl) rfl rfl w_X9_needs_1 1 (Nat.le_of_ble_eq_true rfl) rfl w_X9_needs_2 (.ref (E.2.1 + (o0 + 1))) rfl 31 rfl dX9_needs_28 ?_
    refine r_iconst 1 rfl 32 rfl dX9_needs_31 ?_
    refine r_iald (h0 1 (Nat.le_of_ble_eq_true rfl)) rfl rfl 33 rfl dX9_needs_32 (fun v4 => ?_)
    refine r_icmp_ge 130 36 rfl rfl dX9_needs_33 ?_ ?_
    · refine r_sub [2] rfl ?_
      exact hK x2
    · refine r_iload_n 3 3 rfl rfl 37 rfl dX9_needs_36 ?_
      refine r_iload_n 1 1 rfl rfl 38 rfl dX9_needs_37 ?_
      refine r_icmp_eq 124 41 rfl rfl dX9_needs_38 ?_ ?_
      · refine r_iinc (x3 + 1) 3 rfl rfl [(3, .int (x3 + 1)), (0, .ref (E.2.1 + o0)), (1, .int x1), (2, .int x2)] (Nat.le_of_ble_eq_true rfl) rfl 127 rfl dX9_needs_124 ?_
        refine r_goto 26 rfl dX9_needs_127 ?_
        refine r_sub [1, 2, 3, 0] rfl ?_
        exact ih x2 (x3 + 1)
      · refine r_aload_n 0 0 rfl rfl 42 rfl dX9_needs_41 ?_
        refine r_iload_n 3 3 rfl rfl 43 rfl dX9_needs_42 ?_
        refine r_callV_I (c_X9_isThere (E := E) (l := l) (S := S) d o0 h0 x3) ok_X9_isThere ⟨⟨(Nat.le_of_ble_eq_true rfl), (Nat.le_of_ble_eq_true rfl)⟩, (Nat.le_of_ble_eq_true rfl), (Nat.le_of_ble_eq_true rfl)⟩ (h0 0 (Nat.le_of_ble_eq_true rfl)) (Nat.le_of_ble_eq_true rfl) rfl rfl rfl (Nat.le_of_ble_eq_true rfl) gX9_needs_X9_isThere rfl rfl 46 rfl dX9_needs_43 (fun v5 => ?_)
        refine r_if_ne 52 49 rfl rfl dX9_needs_46 ?_ ?_
        · refine r_aload_n 0 0 rfl rfl 53 rfl dX9_needs_52 ?_
          refine r_iload_n 1 1 rfl rfl 54 rfl dX9_needs_53 ?_
          refine r_iconst (-1) rfl 55 rfl dX9_needs_54 ?_
          refine r_callV_I (c_X9_totalBut (E := E) (l := l) (S := S) d o0 h0 x1 (-1)) ok_X9_totalBut ⟨⟨(Nat.le_of_ble_eq_true rfl), (Nat.le_of_ble_eq_true rfl)⟩, (Nat.le_of_ble_eq_true rfl), (Nat.le_of_ble_eq_true rfl)⟩ (h0 0 (Nat.le_of_ble_eq_true rfl)) (Nat.le_of_ble_eq_true rfl) rfl rfl rfl (Nat.le_of_ble_eq_true rfl) gX9_needs_X9_totalBut rfl rfl 58 rfl dX9_needs_55 (fun v6 => ?_)
          refine r_aload_n 0 0 rfl rfl 59 rfl dX9_needs_58 ?_
          refine r_iload_n 3 3 rfl rfl 60 rfl dX9_needs_59 ?_
          refine r_iconst (-1) rfl 61 rfl dX9_needs_60 ?_
          refine r_callV_I (c_X9_totalBut (E := E) (l := l) (S := S) d o0 h0 x3 (-1)) ok_X9_totalBut ⟨⟨(Nat.le_of_ble_eq_true rfl), (Nat.le_of_ble_eq_true rfl)⟩, (Nat.le_of_ble_eq_true rfl), (Nat.le_of_ble_eq_true rfl)⟩ (h0 0 (Nat.le_of_ble_eq_true rfl)) (Nat.le_of_ble_eq_true rfl) rfl rfl rfl (Nat.le_of_ble_eq_true rfl) gX9_needs_X9_totalBut rfl rfl 64 rfl dX9_needs_61 (fun v7 => ?_)
          refine r_isub 65 rfl dX9_needs_64 ?_
          refine r_nami (fun v8 => ?_)
          refine r_istore 4 [(4, .int v8), (0, .ref (E.2.1 + o0)), (1, .int x1), (2, .int x2), (3, .int x3)] (Nat.le_of_ble_eq_true rfl) rfl 67 rfl dX9_needs_65 ?_
          refine r_iload 4 0 rfl 69 rfl dX9_needs_67 ?_
          refine r_let 109 (f := fun x_109 : Int32 => [(0, .ref (E.2.1 + o0)), (1, .int x1), (2, .int x2), (3, .int x3)]) (g := fun x_109 : Int32 => [.int x_109]) (ww := fun x_109 : Int32 => (S, d)) (fun x_109 => ?_) (fun J109 hJ109 => ?_)
          · refine r_istore 4 [(4, .int x_109), (0, .ref (E.2.1 + o0)), (1, .int x1), (2, .int x2), (3, .int x3)] (Nat.le_of_ble_eq_true rfl) rfl 111 rfl dX9_needs_109 ?_
            refine r_iload 4 0 rfl 113 rfl dX9_needs_111 ?_
            refine r_iload_n 2 3 rfl rfl 114 rfl dX9_needs_113 ?_
            refine r_icmp_le 122 117 rfl rfl dX9_needs_114 ?_ ?_
            · refine r_iload_n 2 3 rfl rfl 123 rfl dX9_needs_122 ?_
              refine r_istore_n 2 rfl [(2, .int x2), (4, .int x_109), (0, .ref (E.2.1 + o0)), (1, .int x1), (3, .int x3)] (Nat.le_of_ble_eq_true rfl) rfl 124 rfl dX9_needs_123 ?_
              refine r_iinc (x3 + 1) 4 rfl rfl [(3, .int (x3 + 1)), (2, .int x2), (4, .int x_109), (0, .ref (E.2.1 + o0)), (1, .int x1)] (Nat.le_of_ble_eq_true rfl) rfl 127 rfl dX9_needs_124 ?_
              refine r_goto 26 rfl dX9_needs_127 ?_
              refine r_sub [3, 4, 1, 0] rfl ?_
              exact ih x2 (x3 + 1)
            · refine r_iload 4 0 rfl 119 rfl dX9_needs_117 ?_
              refine r_goto 123 rfl dX9_needs_119 ?_
              refine r_istore_n 2 rfl [(2, .int x_109), (4, .int x_109), (0, .ref (E.2.1 + o0)), (1, .int x1), (3, .int x3)] (Nat.le_of_ble_eq_true rfl) rfl 124 rfl dX9_needs_123 ?_
              refine r_iinc (x3 + 1) 4 rfl rfl [(3, .int (x3 + 1)), (2, .int x_109), (4, .int x_109), (0, .ref (E.2.1 + o0)), (1, .int x1)] (Nat.le_of_ble_eq_true rfl) rfl 127 rfl dX9_needs_124 ?_
              refine r_goto 26 rfl dX9_needs_127 ?_
              refine r_sub [3, 4, 1, 0] rfl ?_
              exact ih x_109 (x3 + 1)
          refine r_let 100 (f := fun x_100 : Unit => [(0, .ref (E.2.1 + o0)), (1, .int x1), (2, .int x2), (3, .int x3), (4, .int v8)]) (g := fun x_100 : Unit => []) (ww := fun x_100 : Unit => (S, d)) (fun x_100 => ?_) (fun J100 hJ100 => ?_)
          · refine r_iload 4 4 rfl 102 rfl dX9_needs_100 ?_
            refine r_iconst 1 rfl 103 rfl dX9_needs_102 ?_
            refine r_iadd 104 rfl dX9_needs_103 ?_
            refine r_goto 109 rfl dX9_needs_104 ?_
            refine r_sub [0, 1, 2, 3] rfl ?_
            exact hJ109 (v8 + 1)
          refine r_let 84 (f := fun x_84 : Unit => [(0, .ref (E.2.1 + o0)), (1, .int x1), (2, .int x2), (3, .int x3), (4, .int v8)]) (g := fun x_84 : Unit => []) (ww := fun x_84 : Unit => (S, d)) (fun x_84 => ?_) (fun J84 hJ84 => ?_)
          · refine r_iload 4 4 rfl 86 rfl dX9_needs_84 ?_
            refine r_let 107 (f := fun x_107 : Unit => [(0, .ref (E.2.1 + o0)), (1, .int x1), (2, .int x2), (3, .int x3), (4, .int v8)]) (g := fun x_107 : Unit => []) (ww := fun x_107 : Unit => (S, d)) (fun x_107 => ?_) (fun J107 hJ107 => ?_)
            · refine r_iload 4 4 rfl 109 rfl dX9_needs_107 ?_
              refine r_sub [0, 1, 2, 3] rfl ?_
              exact hJ109 v8
            refine r_if_ne 107 89 rfl rfl dX9_needs_86 ?_ ?_
            · refine r_sub [0, 1, 2, 3, 4] rfl ?_
              exact hJ107 ()
            · refine r_aload_n 0 0 rfl rfl 90 rfl dX9_needs_89 ?_
              refine r_iload_n 1 1 rfl rfl 91 rfl dX9_needs_90 ?_
              refine r_iload_n 3 3 rfl rfl 92 rfl dX9_needs_91 ?_
              refine r_iconst 0 rfl 93 rfl dX9_needs_92 ?_
              refine r_iconst (-1) rfl 94 rfl dX9_needs_93 ?_
              refine r_callV_I (c_X9_isAhead (E := E) (l := l) (S := S) d o0 h0 x1 x3 0 (-1)) ok_X9_isAhead ⟨⟨(Nat.le_of_ble_eq_true rfl), (Nat.le_of_ble_eq_true rfl)⟩, (Nat.le_of_ble_eq_true rfl), (Nat.le_of_ble_eq_true rfl)⟩ (h0 0 (Nat.le_of_ble_eq_true rfl)) (Nat.le_of_ble_eq_true rfl) rfl rfl rfl (Nat.le_of_ble_eq_true rfl) gX9_needs_X9_isAhead rfl rfl 97 rfl dX9_needs_94 (fun v9 => ?_)
              refine r_if_ne 107 100 rfl rfl dX9_needs_97 ?_ ?_
              · refine r_sub [0, 1, 2, 3, 4] rfl ?_
                exact hJ107 ()
              · refine r_sub [0, 1, 2, 3, 4] rfl ?_
                exact hJ100 ()
          refine r_if_le 84 72 rfl rfl dX9_needs_69 ?_ ?_
          · refine r_sub [1, 2, 3, 4, 0] rfl ?_
            exact hJ84 ()
          · refine r_aload_n 0 1 rfl rfl 73 rfl dX9_needs_72 ?_
            refine r_iload_n 1 2 rfl rfl 74 rfl dX9_needs_73 ?_
            refine r_iload_n 3 4 rfl rfl 75 rfl dX9_needs_74 ?_
            refine r_iload 4 0 rfl 77 rfl dX9_needs_75 ?_
            refine r_iconst (-1) rfl 78 rfl dX9_needs_77 ?_
            refine r_callV_I (c_X9_isAhead (E := E) (l := l) (S := S) d o0 h0 x1 x3 v8 (-1)) ok_X9_isAhead ⟨⟨(Nat.le_of_ble_eq_true rfl), (Nat.le_of_ble_eq_true rfl)⟩, (Nat.le_of_ble_eq_true rfl), (Nat.le_of_ble_eq_true rfl)⟩ (h0 0 (Nat.le_of_ble_eq_true rfl)) (Nat.le_of_ble_eq_true rfl) rfl rfl rfl (Nat.le_of_ble_eq_true rfl) gX9_needs_X9_isAhead rfl rfl 81 rfl dX9_needs_78 (fun v10 => ?_)
            refine r_if_eq 100 84 rfl rfl dX9_needs_81 ?_ ?_
            · refine r_sub [1, 2, 3, 4, 0] rfl ?_
              exact hJ100 ()
            · refine r_sub [1, 2, 3, 4, 0] rfl ?_
              exact hJ84 ()
        · refine r_goto 124 rfl dX9_needs_49 ?_
          refine r_iinc (x3 + 1) 3 rfl rfl [(3, .int (x3 + 1)), (0, .ref (E.2.1 + o0)), (1, .int x1), (2, .int x2)] (Nat.le_of_ble_eq_true rfl) rfl 127 rfl dX9_needs_124 ?_
          refine r_goto 26 rfl dX9_needs_127 ?_
          refine r_sub [1, 2, 3, 0] rfl ?_
          exact ih x2 (x3 + 1)
def f_X9_needs (d : z_D) (o0 : Nat) (x1 : Int32) : Option (Int32 × z_D) := z_put d o0 0 0 (fun d1 => ((f_X9_isThere d1 o0 x1).bind fun v2 => (if v2 = 0 then (some ((-1), d1)) else ((f_X9_closedMany d1 o0).bind fun v3 => (if v3 = 0 then (some ((-1), d1)) else (f_X9_needs_L26 d1 o0 x1 (fun v11 => (some (v11, d1))) z_N 0 0))))))
set_option maxHeartbeats 4000000 in
set_option maxRecDepth 100000 in
theorem c_X9_needs {E : z_E} {l : Launch} {S : z_S} (d : z_D) (o0 : Nat) (h0 : A_Model S o0) (x1 : Int32) : z_Sp E l yX9_needs Y_X9_needs (cvX S) [.ref (E.2.1 + o0), .int x1] (S, d) (f_X9_needs d o0 x1) := by
  refine z_entry (lv := [(0, .ref (E.2.1 + o0)), (1, .int x1)]) (by decide) rfl rfl (Nat.le_of_ble_eq_true rfl) rfl ?_
  unfold f_X9_needs
  refine r_aload_n 0 0 rfl rfl 1 rfl dX9_needs_0 ?_
  refine r_iconst 0 rfl 2 rfl dX9_needs_1 ?_
  refine r_put (h0 0 (Nat.le_of_ble_eq_true rfl)) rfl (Nat.le_of_ble_eq_true rfl) rfl rfl w_X9_needs_1 tyX9 tyX9_ok nmX9 (Nat.le_of_ble_eq_true rfl) rfl w_X9_needs_0 rfl rfl rfl rfl rfl 5 rfl dX9_needs_2 (fun d1 => ?_)
  refine r_aload_n 0 0 rfl rfl 6 rfl dX9_needs_5 ?_
  refine r_iload_n 1 1 rfl rfl 7 rfl dX9_needs_6 ?_
  refine r_callV_I (c_X9_isThere (E := E) (l := l) (S := S) d1 o0 h0 x1) ok_X9_isThere ⟨⟨(Nat.le_of_ble_eq_true rfl), (Nat.le_of_ble_eq_true rfl)⟩, (Nat.le_of_ble_eq_true rfl), (Nat.le_of_ble_eq_true rfl)⟩ (h0 0 (Nat.le_of_ble_eq_true rfl)) (Nat.le_of_ble_eq_true rfl) rfl rfl rfl (Nat.le_of_ble_eq_true rfl) gX9_needs_X9_isThere rfl rfl 10 rfl dX9_needs_7 (fun v2 => ?_)
  refine r_if_eq 20 13 rfl rfl dX9_needs_10 ?_ ?_
  · refine r_iconst (-1) rfl 21 rfl dX9_needs_20 ?_
    exact r_ireturn rfl rfl (Nat.le_of_ble_eq_true rfl) (Nat.le_of_ble_eq_true rfl) dX9_needs_21
  · refine r_aload_n 0 0 rfl rfl 14 rfl dX9_needs_13 ?_
    refine r_callV_I (c_X9_closedMany (E := E) (l := l) (S := S) d1 o0 h0) ok_X9_closedMany ⟨⟨(Nat.le_of_ble_eq_true rfl), (Nat.le_of_ble_eq_true rfl)⟩, (Nat.le_of_ble_eq_true rfl), (Nat.le_of_ble_eq_true rfl)⟩ (h0 0 (Nat.le_of_ble_eq_true rfl)) (Nat.le_of_ble_eq_true rfl) rfl rfl rfl (Nat.le_of_ble_eq_true rfl) gX9_needs_X9_closedMany rfl rfl 17 rfl dX9_needs_14 (fun v3 => ?_)
    refine r_if_ne 22 20 rfl rfl dX9_needs_17 ?_ ?_
    · refine r_iconst 0 rfl 23 rfl dX9_needs_22 ?_
      refine r_istore_n 2 rfl [(2, .int 0), (0, .ref (E.2.1 + o0)), (1, .int x1)] (Nat.le_of_ble_eq_true rfl) rfl 24 rfl dX9_needs_23 ?_
      refine r_iconst 0 rfl 25 rfl dX9_needs_24 ?_
      refine r_istore_n 3 rfl [(3, .int 0), (2, .int 0), (0, .ref (E.2.1 + o0)), (1, .int x1)] (Nat.le_of_ble_eq_true rfl) rfl 26 rfl dX9_needs_25 ?_
      refine r_sub [2, 3, 1, 0] rfl ?_
      refine g_X9_needs_L26 h0 (fun v11 => ?_) z_N 0 0
      refine r_iload_n 2 0 rfl rfl 131 rfl dX9_needs_130 ?_
      exact r_ireturn rfl rfl (Nat.le_of_ble_eq_true rfl) (Nat.le_of_ble_eq_true rfl) dX9_needs_131
    · refine r_iconst (-1) rfl 21 rfl dX9_needs_20 ?_
      exact r_ireturn rfl rfl (Nat.le_of_ble_eq_true rfl) (Nat.le_of_ble_eq_true rfl) dX9_needs_21
def Y_X9_without : z_Y := (RX9, cX9_without, 4, wsX9_without, (some .int), { frames := 4, cells := 0, slots := 0, locals := 96 }, 0, 0)
theorem ok_X9_without : z_Ok yX9_without Y_X9_without 1 := ⟨⟨_, rfl⟩, rfl, rfl, rfl, by decide +kernel, by decide +kernel⟩
theorem w_X9_without_0 : Cond.fieldLink RX9 39 "BunchTimesModel" "thrown" "I" ∈ wsX9_without := by decide +kernel
theorem w_X9_without_1 : ∀ w ∈ u_ws RX9 TX9 18, w ∈ wsX9_without := by decide +kernel
theorem w_X9_without_2 : Cond.fieldLink RX9 7 "BunchTimesModel" "row" "[I" ∈ wsX9_without := by decide +kernel
def f_X9_without_L19_b (d : z_D) (o0 : Nat) (x1 : Int32) (K : Int32 → Option (Int32 × z_D)) (R : Int32 → Int32 → Option (Int32 × z_D)) (x2 : Int32) (x3 : Int32) : Option (Int32 × z_D) := z_ald d (o0 + 1) 2656 1 (fun v3 => (if v3 ≤ x3 then (K x2) else ((f_X9_isThere d o0 x3).bind fun v4 => (if v4 = 0 then (R x2 (x3 + 1)) else (if x2 = (-1) then (R x3 (x3 + 1)) else ((f_X9_isAhead d o0 x3 x2 0 x1).bind fun v5 => (if v5 = 0 then (R x2 (x3 + 1)) else (R x3 (x3 + 1)))))))))
def f_X9_without_L19 (d : z_D) (o0 : Nat) (x1 : Int32) (K : Int32 → Option (Int32 × z_D)) : Nat → Int32 → Int32 → Option (Int32 × z_D)
  | 0 => fun _ _ => none
  | n + 1 => f_X9_without_L19_b d o0 x1 K (f_X9_without_L19 d o0 x1 K n)
set_option maxHeartbeats 4000000 in
set_option maxRecDepth 100000 in
theorem g_X9_without_L19 {E : z_E} {l : Launch} {S : z_S} {d : z_D} {o0 : Nat} {x1 : Int32} {K : Int32 → Option (Int32 × z_D)} (h0 : A_Model S o0) (hK : ∀ (y2 : Int32), z_G E l Y_X9_without (cvX S) (K y2) 61 [(2, .int y2)] [] (S, d) 0 0) : ∀ (n : Nat) (x2 : Int32) (x3 : Int32), z_G E l Y_X9_without (cvX S) (f_X9_without_L19 d o0 x1 K n x2 x3) 19 [(0, .ref (E.2.1 + o0)), (1, .int x1), (2, .int x2), (3, .int x3)] [] (S, d) 0 0 := by
  intro n
  induction n with
  | zero => intro _ _; exact r_none
  | succ n ih =>
    intro x2 x3
    show z_G E l Y_X9_without (cvX S) (f_X9_without_L19_b d o0 x1 K (f_X9_without_L19 d o0 x1 K n) x2 x3) 19 [(0, .ref (E.2.1 + o0)), (1, .int x1), (2, .int x2), (3, .int x3)] [] (S, d) 0 0
    unfold f_X9_without_L19_b
    refine r_iload_n 3 3 rfl rfl 20 rfl dX9_without_19 ?_
    refine r_aload_n 0 0 rfl rfl 21 rfl dX9_without_20 ?_
    refine r_get (h0 0 (Nat.le_of_ble_eq_true rfl)) rfl (Nat.le_of_ble_eq_true rfl) rfl rfl w_X9_without_1 1 (Nat.le_of_ble_eq_true rfl) rfl w_X9_without_2 (.ref (E.2.1 + (o0 + 1))) rfl 24 rfl dX9_without_21 ?_
    refine r_iconst 1 rfl 25 rfl dX9_without_24 ?_
    refine r_iald (h0 1 (Nat.le_of_ble_eq_true rfl)) rfl rfl 26 rfl dX9_without_25 (fun v3 => ?_)
    refine r_icmp_ge 61 29 rfl rfl dX9_without_26 ?_ ?_
    · refine r_sub [2] rfl ?_
      exact hK x2
    · refine r_aload_n 0 0 rfl rfl 30 rfl dX9_without_29 ?_
      refine r_iload_n 3 3 rfl rfl 31 rfl dX9_without_30 ?_
      refine r_callV_I (c_X9_isThere (E := E) (l := l) (S := S) d o0 h0 x3) ok_X9_isThere ⟨⟨(Nat.le_of_ble_eq_true rfl), (Nat.le_of_ble_eq_true rfl)⟩, (Nat.le_of_ble_eq_true rfl), (Nat.le_of_ble_eq_true rfl)⟩ (h0 0 (Nat.le_of_ble_eq_true rfl)) (Nat.le_of_ble_eq_true rfl) rfl rfl rfl (Nat.le_of_ble_eq_true rfl) gX9_without_X9_isThere rfl rfl 34 rfl dX9_without_31 (fun v4 => ?_)
      refine r_if_eq 55 37 rfl rfl dX9_without_34 ?_ ?_
      · refine r_iinc (x3 + 1) 3 rfl rfl [(3, .int (x3 + 1)), (0, .ref (E.2.1 + o0)), (1, .int x1), (2, .int x2)] (Nat.le_of_ble_eq_true rfl) rfl 58 rfl dX9_without_55 ?_
        refine r_goto 19 rfl dX9_without_58 ?_
        refine r_sub [1, 2, 3, 0] rfl ?_
        exact ih x2 (x3 + 1)
      · refine r_iload_n 2 2 rfl rfl 38 rfl dX9_without_37 ?_
        refine r_iconst (-1) rfl 39 rfl dX9_without_38 ?_
        refine r_icmp_eq 53 42 rfl rfl dX9_without_39 ?_ ?_
        · refine r_iload_n 3 3 rfl rfl 54 rfl dX9_without_53 ?_
          refine r_istore_n 2 rfl [(2, .int x3), (0, .ref (E.2.1 + o0)), (1, .int x1), (3, .int x3)] (Nat.le_of_ble_eq_true rfl) rfl 55 rfl dX9_without_54 ?_
          refine r_iinc (x3 + 1) 3 rfl rfl [(3, .int (x3 + 1)), (2, .int x3), (0, .ref (E.2.1 + o0)), (1, .int x1)] (Nat.le_of_ble_eq_true rfl) rfl 58 rfl dX9_without_55 ?_
          refine r_goto 19 rfl dX9_without_58 ?_
          refine r_sub [2, 3, 1, 0] rfl ?_
          exact ih x3 (x3 + 1)
        · refine r_aload_n 0 0 rfl rfl 43 rfl dX9_without_42 ?_
          refine r_iload_n 3 3 rfl rfl 44 rfl dX9_without_43 ?_
          refine r_iload_n 2 2 rfl rfl 45 rfl dX9_without_44 ?_
          refine r_iconst 0 rfl 46 rfl dX9_without_45 ?_
          refine r_iload_n 1 1 rfl rfl 47 rfl dX9_without_46 ?_
          refine r_callV_I (c_X9_isAhead (E := E) (l := l) (S := S) d o0 h0 x3 x2 0 x1) ok_X9_isAhead ⟨⟨(Nat.le_of_ble_eq_true rfl), (Nat.le_of_ble_eq_true rfl)⟩, (Nat.le_of_ble_eq_true rfl), (Nat.le_of_ble_eq_true rfl)⟩ (h0 0 (Nat.le_of_ble_eq_true rfl)) (Nat.le_of_ble_eq_true rfl) rfl rfl rfl (Nat.le_of_ble_eq_true rfl) gX9_without_X9_isAhead rfl rfl 50 rfl dX9_without_47 (fun v5 => ?_)
          refine r_if_eq 55 53 rfl rfl dX9_without_50 ?_ ?_
          · refine r_iinc (x3 + 1) 3 rfl rfl [(3, .int (x3 + 1)), (0, .ref (E.2.1 + o0)), (1, .int x1), (2, .int x2)] (Nat.le_of_ble_eq_true rfl) rfl 58 rfl dX9_without_55 ?_
            refine r_goto 19 rfl dX9_without_58 ?_
            refine r_sub [1, 2, 3, 0] rfl ?_
            exact ih x2 (x3 + 1)
          · refine r_iload_n 3 3 rfl rfl 54 rfl dX9_without_53 ?_
            refine r_istore_n 2 rfl [(2, .int x3), (0, .ref (E.2.1 + o0)), (1, .int x1), (3, .int x3)] (Nat.le_of_ble_eq_true rfl) rfl 55 rfl dX9_without_54 ?_
            refine r_iinc (x3 + 1) 3 rfl rfl [(3, .int (x3 + 1)), (2, .int x3), (0, .ref (E.2.1 + o0)), (1, .int x1)] (Nat.le_of_ble_eq_true rfl) rfl 58 rfl dX9_without_55 ?_
            refine r_goto 19 rfl dX9_without_58 ?_
            refine r_sub [2, 3, 1, 0] rfl ?_
            exact ih x3 (x3 + 1)
def f_X9_without (d : z_D) (o0 : Nat) (x1 : Int32) : Option (Int32 × z_D) := z_put d o0 0 0 (fun d1 => ((f_X9_isClosed d1 o0 x1).bind fun v2 => (if v2 = 0 then (some ((-1), d1)) else (f_X9_without_L19 d1 o0 x1 (fun v6 => (some (v6, d1))) z_N (-1) 0))))
set_option maxHeartbeats 4000000 in
set_option maxRecDepth 100000 in
theorem c_X9_without {E : z_E} {l : Launch} {S : z_S} (d : z_D) (o0 : Nat) (h0 : A_Model S o0) (x1 : Int32) : z_Sp E l yX9_without Y_X9_without (cvX S) [.ref (E.2.1 + o0), .int x1] (S, d) (f_X9_without d o0 x1) := by
  refine z_entry (lv := [(0, .ref (E.2.1 + o0)), (1, .int x1)]) (by decide) rfl rfl (Nat.le_of_ble_eq_true rfl) rfl ?_
  unfold f_X9_without
  refine r_aload_n 0 0 rfl rfl 1 rfl dX9_without_0 ?_
  refine r_iconst 0 rfl 2 rfl dX9_without_1 ?_
  refine r_put (h0 0 (Nat.le_of_ble_eq_true rfl)) rfl (Nat.le_of_ble_eq_true rfl) rfl rfl w_X9_without_1 tyX9 tyX9_ok nmX9 (Nat.le_of_ble_eq_true rfl) rfl w_X9_without_0 rfl rfl rfl rfl rfl 5 rfl dX9_without_2 (fun d1 => ?_)
  refine r_aload_n 0 0 rfl rfl 6 rfl dX9_without_5 ?_
  refine r_iload_n 1 1 rfl rfl 7 rfl dX9_without_6 ?_
  refine r_callV_I (c_X9_isClosed (E := E) (l := l) (S := S) d1 o0 h0 x1) ok_X9_isClosed ⟨⟨(Nat.le_of_ble_eq_true rfl), (Nat.le_of_ble_eq_true rfl)⟩, (Nat.le_of_ble_eq_true rfl), (Nat.le_of_ble_eq_true rfl)⟩ (h0 0 (Nat.le_of_ble_eq_true rfl)) (Nat.le_of_ble_eq_true rfl) rfl rfl rfl (Nat.le_of_ble_eq_true rfl) gX9_without_X9_isClosed rfl rfl 10 rfl dX9_without_7 (fun v2 => ?_)
  refine r_if_ne 15 13 rfl rfl dX9_without_10 ?_ ?_
  · refine r_iconst (-1) rfl 16 rfl dX9_without_15 ?_
    refine r_istore_n 2 rfl [(2, .int (-1)), (0, .ref (E.2.1 + o0)), (1, .int x1)] (Nat.le_of_ble_eq_true rfl) rfl 17 rfl dX9_without_16 ?_
    refine r_iconst 0 rfl 18 rfl dX9_without_17 ?_
    refine r_istore_n 3 rfl [(3, .int 0), (2, .int (-1)), (0, .ref (E.2.1 + o0)), (1, .int x1)] (Nat.le_of_ble_eq_true rfl) rfl 19 rfl dX9_without_18 ?_
    refine r_sub [2, 3, 1, 0] rfl ?_
    refine g_X9_without_L19 h0 (fun v6 => ?_) z_N (-1) 0
    refine r_iload_n 2 0 rfl rfl 62 rfl dX9_without_61 ?_
    exact r_ireturn rfl rfl (Nat.le_of_ble_eq_true rfl) (Nat.le_of_ble_eq_true rfl) dX9_without_62
  · refine r_iconst (-1) rfl 14 rfl dX9_without_13 ?_
    exact r_ireturn rfl rfl (Nat.le_of_ble_eq_true rfl) (Nat.le_of_ble_eq_true rfl) dX9_without_14
def Y_X9_metres : z_Y := (RX9, cX9_metres, 1, wsX9_metres, (some .long), { frames := 0, cells := 0, slots := 0, locals := 0 }, 0, 0)
theorem ok_X9_metres : z_Ok yX9_metres Y_X9_metres 1 := ⟨⟨_, rfl⟩, rfl, rfl, rfl, by decide +kernel, by decide +kernel⟩
theorem w_X9_metres_0 : Cond.constantLong RX9 233 40000 ∈ wsX9_metres := by decide +kernel
theorem w_X9_metres_1 : Cond.constantLong RX9 235 6000 ∈ wsX9_metres := by decide +kernel
def f_X9_metres (x0 : Int32) : Option Int64 := z_ldiv (6000 * ((x0 - 1).toInt64)) (x0.toInt64) (fun v1 => (some (40000 + v1)))
set_option maxHeartbeats 4000000 in
set_option maxRecDepth 100000 in
theorem c_X9_metres {E : z_E} {l : Launch} {S : z_S} (d : z_D) (x0 : Int32) : z_Sp E l yX9_metres Y_X9_metres (cvJ S d) [.int x0] (S, d) (f_X9_metres x0) := by
  refine z_entry (lv := [(0, .int x0)]) (by decide) rfl rfl (Nat.le_of_ble_eq_true rfl) rfl ?_
  unfold f_X9_metres
  refine r_ldc2 (v := 40000) w_X9_metres_0 3 rfl dX9_metres_0 ?_
  refine r_ldc2 (v := 6000) w_X9_metres_1 6 rfl dX9_metres_3 ?_
  refine r_iload_n 0 0 rfl rfl 7 rfl dX9_metres_6 ?_
  refine r_iconst 1 rfl 8 rfl dX9_metres_7 ?_
  refine r_isub 9 rfl dX9_metres_8 ?_
  refine r_i2l 10 rfl dX9_metres_9 ?_
  refine r_lmul 11 rfl dX9_metres_10 ?_
  refine r_iload_n 0 0 rfl rfl 12 rfl dX9_metres_11 ?_
  refine r_i2l 13 rfl dX9_metres_12 ?_
  refine r_ldiv 14 rfl dX9_metres_13 (fun v1 => ?_)
  refine r_ladd 15 rfl dX9_metres_14 ?_
  exact r_lreturn rfl rfl (Nat.le_of_ble_eq_true rfl) (Nat.le_of_ble_eq_true rfl) dX9_metres_15
def Y_X9_caughtAt : z_Y := (RX9, cX9_caughtAt, 12, wsX9_caughtAt, (some .int), { frames := 1, cells := 0, slots := 0, locals := 20 }, 0, 0)
theorem ok_X9_caughtAt : z_Ok yX9_caughtAt Y_X9_caughtAt 4 := ⟨⟨_, rfl⟩, rfl, rfl, rfl, by decide +kernel, by decide +kernel⟩
theorem w_X9_caughtAt_0 : Cond.constantLong RX9 241 3600 ∈ wsX9_caughtAt := by decide +kernel
theorem w_X9_caughtAt_1 : Cond.constantLong RX9 243 1000 ∈ wsX9_caughtAt := by decide +kernel
def f_X9_caughtAt (x0 : Int32) (x1 : Int32) (x2 : Int32) (x3 : Int32) : Option Int32 := ((f_X9_metres x0).bind fun v1 => ((f_X9_metres x3).bind fun v2 => (if 0 < (lg_cmp v2 v1) then z_nam (3600 * (v2 - v1)) (fun v3 => z_nam (((1000 * (x2.toInt64)) * v3) - ((v1 * v2) * (x1.toInt64))) (fun v4 => (if 0 ≤ (lg_cmp v4 0) then z_ldiv v4 v3 (fun v5 => (some (v5.toInt32))) else (some (-1))))) else (some (-1)))))
set_option maxHeartbeats 4000000 in
set_option maxRecDepth 100000 in
theorem c_X9_caughtAt {E : z_E} {l : Launch} {S : z_S} (d : z_D) (x0 : Int32) (x1 : Int32) (x2 : Int32) (x3 : Int32) : z_Sp E l yX9_caughtAt Y_X9_caughtAt (cvI S d) [.int x0, .int x1, .int x2, .int x3] (S, d) (f_X9_caughtAt x0 x1 x2 x3) := by
  refine z_entry (lv := [(0, .int x0), (1, .int x1), (2, .int x2), (3, .int x3)]) (by decide) rfl rfl (Nat.le_of_ble_eq_true rfl) rfl ?_
  unfold f_X9_caughtAt
  refine r_iload_n 0 0 rfl rfl 1 rfl dX9_caughtAt_0 ?_
  refine r_callS_J (c_X9_metres (E := E) (l := l) (S := S) d x0) ok_X9_metres ⟨⟨(Nat.le_of_ble_eq_true rfl), (Nat.le_of_ble_eq_true rfl)⟩, (Nat.le_of_ble_eq_true rfl), (Nat.le_of_ble_eq_true rfl)⟩ rfl (Nat.le_of_ble_eq_true rfl) gX9_caughtAt_X9_metres rfl rfl 4 rfl dX9_caughtAt_1 (fun v1 => ?_)
  refine r_lstore 4 [(4, .long v1), (0, .int x0), (1, .int x1), (2, .int x2), (3, .int x3)] (Nat.le_of_ble_eq_true rfl) rfl 6 rfl dX9_caughtAt_4 ?_
  refine r_iload_n 3 4 rfl rfl 7 rfl dX9_caughtAt_6 ?_
  refine r_callS_J (c_X9_metres (E := E) (l := l) (S := S) d x3) ok_X9_metres ⟨⟨(Nat.le_of_ble_eq_true rfl), (Nat.le_of_ble_eq_true rfl)⟩, (Nat.le_of_ble_eq_true rfl), (Nat.le_of_ble_eq_true rfl)⟩ rfl (Nat.le_of_ble_eq_true rfl) gX9_caughtAt_X9_metres rfl rfl 10 rfl dX9_caughtAt_7 (fun v2 => ?_)
  refine r_lstore 6 [(6, .long v2), (4, .long v1), (0, .int x0), (1, .int x1), (2, .int x2), (3, .int x3)] (Nat.le_of_ble_eq_true rfl) rfl 12 rfl dX9_caughtAt_10 ?_
  refine r_lload 6 0 rfl 14 rfl dX9_caughtAt_12 ?_
  refine r_lload 4 1 rfl 16 rfl dX9_caughtAt_14 ?_
  refine r_lcmp 17 rfl dX9_caughtAt_16 ?_
  refine r_if_gt 22 20 rfl rfl dX9_caughtAt_17 ?_ ?_
  · refine r_ldc2 (v := 3600) w_X9_caughtAt_0 25 rfl dX9_caughtAt_22 ?_
    refine r_lload 6 0 rfl 27 rfl dX9_caughtAt_25 ?_
    refine r_lload 4 1 rfl 29 rfl dX9_caughtAt_27 ?_
    refine r_lsub 30 rfl dX9_caughtAt_29 ?_
    refine r_lmul 31 rfl dX9_caughtAt_30 ?_
    refine r_naml (fun v3 => ?_)
    refine r_lstore 8 [(8, .long v3), (6, .long v2), (4, .long v1), (0, .int x0), (1, .int x1), (2, .int x2), (3, .int x3)] (Nat.le_of_ble_eq_true rfl) rfl 33 rfl dX9_caughtAt_31 ?_
    refine r_ldc2 (v := 1000) w_X9_caughtAt_1 36 rfl dX9_caughtAt_33 ?_
    refine r_iload_n 2 5 rfl rfl 37 rfl dX9_caughtAt_36 ?_
    refine r_i2l 38 rfl dX9_caughtAt_37 ?_
    refine r_lmul 39 rfl dX9_caughtAt_38 ?_
    refine r_lload 8 0 rfl 41 rfl dX9_caughtAt_39 ?_
    refine r_lmul 42 rfl dX9_caughtAt_41 ?_
    refine r_lload 4 2 rfl 44 rfl dX9_caughtAt_42 ?_
    refine r_lload 6 1 rfl 46 rfl dX9_caughtAt_44 ?_
    refine r_lmul 47 rfl dX9_caughtAt_46 ?_
    refine r_iload_n 1 4 rfl rfl 48 rfl dX9_caughtAt_47 ?_
    refine r_i2l 49 rfl dX9_caughtAt_48 ?_
    refine r_lmul 50 rfl dX9_caughtAt_49 ?_
    refine r_lsub 51 rfl dX9_caughtAt_50 ?_
    refine r_naml (fun v4 => ?_)
    refine r_lstore 10 [(10, .long v4), (8, .long v3), (6, .long v2), (4, .long v1), (0, .int x0), (1, .int x1), (2, .int x2), (3, .int x3)] (Nat.le_of_ble_eq_true rfl) rfl 53 rfl dX9_caughtAt_51 ?_
    refine r_lload 10 0 rfl 55 rfl dX9_caughtAt_53 ?_
    refine r_lconst 0 rfl 56 rfl dX9_caughtAt_55 ?_
    refine r_lcmp 57 rfl dX9_caughtAt_56 ?_
    refine r_if_ge 64 60 rfl rfl dX9_caughtAt_57 ?_ ?_
    · refine r_lload 10 0 rfl 66 rfl dX9_caughtAt_64 ?_
      refine r_lload 8 1 rfl 68 rfl dX9_caughtAt_66 ?_
      refine r_ldiv 69 rfl dX9_caughtAt_68 (fun v5 => ?_)
      refine r_l2i 70 rfl dX9_caughtAt_69 ?_
      exact r_ireturn rfl rfl (Nat.le_of_ble_eq_true rfl) (Nat.le_of_ble_eq_true rfl) dX9_caughtAt_70
    · refine r_iconst (-1) rfl 61 rfl dX9_caughtAt_60 ?_
      refine r_goto 70 rfl dX9_caughtAt_61 ?_
      exact r_ireturn rfl rfl (Nat.le_of_ble_eq_true rfl) (Nat.le_of_ble_eq_true rfl) dX9_caughtAt_70
  · refine r_iconst (-1) rfl 21 rfl dX9_caughtAt_20 ?_
    exact r_ireturn rfl rfl (Nat.le_of_ble_eq_true rfl) (Nat.le_of_ble_eq_true rfl) dX9_caughtAt_21
def Y_X9_areRiders : z_Y := (RX9, cX9_areRiders, 1, wsX9_areRiders, (some .boolean), { frames := 1, cells := 0, slots := 0, locals := 22 }, 0, 0)
theorem ok_X9_areRiders : z_Ok yX9_areRiders Y_X9_areRiders 1 := ⟨⟨_, rfl⟩, rfl, rfl, rfl, by decide +kernel, by decide +kernel⟩
def f_X9_areRiders (x0 : Int32) : Option Int32 := ((f_X9_isIn x0 1 16).bind fun v1 => (z_bool v1 (some v1)))
set_option maxHeartbeats 4000000 in
set_option maxRecDepth 100000 in
theorem c_X9_areRiders {E : z_E} {l : Launch} {S : z_S} (d : z_D) (x0 : Int32) : z_Sp E l yX9_areRiders Y_X9_areRiders (cvI S d) [.int x0] (S, d) (f_X9_areRiders x0) := by
  refine z_entry (lv := [(0, .int x0)]) (by decide) rfl rfl (Nat.le_of_ble_eq_true rfl) rfl ?_
  unfold f_X9_areRiders
  refine r_iload_n 0 0 rfl rfl 1 rfl dX9_areRiders_0 ?_
  refine r_iconst 1 rfl 2 rfl dX9_areRiders_1 ?_
  refine r_bipush 16 rfl 4 rfl dX9_areRiders_2 ?_
  refine r_callS_I (c_X9_isIn (E := E) (l := l) (S := S) d x0 1 16) ok_X9_isIn ⟨⟨(Nat.le_of_ble_eq_true rfl), (Nat.le_of_ble_eq_true rfl)⟩, (Nat.le_of_ble_eq_true rfl), (Nat.le_of_ble_eq_true rfl)⟩ rfl (Nat.le_of_ble_eq_true rfl) gX9_areRiders_X9_isIn rfl rfl 7 rfl dX9_areRiders_4 (fun v1 => ?_)
  exact r_zreturn rfl rfl (Nat.le_of_ble_eq_true rfl) (Nat.le_of_ble_eq_true rfl) dX9_areRiders_7
def Y_X9_caught : z_Y := (RX9, cX9_caught, 5, wsX9_caught, (some .int), { frames := 2, cells := 0, slots := 0, locals := 51 }, 0, 0)
theorem ok_X9_caught : z_Ok yX9_caught Y_X9_caught 4 := ⟨⟨_, rfl⟩, rfl, rfl, rfl, by decide +kernel, by decide +kernel⟩
theorem w_X9_caught_0 : Cond.fieldLink RX9 39 "BunchTimesModel" "thrown" "I" ∈ wsX9_caught := by decide +kernel
theorem w_X9_caught_1 : ∀ w ∈ u_ws RX9 TX9 18, w ∈ wsX9_caught := by decide +kernel
def f_X9_caught (d : z_D) (o0 : Nat) (x1 : Int32) (x2 : Int32) (x3 : Int32) (x4 : Int32) : Option (Int32 × z_D) := z_put d o0 0 0 (fun d1 => ((f_X9_areRiders x1).bind fun v2 => (if v2 = 0 then (some ((-1), d1)) else ((f_X9_areRiders x4).bind fun v3 => (if v3 = 0 then (some ((-1), d1)) else ((f_X9_isIn x2 0 3600).bind fun v4 => (if v4 = 0 then (some ((-1), d1)) else ((f_X9_isIn x3 1 300).bind fun v5 => (if v5 = 0 then (some ((-1), d1)) else ((f_X9_caughtAt x1 x2 x3 x4).bind fun v6 => (some (v6, d1))))))))))))
set_option maxHeartbeats 4000000 in
set_option maxRecDepth 100000 in
theorem c_X9_caught {E : z_E} {l : Launch} {S : z_S} (d : z_D) (o0 : Nat) (h0 : A_Model S o0) (x1 : Int32) (x2 : Int32) (x3 : Int32) (x4 : Int32) : z_Sp E l yX9_caught Y_X9_caught (cvX S) [.ref (E.2.1 + o0), .int x1, .int x2, .int x3, .int x4] (S, d) (f_X9_caught d o0 x1 x2 x3 x4) := by
  refine z_entry (lv := [(0, .ref (E.2.1 + o0)), (1, .int x1), (2, .int x2), (3, .int x3), (4, .int x4)]) (by decide) rfl rfl (Nat.le_of_ble_eq_true rfl) rfl ?_
  unfold f_X9_caught
  refine r_aload_n 0 0 rfl rfl 1 rfl dX9_caught_0 ?_
  refine r_iconst 0 rfl 2 rfl dX9_caught_1 ?_
  refine r_put (h0 0 (Nat.le_of_ble_eq_true rfl)) rfl (Nat.le_of_ble_eq_true rfl) rfl rfl w_X9_caught_1 tyX9 tyX9_ok nmX9 (Nat.le_of_ble_eq_true rfl) rfl w_X9_caught_0 rfl rfl rfl rfl rfl 5 rfl dX9_caught_2 (fun d1 => ?_)
  refine r_iload_n 1 1 rfl rfl 6 rfl dX9_caught_5 ?_
  refine r_callS_I (c_X9_areRiders (E := E) (l := l) (S := S) d1 x1) ok_X9_areRiders ⟨⟨(Nat.le_of_ble_eq_true rfl), (Nat.le_of_ble_eq_true rfl)⟩, (Nat.le_of_ble_eq_true rfl), (Nat.le_of_ble_eq_true rfl)⟩ rfl (Nat.le_of_ble_eq_true rfl) gX9_caught_X9_areRiders rfl rfl 9 rfl dX9_caught_6 (fun v2 => ?_)
  refine r_if_eq 53 12 rfl rfl dX9_caught_9 ?_ ?_
  · refine r_iconst (-1) rfl 54 rfl dX9_caught_53 ?_
    exact r_ireturn rfl rfl (Nat.le_of_ble_eq_true rfl) (Nat.le_of_ble_eq_true rfl) dX9_caught_54
  · refine r_iload 4 4 rfl 14 rfl dX9_caught_12 ?_
    refine r_callS_I (c_X9_areRiders (E := E) (l := l) (S := S) d1 x4) ok_X9_areRiders ⟨⟨(Nat.le_of_ble_eq_true rfl), (Nat.le_of_ble_eq_true rfl)⟩, (Nat.le_of_ble_eq_true rfl), (Nat.le_of_ble_eq_true rfl)⟩ rfl (Nat.le_of_ble_eq_true rfl) gX9_caught_X9_areRiders rfl rfl 17 rfl dX9_caught_14 (fun v3 => ?_)
    refine r_if_eq 53 20 rfl rfl dX9_caught_17 ?_ ?_
    · refine r_iconst (-1) rfl 54 rfl dX9_caught_53 ?_
      exact r_ireturn rfl rfl (Nat.le_of_ble_eq_true rfl) (Nat.le_of_ble_eq_true rfl) dX9_caught_54
    · refine r_iload_n 2 2 rfl rfl 21 rfl dX9_caught_20 ?_
      refine r_iconst 0 rfl 22 rfl dX9_caught_21 ?_
      refine r_sipush 3600 rfl 25 rfl dX9_caught_22 ?_
      refine r_callS_I (c_X9_isIn (E := E) (l := l) (S := S) d1 x2 0 3600) ok_X9_isIn ⟨⟨(Nat.le_of_ble_eq_true rfl), (Nat.le_of_ble_eq_true rfl)⟩, (Nat.le_of_ble_eq_true rfl), (Nat.le_of_ble_eq_true rfl)⟩ rfl (Nat.le_of_ble_eq_true rfl) gX9_caught_X9_isIn rfl rfl 28 rfl dX9_caught_25 (fun v4 => ?_)
      refine r_if_eq 53 31 rfl rfl dX9_caught_28 ?_ ?_
      · refine r_iconst (-1) rfl 54 rfl dX9_caught_53 ?_
        exact r_ireturn rfl rfl (Nat.le_of_ble_eq_true rfl) (Nat.le_of_ble_eq_true rfl) dX9_caught_54
      · refine r_iload_n 3 3 rfl rfl 32 rfl dX9_caught_31 ?_
        refine r_iconst 1 rfl 33 rfl dX9_caught_32 ?_
        refine r_sipush 300 rfl 36 rfl dX9_caught_33 ?_
        refine r_callS_I (c_X9_isIn (E := E) (l := l) (S := S) d1 x3 1 300) ok_X9_isIn ⟨⟨(Nat.le_of_ble_eq_true rfl), (Nat.le_of_ble_eq_true rfl)⟩, (Nat.le_of_ble_eq_true rfl), (Nat.le_of_ble_eq_true rfl)⟩ rfl (Nat.le_of_ble_eq_true rfl) gX9_caught_X9_isIn rfl rfl 39 rfl dX9_caught_36 (fun v5 => ?_)
        refine r_if_eq 53 42 rfl rfl dX9_caught_39 ?_ ?_
        · refine r_iconst (-1) rfl 54 rfl dX9_caught_53 ?_
          exact r_ireturn rfl rfl (Nat.le_of_ble_eq_true rfl) (Nat.le_of_ble_eq_true rfl) dX9_caught_54
        · refine r_iload_n 1 1 rfl rfl 43 rfl dX9_caught_42 ?_
          refine r_iload_n 2 2 rfl rfl 44 rfl dX9_caught_43 ?_
          refine r_iload_n 3 3 rfl rfl 45 rfl dX9_caught_44 ?_
          refine r_iload 4 4 rfl 47 rfl dX9_caught_45 ?_
          refine r_callS_I (c_X9_caughtAt (E := E) (l := l) (S := S) d1 x1 x2 x3 x4) ok_X9_caughtAt ⟨⟨(Nat.le_of_ble_eq_true rfl), (Nat.le_of_ble_eq_true rfl)⟩, (Nat.le_of_ble_eq_true rfl), (Nat.le_of_ble_eq_true rfl)⟩ rfl (Nat.le_of_ble_eq_true rfl) gX9_caught_X9_caughtAt rfl rfl 50 rfl dX9_caught_47 (fun v6 => ?_)
          refine r_goto 54 rfl dX9_caught_50 ?_
          exact r_ireturn rfl rfl (Nat.le_of_ble_eq_true rfl) (Nat.le_of_ble_eq_true rfl) dX9_caught_54
def Y_X9_holds : z_Y := (RX9, cX9_holds, 5, wsX9_holds, (some .int), { frames := 2, cells := 0, slots := 0, locals := 51 }, 0, 0)
theorem ok_X9_holds : z_Ok yX9_holds Y_X9_holds 3 := ⟨⟨_, rfl⟩, rfl, rfl, rfl, by decide +kernel, by decide +kernel⟩
theorem w_X9_holds_0 : Cond.fieldLink RX9 39 "BunchTimesModel" "thrown" "I" ∈ wsX9_holds := by decide +kernel
theorem w_X9_holds_1 : ∀ w ∈ u_ws RX9 TX9 18, w ∈ wsX9_holds := by decide +kernel
def f_X9_holds_L35_b (d : z_D) (x1 : Int32) (x2 : Int32) (x3 : Int32) (K : Unit → Option (Int32 × z_D)) (R : Int32 → Option (Int32 × z_D)) (x4 : Int32) : Option (Int32 × z_D) := (if 3600 < x4 then (K ()) else ((f_X9_caughtAt x1 x4 x2 x3).bind fun v5 => (if v5 = (-1) then (some (x4, d)) else (R (x4 + 1)))))
def f_X9_holds_L35 (d : z_D) (x1 : Int32) (x2 : Int32) (x3 : Int32) (K : Unit → Option (Int32 × z_D)) : Nat → Int32 → Option (Int32 × z_D)
  | 0 => fun _ => none
  | n + 1 => f_X9_holds_L35_b d x1 x2 x3 K (f_X9_holds_L35 d x1 x2 x3 K n)
set_option maxHeartbeats 4000000 in
set_option maxRecDepth 100000 in
theorem g_X9_holds_L35 {E : z_E} {l : Launch} {S : z_S} {d : z_D} {x1 : Int32} {x2 : Int32} {x3 : Int32} {K : Unit → Option (Int32 × z_D)}  (hK : ∀ y9 : Unit, z_G E l Y_X9_holds (cvX S) (K y9) 64 [] [] (S, d) 0 0) : ∀ (n : Nat) (x4 : Int32), z_G E l Y_X9_holds (cvX S) (f_X9_holds_L35 d x1 x2 x3 K n x4) 35 [(1, .int x1), (2, .int x2), (3, .int x3), (4, .int x4)] [] (S, d) 0 0 := by
  intro n
  induction n with
  | zero => intro _; exact r_none
  | succ n ih =>
    intro x4
    show z_G E l Y_X9_holds (cvX S) (f_X9_holds_L35_b d x1 x2 x3 K (f_X9_holds_L35 d x1 x2 x3 K n) x4) 35 [(1, .int x1), (2, .int x2), (3, .int x3), (4, .int x4)] [] (S, d) 0 0
    unfold f_X9_holds_L35_b
    refine r_iload 4 3 rfl 37 rfl dX9_holds_35 ?_
    refine r_sipush 3600 rfl 40 rfl dX9_holds_37 ?_
    refine r_icmp_gt 64 43 rfl rfl dX9_holds_40 ?_ ?_
    · refine r_sub [] rfl ?_
      exact hK ()
    · refine r_iload_n 1 0 rfl rfl 44 rfl dX9_holds_43 ?_
      refine r_iload 4 3 rfl 46 rfl dX9_holds_44 ?_
      refine r_iload_n 2 1 rfl rfl 47 rfl dX9_holds_46 ?_
      refine r_iload_n 3 2 rfl rfl 48 rfl dX9_holds_47 ?_
      refine r_callS_I (c_X9_caughtAt (E := E) (l := l) (S := S) d x1 x4 x2 x3) ok_X9_caughtAt ⟨⟨(Nat.le_of_ble_eq_true rfl), (Nat.le_of_ble_eq_true rfl)⟩, (Nat.le_of_ble_eq_true rfl), (Nat.le_of_ble_eq_true rfl)⟩ rfl (Nat.le_of_ble_eq_true rfl) gX9_holds_X9_caughtAt rfl rfl 51 rfl dX9_holds_48 (fun v5 => ?_)
      refine r_iconst (-1) rfl 52 rfl dX9_holds_51 ?_
      refine r_icmp_ne 58 55 rfl rfl dX9_holds_52 ?_ ?_
      · refine r_iinc (x4 + 1) 3 rfl rfl [(4, .int (x4 + 1)), (1, .int x1), (2, .int x2), (3, .int x3)] (Nat.le_of_ble_eq_true rfl) rfl 61 rfl dX9_holds_58 ?_
        refine r_goto 35 rfl dX9_holds_61 ?_
        refine r_sub [1, 2, 3, 0] rfl ?_
        exact ih (x4 + 1)
      · refine r_iload 4 3 rfl 57 rfl dX9_holds_55 ?_
        exact r_ireturn rfl rfl (Nat.le_of_ble_eq_true rfl) (Nat.le_of_ble_eq_true rfl) dX9_holds_57
def f_X9_holds (d : z_D) (o0 : Nat) (x1 : Int32) (x2 : Int32) (x3 : Int32) : Option (Int32 × z_D) := z_put d o0 0 0 (fun d1 => ((f_X9_areRiders x1).bind fun v2 => (if v2 = 0 then (some ((-1), d1)) else ((f_X9_areRiders x3).bind fun v3 => (if v3 = 0 then (some ((-1), d1)) else ((f_X9_isIn x2 1 300).bind fun v4 => (if v4 = 0 then (some ((-1), d1)) else (f_X9_holds_L35 d1 x1 x2 x3 (fun _ => (some ((-1), d1))) z_N 0))))))))
set_option maxHeartbeats 4000000 in
set_option maxRecDepth 100000 in
theorem c_X9_holds {E : z_E} {l : Launch} {S : z_S} (d : z_D) (o0 : Nat) (h0 : A_Model S o0) (x1 : Int32) (x2 : Int32) (x3 : Int32) : z_Sp E l yX9_holds Y_X9_holds (cvX S) [.ref (E.2.1 + o0), .int x1, .int x2, .int x3] (S, d) (f_X9_holds d o0 x1 x2 x3) := by
  refine z_entry (lv := [(0, .ref (E.2.1 + o0)), (1, .int x1), (2, .int x2), (3, .int x3)]) (by decide) rfl rfl (Nat.le_of_ble_eq_true rfl) rfl ?_
  unfold f_X9_holds
  refine r_aload_n 0 0 rfl rfl 1 rfl dX9_holds_0 ?_
  refine r_iconst 0 rfl 2 rfl dX9_holds_1 ?_
  refine r_put (h0 0 (Nat.le_of_ble_eq_true rfl)) rfl (Nat.le_of_ble_eq_true rfl) rfl rfl w_X9_holds_1 tyX9 tyX9_ok nmX9 (Nat.le_of_ble_eq_true rfl) rfl w_X9_holds_0 rfl rfl rfl rfl rfl 5 rfl dX9_holds_2 (fun d1 => ?_)
  refine r_iload_n 1 1 rfl rfl 6 rfl dX9_holds_5 ?_
  refine r_callS_I (c_X9_areRiders (E := E) (l := l) (S := S) d1 x1) ok_X9_areRiders ⟨⟨(Nat.le_of_ble_eq_true rfl), (Nat.le_of_ble_eq_true rfl)⟩, (Nat.le_of_ble_eq_true rfl), (Nat.le_of_ble_eq_true rfl)⟩ rfl (Nat.le_of_ble_eq_true rfl) gX9_holds_X9_areRiders rfl rfl 9 rfl dX9_holds_6 (fun v2 => ?_)
  refine r_if_eq 30 12 rfl rfl dX9_holds_9 ?_ ?_
  · refine r_iconst (-1) rfl 31 rfl dX9_holds_30 ?_
    exact r_ireturn rfl rfl (Nat.le_of_ble_eq_true rfl) (Nat.le_of_ble_eq_true rfl) dX9_holds_31
  · refine r_iload_n 3 3 rfl rfl 13 rfl dX9_holds_12 ?_
    refine r_callS_I (c_X9_areRiders (E := E) (l := l) (S := S) d1 x3) ok_X9_areRiders ⟨⟨(Nat.le_of_ble_eq_true rfl), (Nat.le_of_ble_eq_true rfl)⟩, (Nat.le_of_ble_eq_true rfl), (Nat.le_of_ble_eq_true rfl)⟩ rfl (Nat.le_of_ble_eq_true rfl) gX9_holds_X9_areRiders rfl rfl 16 rfl dX9_holds_13 (fun v3 => ?_)
    refine r_if_eq 30 19 rfl rfl dX9_holds_16 ?_ ?_
    · refine r_iconst (-1) rfl 31 rfl dX9_holds_30 ?_
      exact r_ireturn rfl rfl (Nat.le_of_ble_eq_true rfl) (Nat.le_of_ble_eq_true rfl) dX9_holds_31
    · refine r_iload_n 2 2 rfl rfl 20 rfl dX9_holds_19 ?_
      refine r_iconst 1 rfl 21 rfl dX9_holds_20 ?_
      refine r_sipush 300 rfl 24 rfl dX9_holds_21 ?_
      refine r_callS_I (c_X9_isIn (E := E) (l := l) (S := S) d1 x2 1 300) ok_X9_isIn ⟨⟨(Nat.le_of_ble_eq_true rfl), (Nat.le_of_ble_eq_true rfl)⟩, (Nat.le_of_ble_eq_true rfl), (Nat.le_of_ble_eq_true rfl)⟩ rfl (Nat.le_of_ble_eq_true rfl) gX9_holds_X9_isIn rfl rfl 27 rfl dX9_holds_24 (fun v4 => ?_)
      refine r_if_ne 32 30 rfl rfl dX9_holds_27 ?_ ?_
      · refine r_iconst 0 rfl 33 rfl dX9_holds_32 ?_
        refine r_istore 4 [(4, .int 0), (0, .ref (E.2.1 + o0)), (1, .int x1), (2, .int x2), (3, .int x3)] (Nat.le_of_ble_eq_true rfl) rfl 35 rfl dX9_holds_33 ?_
        refine r_sub [2, 3, 4, 0] rfl ?_
        refine g_X9_holds_L35  (fun _ => ?_) z_N 0
        refine r_iconst (-1) rfl 65 rfl dX9_holds_64 ?_
        exact r_ireturn rfl rfl (Nat.le_of_ble_eq_true rfl) (Nat.le_of_ble_eq_true rfl) dX9_holds_65
      · refine r_iconst (-1) rfl 31 rfl dX9_holds_30 ?_
        exact r_ireturn rfl rfl (Nat.le_of_ble_eq_true rfl) (Nat.le_of_ble_eq_true rfl) dX9_holds_31
def Y_X9_chase : z_Y := (RX9, cX9_chase, 5, wsX9_chase, (some .int), { frames := 2, cells := 0, slots := 0, locals := 51 }, 0, 0)
theorem ok_X9_chase : z_Ok yX9_chase Y_X9_chase 3 := ⟨⟨_, rfl⟩, rfl, rfl, rfl, by decide +kernel, by decide +kernel⟩
theorem w_X9_chase_0 : Cond.fieldLink RX9 39 "BunchTimesModel" "thrown" "I" ∈ wsX9_chase := by decide +kernel
theorem w_X9_chase_1 : ∀ w ∈ u_ws RX9 TX9 18, w ∈ wsX9_chase := by decide +kernel
def f_X9_chase_L39_b (d : z_D) (x1 : Int32) (x2 : Int32) (x3 : Int32) (K : Unit → Option (Int32 × z_D)) (R : Int32 → Option (Int32 × z_D)) (x4 : Int32) : Option (Int32 × z_D) := (if 16 < x4 then (K ()) else ((f_X9_caughtAt x1 x2 x3 x4).bind fun v5 => (if v5 = (-1) then (R (x4 + 1)) else (some (x4, d)))))
def f_X9_chase_L39 (d : z_D) (x1 : Int32) (x2 : Int32) (x3 : Int32) (K : Unit → Option (Int32 × z_D)) : Nat → Int32 → Option (Int32 × z_D)
  | 0 => fun _ => none
  | n + 1 => f_X9_chase_L39_b d x1 x2 x3 K (f_X9_chase_L39 d x1 x2 x3 K n)
set_option maxHeartbeats 4000000 in
set_option maxRecDepth 100000 in
theorem g_X9_chase_L39 {E : z_E} {l : Launch} {S : z_S} {d : z_D} {x1 : Int32} {x2 : Int32} {x3 : Int32} {K : Unit → Option (Int32 × z_D)}  (hK : ∀ y9 : Unit, z_G E l Y_X9_chase (cvX S) (K y9) 67 [] [] (S, d) 0 0) : ∀ (n : Nat) (x4 : Int32), z_G E l Y_X9_chase (cvX S) (f_X9_chase_L39 d x1 x2 x3 K n x4) 39 [(1, .int x1), (2, .int x2), (3, .int x3), (4, .int x4)] [] (S, d) 0 0 := by
  intro n
  induction n with
  | zero => intro _; exact r_none
  | succ n ih =>
    intro x4
    show z_G E l Y_X9_chase (cvX S) (f_X9_chase_L39_b d x1 x2 x3 K (f_X9_chase_L39 d x1 x2 x3 K n) x4) 39 [(1, .int x1), (2, .int x2), (3, .int x3), (4, .int x4)] [] (S, d) 0 0
    unfold f_X9_chase_L39_b
    refine r_iload 4 3 rfl 41 rfl dX9_chase_39 ?_
    refine r_bipush 16 rfl 43 rfl dX9_chase_41 ?_
    refine r_icmp_gt 67 46 rfl rfl dX9_chase_43 ?_ ?_
    · refine r_sub [] rfl ?_
      exact hK ()
    · refine r_iload_n 1 0 rfl rfl 47 rfl dX9_chase_46 ?_
      refine r_iload_n 2 1 rfl rfl 48 rfl dX9_chase_47 ?_
      refine r_iload_n 3 2 rfl rfl 49 rfl dX9_chase_48 ?_
      refine r_iload 4 3 rfl 51 rfl dX9_chase_49 ?_
      refine r_callS_I (c_X9_caughtAt (E := E) (l := l) (S := S) d x1 x2 x3 x4) ok_X9_caughtAt ⟨⟨(Nat.le_of_ble_eq_true rfl), (Nat.le_of_ble_eq_true rfl)⟩, (Nat.le_of_ble_eq_true rfl), (Nat.le_of_ble_eq_true rfl)⟩ rfl (Nat.le_of_ble_eq_true rfl) gX9_chase_X9_caughtAt rfl rfl 54 rfl dX9_chase_51 (fun v5 => ?_)
      refine r_iconst (-1) rfl 55 rfl dX9_chase_54 ?_
      refine r_icmp_eq 61 58 rfl rfl dX9_chase_55 ?_ ?_
      · refine r_iinc (x4 + 1) 3 rfl rfl [(4, .int (x4 + 1)), (1, .int x1), (2, .int x2), (3, .int x3)] (Nat.le_of_ble_eq_true rfl) rfl 64 rfl dX9_chase_61 ?_
        refine r_goto 39 rfl dX9_chase_64 ?_
        refine r_sub [1, 2, 3, 0] rfl ?_
        exact ih (x4 + 1)
      · refine r_iload 4 3 rfl 60 rfl dX9_chase_58 ?_
        exact r_ireturn rfl rfl (Nat.le_of_ble_eq_true rfl) (Nat.le_of_ble_eq_true rfl) dX9_chase_60
def f_X9_chase (d : z_D) (o0 : Nat) (x1 : Int32) (x2 : Int32) (x3 : Int32) : Option (Int32 × z_D) := z_put d o0 0 0 (fun d1 => ((f_X9_areRiders x1).bind fun v2 => (if v2 = 0 then (some ((-1), d1)) else ((f_X9_isIn x2 0 3600).bind fun v3 => (if v3 = 0 then (some ((-1), d1)) else ((f_X9_isIn x3 1 300).bind fun v4 => (if v4 = 0 then (some ((-1), d1)) else (f_X9_chase_L39 d1 x1 x2 x3 (fun _ => (some ((-1), d1))) z_N 1))))))))
set_option maxHeartbeats 4000000 in
set_option maxRecDepth 100000 in
theorem c_X9_chase {E : z_E} {l : Launch} {S : z_S} (d : z_D) (o0 : Nat) (h0 : A_Model S o0) (x1 : Int32) (x2 : Int32) (x3 : Int32) : z_Sp E l yX9_chase Y_X9_chase (cvX S) [.ref (E.2.1 + o0), .int x1, .int x2, .int x3] (S, d) (f_X9_chase d o0 x1 x2 x3) := by
  refine z_entry (lv := [(0, .ref (E.2.1 + o0)), (1, .int x1), (2, .int x2), (3, .int x3)]) (by decide) rfl rfl (Nat.le_of_ble_eq_true rfl) rfl ?_
  unfold f_X9_chase
  refine r_aload_n 0 0 rfl rfl 1 rfl dX9_chase_0 ?_
  refine r_iconst 0 rfl 2 rfl dX9_chase_1 ?_
  refine r_put (h0 0 (Nat.le_of_ble_eq_true rfl)) rfl (Nat.le_of_ble_eq_true rfl) rfl rfl w_X9_chase_1 tyX9 tyX9_ok nmX9 (Nat.le_of_ble_eq_true rfl) rfl w_X9_chase_0 rfl rfl rfl rfl rfl 5 rfl dX9_chase_2 (fun d1 => ?_)
  refine r_iload_n 1 1 rfl rfl 6 rfl dX9_chase_5 ?_
  refine r_callS_I (c_X9_areRiders (E := E) (l := l) (S := S) d1 x1) ok_X9_areRiders ⟨⟨(Nat.le_of_ble_eq_true rfl), (Nat.le_of_ble_eq_true rfl)⟩, (Nat.le_of_ble_eq_true rfl), (Nat.le_of_ble_eq_true rfl)⟩ rfl (Nat.le_of_ble_eq_true rfl) gX9_chase_X9_areRiders rfl rfl 9 rfl dX9_chase_6 (fun v2 => ?_)
  refine r_if_eq 34 12 rfl rfl dX9_chase_9 ?_ ?_
  · refine r_iconst (-1) rfl 35 rfl dX9_chase_34 ?_
    exact r_ireturn rfl rfl (Nat.le_of_ble_eq_true rfl) (Nat.le_of_ble_eq_true rfl) dX9_chase_35
  · refine r_iload_n 2 2 rfl rfl 13 rfl dX9_chase_12 ?_
    refine r_iconst 0 rfl 14 rfl dX9_chase_13 ?_
    refine r_sipush 3600 rfl 17 rfl dX9_chase_14 ?_
    refine r_callS_I (c_X9_isIn (E := E) (l := l) (S := S) d1 x2 0 3600) ok_X9_isIn ⟨⟨(Nat.le_of_ble_eq_true rfl), (Nat.le_of_ble_eq_true rfl)⟩, (Nat.le_of_ble_eq_true rfl), (Nat.le_of_ble_eq_true rfl)⟩ rfl (Nat.le_of_ble_eq_true rfl) gX9_chase_X9_isIn rfl rfl 20 rfl dX9_chase_17 (fun v3 => ?_)
    refine r_if_eq 34 23 rfl rfl dX9_chase_20 ?_ ?_
    · refine r_iconst (-1) rfl 35 rfl dX9_chase_34 ?_
      exact r_ireturn rfl rfl (Nat.le_of_ble_eq_true rfl) (Nat.le_of_ble_eq_true rfl) dX9_chase_35
    · refine r_iload_n 3 3 rfl rfl 24 rfl dX9_chase_23 ?_
      refine r_iconst 1 rfl 25 rfl dX9_chase_24 ?_
      refine r_sipush 300 rfl 28 rfl dX9_chase_25 ?_
      refine r_callS_I (c_X9_isIn (E := E) (l := l) (S := S) d1 x3 1 300) ok_X9_isIn ⟨⟨(Nat.le_of_ble_eq_true rfl), (Nat.le_of_ble_eq_true rfl)⟩, (Nat.le_of_ble_eq_true rfl), (Nat.le_of_ble_eq_true rfl)⟩ rfl (Nat.le_of_ble_eq_true rfl) gX9_chase_X9_isIn rfl rfl 31 rfl dX9_chase_28 (fun v4 => ?_)
      refine r_if_ne 36 34 rfl rfl dX9_chase_31 ?_ ?_
      · refine r_iconst 1 rfl 37 rfl dX9_chase_36 ?_
        refine r_istore 4 [(4, .int 1), (0, .ref (E.2.1 + o0)), (1, .int x1), (2, .int x2), (3, .int x3)] (Nat.le_of_ble_eq_true rfl) rfl 39 rfl dX9_chase_37 ?_
        refine r_sub [2, 3, 4, 0] rfl ?_
        refine g_X9_chase_L39  (fun _ => ?_) z_N 1
        refine r_iconst (-1) rfl 68 rfl dX9_chase_67 ?_
        exact r_ireturn rfl rfl (Nat.le_of_ble_eq_true rfl) (Nat.le_of_ble_eq_true rfl) dX9_chase_68
      · refine r_iconst (-1) rfl 35 rfl dX9_chase_34 ?_
        exact r_ireturn rfl rfl (Nat.le_of_ble_eq_true rfl) (Nat.le_of_ble_eq_true rfl) dX9_chase_35
