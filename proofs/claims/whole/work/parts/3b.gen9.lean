/-! 3b.gen9: by gen/mk.py -/
def Y_X9_there : z_Y := (RX9, cX9_there, 3, wsX9_there, (some .int), { frames := 3, cells := 0, slots := 0, locals := 64 }, 0, 0)
theorem ok_X9_there : z_Ok yX9_there Y_X9_there 0 := ⟨⟨_, rfl⟩, rfl, rfl, rfl, by decide +kernel, by decide +kernel⟩
theorem w_X9_there_0 : Cond.fieldLink RX9 7 "BunchTimesModel" "row" "[I" ∈ wsX9_there := by decide +kernel
theorem w_X9_there_1 : ∀ w ∈ u_ws RX9 TX9 18, w ∈ wsX9_there := by decide +kernel
def f_X9_there_L4_b (d : z_D) (o0 : Nat) (K : Int32 → Option Int32) (R : Int32 → Int32 → Option Int32) (x1 : Int32) (x2 : Int32) : Option Int32 := z_ald d (o0 + 1) 2656 1 (fun v1 => (if v1 ≤ x2 then (K x1) else ((f_X9_isThere d o0 x2).bind fun v2 => (if v2 = 0 then z_nam (x1 + 0) (fun v3 => (R v3 (x2 + 1))) else z_nam (x1 + 1) (fun v4 => (R v4 (x2 + 1)))))))
def f_X9_there_L4 (d : z_D) (o0 : Nat) (K : Int32 → Option Int32) : Nat → Int32 → Int32 → Option Int32
  | 0 => fun _ _ => none
  | n + 1 => f_X9_there_L4_b d o0 K (f_X9_there_L4 d o0 K n)
set_option maxHeartbeats 4000000 in
set_option maxRecDepth 100000 in
theorem g_X9_there_L4 {E : z_E} {l : Launch} {S : z_S} {d : z_D} {o0 : Nat} {K : Int32 → Option Int32} (h0 : A_Model S o0) (hK : ∀ (y1 : Int32), z_G E l Y_X9_there (cvI S d) (K y1) 36 [(1, .int y1)] [] (S, d) 0 0) : ∀ (n : Nat) (x1 : Int32) (x2 : Int32), z_G E l Y_X9_there (cvI S d) (f_X9_there_L4 d o0 K n x1 x2) 4 [(0, .ref (E.2.1 + o0)), (1, .int x1), (2, .int x2)] [] (S, d) 0 0 := by
  intro n
  induction n with
  | zero => intro _ _; exact r_none
  | succ n ih =>
    intro x1 x2
    show z_G E l Y_X9_there (cvI S d) (f_X9_there_L4_b d o0 K (f_X9_there_L4 d o0 K n) x1 x2) 4 [(0, .ref (E.2.1 + o0)), (1, .int x1), (2, .int x2)] [] (S, d) 0 0
    unfold f_X9_there_L4_b
    refine r_iload_n 2 2 rfl rfl 5 rfl dX9_there_4 ?_
    refine r_aload_n 0 0 rfl rfl 6 rfl dX9_there_5 ?_
    refine r_get (h0 0 (Nat.le_of_ble_eq_true rfl)) rfl (Nat.le_of_ble_eq_true rfl) rfl rfl w_X9_there_1 1 (Nat.le_of_ble_eq_true rfl) rfl w_X9_there_0 (.ref (E.2.1 + (o0 + 1))) rfl 9 rfl dX9_there_6 ?_
    refine r_iconst 1 rfl 10 rfl dX9_there_9 ?_
    refine r_iald (h0 1 (Nat.le_of_ble_eq_true rfl)) rfl rfl 11 rfl dX9_there_10 (fun v1 => ?_)
    refine r_icmp_ge 36 14 rfl rfl dX9_there_11 ?_ ?_
    · refine r_sub [1] rfl ?_
      exact hK x1
    · refine r_iload_n 1 1 rfl rfl 15 rfl dX9_there_14 ?_
      refine r_aload_n 0 0 rfl rfl 16 rfl dX9_there_15 ?_
      refine r_iload_n 2 2 rfl rfl 17 rfl dX9_there_16 ?_
      refine r_callV_I (c_X9_isThere (E := E) (l := l) (S := S) d o0 h0 x2) ok_X9_isThere ⟨⟨(Nat.le_of_ble_eq_true rfl), (Nat.le_of_ble_eq_true rfl)⟩, (Nat.le_of_ble_eq_true rfl), (Nat.le_of_ble_eq_true rfl)⟩ (h0 0 (Nat.le_of_ble_eq_true rfl)) (Nat.le_of_ble_eq_true rfl) rfl rfl rfl (Nat.le_of_ble_eq_true rfl) gX9_there_X9_isThere rfl rfl 20 rfl dX9_there_17 (fun v2 => ?_)
      refine r_if_eq 27 23 rfl rfl dX9_there_20 ?_ ?_
      · refine r_iconst 0 rfl 28 rfl dX9_there_27 ?_
        refine r_iadd 29 rfl dX9_there_28 ?_
        refine r_nami (fun v3 => ?_)
        refine r_istore_n 1 rfl [(1, .int v3), (0, .ref (E.2.1 + o0)), (2, .int x2)] (Nat.le_of_ble_eq_true rfl) rfl 30 rfl dX9_there_29 ?_
        refine r_iinc (x2 + 1) 2 rfl rfl [(2, .int (x2 + 1)), (1, .int v3), (0, .ref (E.2.1 + o0))] (Nat.le_of_ble_eq_true rfl) rfl 33 rfl dX9_there_30 ?_
        refine r_goto 4 rfl dX9_there_33 ?_
        refine r_sub [2, 1, 0] rfl ?_
        exact ih v3 (x2 + 1)
      · refine r_iconst 1 rfl 24 rfl dX9_there_23 ?_
        refine r_goto 28 rfl dX9_there_24 ?_
        refine r_iadd 29 rfl dX9_there_28 ?_
        refine r_nami (fun v4 => ?_)
        refine r_istore_n 1 rfl [(1, .int v4), (0, .ref (E.2.1 + o0)), (2, .int x2)] (Nat.le_of_ble_eq_true rfl) rfl 30 rfl dX9_there_29 ?_
        refine r_iinc (x2 + 1) 2 rfl rfl [(2, .int (x2 + 1)), (1, .int v4), (0, .ref (E.2.1 + o0))] (Nat.le_of_ble_eq_true rfl) rfl 33 rfl dX9_there_30 ?_
        refine r_goto 4 rfl dX9_there_33 ?_
        refine r_sub [2, 1, 0] rfl ?_
        exact ih v4 (x2 + 1)
def f_X9_there (d : z_D) (o0 : Nat) : Option Int32 := (f_X9_there_L4 d o0 (fun v5 => (some v5)) z_N 0 0)
set_option maxHeartbeats 4000000 in
set_option maxRecDepth 100000 in
theorem c_X9_there {E : z_E} {l : Launch} {S : z_S} (d : z_D) (o0 : Nat) (h0 : A_Model S o0) : z_Sp E l yX9_there Y_X9_there (cvI S d) [.ref (E.2.1 + o0)] (S, d) (f_X9_there d o0) := by
  refine z_entry (lv := [(0, .ref (E.2.1 + o0))]) (by decide) rfl rfl (Nat.le_of_ble_eq_true rfl) rfl ?_
  unfold f_X9_there
  refine r_iconst 0 rfl 1 rfl dX9_there_0 ?_
  refine r_istore_n 1 rfl [(1, .int 0), (0, .ref (E.2.1 + o0))] (Nat.le_of_ble_eq_true rfl) rfl 2 rfl dX9_there_1 ?_
  refine r_iconst 0 rfl 3 rfl dX9_there_2 ?_
  refine r_istore_n 2 rfl [(2, .int 0), (1, .int 0), (0, .ref (E.2.1 + o0))] (Nat.le_of_ble_eq_true rfl) rfl 4 rfl dX9_there_3 ?_
  refine r_sub [2, 1, 0] rfl ?_
  refine g_X9_there_L4 h0 (fun v5 => ?_) z_N 0 0
  refine r_iload_n 1 0 rfl rfl 37 rfl dX9_there_36 ?_
  exact r_ireturn rfl rfl (Nat.le_of_ble_eq_true rfl) (Nat.le_of_ble_eq_true rfl) dX9_there_37
def Y_X9_teams : z_Y := (RX9, cX9_teams, 1, wsX9_teams, (some .int), { frames := 0, cells := 0, slots := 0, locals := 0 }, 0, 0)
theorem ok_X9_teams : z_Ok yX9_teams Y_X9_teams 0 := ⟨⟨_, rfl⟩, rfl, rfl, rfl, by decide +kernel, by decide +kernel⟩
theorem w_X9_teams_0 : Cond.fieldLink RX9 7 "BunchTimesModel" "row" "[I" ∈ wsX9_teams := by decide +kernel
theorem w_X9_teams_1 : ∀ w ∈ u_ws RX9 TX9 18, w ∈ wsX9_teams := by decide +kernel
def f_X9_teams (d : z_D) (o0 : Nat) : Option (Int32 × z_D) := z_ald d (o0 + 1) 2656 0 (fun v1 => (if v1 = 6 then (some ((-1), d)) else z_ald d (o0 + 1) 2656 0 (fun v2 => z_ast d (o0 + 1) 2656 0 (v2 + 1) (fun d3 => z_ald d3 (o0 + 1) 2656 0 (fun v4 => (some ((v4 - 1), d3)))))))
set_option maxHeartbeats 4000000 in
set_option maxRecDepth 100000 in
theorem c_X9_teams {E : z_E} {l : Launch} {S : z_S} (d : z_D) (o0 : Nat) (h0 : A_Model S o0) : z_Sp E l yX9_teams Y_X9_teams (cvX S) [.ref (E.2.1 + o0)] (S, d) (f_X9_teams d o0) := by
  refine z_entry (lv := [(0, .ref (E.2.1 + o0))]) (by decide) rfl rfl (Nat.le_of_ble_eq_true rfl) rfl ?_
  unfold f_X9_teams
  refine r_aload_n 0 0 rfl rfl 1 rfl dX9_teams_0 ?_
  refine r_get (h0 0 (Nat.le_of_ble_eq_true rfl)) rfl (Nat.le_of_ble_eq_true rfl) rfl rfl w_X9_teams_1 1 (Nat.le_of_ble_eq_true rfl) rfl w_X9_teams_0 (.ref (E.2.1 + (o0 + 1))) rfl 4 rfl dX9_teams_1 ?_
  refine r_iconst 0 rfl 5 rfl dX9_teams_4 ?_
  refine r_iald (h0 1 (Nat.le_of_ble_eq_true rfl)) rfl rfl 6 rfl dX9_teams_5 (fun v1 => ?_)
  refine r_bipush 6 rfl 8 rfl dX9_teams_6 ?_
  refine r_icmp_ne 13 11 rfl rfl dX9_teams_8 ?_ ?_
  · refine r_aload_n 0 0 rfl rfl 14 rfl dX9_teams_13 ?_
    refine r_get (h0 0 (Nat.le_of_ble_eq_true rfl)) rfl (Nat.le_of_ble_eq_true rfl) rfl rfl w_X9_teams_1 1 (Nat.le_of_ble_eq_true rfl) rfl w_X9_teams_0 (.ref (E.2.1 + (o0 + 1))) rfl 17 rfl dX9_teams_14 ?_
    refine r_iconst 0 rfl 18 rfl dX9_teams_17 ?_
    refine r_dup2 rfl rfl 19 rfl dX9_teams_18 ?_
    refine r_iald (h0 1 (Nat.le_of_ble_eq_true rfl)) rfl rfl 20 rfl dX9_teams_19 (fun v2 => ?_)
    refine r_iconst 1 rfl 21 rfl dX9_teams_20 ?_
    refine r_iadd 22 rfl dX9_teams_21 ?_
    refine r_iast (h0 1 (Nat.le_of_ble_eq_true rfl)) rfl rfl 23 rfl dX9_teams_22 (fun d3 => ?_)
    refine r_aload_n 0 0 rfl rfl 24 rfl dX9_teams_23 ?_
    refine r_get (h0 0 (Nat.le_of_ble_eq_true rfl)) rfl (Nat.le_of_ble_eq_true rfl) rfl rfl w_X9_teams_1 1 (Nat.le_of_ble_eq_true rfl) rfl w_X9_teams_0 (.ref (E.2.1 + (o0 + 1))) rfl 27 rfl dX9_teams_24 ?_
    refine r_iconst 0 rfl 28 rfl dX9_teams_27 ?_
    refine r_iald (h0 1 (Nat.le_of_ble_eq_true rfl)) rfl rfl 29 rfl dX9_teams_28 (fun v4 => ?_)
    refine r_iconst 1 rfl 30 rfl dX9_teams_29 ?_
    refine r_isub 31 rfl dX9_teams_30 ?_
    exact r_ireturn rfl rfl (Nat.le_of_ble_eq_true rfl) (Nat.le_of_ble_eq_true rfl) dX9_teams_31
  · refine r_iconst (-1) rfl 12 rfl dX9_teams_11 ?_
    exact r_ireturn rfl rfl (Nat.le_of_ble_eq_true rfl) (Nat.le_of_ble_eq_true rfl) dX9_teams_12
def Y_X9_team : z_Y := (RX9, cX9_team, 1, wsX9_team, (some .int), { frames := 1, cells := 0, slots := 0, locals := 20 }, 0, 0)
theorem ok_X9_team : z_Ok yX9_team Y_X9_team 0 := ⟨⟨_, rfl⟩, rfl, rfl, rfl, by decide +kernel, by decide +kernel⟩
theorem w_X9_team_0 : Cond.fieldLink RX9 39 "BunchTimesModel" "thrown" "I" ∈ wsX9_team := by decide +kernel
theorem w_X9_team_1 : ∀ w ∈ u_ws RX9 TX9 18, w ∈ wsX9_team := by decide +kernel
def f_X9_team (d : z_D) (o0 : Nat) : Option (Int32 × z_D) := z_put d o0 0 0 (fun d1 => z_bX (f_X9_teams d1 o0) (fun v2 d3 => (some (v2, d3))))
set_option maxHeartbeats 4000000 in
set_option maxRecDepth 100000 in
theorem c_X9_team {E : z_E} {l : Launch} {S : z_S} (d : z_D) (o0 : Nat) (h0 : A_Model S o0) : z_Sp E l yX9_team Y_X9_team (cvX S) [.ref (E.2.1 + o0)] (S, d) (f_X9_team d o0) := by
  refine z_entry (lv := [(0, .ref (E.2.1 + o0))]) (by decide) rfl rfl (Nat.le_of_ble_eq_true rfl) rfl ?_
  unfold f_X9_team
  refine r_aload_n 0 0 rfl rfl 1 rfl dX9_team_0 ?_
  refine r_iconst 0 rfl 2 rfl dX9_team_1 ?_
  refine r_put (h0 0 (Nat.le_of_ble_eq_true rfl)) rfl (Nat.le_of_ble_eq_true rfl) rfl rfl w_X9_team_1 tyX9 tyX9_ok nmX9 (Nat.le_of_ble_eq_true rfl) rfl w_X9_team_0 rfl rfl rfl rfl rfl 5 rfl dX9_team_2 (fun d1 => ?_)
  refine r_aload_n 0 0 rfl rfl 6 rfl dX9_team_5 ?_
  refine r_callV_X (c_X9_teams (E := E) (l := l) (S := S) d1 o0 h0) ok_X9_teams ⟨⟨(Nat.le_of_ble_eq_true rfl), (Nat.le_of_ble_eq_true rfl)⟩, (Nat.le_of_ble_eq_true rfl), (Nat.le_of_ble_eq_true rfl)⟩ (h0 0 (Nat.le_of_ble_eq_true rfl)) (Nat.le_of_ble_eq_true rfl) rfl rfl rfl (Nat.le_of_ble_eq_true rfl) gX9_team_X9_teams rfl rfl 9 rfl dX9_team_6 (fun v2 d3 => ?_)
  exact r_ireturn rfl rfl (Nat.le_of_ble_eq_true rfl) (Nat.le_of_ble_eq_true rfl) dX9_team_9
def Y_X9_comes : z_Y := (RX9, cX9_comes, 4, wsX9_comes, (some .int), { frames := 3, cells := 0, slots := 0, locals := 67 }, 0, 0)
theorem ok_X9_comes : z_Ok yX9_comes Y_X9_comes 2 := ⟨⟨_, rfl⟩, rfl, rfl, rfl, by decide +kernel, by decide +kernel⟩
theorem w_X9_comes_0 : Cond.fieldLink RX9 7 "BunchTimesModel" "row" "[I" ∈ wsX9_comes := by decide +kernel
theorem w_X9_comes_1 : ∀ w ∈ u_ws RX9 TX9 18, w ∈ wsX9_comes := by decide +kernel
def f_X9_comes (d : z_D) (o0 : Nat) (x1 : Int32) (x2 : Int32) : Option (Int32 × z_D) := z_ald d (o0 + 1) 2656 1 (fun v1 => (if v1 = 16 then (some ((-1), d)) else z_ald d (o0 + 1) 2656 0 (fun v2 => ((f_X9_isIn x1 0 (v2 - 1)).bind fun v3 => (if v3 = 0 then (some ((-1), d)) else ((f_X9_isIn x2 16 50).bind fun v4 => (if v4 = 0 then (some ((-1), d)) else ((f_X9_isOpen d o0).bind fun v5 => z_let (fun x_60 : Unit => z_ast d (o0 + 1) 2656 (8 + (3 * v1)) x1 (fun d6 => z_ast d6 (o0 + 1) 2656 ((8 + (3 * v1)) + 1) x2 (fun d7 => z_ast d7 (o0 + 1) 2656 ((8 + (3 * v1)) + 2) 1 (fun d8 => z_ald d8 (o0 + 1) 2656 1 (fun v9 => z_ast d8 (o0 + 1) 2656 1 (v9 + 1) (fun d10 => (some (v1, d10)))))))) (fun J60 => (if v5 = 0 then (J60 ()) else ((f_X9_latest d o0).bind fun v11 => ((f_X9_finishes d o0 v11).bind fun v12 => (if v12 ≤ 0 then (J60 ()) else (some ((-1), d)))))))))))))))
set_option maxHeartbeats 4000000 in
set_option maxRecDepth 100000 in
theorem c_X9_comes {E : z_E} {l : Launch} {S : z_S} (d : z_D) (o0 : Nat) (h0 : A_Model S o0) (x1 : Int32) (x2 : Int32) : z_Sp E l yX9_comes Y_X9_comes (cvX S) [.ref (E.2.1 + o0), .int x1, .int x2] (S, d) (f_X9_comes d o0 x1 x2) := by
  refine z_entry (lv := [(0, .ref (E.2.1 + o0)), (1, .int x1), (2, .int x2)]) (by decide) rfl rfl (Nat.le_of_ble_eq_true rfl) rfl ?_
  unfold f_X9_comes
  refine r_aload_n 0 0 rfl rfl 1 rfl dX9_comes_0 ?_
  refine r_get (h0 0 (Nat.le_of_ble_eq_true rfl)) rfl (Nat.le_of_ble_eq_true rfl) rfl rfl w_X9_comes_1 1 (Nat.le_of_ble_eq_true rfl) rfl w_X9_comes_0 (.ref (E.2.1 + (o0 + 1))) rfl 4 rfl dX9_comes_1 ?_
  refine r_iconst 1 rfl 5 rfl dX9_comes_4 ?_
  refine r_iald (h0 1 (Nat.le_of_ble_eq_true rfl)) rfl rfl 6 rfl dX9_comes_5 (fun v1 => ?_)
  refine r_istore_n 3 rfl [(3, .int v1), (0, .ref (E.2.1 + o0)), (1, .int x1), (2, .int x2)] (Nat.le_of_ble_eq_true rfl) rfl 7 rfl dX9_comes_6 ?_
  refine r_iload_n 3 0 rfl rfl 8 rfl dX9_comes_7 ?_
  refine r_bipush 16 rfl 10 rfl dX9_comes_8 ?_
  refine r_icmp_eq 58 13 rfl rfl dX9_comes_10 ?_ ?_
  · refine r_iconst (-1) rfl 59 rfl dX9_comes_58 ?_
    exact r_ireturn rfl rfl (Nat.le_of_ble_eq_true rfl) (Nat.le_of_ble_eq_true rfl) dX9_comes_59
  · refine r_iload_n 1 2 rfl rfl 14 rfl dX9_comes_13 ?_
    refine r_iconst 0 rfl 15 rfl dX9_comes_14 ?_
    refine r_aload_n 0 1 rfl rfl 16 rfl dX9_comes_15 ?_
    refine r_get (h0 0 (Nat.le_of_ble_eq_true rfl)) rfl (Nat.le_of_ble_eq_true rfl) rfl rfl w_X9_comes_1 1 (Nat.le_of_ble_eq_true rfl) rfl w_X9_comes_0 (.ref (E.2.1 + (o0 + 1))) rfl 19 rfl dX9_comes_16 ?_
    refine r_iconst 0 rfl 20 rfl dX9_comes_19 ?_
    refine r_iald (h0 1 (Nat.le_of_ble_eq_true rfl)) rfl rfl 21 rfl dX9_comes_20 (fun v2 => ?_)
    refine r_iconst 1 rfl 22 rfl dX9_comes_21 ?_
    refine r_isub 23 rfl dX9_comes_22 ?_
    refine r_callS_I (c_X9_isIn (E := E) (l := l) (S := S) d x1 0 (v2 - 1)) ok_X9_isIn ⟨⟨(Nat.le_of_ble_eq_true rfl), (Nat.le_of_ble_eq_true rfl)⟩, (Nat.le_of_ble_eq_true rfl), (Nat.le_of_ble_eq_true rfl)⟩ rfl (Nat.le_of_ble_eq_true rfl) gX9_comes_X9_isIn rfl rfl 26 rfl dX9_comes_23 (fun v3 => ?_)
    refine r_if_eq 58 29 rfl rfl dX9_comes_26 ?_ ?_
    · refine r_iconst (-1) rfl 59 rfl dX9_comes_58 ?_
      exact r_ireturn rfl rfl (Nat.le_of_ble_eq_true rfl) (Nat.le_of_ble_eq_true rfl) dX9_comes_59
    · refine r_iload_n 2 3 rfl rfl 30 rfl dX9_comes_29 ?_
      refine r_bipush 16 rfl 32 rfl dX9_comes_30 ?_
      refine r_bipush 50 rfl 34 rfl dX9_comes_32 ?_
      refine r_callS_I (c_X9_isIn (E := E) (l := l) (S := S) d x2 16 50) ok_X9_isIn ⟨⟨(Nat.le_of_ble_eq_true rfl), (Nat.le_of_ble_eq_true rfl)⟩, (Nat.le_of_ble_eq_true rfl), (Nat.le_of_ble_eq_true rfl)⟩ rfl (Nat.le_of_ble_eq_true rfl) gX9_comes_X9_isIn rfl rfl 37 rfl dX9_comes_34 (fun v4 => ?_)
      refine r_if_eq 58 40 rfl rfl dX9_comes_37 ?_ ?_
      · refine r_iconst (-1) rfl 59 rfl dX9_comes_58 ?_
        exact r_ireturn rfl rfl (Nat.le_of_ble_eq_true rfl) (Nat.le_of_ble_eq_true rfl) dX9_comes_59
      · refine r_aload_n 0 1 rfl rfl 41 rfl dX9_comes_40 ?_
        refine r_callV_I (c_X9_isOpen (E := E) (l := l) (S := S) d o0 h0) ok_X9_isOpen ⟨⟨(Nat.le_of_ble_eq_true rfl), (Nat.le_of_ble_eq_true rfl)⟩, (Nat.le_of_ble_eq_true rfl), (Nat.le_of_ble_eq_true rfl)⟩ (h0 0 (Nat.le_of_ble_eq_true rfl)) (Nat.le_of_ble_eq_true rfl) rfl rfl rfl (Nat.le_of_ble_eq_true rfl) gX9_comes_X9_isOpen rfl rfl 44 rfl dX9_comes_41 (fun v5 => ?_)
        refine r_let 60 (f := fun x_60 : Unit => [(0, .ref (E.2.1 + o0)), (1, .int x1), (2, .int x2), (3, .int v1)]) (g := fun x_60 : Unit => []) (ww := fun x_60 : Unit => (S, d)) (fun x_60 => ?_) (fun J60 hJ60 => ?_)
        · refine r_aload_n 0 0 rfl rfl 61 rfl dX9_comes_60 ?_
          refine r_get (h0 0 (Nat.le_of_ble_eq_true rfl)) rfl (Nat.le_of_ble_eq_true rfl) rfl rfl w_X9_comes_1 1 (Nat.le_of_ble_eq_true rfl) rfl w_X9_comes_0 (.ref (E.2.1 + (o0 + 1))) rfl 64 rfl dX9_comes_61 ?_
          refine r_bipush 8 rfl 66 rfl dX9_comes_64 ?_
          refine r_iconst 3 rfl 67 rfl dX9_comes_66 ?_
          refine r_iload_n 3 3 rfl rfl 68 rfl dX9_comes_67 ?_
          refine r_imul 69 rfl dX9_comes_68 ?_
          refine r_iadd 70 rfl dX9_comes_69 ?_
          refine r_iload_n 1 1 rfl rfl 71 rfl dX9_comes_70 ?_
          refine r_iast (h0 1 (Nat.le_of_ble_eq_true rfl)) rfl rfl 72 rfl dX9_comes_71 (fun d6 => ?_)
          refine r_aload_n 0 0 rfl rfl 73 rfl dX9_comes_72 ?_
          refine r_get (h0 0 (Nat.le_of_ble_eq_true rfl)) rfl (Nat.le_of_ble_eq_true rfl) rfl rfl w_X9_comes_1 1 (Nat.le_of_ble_eq_true rfl) rfl w_X9_comes_0 (.ref (E.2.1 + (o0 + 1))) rfl 76 rfl dX9_comes_73 ?_
          refine r_bipush 8 rfl 78 rfl dX9_comes_76 ?_
          refine r_iconst 3 rfl 79 rfl dX9_comes_78 ?_
          refine r_iload_n 3 3 rfl rfl 80 rfl dX9_comes_79 ?_
          refine r_imul 81 rfl dX9_comes_80 ?_
          refine r_iadd 82 rfl dX9_comes_81 ?_
          refine r_iconst 1 rfl 83 rfl dX9_comes_82 ?_
          refine r_iadd 84 rfl dX9_comes_83 ?_
          refine r_iload_n 2 2 rfl rfl 85 rfl dX9_comes_84 ?_
          refine r_iast (h0 1 (Nat.le_of_ble_eq_true rfl)) rfl rfl 86 rfl dX9_comes_85 (fun d7 => ?_)
          refine r_aload_n 0 0 rfl rfl 87 rfl dX9_comes_86 ?_
          refine r_get (h0 0 (Nat.le_of_ble_eq_true rfl)) rfl (Nat.le_of_ble_eq_true rfl) rfl rfl w_X9_comes_1 1 (Nat.le_of_ble_eq_true rfl) rfl w_X9_comes_0 (.ref (E.2.1 + (o0 + 1))) rfl 90 rfl dX9_comes_87 ?_
          refine r_bipush 8 rfl 92 rfl dX9_comes_90 ?_
          refine r_iconst 3 rfl 93 rfl dX9_comes_92 ?_
          refine r_iload_n 3 3 rfl rfl 94 rfl dX9_comes_93 ?_
          refine r_imul 95 rfl dX9_comes_94 ?_
          refine r_iadd 96 rfl dX9_comes_95 ?_
          refine r_iconst 2 rfl 97 rfl dX9_comes_96 ?_
          refine r_iadd 98 rfl dX9_comes_97 ?_
          refine r_iconst 1 rfl 99 rfl dX9_comes_98 ?_
          refine r_iast (h0 1 (Nat.le_of_ble_eq_true rfl)) rfl rfl 100 rfl dX9_comes_99 (fun d8 => ?_)
          refine r_aload_n 0 0 rfl rfl 101 rfl dX9_comes_100 ?_
          refine r_get (h0 0 (Nat.le_of_ble_eq_true rfl)) rfl (Nat.le_of_ble_eq_true rfl) rfl rfl w_X9_comes_1 1 (Nat.le_of_ble_eq_true rfl) rfl w_X9_comes_0 (.ref (E.2.1 + (o0 + 1))) rfl 104 rfl dX9_comes_101 ?_
          refine r_iconst 1 rfl 105 rfl dX9_comes_104 ?_
          refine r_dup2 rfl rfl 106 rfl dX9_comes_105 ?_
          refine r_iald (h0 1 (Nat.le_of_ble_eq_true rfl)) rfl rfl 107 rfl dX9_comes_106 (fun v9 => ?_)
          refine r_iconst 1 rfl 108 rfl dX9_comes_107 ?_
          refine r_iadd 109 rfl dX9_comes_108 ?_
          refine r_iast (h0 1 (Nat.le_of_ble_eq_true rfl)) rfl rfl 110 rfl dX9_comes_109 (fun d10 => ?_)
          refine r_iload_n 3 3 rfl rfl 111 rfl dX9_comes_110 ?_
          exact r_ireturn rfl rfl (Nat.le_of_ble_eq_true rfl) (Nat.le_of_ble_eq_true rfl) dX9_comes_111
        refine r_if_eq 60 47 rfl rfl dX9_comes_44 ?_ ?_
        · refine r_sub [1, 2, 3, 0] rfl ?_
          exact hJ60 ()
        · refine r_aload_n 0 1 rfl rfl 48 rfl dX9_comes_47 ?_
          refine r_aload_n 0 1 rfl rfl 49 rfl dX9_comes_48 ?_
          refine r_callV_I (c_X9_latest (E := E) (l := l) (S := S) d o0 h0) ok_X9_latest ⟨⟨(Nat.le_of_ble_eq_true rfl), (Nat.le_of_ble_eq_true rfl)⟩, (Nat.le_of_ble_eq_true rfl), (Nat.le_of_ble_eq_true rfl)⟩ (h0 0 (Nat.le_of_ble_eq_true rfl)) (Nat.le_of_ble_eq_true rfl) rfl rfl rfl (Nat.le_of_ble_eq_true rfl) gX9_comes_X9_latest rfl rfl 52 rfl dX9_comes_49 (fun v11 => ?_)
          refine r_callV_I (c_X9_finishes (E := E) (l := l) (S := S) d o0 h0 v11) ok_X9_finishes ⟨⟨(Nat.le_of_ble_eq_true rfl), (Nat.le_of_ble_eq_true rfl)⟩, (Nat.le_of_ble_eq_true rfl), (Nat.le_of_ble_eq_true rfl)⟩ (h0 0 (Nat.le_of_ble_eq_true rfl)) (Nat.le_of_ble_eq_true rfl) rfl rfl rfl (Nat.le_of_ble_eq_true rfl) gX9_comes_X9_finishes rfl rfl 55 rfl dX9_comes_52 (fun v12 => ?_)
          refine r_if_le 60 58 rfl rfl dX9_comes_55 ?_ ?_
          · refine r_sub [1, 2, 3, 0] rfl ?_
            exact hJ60 ()
          · refine r_iconst (-1) rfl 59 rfl dX9_comes_58 ?_
            exact r_ireturn rfl rfl (Nat.le_of_ble_eq_true rfl) (Nat.le_of_ble_eq_true rfl) dX9_comes_59
def Y_X9_rider : z_Y := (RX9, cX9_rider, 3, wsX9_rider, (some .int), { frames := 4, cells := 0, slots := 0, locals := 90 }, 0, 0)
theorem ok_X9_rider : z_Ok yX9_rider Y_X9_rider 2 := ⟨⟨_, rfl⟩, rfl, rfl, rfl, by decide +kernel, by decide +kernel⟩
theorem w_X9_rider_0 : Cond.fieldLink RX9 39 "BunchTimesModel" "thrown" "I" ∈ wsX9_rider := by decide +kernel
theorem w_X9_rider_1 : ∀ w ∈ u_ws RX9 TX9 18, w ∈ wsX9_rider := by decide +kernel
def f_X9_rider (d : z_D) (o0 : Nat) (x1 : Int32) (x2 : Int32) : Option (Int32 × z_D) := z_put d o0 0 0 (fun d1 => z_bX (f_X9_comes d1 o0 x1 x2) (fun v2 d3 => (some (v2, d3))))
set_option maxHeartbeats 4000000 in
set_option maxRecDepth 100000 in
theorem c_X9_rider {E : z_E} {l : Launch} {S : z_S} (d : z_D) (o0 : Nat) (h0 : A_Model S o0) (x1 : Int32) (x2 : Int32) : z_Sp E l yX9_rider Y_X9_rider (cvX S) [.ref (E.2.1 + o0), .int x1, .int x2] (S, d) (f_X9_rider d o0 x1 x2) := by
  refine z_entry (lv := [(0, .ref (E.2.1 + o0)), (1, .int x1), (2, .int x2)]) (by decide) rfl rfl (Nat.le_of_ble_eq_true rfl) rfl ?_
  unfold f_X9_rider
  refine r_aload_n 0 0 rfl rfl 1 rfl dX9_rider_0 ?_
  refine r_iconst 0 rfl 2 rfl dX9_rider_1 ?_
  refine r_put (h0 0 (Nat.le_of_ble_eq_true rfl)) rfl (Nat.le_of_ble_eq_true rfl) rfl rfl w_X9_rider_1 tyX9 tyX9_ok nmX9 (Nat.le_of_ble_eq_true rfl) rfl w_X9_rider_0 rfl rfl rfl rfl rfl 5 rfl dX9_rider_2 (fun d1 => ?_)
  refine r_aload_n 0 0 rfl rfl 6 rfl dX9_rider_5 ?_
  refine r_iload_n 1 1 rfl rfl 7 rfl dX9_rider_6 ?_
  refine r_iload_n 2 2 rfl rfl 8 rfl dX9_rider_7 ?_
  refine r_callV_X (c_X9_comes (E := E) (l := l) (S := S) d1 o0 h0 x1 x2) ok_X9_comes ⟨⟨(Nat.le_of_ble_eq_true rfl), (Nat.le_of_ble_eq_true rfl)⟩, (Nat.le_of_ble_eq_true rfl), (Nat.le_of_ble_eq_true rfl)⟩ (h0 0 (Nat.le_of_ble_eq_true rfl)) (Nat.le_of_ble_eq_true rfl) rfl rfl rfl (Nat.le_of_ble_eq_true rfl) gX9_rider_X9_comes rfl rfl 11 rfl dX9_rider_8 (fun v2 d3 => ?_)
  exact r_ireturn rfl rfl (Nat.le_of_ble_eq_true rfl) (Nat.le_of_ble_eq_true rfl) dX9_rider_11
def Y_X9_stages : z_Y := (RX9, cX9_stages, 5, wsX9_stages, (some .int), { frames := 4, cells := 0, slots := 0, locals := 86 }, 0, 0)
theorem ok_X9_stages : z_Ok yX9_stages Y_X9_stages 2 := ⟨⟨_, rfl⟩, rfl, rfl, rfl, by decide +kernel, by decide +kernel⟩
theorem w_X9_stages_0 : Cond.fieldLink RX9 7 "BunchTimesModel" "row" "[I" ∈ wsX9_stages := by decide +kernel
theorem w_X9_stages_1 : ∀ w ∈ u_ws RX9 TX9 18, w ∈ wsX9_stages := by decide +kernel
def f_X9_stages_L52_b (o0 : Nat) (x1 : Int32) (x2 : Int32) (x3 : Int32) (K : z_D → Option (Int32 × z_D)) (R : Int32 → z_D → Option (Int32 × z_D)) (x4 : Int32) (d : z_D) : Option (Int32 × z_D) := (if 325 ≤ x4 then (K d) else z_ast d (o0 + 1) 2656 ((56 + (325 * x3)) + x4) 0 (fun d6 => (R (x4 + 1) d6)))
def f_X9_stages_L52 (o0 : Nat) (x1 : Int32) (x2 : Int32) (x3 : Int32) (K : z_D → Option (Int32 × z_D)) : Nat → Int32 → z_D → Option (Int32 × z_D)
  | 0 => fun _ _ => none
  | n + 1 => f_X9_stages_L52_b o0 x1 x2 x3 K (f_X9_stages_L52 o0 x1 x2 x3 K n)
set_option maxHeartbeats 4000000 in
set_option maxRecDepth 100000 in
theorem g_X9_stages_L52 {E : z_E} {l : Launch} {S : z_S} {o0 : Nat} {x1 : Int32} {x2 : Int32} {x3 : Int32} {K : z_D → Option (Int32 × z_D)} (h0 : A_Model S o0) (hK : ∀ (d9 : z_D), z_G E l Y_X9_stages (cvX S) (K d9) 83 [(0, .ref (E.2.1 + o0)), (1, .int x1), (2, .int x2), (3, .int x3)] [] (S, d9) 0 0) : ∀ (n : Nat) (x4 : Int32) (d : z_D), z_G E l Y_X9_stages (cvX S) (f_X9_stages_L52 o0 x1 x2 x3 K n x4 d) 52 [(0, .ref (E.2.1 + o0)), (1, .int x1), (2, .int x2), (3, .int x3), (4, .int x4)] [] (S, d) 0 0 := by
  intro n
  induction n with
  | zero => intro _ _; exact r_none
  | succ n ih =>
    intro x4 d
    show z_G E l Y_X9_stages (cvX S) (f_X9_stages_L52_b o0 x1 x2 x3 K (f_X9_stages_L52 o0 x1 x2 x3 K n) x4 d) 52 [(0, .ref (E.2.1 + o0)), (1, .int x1), (2, .int x2), (3, .int x3), (4, .int x4)] [] (S, d) 0 0
    unfold f_X9_stages_L52_b
    refine r_iload 4 4 rfl 54 rfl dX9_stages_52 ?_
    refine r_sipush 325 rfl 57 rfl dX9_stages_54 ?_
    refine r_icmp_ge 83 60 rfl rfl dX9_stages_57 ?_ ?_
    · refine r_sub [0, 1, 2, 3] rfl ?_
      exact hK d
    · refine r_aload_n 0 0 rfl rfl 61 rfl dX9_stages_60 ?_
      refine r_get (h0 0 (Nat.le_of_ble_eq_true rfl)) rfl (Nat.le_of_ble_eq_true rfl) rfl rfl w_X9_stages_1 1 (Nat.le_of_ble_eq_true rfl) rfl w_X9_stages_0 (.ref (E.2.1 + (o0 + 1))) rfl 64 rfl dX9_stages_61 ?_
      refine r_bipush 56 rfl 66 rfl dX9_stages_64 ?_
      refine r_sipush 325 rfl 69 rfl dX9_stages_66 ?_
      refine r_iload_n 3 3 rfl rfl 70 rfl dX9_stages_69 ?_
      refine r_imul 71 rfl dX9_stages_70 ?_
      refine r_iadd 72 rfl dX9_stages_71 ?_
      refine r_iload 4 4 rfl 74 rfl dX9_stages_72 ?_
      refine r_iadd 75 rfl dX9_stages_74 ?_
      refine r_iconst 0 rfl 76 rfl dX9_stages_75 ?_
      refine r_iast (h0 1 (Nat.le_of_ble_eq_true rfl)) rfl rfl 77 rfl dX9_stages_76 (fun d6 => ?_)
      refine r_iinc (x4 + 1) 4 rfl rfl [(4, .int (x4 + 1)), (0, .ref (E.2.1 + o0)), (1, .int x1), (2, .int x2), (3, .int x3)] (Nat.le_of_ble_eq_true rfl) rfl 80 rfl dX9_stages_77 ?_
      refine r_goto 52 rfl dX9_stages_80 ?_
      refine r_sub [1, 2, 3, 4, 0] rfl ?_
      exact ih (x4 + 1) d6
def f_X9_stages_L86_b (o0 : Nat) (x1 : Int32) (x2 : Int32) (x3 : Int32) (K : z_D → Option (Int32 × z_D)) (R : Int32 → z_D → Option (Int32 × z_D)) (x4 : Int32) (d : z_D) : Option (Int32 × z_D) := (if 16 ≤ x4 then (K d) else ((f_X9_at_ x3 x4 1).bind fun v8 => z_ast d (o0 + 1) 2656 v8 (-1) (fun d9 => (R (x4 + 1) d9))))
def f_X9_stages_L86 (o0 : Nat) (x1 : Int32) (x2 : Int32) (x3 : Int32) (K : z_D → Option (Int32 × z_D)) : Nat → Int32 → z_D → Option (Int32 × z_D)
  | 0 => fun _ _ => none
  | n + 1 => f_X9_stages_L86_b o0 x1 x2 x3 K (f_X9_stages_L86 o0 x1 x2 x3 K n)
set_option maxHeartbeats 4000000 in
set_option maxRecDepth 100000 in
theorem g_X9_stages_L86 {E : z_E} {l : Launch} {S : z_S} {o0 : Nat} {x1 : Int32} {x2 : Int32} {x3 : Int32} {K : z_D → Option (Int32 × z_D)} (h0 : A_Model S o0) (hK : ∀ (d9 : z_D), z_G E l Y_X9_stages (cvX S) (K d9) 112 [(0, .ref (E.2.1 + o0)), (1, .int x1), (2, .int x2), (3, .int x3)] [] (S, d9) 0 0) : ∀ (n : Nat) (x4 : Int32) (d : z_D), z_G E l Y_X9_stages (cvX S) (f_X9_stages_L86 o0 x1 x2 x3 K n x4 d) 86 [(0, .ref (E.2.1 + o0)), (1, .int x1), (2, .int x2), (3, .int x3), (4, .int x4)] [] (S, d) 0 0 := by
  intro n
  induction n with
  | zero => intro _ _; exact r_none
  | succ n ih =>
    intro x4 d
    show z_G E l Y_X9_stages (cvX S) (f_X9_stages_L86_b o0 x1 x2 x3 K (f_X9_stages_L86 o0 x1 x2 x3 K n) x4 d) 86 [(0, .ref (E.2.1 + o0)), (1, .int x1), (2, .int x2), (3, .int x3), (4, .int x4)] [] (S, d) 0 0
    unfold f_X9_stages_L86_b
    refine r_iload 4 4 rfl 88 rfl dX9_stages_86 ?_
    refine r_bipush 16 rfl 90 rfl dX9_stages_88 ?_
    refine r_icmp_ge 112 93 rfl rfl dX9_stages_90 ?_ ?_
    · refine r_sub [0, 1, 2, 3] rfl ?_
      exact hK d
    · refine r_aload_n 0 0 rfl rfl 94 rfl dX9_stages_93 ?_
      refine r_get (h0 0 (Nat.le_of_ble_eq_true rfl)) rfl (Nat.le_of_ble_eq_true rfl) rfl rfl w_X9_stages_1 1 (Nat.le_of_ble_eq_true rfl) rfl w_X9_stages_0 (.ref (E.2.1 + (o0 + 1))) rfl 97 rfl dX9_stages_94 ?_
      refine r_iload_n 3 3 rfl rfl 98 rfl dX9_stages_97 ?_
      refine r_iload 4 4 rfl 100 rfl dX9_stages_98 ?_
      refine r_iconst 1 rfl 101 rfl dX9_stages_100 ?_
      refine r_callS_I (c_X9_at_ (E := E) (l := l) (S := S) d x3 x4 1) ok_X9_at_ ⟨⟨(Nat.le_of_ble_eq_true rfl), (Nat.le_of_ble_eq_true rfl)⟩, (Nat.le_of_ble_eq_true rfl), (Nat.le_of_ble_eq_true rfl)⟩ rfl (Nat.le_of_ble_eq_true rfl) gX9_stages_X9_at_ rfl rfl 104 rfl dX9_stages_101 (fun v8 => ?_)
      refine r_iconst (-1) rfl 105 rfl dX9_stages_104 ?_
      refine r_iast (h0 1 (Nat.le_of_ble_eq_true rfl)) rfl rfl 106 rfl dX9_stages_105 (fun d9 => ?_)
      refine r_iinc (x4 + 1) 4 rfl rfl [(4, .int (x4 + 1)), (0, .ref (E.2.1 + o0)), (1, .int x1), (2, .int x2), (3, .int x3)] (Nat.le_of_ble_eq_true rfl) rfl 109 rfl dX9_stages_106 ?_
      refine r_goto 86 rfl dX9_stages_109 ?_
      refine r_sub [1, 2, 3, 4, 0] rfl ?_
      exact ih (x4 + 1) d9
def f_X9_stages (d : z_D) (o0 : Nat) (x1 : Int32) (x2 : Int32) : Option (Int32 × z_D) := z_ald d (o0 + 1) 2656 2 (fun v1 => (if v1 = 8 then (some ((-1), d)) else ((f_X9_isOpen d o0).bind fun v2 => (if v2 = 0 then ((f_X9_isIn x1 0 3).bind fun v3 => (if v3 = 0 then (some ((-1), d)) else ((f_X9_isIn x2 1 300).bind fun v4 => (if v4 = 0 then (some ((-1), d)) else ((f_X9_there d o0).bind fun v5 => (if v5 = 0 then (some ((-1), d)) else (f_X9_stages_L52 o0 x1 x2 v1 (fun d7 => (f_X9_stages_L86 o0 x1 x2 v1 (fun d10 => ((f_X9_at v1 0).bind fun v11 => z_ast d10 (o0 + 1) 2656 v11 x1 (fun d12 => ((f_X9_at v1 1).bind fun v13 => z_ast d12 (o0 + 1) 2656 v13 x2 (fun d14 => z_ald d14 (o0 + 1) 2656 2 (fun v15 => z_ast d14 (o0 + 1) 2656 2 (v15 + 1) (fun d16 => z_ast d16 (o0 + 1) 2656 3 1 (fun d17 => (some (v1, d17)))))))))) z_N 0 d7)) z_N 0 d))))))) else (some ((-1), d))))))
set_option maxHeartbeats 4000000 in
set_option maxRecDepth 100000 in
theorem c_X9_stages {E : z_E} {l : Launch} {S : z_S} (d : z_D) (o0 : Nat) (h0 : A_Model S o0) (x1 : Int32) (x2 : Int32) : z_Sp E l yX9_stages Y_X9_stages (cvX S) [.ref (E.2.1 + o0), .int x1, .int x2] (S, d) (f_X9_stages d o0 x1 x2) := by
  refine z_entry (lv := [(0, .ref (E.2.1 + o0)), (1, .int x1), (2, .int x2)]) (by decide) rfl rfl (Nat.le_of_ble_eq_true rfl) rfl ?_
  unfold f_X9_stages
  refine r_aload_n 0 0 rfl rfl 1 rfl dX9_stages_0 ?_
  refine r_get (h0 0 (Nat.le_of_ble_eq_true rfl)) rfl (Nat.le_of_ble_eq_true rfl) rfl rfl w_X9_stages_1 1 (Nat.le_of_ble_eq_true rfl) rfl w_X9_stages_0 (.ref (E.2.1 + (o0 + 1))) rfl 4 rfl dX9_stages_1 ?_
  refine r_iconst 2 rfl 5 rfl dX9_stages_4 ?_
  refine r_iald (h0 1 (Nat.le_of_ble_eq_true rfl)) rfl rfl 6 rfl dX9_stages_5 (fun v1 => ?_)
  refine r_istore_n 3 rfl [(3, .int v1), (0, .ref (E.2.1 + o0)), (1, .int x1), (2, .int x2)] (Nat.le_of_ble_eq_true rfl) rfl 7 rfl dX9_stages_6 ?_
  refine r_iload_n 3 0 rfl rfl 8 rfl dX9_stages_7 ?_
  refine r_bipush 8 rfl 10 rfl dX9_stages_8 ?_
  refine r_icmp_eq 47 13 rfl rfl dX9_stages_10 ?_ ?_
  · refine r_iconst (-1) rfl 48 rfl dX9_stages_47 ?_
    exact r_ireturn rfl rfl (Nat.le_of_ble_eq_true rfl) (Nat.le_of_ble_eq_true rfl) dX9_stages_48
  · refine r_aload_n 0 1 rfl rfl 14 rfl dX9_stages_13 ?_
    refine r_callV_I (c_X9_isOpen (E := E) (l := l) (S := S) d o0 h0) ok_X9_isOpen ⟨⟨(Nat.le_of_ble_eq_true rfl), (Nat.le_of_ble_eq_true rfl)⟩, (Nat.le_of_ble_eq_true rfl), (Nat.le_of_ble_eq_true rfl)⟩ (h0 0 (Nat.le_of_ble_eq_true rfl)) (Nat.le_of_ble_eq_true rfl) rfl rfl rfl (Nat.le_of_ble_eq_true rfl) gX9_stages_X9_isOpen rfl rfl 17 rfl dX9_stages_14 (fun v2 => ?_)
    refine r_if_ne 47 20 rfl rfl dX9_stages_17 ?_ ?_
    · refine r_iconst (-1) rfl 48 rfl dX9_stages_47 ?_
      exact r_ireturn rfl rfl (Nat.le_of_ble_eq_true rfl) (Nat.le_of_ble_eq_true rfl) dX9_stages_48
    · refine r_iload_n 1 2 rfl rfl 21 rfl dX9_stages_20 ?_
      refine r_iconst 0 rfl 22 rfl dX9_stages_21 ?_
      refine r_iconst 3 rfl 23 rfl dX9_stages_22 ?_
      refine r_callS_I (c_X9_isIn (E := E) (l := l) (S := S) d x1 0 3) ok_X9_isIn ⟨⟨(Nat.le_of_ble_eq_true rfl), (Nat.le_of_ble_eq_true rfl)⟩, (Nat.le_of_ble_eq_true rfl), (Nat.le_of_ble_eq_true rfl)⟩ rfl (Nat.le_of_ble_eq_true rfl) gX9_stages_X9_isIn rfl rfl 26 rfl dX9_stages_23 (fun v3 => ?_)
      refine r_if_eq 47 29 rfl rfl dX9_stages_26 ?_ ?_
      · refine r_iconst (-1) rfl 48 rfl dX9_stages_47 ?_
        exact r_ireturn rfl rfl (Nat.le_of_ble_eq_true rfl) (Nat.le_of_ble_eq_true rfl) dX9_stages_48
      · refine r_iload_n 2 3 rfl rfl 30 rfl dX9_stages_29 ?_
        refine r_iconst 1 rfl 31 rfl dX9_stages_30 ?_
        refine r_sipush 300 rfl 34 rfl dX9_stages_31 ?_
        refine r_callS_I (c_X9_isIn (E := E) (l := l) (S := S) d x2 1 300) ok_X9_isIn ⟨⟨(Nat.le_of_ble_eq_true rfl), (Nat.le_of_ble_eq_true rfl)⟩, (Nat.le_of_ble_eq_true rfl), (Nat.le_of_ble_eq_true rfl)⟩ rfl (Nat.le_of_ble_eq_true rfl) gX9_stages_X9_isIn rfl rfl 37 rfl dX9_stages_34 (fun v4 => ?_)
        refine r_if_eq 47 40 rfl rfl dX9_stages_37 ?_ ?_
        · refine r_iconst (-1) rfl 48 rfl dX9_stages_47 ?_
          exact r_ireturn rfl rfl (Nat.le_of_ble_eq_true rfl) (Nat.le_of_ble_eq_true rfl) dX9_stages_48
        · refine r_aload_n 0 1 rfl rfl 41 rfl dX9_stages_40 ?_
          refine r_callV_I (c_X9_there (E := E) (l := l) (S := S) d o0 h0) ok_X9_there ⟨⟨(Nat.le_of_ble_eq_true rfl), (Nat.le_of_ble_eq_true rfl)⟩, (Nat.le_of_ble_eq_true rfl), (Nat.le_of_ble_eq_true rfl)⟩ (h0 0 (Nat.le_of_ble_eq_true rfl)) (Nat.le_of_ble_eq_true rfl) rfl rfl rfl (Nat.le_of_ble_eq_true rfl) gX9_stages_X9_there rfl rfl 44 rfl dX9_stages_41 (fun v5 => ?_)
          refine r_if_ne 49 47 rfl rfl dX9_stages_44 ?_ ?_
          · refine r_iconst 0 rfl 50 rfl dX9_stages_49 ?_
            refine r_istore 4 [(4, .int 0), (3, .int v1), (0, .ref (E.2.1 + o0)), (1, .int x1), (2, .int x2)] (Nat.le_of_ble_eq_true rfl) rfl 52 rfl dX9_stages_50 ?_
            refine r_sub [2, 3, 4, 1, 0] rfl ?_
            refine g_X9_stages_L52 h0 (fun d7 => ?_) z_N 0 d
            refine r_iconst 0 rfl 84 rfl dX9_stages_83 ?_
            refine r_istore 4 [(4, .int 0), (0, .ref (E.2.1 + o0)), (1, .int x1), (2, .int x2), (3, .int v1)] (Nat.le_of_ble_eq_true rfl) rfl 86 rfl dX9_stages_84 ?_
            refine r_sub [1, 2, 3, 4, 0] rfl ?_
            refine g_X9_stages_L86 h0 (fun d10 => ?_) z_N 0 d7
            refine r_aload_n 0 0 rfl rfl 113 rfl dX9_stages_112 ?_
            refine r_get (h0 0 (Nat.le_of_ble_eq_true rfl)) rfl (Nat.le_of_ble_eq_true rfl) rfl rfl w_X9_stages_1 1 (Nat.le_of_ble_eq_true rfl) rfl w_X9_stages_0 (.ref (E.2.1 + (o0 + 1))) rfl 116 rfl dX9_stages_113 ?_
            refine r_iload_n 3 3 rfl rfl 117 rfl dX9_stages_116 ?_
            refine r_iconst 0 rfl 118 rfl dX9_stages_117 ?_
            refine r_callS_I (c_X9_at (E := E) (l := l) (S := S) d10 v1 0) ok_X9_at ⟨⟨(Nat.le_of_ble_eq_true rfl), (Nat.le_of_ble_eq_true rfl)⟩, (Nat.le_of_ble_eq_true rfl), (Nat.le_of_ble_eq_true rfl)⟩ rfl (Nat.le_of_ble_eq_true rfl) gX9_stages_X9_at rfl rfl 121 rfl dX9_stages_118 (fun v11 => ?_)
            refine r_iload_n 1 1 rfl rfl 122 rfl dX9_stages_121 ?_
            refine r_iast (h0 1 (Nat.le_of_ble_eq_true rfl)) rfl rfl 123 rfl dX9_stages_122 (fun d12 => ?_)
            refine r_aload_n 0 0 rfl rfl 124 rfl dX9_stages_123 ?_
            refine r_get (h0 0 (Nat.le_of_ble_eq_true rfl)) rfl (Nat.le_of_ble_eq_true rfl) rfl rfl w_X9_stages_1 1 (Nat.le_of_ble_eq_true rfl) rfl w_X9_stages_0 (.ref (E.2.1 + (o0 + 1))) rfl 127 rfl dX9_stages_124 ?_
            refine r_iload_n 3 3 rfl rfl 128 rfl dX9_stages_127 ?_
            refine r_iconst 1 rfl 129 rfl dX9_stages_128 ?_
            refine r_callS_I (c_X9_at (E := E) (l := l) (S := S) d12 v1 1) ok_X9_at ⟨⟨(Nat.le_of_ble_eq_true rfl), (Nat.le_of_ble_eq_true rfl)⟩, (Nat.le_of_ble_eq_true rfl), (Nat.le_of_ble_eq_true rfl)⟩ rfl (Nat.le_of_ble_eq_true rfl) gX9_stages_X9_at rfl rfl 132 rfl dX9_stages_129 (fun v13 => ?_)
            refine r_iload_n 2 2 rfl rfl 133 rfl dX9_stages_132 ?_
            refine r_iast (h0 1 (Nat.le_of_ble_eq_true rfl)) rfl rfl 134 rfl dX9_stages_133 (fun d14 => ?_)
            refine r_aload_n 0 0 rfl rfl 135 rfl dX9_stages_134 ?_
            refine r_get (h0 0 (Nat.le_of_ble_eq_true rfl)) rfl (Nat.le_of_ble_eq_true rfl) rfl rfl w_X9_stages_1 1 (Nat.le_of_ble_eq_true rfl) rfl w_X9_stages_0 (.ref (E.2.1 + (o0 + 1))) rfl 138 rfl dX9_stages_135 ?_
            refine r_iconst 2 rfl 139 rfl dX9_stages_138 ?_
            refine r_dup2 rfl rfl 140 rfl dX9_stages_139 ?_
            refine r_iald (h0 1 (Nat.le_of_ble_eq_true rfl)) rfl rfl 141 rfl dX9_stages_140 (fun v15 => ?_)
            refine r_iconst 1 rfl 142 rfl dX9_stages_141 ?_
            refine r_iadd 143 rfl dX9_stages_142 ?_
            refine r_iast (h0 1 (Nat.le_of_ble_eq_true rfl)) rfl rfl 144 rfl dX9_stages_143 (fun d16 => ?_)
            refine r_aload_n 0 0 rfl rfl 145 rfl dX9_stages_144 ?_
            refine r_get (h0 0 (Nat.le_of_ble_eq_true rfl)) rfl (Nat.le_of_ble_eq_true rfl) rfl rfl w_X9_stages_1 1 (Nat.le_of_ble_eq_true rfl) rfl w_X9_stages_0 (.ref (E.2.1 + (o0 + 1))) rfl 148 rfl dX9_stages_145 ?_
            refine r_iconst 3 rfl 149 rfl dX9_stages_148 ?_
            refine r_iconst 1 rfl 150 rfl dX9_stages_149 ?_
            refine r_iast (h0 1 (Nat.le_of_ble_eq_true rfl)) rfl rfl 151 rfl dX9_stages_150 (fun d17 => ?_)
            refine r_iload_n 3 3 rfl rfl 152 rfl dX9_stages_151 ?_
            exact r_ireturn rfl rfl (Nat.le_of_ble_eq_true rfl) (Nat.le_of_ble_eq_true rfl) dX9_stages_152
          · refine r_iconst (-1) rfl 48 rfl dX9_stages_47 ?_
            exact r_ireturn rfl rfl (Nat.le_of_ble_eq_true rfl) (Nat.le_of_ble_eq_true rfl) dX9_stages_48
def Y_X9_stage : z_Y := (RX9, cX9_stage, 3, wsX9_stage, (some .int), { frames := 5, cells := 0, slots := 0, locals := 110 }, 0, 0)
theorem ok_X9_stage : z_Ok yX9_stage Y_X9_stage 2 := ⟨⟨_, rfl⟩, rfl, rfl, rfl, by decide +kernel, by decide +kernel⟩
theorem w_X9_stage_0 : Cond.fieldLink RX9 39 "BunchTimesModel" "thrown" "I" ∈ wsX9_stage := by decide +kernel
theorem w_X9_stage_1 : ∀ w ∈ u_ws RX9 TX9 18, w ∈ wsX9_stage := by decide +kernel
def f_X9_stage (d : z_D) (o0 : Nat) (x1 : Int32) (x2 : Int32) : Option (Int32 × z_D) := z_put d o0 0 0 (fun d1 => z_bX (f_X9_stages d1 o0 x1 x2) (fun v2 d3 => (some (v2, d3))))
set_option maxHeartbeats 4000000 in
set_option maxRecDepth 100000 in
theorem c_X9_stage {E : z_E} {l : Launch} {S : z_S} (d : z_D) (o0 : Nat) (h0 : A_Model S o0) (x1 : Int32) (x2 : Int32) : z_Sp E l yX9_stage Y_X9_stage (cvX S) [.ref (E.2.1 + o0), .int x1, .int x2] (S, d) (f_X9_stage d o0 x1 x2) := by
  refine z_entry (lv := [(0, .ref (E.2.1 + o0)), (1, .int x1), (2, .int x2)]) (by decide) rfl rfl (Nat.le_of_ble_eq_true rfl) rfl ?_
  unfold f_X9_stage
  refine r_aload_n 0 0 rfl rfl 1 rfl dX9_stage_0 ?_
  refine r_iconst 0 rfl 2 rfl dX9_stage_1 ?_
  refine r_put (h0 0 (Nat.le_of_ble_eq_true rfl)) rfl (Nat.le_of_ble_eq_true rfl) rfl rfl w_X9_stage_1 tyX9 tyX9_ok nmX9 (Nat.le_of_ble_eq_true rfl) rfl w_X9_stage_0 rfl rfl rfl rfl rfl 5 rfl dX9_stage_2 (fun d1 => ?_)
  refine r_aload_n 0 0 rfl rfl 6 rfl dX9_stage_5 ?_
  refine r_iload_n 1 1 rfl rfl 7 rfl dX9_stage_6 ?_
  refine r_iload_n 2 2 rfl rfl 8 rfl dX9_stage_7 ?_
  refine r_callV_X (c_X9_stages (E := E) (l := l) (S := S) d1 o0 h0 x1 x2) ok_X9_stages ⟨⟨(Nat.le_of_ble_eq_true rfl), (Nat.le_of_ble_eq_true rfl)⟩, (Nat.le_of_ble_eq_true rfl), (Nat.le_of_ble_eq_true rfl)⟩ (h0 0 (Nat.le_of_ble_eq_true rfl)) (Nat.le_of_ble_eq_true rfl) rfl rfl rfl (Nat.le_of_ble_eq_true rfl) gX9_stage_X9_stages rfl rfl 11 rfl dX9_stage_8 (fun v2 d3 => ?_)
  exact r_ireturn rfl rfl (Nat.le_of_ble_eq_true rfl) (Nat.le_of_ble_eq_true rfl) dX9_stage_11
def Y_X9_marks : z_Y := (RX9, cX9_marks, 5, wsX9_marks, (some .int), { frames := 1, cells := 0, slots := 0, locals := 22 }, 0, 0)
theorem ok_X9_marks : z_Ok yX9_marks Y_X9_marks 2 := ⟨⟨_, rfl⟩, rfl, rfl, rfl, by decide +kernel, by decide +kernel⟩
theorem w_X9_marks_0 : Cond.fieldLink RX9 7 "BunchTimesModel" "row" "[I" ∈ wsX9_marks := by decide +kernel
theorem w_X9_marks_1 : ∀ w ∈ u_ws RX9 TX9 18, w ∈ wsX9_marks := by decide +kernel
def f_X9_marks (d : z_D) (o0 : Nat) (x1 : Int32) (x2 : Int32) : Option (Int32 × z_D) := ((f_X9_latest d o0).bind fun v1 => ((f_X9_isOpen d o0).bind fun v2 => (if v2 = 0 then (some ((-1), d)) else ((f_X9_at v1 2).bind fun v3 => z_ald d (o0 + 1) 2656 v3 (fun v4 => (if v4 = 6 then (some ((-1), d)) else ((f_X9_isIn x2 0 4).bind fun v5 => (if v5 = 0 then (some ((-1), d)) else ((f_X9_at v1 2).bind fun v6 => z_ald d (o0 + 1) 2656 v6 (fun v7 => z_let (fun x_76 : Int32 => ((f_X9_at v1 1).bind fun v8 => z_ald d (o0 + 1) 2656 v8 (fun v9 => ((f_X9_isIn x1 x_76 (v9 - 1)).bind fun v10 => (if v10 = 0 then (some ((-1), d)) else ((f_X9_mark v1 v7 0).bind fun v11 => z_ast d (o0 + 1) 2656 v11 x1 (fun d12 => ((f_X9_mark v1 v7 1).bind fun v13 => z_ast d12 (o0 + 1) 2656 v13 x2 (fun d14 => ((f_X9_mark v1 v7 2).bind fun v15 => z_ast d14 (o0 + 1) 2656 v15 0 (fun d16 => ((f_X9_at v1 2).bind fun v17 => z_ald d16 (o0 + 1) 2656 v17 (fun v18 => z_ast d16 (o0 + 1) 2656 v17 (v18 + 1) (fun d19 => (some (v7, d19)))))))))))))))) (fun J76 => (if v7 = 0 then (J76 1) else ((f_X9_mark v1 (v7 - 1) 0).bind fun v20 => z_ald d (o0 + 1) 2656 v20 (fun v21 => (J76 (v21 + 1))))))))))))))))
set_option maxHeartbeats 4000000 in
set_option maxRecDepth 100000 in
theorem c_X9_marks {E : z_E} {l : Launch} {S : z_S} (d : z_D) (o0 : Nat) (h0 : A_Model S o0) (x1 : Int32) (x2 : Int32) : z_Sp E l yX9_marks Y_X9_marks (cvX S) [.ref (E.2.1 + o0), .int x1, .int x2] (S, d) (f_X9_marks d o0 x1 x2) := by
  refine z_entry (lv := [(0, .ref (E.2.1 + o0)), (1, .int x1), (2, .int x2)]) (by decide) rfl rfl (Nat.le_of_ble_eq_true rfl) rfl ?_
  unfold f_X9_marks
  refine r_aload_n 0 0 rfl rfl 1 rfl dX9_marks_0 ?_
  refine r_callV_I (c_X9_latest (E := E) (l := l) (S := S) d o0 h0) ok_X9_latest ⟨⟨(Nat.le_of_ble_eq_true rfl), (Nat.le_of_ble_eq_true rfl)⟩, (Nat.le_of_ble_eq_true rfl), (Nat.le_of_ble_eq_true rfl)⟩ (h0 0 (Nat.le_of_ble_eq_true rfl)) (Nat.le_of_ble_eq_true rfl) rfl rfl rfl (Nat.le_of_ble_eq_true rfl) gX9_marks_X9_latest rfl rfl 4 rfl dX9_marks_1 (fun v1 => ?_)
  refine r_istore_n 3 rfl [(3, .int v1), (0, .ref (E.2.1 + o0)), (1, .int x1), (2, .int x2)] (Nat.le_of_ble_eq_true rfl) rfl 5 rfl dX9_marks_4 ?_
  refine r_aload_n 0 1 rfl rfl 6 rfl dX9_marks_5 ?_
  refine r_callV_I (c_X9_isOpen (E := E) (l := l) (S := S) d o0 h0) ok_X9_isOpen ⟨⟨(Nat.le_of_ble_eq_true rfl), (Nat.le_of_ble_eq_true rfl)⟩, (Nat.le_of_ble_eq_true rfl), (Nat.le_of_ble_eq_true rfl)⟩ (h0 0 (Nat.le_of_ble_eq_true rfl)) (Nat.le_of_ble_eq_true rfl) rfl rfl rfl (Nat.le_of_ble_eq_true rfl) gX9_marks_X9_isOpen rfl rfl 9 rfl dX9_marks_6 (fun v2 => ?_)
  refine r_if_eq 36 12 rfl rfl dX9_marks_9 ?_ ?_
  · refine r_iconst (-1) rfl 37 rfl dX9_marks_36 ?_
    exact r_ireturn rfl rfl (Nat.le_of_ble_eq_true rfl) (Nat.le_of_ble_eq_true rfl) dX9_marks_37
  · refine r_aload_n 0 1 rfl rfl 13 rfl dX9_marks_12 ?_
    refine r_get (h0 0 (Nat.le_of_ble_eq_true rfl)) rfl (Nat.le_of_ble_eq_true rfl) rfl rfl w_X9_marks_1 1 (Nat.le_of_ble_eq_true rfl) rfl w_X9_marks_0 (.ref (E.2.1 + (o0 + 1))) rfl 16 rfl dX9_marks_13 ?_
    refine r_iload_n 3 0 rfl rfl 17 rfl dX9_marks_16 ?_
    refine r_iconst 2 rfl 18 rfl dX9_marks_17 ?_
    refine r_callS_I (c_X9_at (E := E) (l := l) (S := S) d v1 2) ok_X9_at ⟨⟨(Nat.le_of_ble_eq_true rfl), (Nat.le_of_ble_eq_true rfl)⟩, (Nat.le_of_ble_eq_true rfl), (Nat.le_of_ble_eq_true rfl)⟩ rfl (Nat.le_of_ble_eq_true rfl) gX9_marks_X9_at rfl rfl 21 rfl dX9_marks_18 (fun v3 => ?_)
    refine r_iald (h0 1 (Nat.le_of_ble_eq_true rfl)) rfl rfl 22 rfl dX9_marks_21 (fun v4 => ?_)
    refine r_bipush 6 rfl 24 rfl dX9_marks_22 ?_
    refine r_icmp_eq 36 27 rfl rfl dX9_marks_24 ?_ ?_
    · refine r_iconst (-1) rfl 37 rfl dX9_marks_36 ?_
      exact r_ireturn rfl rfl (Nat.le_of_ble_eq_true rfl) (Nat.le_of_ble_eq_true rfl) dX9_marks_37
    · refine r_iload_n 2 3 rfl rfl 28 rfl dX9_marks_27 ?_
      refine r_iconst 0 rfl 29 rfl dX9_marks_28 ?_
      refine r_iconst 4 rfl 30 rfl dX9_marks_29 ?_
      refine r_callS_I (c_X9_isIn (E := E) (l := l) (S := S) d x2 0 4) ok_X9_isIn ⟨⟨(Nat.le_of_ble_eq_true rfl), (Nat.le_of_ble_eq_true rfl)⟩, (Nat.le_of_ble_eq_true rfl), (Nat.le_of_ble_eq_true rfl)⟩ rfl (Nat.le_of_ble_eq_true rfl) gX9_marks_X9_isIn rfl rfl 33 rfl dX9_marks_30 (fun v5 => ?_)
      refine r_if_ne 38 36 rfl rfl dX9_marks_33 ?_ ?_
      · refine r_aload_n 0 1 rfl rfl 39 rfl dX9_marks_38 ?_
        refine r_get (h0 0 (Nat.le_of_ble_eq_true rfl)) rfl (Nat.le_of_ble_eq_true rfl) rfl rfl w_X9_marks_1 1 (Nat.le_of_ble_eq_true rfl) rfl w_X9_marks_0 (.ref (E.2.1 + (o0 + 1))) rfl 42 rfl dX9_marks_39 ?_
        refine r_iload_n 3 0 rfl rfl 43 rfl dX9_marks_42 ?_
        refine r_iconst 2 rfl 44 rfl dX9_marks_43 ?_
        refine r_callS_I (c_X9_at (E := E) (l := l) (S := S) d v1 2) ok_X9_at ⟨⟨(Nat.le_of_ble_eq_true rfl), (Nat.le_of_ble_eq_true rfl)⟩, (Nat.le_of_ble_eq_true rfl), (Nat.le_of_ble_eq_true rfl)⟩ rfl (Nat.le_of_ble_eq_true rfl) gX9_marks_X9_at rfl rfl 47 rfl dX9_marks_44 (fun v6 => ?_)
        refine r_iald (h0 1 (Nat.le_of_ble_eq_true rfl)) rfl rfl 48 rfl dX9_marks_47 (fun v7 => ?_)
        refine r_istore 4 [(4, .int v7), (3, .int v1), (0, .ref (E.2.1 + o0)), (1, .int x1), (2, .int x2)] (Nat.le_of_ble_eq_true rfl) rfl 50 rfl dX9_marks_48 ?_
        refine r_iload_n 1 3 rfl rfl 51 rfl dX9_marks_50 ?_
        refine r_iload 4 0 rfl 53 rfl dX9_marks_51 ?_
        refine r_let 76 (f := fun x_76 : Int32 => [(0, .ref (E.2.1 + o0)), (1, .int x1), (2, .int x2), (3, .int v1), (4, .int v7)]) (g := fun x_76 : Int32 => [.int x_76, .int x1]) (ww := fun x_76 : Int32 => (S, d)) (fun x_76 => ?_) (fun J76 hJ76 => ?_)
        · refine r_aload_n 0 0 rfl rfl 77 rfl dX9_marks_76 ?_
          refine r_get (h0 0 (Nat.le_of_ble_eq_true rfl)) rfl (Nat.le_of_ble_eq_true rfl) rfl rfl w_X9_marks_1 1 (Nat.le_of_ble_eq_true rfl) rfl w_X9_marks_0 (.ref (E.2.1 + (o0 + 1))) rfl 80 rfl dX9_marks_77 ?_
          refine r_iload_n 3 3 rfl rfl 81 rfl dX9_marks_80 ?_
          refine r_iconst 1 rfl 82 rfl dX9_marks_81 ?_
          refine r_callS_I (c_X9_at (E := E) (l := l) (S := S) d v1 1) ok_X9_at ⟨⟨(Nat.le_of_ble_eq_true rfl), (Nat.le_of_ble_eq_true rfl)⟩, (Nat.le_of_ble_eq_true rfl), (Nat.le_of_ble_eq_true rfl)⟩ rfl (Nat.le_of_ble_eq_true rfl) gX9_marks_X9_at rfl rfl 85 rfl dX9_marks_82 (fun v8 => ?_)
          refine r_iald (h0 1 (Nat.le_of_ble_eq_true rfl)) rfl rfl 86 rfl dX9_marks_85 (fun v9 => ?_)
          refine r_iconst 1 rfl 87 rfl dX9_marks_86 ?_
          refine r_isub 88 rfl dX9_marks_87 ?_
          refine r_callS_I (c_X9_isIn (E := E) (l := l) (S := S) d x1 x_76 (v9 - 1)) ok_X9_isIn ⟨⟨(Nat.le_of_ble_eq_true rfl), (Nat.le_of_ble_eq_true rfl)⟩, (Nat.le_of_ble_eq_true rfl), (Nat.le_of_ble_eq_true rfl)⟩ rfl (Nat.le_of_ble_eq_true rfl) gX9_marks_X9_isIn rfl rfl 91 rfl dX9_marks_88 (fun v10 => ?_)
          refine r_if_ne 96 94 rfl rfl dX9_marks_91 ?_ ?_
          · refine r_aload_n 0 0 rfl rfl 97 rfl dX9_marks_96 ?_
            refine r_get (h0 0 (Nat.le_of_ble_eq_true rfl)) rfl (Nat.le_of_ble_eq_true rfl) rfl rfl w_X9_marks_1 1 (Nat.le_of_ble_eq_true rfl) rfl w_X9_marks_0 (.ref (E.2.1 + (o0 + 1))) rfl 100 rfl dX9_marks_97 ?_
            refine r_iload_n 3 3 rfl rfl 101 rfl dX9_marks_100 ?_
            refine r_iload 4 4 rfl 103 rfl dX9_marks_101 ?_
            refine r_iconst 0 rfl 104 rfl dX9_marks_103 ?_
            refine r_callS_I (c_X9_mark (E := E) (l := l) (S := S) d v1 v7 0) ok_X9_mark ⟨⟨(Nat.le_of_ble_eq_true rfl), (Nat.le_of_ble_eq_true rfl)⟩, (Nat.le_of_ble_eq_true rfl), (Nat.le_of_ble_eq_true rfl)⟩ rfl (Nat.le_of_ble_eq_true rfl) gX9_marks_X9_mark rfl rfl 107 rfl dX9_marks_104 (fun v11 => ?_)
            refine r_iload_n 1 1 rfl rfl 108 rfl dX9_marks_107 ?_
            refine r_iast (h0 1 (Nat.le_of_ble_eq_true rfl)) rfl rfl 109 rfl dX9_marks_108 (fun d12 => ?_)
            refine r_aload_n 0 0 rfl rfl 110 rfl dX9_marks_109 ?_
            refine r_get (h0 0 (Nat.le_of_ble_eq_true rfl)) rfl (Nat.le_of_ble_eq_true rfl) rfl rfl w_X9_marks_1 1 (Nat.le_of_ble_eq_true rfl) rfl w_X9_marks_0 (.ref (E.2.1 + (o0 + 1))) rfl 113 rfl dX9_marks_110 ?_
            refine r_iload_n 3 3 rfl rfl 114 rfl dX9_marks_113 ?_
            refine r_iload 4 4 rfl 116 rfl dX9_marks_114 ?_
            refine r_iconst 1 rfl 117 rfl dX9_marks_116 ?_
            refine r_callS_I (c_X9_mark (E := E) (l := l) (S := S) d12 v1 v7 1) ok_X9_mark ⟨⟨(Nat.le_of_ble_eq_true rfl), (Nat.le_of_ble_eq_true rfl)⟩, (Nat.le_of_ble_eq_true rfl), (Nat.le_of_ble_eq_true rfl)⟩ rfl (Nat.le_of_ble_eq_true rfl) gX9_marks_X9_mark rfl rfl 120 rfl dX9_marks_117 (fun v13 => ?_)
            refine r_iload_n 2 2 rfl rfl 121 rfl dX9_marks_120 ?_
            refine r_iast (h0 1 (Nat.le_of_ble_eq_true rfl)) rfl rfl 122 rfl dX9_marks_121 (fun d14 => ?_)
            refine r_aload_n 0 0 rfl rfl 123 rfl dX9_marks_122 ?_
            refine r_get (h0 0 (Nat.le_of_ble_eq_true rfl)) rfl (Nat.le_of_ble_eq_true rfl) rfl rfl w_X9_marks_1 1 (Nat.le_of_ble_eq_true rfl) rfl w_X9_marks_0 (.ref (E.2.1 + (o0 + 1))) rfl 126 rfl dX9_marks_123 ?_
            refine r_iload_n 3 3 rfl rfl 127 rfl dX9_marks_126 ?_
            refine r_iload 4 4 rfl 129 rfl dX9_marks_127 ?_
            refine r_iconst 2 rfl 130 rfl dX9_marks_129 ?_
            refine r_callS_I (c_X9_mark (E := E) (l := l) (S := S) d14 v1 v7 2) ok_X9_mark ⟨⟨(Nat.le_of_ble_eq_true rfl), (Nat.le_of_ble_eq_true rfl)⟩, (Nat.le_of_ble_eq_true rfl), (Nat.le_of_ble_eq_true rfl)⟩ rfl (Nat.le_of_ble_eq_true rfl) gX9_marks_X9_mark rfl rfl 133 rfl dX9_marks_130 (fun v15 => ?_)
            refine r_iconst 0 rfl 134 rfl dX9_marks_133 ?_
            refine r_iast (h0 1 (Nat.le_of_ble_eq_true rfl)) rfl rfl 135 rfl dX9_marks_134 (fun d16 => ?_)
            refine r_aload_n 0 0 rfl rfl 136 rfl dX9_marks_135 ?_
            refine r_get (h0 0 (Nat.le_of_ble_eq_true rfl)) rfl (Nat.le_of_ble_eq_true rfl) rfl rfl w_X9_marks_1 1 (Nat.le_of_ble_eq_true rfl) rfl w_X9_marks_0 (.ref (E.2.1 + (o0 + 1))) rfl 139 rfl dX9_marks_136 ?_
            refine r_iload_n 3 3 rfl rfl 140 rfl dX9_marks_139 ?_
            refine r_iconst 2 rfl 141 rfl dX9_marks_140 ?_
            refine r_callS_I (c_X9_at (E := E) (l := l) (S := S) d16 v1 2) ok_X9_at ⟨⟨(Nat.le_of_ble_eq_true rfl), (Nat.le_of_ble_eq_true rfl)⟩, (Nat.le_of_ble_eq_true rfl), (Nat.le_of_ble_eq_true rfl)⟩ rfl (Nat.le_of_ble_eq_true rfl) gX9_marks_X9_at rfl rfl 144 rfl dX9_marks_141 (fun v17 => ?_)
            refine r_dup2 rfl rfl 145 rfl dX9_marks_144 ?_
            refine r_iald (h0 1 (Nat.le_of_ble_eq_true rfl)) rfl rfl 146 rfl dX9_marks_145 (fun v18 => ?_)
            refine r_iconst 1 rfl 147 rfl dX9_marks_146 ?_
            refine r_iadd 148 rfl dX9_marks_147 ?_
            refine r_iast (h0 1 (Nat.le_of_ble_eq_true rfl)) rfl rfl 149 rfl dX9_marks_148 (fun d19 => ?_)
            refine r_iload 4 4 rfl 151 rfl dX9_marks_149 ?_
            exact r_ireturn rfl rfl (Nat.le_of_ble_eq_true rfl) (Nat.le_of_ble_eq_true rfl) dX9_marks_151
          · refine r_iconst (-1) rfl 95 rfl dX9_marks_94 ?_
            exact r_ireturn rfl rfl (Nat.le_of_ble_eq_true rfl) (Nat.le_of_ble_eq_true rfl) dX9_marks_95
        refine r_if_ne 60 56 rfl rfl dX9_marks_53 ?_ ?_
        · refine r_aload_n 0 2 rfl rfl 61 rfl dX9_marks_60 ?_
          refine r_get (h0 0 (Nat.le_of_ble_eq_true rfl)) rfl (Nat.le_of_ble_eq_true rfl) rfl rfl w_X9_marks_1 1 (Nat.le_of_ble_eq_true rfl) rfl w_X9_marks_0 (.ref (E.2.1 + (o0 + 1))) rfl 64 rfl dX9_marks_61 ?_
          refine r_iload_n 3 1 rfl rfl 65 rfl dX9_marks_64 ?_
          refine r_iload 4 0 rfl 67 rfl dX9_marks_65 ?_
          refine r_iconst 1 rfl 68 rfl dX9_marks_67 ?_
          refine r_isub 69 rfl dX9_marks_68 ?_
          refine r_iconst 0 rfl 70 rfl dX9_marks_69 ?_
          refine r_callS_I (c_X9_mark (E := E) (l := l) (S := S) d v1 (v7 - 1) 0) ok_X9_mark ⟨⟨(Nat.le_of_ble_eq_true rfl), (Nat.le_of_ble_eq_true rfl)⟩, (Nat.le_of_ble_eq_true rfl), (Nat.le_of_ble_eq_true rfl)⟩ rfl (Nat.le_of_ble_eq_true rfl) gX9_marks_X9_mark rfl rfl 73 rfl dX9_marks_70 (fun v20 => ?_)
          refine r_iald (h0 1 (Nat.le_of_ble_eq_true rfl)) rfl rfl 74 rfl dX9_marks_73 (fun v21 => ?_)
          refine r_iconst 1 rfl 75 rfl dX9_marks_74 ?_
          refine r_iadd 76 rfl dX9_marks_75 ?_
          refine r_sub [2, 3, 4, 1, 0] rfl ?_
          exact hJ76 (v21 + 1)
        · refine r_iconst 1 rfl 57 rfl dX9_marks_56 ?_
          refine r_goto 76 rfl dX9_marks_57 ?_
          refine r_sub [2, 3, 4, 1, 0] rfl ?_
          exact hJ76 1
      · refine r_iconst (-1) rfl 37 rfl dX9_marks_36 ?_
        exact r_ireturn rfl rfl (Nat.le_of_ble_eq_true rfl) (Nat.le_of_ble_eq_true rfl) dX9_marks_37
def Y_X9_mark_ : z_Y := (RX9, cX9_mark_, 3, wsX9_mark_, (some .int), { frames := 2, cells := 0, slots := 0, locals := 46 }, 0, 0)
theorem ok_X9_mark_ : z_Ok yX9_mark_ Y_X9_mark_ 2 := ⟨⟨_, rfl⟩, rfl, rfl, rfl, by decide +kernel, by decide +kernel⟩
theorem w_X9_mark__0 : Cond.fieldLink RX9 39 "BunchTimesModel" "thrown" "I" ∈ wsX9_mark_ := by decide +kernel
theorem w_X9_mark__1 : ∀ w ∈ u_ws RX9 TX9 18, w ∈ wsX9_mark_ := by decide +kernel
def f_X9_mark_ (d : z_D) (o0 : Nat) (x1 : Int32) (x2 : Int32) : Option (Int32 × z_D) := z_put d o0 0 0 (fun d1 => z_bX (f_X9_marks d1 o0 x1 x2) (fun v2 d3 => (some (v2, d3))))
set_option maxHeartbeats 4000000 in
set_option maxRecDepth 100000 in
theorem c_X9_mark_ {E : z_E} {l : Launch} {S : z_S} (d : z_D) (o0 : Nat) (h0 : A_Model S o0) (x1 : Int32) (x2 : Int32) : z_Sp E l yX9_mark_ Y_X9_mark_ (cvX S) [.ref (E.2.1 + o0), .int x1, .int x2] (S, d) (f_X9_mark_ d o0 x1 x2) := by
  refine z_entry (lv := [(0, .ref (E.2.1 + o0)), (1, .int x1), (2, .int x2)]) (by decide) rfl rfl (Nat.le_of_ble_eq_true rfl) rfl ?_
  unfold f_X9_mark_
  refine r_aload_n 0 0 rfl rfl 1 rfl dX9_mark__0 ?_
  refine r_iconst 0 rfl 2 rfl dX9_mark__1 ?_
  refine r_put (h0 0 (Nat.le_of_ble_eq_true rfl)) rfl (Nat.le_of_ble_eq_true rfl) rfl rfl w_X9_mark__1 tyX9 tyX9_ok nmX9 (Nat.le_of_ble_eq_true rfl) rfl w_X9_mark__0 rfl rfl rfl rfl rfl 5 rfl dX9_mark__2 (fun d1 => ?_)
  refine r_aload_n 0 0 rfl rfl 6 rfl dX9_mark__5 ?_
  refine r_iload_n 1 1 rfl rfl 7 rfl dX9_mark__6 ?_
  refine r_iload_n 2 2 rfl rfl 8 rfl dX9_mark__7 ?_
  refine r_callV_X (c_X9_marks (E := E) (l := l) (S := S) d1 o0 h0 x1 x2) ok_X9_marks ⟨⟨(Nat.le_of_ble_eq_true rfl), (Nat.le_of_ble_eq_true rfl)⟩, (Nat.le_of_ble_eq_true rfl), (Nat.le_of_ble_eq_true rfl)⟩ (h0 0 (Nat.le_of_ble_eq_true rfl)) (Nat.le_of_ble_eq_true rfl) rfl rfl rfl (Nat.le_of_ble_eq_true rfl) gX9_mark__X9_marks rfl rfl 11 rfl dX9_mark__8 (fun v2 d3 => ?_)
  exact r_ireturn rfl rfl (Nat.le_of_ble_eq_true rfl) (Nat.le_of_ble_eq_true rfl) dX9_mark__11
def Y_X9_finishes_ : z_Y := (RX9, cX9_finishes_, 3, wsX9_finishes_, (some .boolean), { frames := 3, cells := 0, slots := 0, locals := 64 }, 0, 0)
theorem ok_X9_finishes_ : z_Ok yX9_finishes_ Y_X9_finishes_ 2 := ⟨⟨_, rfl⟩, rfl, rfl, rfl, by decide +kernel, by decide +kernel⟩
theorem w_X9_finishes__0 : Cond.constant RX9 97 999999 ∈ wsX9_finishes_ := by decide +kernel
theorem w_X9_finishes__1 : Cond.fieldLink RX9 7 "BunchTimesModel" "row" "[I" ∈ wsX9_finishes_ := by decide +kernel
theorem w_X9_finishes__2 : ∀ w ∈ u_ws RX9 TX9 18, w ∈ wsX9_finishes_ := by decide +kernel
def f_X9_finishes_ (d : z_D) (o0 : Nat) (x1 : Int32) (x2 : Int32) : Option (Int32 × z_D) := ((f_X9_isOpen d o0).bind fun v1 => (if v1 = 0 then (some (0, d)) else ((f_X9_isThere d o0 x1).bind fun v2 => (if v2 = 0 then (some (0, d)) else ((f_X9_isIn x2 1 999999).bind fun v3 => (if v3 = 0 then (some (0, d)) else ((f_X9_latest d o0).bind fun v4 => ((f_X9_hasFinish d o0 v4 x1).bind fun v5 => (if v5 = 0 then ((f_X9_latest d o0).bind fun v6 => ((f_X9_at_ v6 x1 0).bind fun v7 => z_ast d (o0 + 1) 2656 v7 x2 (fun d8 => (some (1, d8))))) else (some (0, d)))))))))))
set_option maxHeartbeats 4000000 in
set_option maxRecDepth 100000 in
theorem c_X9_finishes_ {E : z_E} {l : Launch} {S : z_S} (d : z_D) (o0 : Nat) (h0 : A_Model S o0) (x1 : Int32) (x2 : Int32) : z_Sp E l yX9_finishes_ Y_X9_finishes_ (cvX S) [.ref (E.2.1 + o0), .int x1, .int x2] (S, d) (f_X9_finishes_ d o0 x1 x2) := by
  refine z_entry (lv := [(0, .ref (E.2.1 + o0)), (1, .int x1), (2, .int x2)]) (by decide) rfl rfl (Nat.le_of_ble_eq_true rfl) rfl ?_
  unfold f_X9_finishes_
  refine r_aload_n 0 0 rfl rfl 1 rfl dX9_finishes__0 ?_
  refine r_callV_I (c_X9_isOpen (E := E) (l := l) (S := S) d o0 h0) ok_X9_isOpen ⟨⟨(Nat.le_of_ble_eq_true rfl), (Nat.le_of_ble_eq_true rfl)⟩, (Nat.le_of_ble_eq_true rfl), (Nat.le_of_ble_eq_true rfl)⟩ (h0 0 (Nat.le_of_ble_eq_true rfl)) (Nat.le_of_ble_eq_true rfl) rfl rfl rfl (Nat.le_of_ble_eq_true rfl) gX9_finishes__X9_isOpen rfl rfl 4 rfl dX9_finishes__1 (fun v1 => ?_)
  refine r_if_eq 37 7 rfl rfl dX9_finishes__4 ?_ ?_
  · refine r_iconst 0 rfl 38 rfl dX9_finishes__37 ?_
    exact r_zreturnc (by decide) rfl rfl (Nat.le_of_ble_eq_true rfl) (Nat.le_of_ble_eq_true rfl) dX9_finishes__38
  · refine r_aload_n 0 0 rfl rfl 8 rfl dX9_finishes__7 ?_
    refine r_iload_n 1 1 rfl rfl 9 rfl dX9_finishes__8 ?_
    refine r_callV_I (c_X9_isThere (E := E) (l := l) (S := S) d o0 h0 x1) ok_X9_isThere ⟨⟨(Nat.le_of_ble_eq_true rfl), (Nat.le_of_ble_eq_true rfl)⟩, (Nat.le_of_ble_eq_true rfl), (Nat.le_of_ble_eq_true rfl)⟩ (h0 0 (Nat.le_of_ble_eq_true rfl)) (Nat.le_of_ble_eq_true rfl) rfl rfl rfl (Nat.le_of_ble_eq_true rfl) gX9_finishes__X9_isThere rfl rfl 12 rfl dX9_finishes__9 (fun v2 => ?_)
    refine r_if_eq 37 15 rfl rfl dX9_finishes__12 ?_ ?_
    · refine r_iconst 0 rfl 38 rfl dX9_finishes__37 ?_
      exact r_zreturnc (by decide) rfl rfl (Nat.le_of_ble_eq_true rfl) (Nat.le_of_ble_eq_true rfl) dX9_finishes__38
    · refine r_iload_n 2 2 rfl rfl 16 rfl dX9_finishes__15 ?_
      refine r_iconst 1 rfl 17 rfl dX9_finishes__16 ?_
      refine r_ldc (v := 999999) w_X9_finishes__0 19 rfl dX9_finishes__17 ?_
      refine r_callS_I (c_X9_isIn (E := E) (l := l) (S := S) d x2 1 999999) ok_X9_isIn ⟨⟨(Nat.le_of_ble_eq_true rfl), (Nat.le_of_ble_eq_true rfl)⟩, (Nat.le_of_ble_eq_true rfl), (Nat.le_of_ble_eq_true rfl)⟩ rfl (Nat.le_of_ble_eq_true rfl) gX9_finishes__X9_isIn rfl rfl 22 rfl dX9_finishes__19 (fun v3 => ?_)
      refine r_if_eq 37 25 rfl rfl dX9_finishes__22 ?_ ?_
      · refine r_iconst 0 rfl 38 rfl dX9_finishes__37 ?_
        exact r_zreturnc (by decide) rfl rfl (Nat.le_of_ble_eq_true rfl) (Nat.le_of_ble_eq_true rfl) dX9_finishes__38
      · refine r_aload_n 0 0 rfl rfl 26 rfl dX9_finishes__25 ?_
        refine r_aload_n 0 0 rfl rfl 27 rfl dX9_finishes__26 ?_
        refine r_callV_I (c_X9_latest (E := E) (l := l) (S := S) d o0 h0) ok_X9_latest ⟨⟨(Nat.le_of_ble_eq_true rfl), (Nat.le_of_ble_eq_true rfl)⟩, (Nat.le_of_ble_eq_true rfl), (Nat.le_of_ble_eq_true rfl)⟩ (h0 0 (Nat.le_of_ble_eq_true rfl)) (Nat.le_of_ble_eq_true rfl) rfl rfl rfl (Nat.le_of_ble_eq_true rfl) gX9_finishes__X9_latest rfl rfl 30 rfl dX9_finishes__27 (fun v4 => ?_)
        refine r_iload_n 1 1 rfl rfl 31 rfl dX9_finishes__30 ?_
        refine r_callV_I (c_X9_hasFinish (E := E) (l := l) (S := S) d o0 h0 v4 x1) ok_X9_hasFinish ⟨⟨(Nat.le_of_ble_eq_true rfl), (Nat.le_of_ble_eq_true rfl)⟩, (Nat.le_of_ble_eq_true rfl), (Nat.le_of_ble_eq_true rfl)⟩ (h0 0 (Nat.le_of_ble_eq_true rfl)) (Nat.le_of_ble_eq_true rfl) rfl rfl rfl (Nat.le_of_ble_eq_true rfl) gX9_finishes__X9_hasFinish rfl rfl 34 rfl dX9_finishes__31 (fun v5 => ?_)
        refine r_if_eq 39 37 rfl rfl dX9_finishes__34 ?_ ?_
        · refine r_aload_n 0 0 rfl rfl 40 rfl dX9_finishes__39 ?_
          refine r_get (h0 0 (Nat.le_of_ble_eq_true rfl)) rfl (Nat.le_of_ble_eq_true rfl) rfl rfl w_X9_finishes__2 1 (Nat.le_of_ble_eq_true rfl) rfl w_X9_finishes__1 (.ref (E.2.1 + (o0 + 1))) rfl 43 rfl dX9_finishes__40 ?_
          refine r_aload_n 0 0 rfl rfl 44 rfl dX9_finishes__43 ?_
          refine r_callV_I (c_X9_latest (E := E) (l := l) (S := S) d o0 h0) ok_X9_latest ⟨⟨(Nat.le_of_ble_eq_true rfl), (Nat.le_of_ble_eq_true rfl)⟩, (Nat.le_of_ble_eq_true rfl), (Nat.le_of_ble_eq_true rfl)⟩ (h0 0 (Nat.le_of_ble_eq_true rfl)) (Nat.le_of_ble_eq_true rfl) rfl rfl rfl (Nat.le_of_ble_eq_true rfl) gX9_finishes__X9_latest rfl rfl 47 rfl dX9_finishes__44 (fun v6 => ?_)
          refine r_iload_n 1 1 rfl rfl 48 rfl dX9_finishes__47 ?_
          refine r_iconst 0 rfl 49 rfl dX9_finishes__48 ?_
          refine r_callS_I (c_X9_at_ (E := E) (l := l) (S := S) d v6 x1 0) ok_X9_at_ ⟨⟨(Nat.le_of_ble_eq_true rfl), (Nat.le_of_ble_eq_true rfl)⟩, (Nat.le_of_ble_eq_true rfl), (Nat.le_of_ble_eq_true rfl)⟩ rfl (Nat.le_of_ble_eq_true rfl) gX9_finishes__X9_at_ rfl rfl 52 rfl dX9_finishes__49 (fun v7 => ?_)
          refine r_iload_n 2 2 rfl rfl 53 rfl dX9_finishes__52 ?_
          refine r_iast (h0 1 (Nat.le_of_ble_eq_true rfl)) rfl rfl 54 rfl dX9_finishes__53 (fun d8 => ?_)
          refine r_iconst 1 rfl 55 rfl dX9_finishes__54 ?_
          exact r_zreturnc (by decide) rfl rfl (Nat.le_of_ble_eq_true rfl) (Nat.le_of_ble_eq_true rfl) dX9_finishes__55
        · refine r_iconst 0 rfl 38 rfl dX9_finishes__37 ?_
          exact r_zreturnc (by decide) rfl rfl (Nat.le_of_ble_eq_true rfl) (Nat.le_of_ble_eq_true rfl) dX9_finishes__38
def Y_X9_finish : z_Y := (RX9, cX9_finish, 3, wsX9_finish, (some .boolean), { frames := 4, cells := 0, slots := 0, locals := 86 }, 0, 0)
theorem ok_X9_finish : z_Ok yX9_finish Y_X9_finish 2 := ⟨⟨_, rfl⟩, rfl, rfl, rfl, by decide +kernel, by decide +kernel⟩
theorem w_X9_finish_0 : Cond.fieldLink RX9 39 "BunchTimesModel" "thrown" "I" ∈ wsX9_finish := by decide +kernel
theorem w_X9_finish_1 : ∀ w ∈ u_ws RX9 TX9 18, w ∈ wsX9_finish := by decide +kernel
def f_X9_finish (d : z_D) (o0 : Nat) (x1 : Int32) (x2 : Int32) : Option (Int32 × z_D) := z_put d o0 0 0 (fun d1 => z_bX (f_X9_finishes_ d1 o0 x1 x2) (fun v2 d3 => (z_bool v2 (some (v2, d3)))))
set_option maxHeartbeats 4000000 in
set_option maxRecDepth 100000 in
theorem c_X9_finish {E : z_E} {l : Launch} {S : z_S} (d : z_D) (o0 : Nat) (h0 : A_Model S o0) (x1 : Int32) (x2 : Int32) : z_Sp E l yX9_finish Y_X9_finish (cvX S) [.ref (E.2.1 + o0), .int x1, .int x2] (S, d) (f_X9_finish d o0 x1 x2) := by
  refine z_entry (lv := [(0, .ref (E.2.1 + o0)), (1, .int x1), (2, .int x2)]) (by decide) rfl rfl (Nat.le_of_ble_eq_true rfl) rfl ?_
  unfold f_X9_finish
  refine r_aload_n 0 0 rfl rfl 1 rfl dX9_finish_0 ?_
  refine r_iconst 0 rfl 2 rfl dX9_finish_1 ?_
  refine r_put (h0 0 (Nat.le_of_ble_eq_true rfl)) rfl (Nat.le_of_ble_eq_true rfl) rfl rfl w_X9_finish_1 tyX9 tyX9_ok nmX9 (Nat.le_of_ble_eq_true rfl) rfl w_X9_finish_0 rfl rfl rfl rfl rfl 5 rfl dX9_finish_2 (fun d1 => ?_)
  refine r_aload_n 0 0 rfl rfl 6 rfl dX9_finish_5 ?_
  refine r_iload_n 1 1 rfl rfl 7 rfl dX9_finish_6 ?_
  refine r_iload_n 2 2 rfl rfl 8 rfl dX9_finish_7 ?_
  refine r_callV_X (c_X9_finishes_ (E := E) (l := l) (S := S) d1 o0 h0 x1 x2) ok_X9_finishes_ ⟨⟨(Nat.le_of_ble_eq_true rfl), (Nat.le_of_ble_eq_true rfl)⟩, (Nat.le_of_ble_eq_true rfl), (Nat.le_of_ble_eq_true rfl)⟩ (h0 0 (Nat.le_of_ble_eq_true rfl)) (Nat.le_of_ble_eq_true rfl) rfl rfl rfl (Nat.le_of_ble_eq_true rfl) gX9_finish_X9_finishes_ rfl rfl 11 rfl dX9_finish_8 (fun v2 d3 => ?_)
  exact r_zreturn rfl rfl (Nat.le_of_ble_eq_true rfl) (Nat.le_of_ble_eq_true rfl) dX9_finish_11
def Y_X9_overs : z_Y := (RX9, cX9_overs, 6, wsX9_overs, (some .int), { frames := 3, cells := 0, slots := 0, locals := 64 }, 0, 0)
theorem ok_X9_overs : z_Ok yX9_overs Y_X9_overs 2 := ⟨⟨_, rfl⟩, rfl, rfl, rfl, by decide +kernel, by decide +kernel⟩
theorem w_X9_overs_0 : Cond.fieldLink RX9 7 "BunchTimesModel" "row" "[I" ∈ wsX9_overs := by decide +kernel
theorem w_X9_overs_1 : ∀ w ∈ u_ws RX9 TX9 18, w ∈ wsX9_overs := by decide +kernel
def f_X9_overs_L58_b (d : z_D) (o0 : Nat) (x1 : Int32) (x2 : Int32) (x3 : Int32) (x4 : Int32) (K : Unit → Option (Int32 × z_D)) (R : Int32 → Option (Int32 × z_D)) (x5 : Int32) : Option (Int32 × z_D) := (if x4 ≤ x5 then (K ()) else ((f_X9_mark x3 x1 (3 + x5)).bind fun v9 => z_ald d (o0 + 1) 2656 v9 (fun v10 => (if v10 = x2 then (some ((-1), d)) else (R (x5 + 1))))))
def f_X9_overs_L58 (d : z_D) (o0 : Nat) (x1 : Int32) (x2 : Int32) (x3 : Int32) (x4 : Int32) (K : Unit → Option (Int32 × z_D)) : Nat → Int32 → Option (Int32 × z_D)
  | 0 => fun _ => none
  | n + 1 => f_X9_overs_L58_b d o0 x1 x2 x3 x4 K (f_X9_overs_L58 d o0 x1 x2 x3 x4 K n)
set_option maxHeartbeats 4000000 in
set_option maxRecDepth 100000 in
theorem g_X9_overs_L58 {E : z_E} {l : Launch} {S : z_S} {d : z_D} {o0 : Nat} {x1 : Int32} {x2 : Int32} {x3 : Int32} {x4 : Int32} {K : Unit → Option (Int32 × z_D)} (h0 : A_Model S o0) (hK : ∀ y9 : Unit, z_G E l Y_X9_overs (cvX S) (K y9) 91 [(0, .ref (E.2.1 + o0)), (1, .int x1), (2, .int x2), (3, .int x3), (4, .int x4)] [] (S, d) 0 0) : ∀ (n : Nat) (x5 : Int32), z_G E l Y_X9_overs (cvX S) (f_X9_overs_L58 d o0 x1 x2 x3 x4 K n x5) 58 [(0, .ref (E.2.1 + o0)), (1, .int x1), (2, .int x2), (3, .int x3), (4, .int x4), (5, .int x5)] [] (S, d) 0 0 := by
  intro n
  induction n with
  | zero => intro _; exact r_none
  | succ n ih =>
    intro x5
    show z_G E l Y_X9_overs (cvX S) (f_X9_overs_L58_b d o0 x1 x2 x3 x4 K (f_X9_overs_L58 d o0 x1 x2 x3 x4 K n) x5) 58 [(0, .ref (E.2.1 + o0)), (1, .int x1), (2, .int x2), (3, .int x3), (4, .int x4), (5, .int x5)] [] (S, d) 0 0
    unfold f_X9_overs_L58_b
    refine r_iload 5 5 rfl 60 rfl dX9_overs_58 ?_
    refine r_iload 4 4 rfl 62 rfl dX9_overs_60 ?_
    refine r_icmp_ge 91 65 rfl rfl dX9_overs_62 ?_ ?_
    · refine r_sub [0, 1, 2, 3, 4] rfl ?_
      exact hK ()
    · refine r_aload_n 0 0 rfl rfl 66 rfl dX9_overs_65 ?_
      refine r_get (h0 0 (Nat.le_of_ble_eq_true rfl)) rfl (Nat.le_of_ble_eq_true rfl) rfl rfl w_X9_overs_1 1 (Nat.le_of_ble_eq_true rfl) rfl w_X9_overs_0 (.ref (E.2.1 + (o0 + 1))) rfl 69 rfl dX9_overs_66 ?_
      refine r_iload_n 3 3 rfl rfl 70 rfl dX9_overs_69 ?_
      refine r_iload_n 1 1 rfl rfl 71 rfl dX9_overs_70 ?_
      refine r_iconst 3 rfl 72 rfl dX9_overs_71 ?_
      refine r_iload 5 5 rfl 74 rfl dX9_overs_72 ?_
      refine r_iadd 75 rfl dX9_overs_74 ?_
      refine r_callS_I (c_X9_mark (E := E) (l := l) (S := S) d x3 x1 (3 + x5)) ok_X9_mark ⟨⟨(Nat.le_of_ble_eq_true rfl), (Nat.le_of_ble_eq_true rfl)⟩, (Nat.le_of_ble_eq_true rfl), (Nat.le_of_ble_eq_true rfl)⟩ rfl (Nat.le_of_ble_eq_true rfl) gX9_overs_X9_mark rfl rfl 78 rfl dX9_overs_75 (fun v9 => ?_)
      refine r_iald (h0 1 (Nat.le_of_ble_eq_true rfl)) rfl rfl 79 rfl dX9_overs_78 (fun v10 => ?_)
      refine r_iload_n 2 2 rfl rfl 80 rfl dX9_overs_79 ?_
      refine r_icmp_ne 85 83 rfl rfl dX9_overs_80 ?_ ?_
      · refine r_iinc (x5 + 1) 5 rfl rfl [(5, .int (x5 + 1)), (0, .ref (E.2.1 + o0)), (1, .int x1), (2, .int x2), (3, .int x3), (4, .int x4)] (Nat.le_of_ble_eq_true rfl) rfl 88 rfl dX9_overs_85 ?_
        refine r_goto 58 rfl dX9_overs_88 ?_
        refine r_sub [1, 2, 3, 4, 5, 0] rfl ?_
        exact ih (x5 + 1)
      · refine r_iconst (-1) rfl 84 rfl dX9_overs_83 ?_
        exact r_ireturn rfl rfl (Nat.le_of_ble_eq_true rfl) (Nat.le_of_ble_eq_true rfl) dX9_overs_84
def f_X9_overs (d : z_D) (o0 : Nat) (x1 : Int32) (x2 : Int32) : Option (Int32 × z_D) := ((f_X9_latest d o0).bind fun v1 => ((f_X9_isOpen d o0).bind fun v2 => (if v2 = 0 then (some ((-1), d)) else ((f_X9_at v1 2).bind fun v3 => z_ald d (o0 + 1) 2656 v3 (fun v4 => ((f_X9_isIn x1 0 (v4 - 1)).bind fun v5 => (if v5 = 0 then (some ((-1), d)) else ((f_X9_isThere d o0 x2).bind fun v6 => (if v6 = 0 then (some ((-1), d)) else ((f_X9_mark v1 x1 2).bind fun v7 => z_ald d (o0 + 1) 2656 v7 (fun v8 => (f_X9_overs_L58 d o0 x1 x2 v1 v8 (fun _ => ((f_X9_mark v1 x1 (3 + v8)).bind fun v11 => z_ast d (o0 + 1) 2656 v11 x2 (fun d12 => ((f_X9_mark v1 x1 2).bind fun v13 => z_ald d12 (o0 + 1) 2656 v13 (fun v14 => z_ast d12 (o0 + 1) 2656 v13 (v14 + 1) (fun d15 => (some ((v8 + 1), d15)))))))) z_N 0))))))))))))
set_option maxHeartbeats 4000000 in
set_option maxRecDepth 100000 in
theorem c_X9_overs {E : z_E} {l : Launch} {S : z_S} (d : z_D) (o0 : Nat) (h0 : A_Model S o0) (x1 : Int32) (x2 : Int32) : z_Sp E l yX9_overs Y_X9_overs (cvX S) [.ref (E.2.1 + o0), .int x1, .int x2] (S, d) (f_X9_overs d o0 x1 x2) := by
  refine z_entry (lv := [(0, .ref (E.2.1 + o0)), (1, .int x1), (2, .int x2)]) (by decide) rfl rfl (Nat.le_of_ble_eq_true rfl) rfl ?_
  unfold f_X9_overs
  refine r_aload_n 0 0 rfl rfl 1 rfl dX9_overs_0 ?_
  refine r_callV_I (c_X9_latest (E := E) (l := l) (S := S) d o0 h0) ok_X9_latest ⟨⟨(Nat.le_of_ble_eq_true rfl), (Nat.le_of_ble_eq_true rfl)⟩, (Nat.le_of_ble_eq_true rfl), (Nat.le_of_ble_eq_true rfl)⟩ (h0 0 (Nat.le_of_ble_eq_true rfl)) (Nat.le_of_ble_eq_true rfl) rfl rfl rfl (Nat.le_of_ble_eq_true rfl) gX9_overs_X9_latest rfl rfl 4 rfl dX9_overs_1 (fun v1 => ?_)
  refine r_istore_n 3 rfl [(3, .int v1), (0, .ref (E.2.1 + o0)), (1, .int x1), (2, .int x2)] (Nat.le_of_ble_eq_true rfl) rfl 5 rfl dX9_overs_4 ?_
  refine r_aload_n 0 1 rfl rfl 6 rfl dX9_overs_5 ?_
  refine r_callV_I (c_X9_isOpen (E := E) (l := l) (S := S) d o0 h0) ok_X9_isOpen ⟨⟨(Nat.le_of_ble_eq_true rfl), (Nat.le_of_ble_eq_true rfl)⟩, (Nat.le_of_ble_eq_true rfl), (Nat.le_of_ble_eq_true rfl)⟩ (h0 0 (Nat.le_of_ble_eq_true rfl)) (Nat.le_of_ble_eq_true rfl) rfl rfl rfl (Nat.le_of_ble_eq_true rfl) gX9_overs_X9_isOpen rfl rfl 9 rfl dX9_overs_6 (fun v2 => ?_)
  refine r_if_eq 40 12 rfl rfl dX9_overs_9 ?_ ?_
  · refine r_iconst (-1) rfl 41 rfl dX9_overs_40 ?_
    exact r_ireturn rfl rfl (Nat.le_of_ble_eq_true rfl) (Nat.le_of_ble_eq_true rfl) dX9_overs_41
  · refine r_iload_n 1 2 rfl rfl 13 rfl dX9_overs_12 ?_
    refine r_iconst 0 rfl 14 rfl dX9_overs_13 ?_
    refine r_aload_n 0 1 rfl rfl 15 rfl dX9_overs_14 ?_
    refine r_get (h0 0 (Nat.le_of_ble_eq_true rfl)) rfl (Nat.le_of_ble_eq_true rfl) rfl rfl w_X9_overs_1 1 (Nat.le_of_ble_eq_true rfl) rfl w_X9_overs_0 (.ref (E.2.1 + (o0 + 1))) rfl 18 rfl dX9_overs_15 ?_
    refine r_iload_n 3 0 rfl rfl 19 rfl dX9_overs_18 ?_
    refine r_iconst 2 rfl 20 rfl dX9_overs_19 ?_
    refine r_callS_I (c_X9_at (E := E) (l := l) (S := S) d v1 2) ok_X9_at ⟨⟨(Nat.le_of_ble_eq_true rfl), (Nat.le_of_ble_eq_true rfl)⟩, (Nat.le_of_ble_eq_true rfl), (Nat.le_of_ble_eq_true rfl)⟩ rfl (Nat.le_of_ble_eq_true rfl) gX9_overs_X9_at rfl rfl 23 rfl dX9_overs_20 (fun v3 => ?_)
    refine r_iald (h0 1 (Nat.le_of_ble_eq_true rfl)) rfl rfl 24 rfl dX9_overs_23 (fun v4 => ?_)
    refine r_iconst 1 rfl 25 rfl dX9_overs_24 ?_
    refine r_isub 26 rfl dX9_overs_25 ?_
    refine r_callS_I (c_X9_isIn (E := E) (l := l) (S := S) d x1 0 (v4 - 1)) ok_X9_isIn ⟨⟨(Nat.le_of_ble_eq_true rfl), (Nat.le_of_ble_eq_true rfl)⟩, (Nat.le_of_ble_eq_true rfl), (Nat.le_of_ble_eq_true rfl)⟩ rfl (Nat.le_of_ble_eq_true rfl) gX9_overs_X9_isIn rfl rfl 29 rfl dX9_overs_26 (fun v5 => ?_)
    refine r_if_eq 40 32 rfl rfl dX9_overs_29 ?_ ?_
    · refine r_iconst (-1) rfl 41 rfl dX9_overs_40 ?_
      exact r_ireturn rfl rfl (Nat.le_of_ble_eq_true rfl) (Nat.le_of_ble_eq_true rfl) dX9_overs_41
    · refine r_aload_n 0 1 rfl rfl 33 rfl dX9_overs_32 ?_
      refine r_iload_n 2 3 rfl rfl 34 rfl dX9_overs_33 ?_
      refine r_callV_I (c_X9_isThere (E := E) (l := l) (S := S) d o0 h0 x2) ok_X9_isThere ⟨⟨(Nat.le_of_ble_eq_true rfl), (Nat.le_of_ble_eq_true rfl)⟩, (Nat.le_of_ble_eq_true rfl), (Nat.le_of_ble_eq_true rfl)⟩ (h0 0 (Nat.le_of_ble_eq_true rfl)) (Nat.le_of_ble_eq_true rfl) rfl rfl rfl (Nat.le_of_ble_eq_true rfl) gX9_overs_X9_isThere rfl rfl 37 rfl dX9_overs_34 (fun v6 => ?_)
      refine r_if_ne 42 40 rfl rfl dX9_overs_37 ?_ ?_
      · refine r_aload_n 0 1 rfl rfl 43 rfl dX9_overs_42 ?_
        refine r_get (h0 0 (Nat.le_of_ble_eq_true rfl)) rfl (Nat.le_of_ble_eq_true rfl) rfl rfl w_X9_overs_1 1 (Nat.le_of_ble_eq_true rfl) rfl w_X9_overs_0 (.ref (E.2.1 + (o0 + 1))) rfl 46 rfl dX9_overs_43 ?_
        refine r_iload_n 3 0 rfl rfl 47 rfl dX9_overs_46 ?_
        refine r_iload_n 1 2 rfl rfl 48 rfl dX9_overs_47 ?_
        refine r_iconst 2 rfl 49 rfl dX9_overs_48 ?_
        refine r_callS_I (c_X9_mark (E := E) (l := l) (S := S) d v1 x1 2) ok_X9_mark ⟨⟨(Nat.le_of_ble_eq_true rfl), (Nat.le_of_ble_eq_true rfl)⟩, (Nat.le_of_ble_eq_true rfl), (Nat.le_of_ble_eq_true rfl)⟩ rfl (Nat.le_of_ble_eq_true rfl) gX9_overs_X9_mark rfl rfl 52 rfl dX9_overs_49 (fun v7 => ?_)
        refine r_iald (h0 1 (Nat.le_of_ble_eq_true rfl)) rfl rfl 53 rfl dX9_overs_52 (fun v8 => ?_)
        refine r_istore 4 [(4, .int v8), (3, .int v1), (0, .ref (E.2.1 + o0)), (1, .int x1), (2, .int x2)] (Nat.le_of_ble_eq_true rfl) rfl 55 rfl dX9_overs_53 ?_
        refine r_iconst 0 rfl 56 rfl dX9_overs_55 ?_
        refine r_istore 5 [(5, .int 0), (4, .int v8), (3, .int v1), (0, .ref (E.2.1 + o0)), (1, .int x1), (2, .int x2)] (Nat.le_of_ble_eq_true rfl) rfl 58 rfl dX9_overs_56 ?_
        refine r_sub [3, 4, 5, 2, 1, 0] rfl ?_
        refine g_X9_overs_L58 h0 (fun _ => ?_) z_N 0
        refine r_aload_n 0 0 rfl rfl 92 rfl dX9_overs_91 ?_
        refine r_get (h0 0 (Nat.le_of_ble_eq_true rfl)) rfl (Nat.le_of_ble_eq_true rfl) rfl rfl w_X9_overs_1 1 (Nat.le_of_ble_eq_true rfl) rfl w_X9_overs_0 (.ref (E.2.1 + (o0 + 1))) rfl 95 rfl dX9_overs_92 ?_
        refine r_iload_n 3 3 rfl rfl 96 rfl dX9_overs_95 ?_
        refine r_iload_n 1 1 rfl rfl 97 rfl dX9_overs_96 ?_
        refine r_iconst 3 rfl 98 rfl dX9_overs_97 ?_
        refine r_iload 4 4 rfl 100 rfl dX9_overs_98 ?_
        refine r_iadd 101 rfl dX9_overs_100 ?_
        refine r_callS_I (c_X9_mark (E := E) (l := l) (S := S) d v1 x1 (3 + v8)) ok_X9_mark ⟨⟨(Nat.le_of_ble_eq_true rfl), (Nat.le_of_ble_eq_true rfl)⟩, (Nat.le_of_ble_eq_true rfl), (Nat.le_of_ble_eq_true rfl)⟩ rfl (Nat.le_of_ble_eq_true rfl) gX9_overs_X9_mark rfl rfl 104 rfl dX9_overs_101 (fun v11 => ?_)
        refine r_iload_n 2 2 rfl rfl 105 rfl dX9_overs_104 ?_
        refine r_iast (h0 1 (Nat.le_of_ble_eq_true rfl)) rfl rfl 106 rfl dX9_overs_105 (fun d12 => ?_)
        refine r_aload_n 0 0 rfl rfl 107 rfl dX9_overs_106 ?_
        refine r_get (h0 0 (Nat.le_of_ble_eq_true rfl)) rfl (Nat.le_of_ble_eq_true rfl) rfl rfl w_X9_overs_1 1 (Nat.le_of_ble_eq_true rfl) rfl w_X9_overs_0 (.ref (E.2.1 + (o0 + 1))) rfl 110 rfl dX9_overs_107 ?_
        refine r_iload_n 3 3 rfl rfl 111 rfl dX9_overs_110 ?_
        refine r_iload_n 1 1 rfl rfl 112 rfl dX9_overs_111 ?_
        refine r_iconst 2 rfl 113 rfl dX9_overs_112 ?_
        refine r_callS_I (c_X9_mark (E := E) (l := l) (S := S) d12 v1 x1 2) ok_X9_mark ⟨⟨(Nat.le_of_ble_eq_true rfl), (Nat.le_of_ble_eq_true rfl)⟩, (Nat.le_of_ble_eq_true rfl), (Nat.le_of_ble_eq_true rfl)⟩ rfl (Nat.le_of_ble_eq_true rfl) gX9_overs_X9_mark rfl rfl 116 rfl dX9_overs_113 (fun v13 => ?_)
        refine r_dup2 rfl rfl 117 rfl dX9_overs_116 ?_
        refine r_iald (h0 1 (Nat.le_of_ble_eq_true rfl)) rfl rfl 118 rfl dX9_overs_117 (fun v14 => ?_)
        refine r_iconst 1 rfl 119 rfl dX9_overs_118 ?_
        refine r_iadd 120 rfl dX9_overs_119 ?_
        refine r_iast (h0 1 (Nat.le_of_ble_eq_true rfl)) rfl rfl 121 rfl dX9_overs_120 (fun d15 => ?_)
        refine r_iload 4 4 rfl 123 rfl dX9_overs_121 ?_
        refine r_iconst 1 rfl 124 rfl dX9_overs_123 ?_
        refine r_iadd 125 rfl dX9_overs_124 ?_
        exact r_ireturn rfl rfl (Nat.le_of_ble_eq_true rfl) (Nat.le_of_ble_eq_true rfl) dX9_overs_125
      · refine r_iconst (-1) rfl 41 rfl dX9_overs_40 ?_
        exact r_ireturn rfl rfl (Nat.le_of_ble_eq_true rfl) (Nat.le_of_ble_eq_true rfl) dX9_overs_41
