/-! 23.gen3: by gen/mk.py -/
def Y_X3_copyFrom : z_Y := (RX3, cX3_copyFrom, 3, wsX3_copyFrom, none, { frames := 3, cells := 0, slots := 0, locals := 90 }, 0, 0)
theorem ok_X3_copyFrom : z_Ok yX3_copyFrom Y_X3_copyFrom 1 := ⟨⟨_, rfl⟩, rfl, rfl, rfl, by decide +kernel, by decide +kernel⟩
theorem w_X3_copyFrom_0 : Cond.fieldLink RX3 36 "BunchTimes$Race" "teams" "I" ∈ wsX3_copyFrom := by decide +kernel
theorem w_X3_copyFrom_1 : ∀ w ∈ u_ws RX3 TX3 10, w ∈ wsX3_copyFrom := by decide +kernel
theorem w_X3_copyFrom_2 : Cond.fieldLink RX3 39 "BunchTimes$Race" "riders" "I" ∈ wsX3_copyFrom := by decide +kernel
theorem w_X3_copyFrom_3 : Cond.fieldLink RX3 42 "BunchTimes$Race" "stages" "I" ∈ wsX3_copyFrom := by decide +kernel
theorem w_X3_copyFrom_4 : Cond.fieldLink RX3 45 "BunchTimes$Race" "open" "Z" ∈ wsX3_copyFrom := by decide +kernel
theorem w_X3_copyFrom_5 : Cond.fieldLink RX3 9 "BunchTimes$Race" "gap" "I" ∈ wsX3_copyFrom := by decide +kernel
theorem w_X3_copyFrom_6 : Cond.fieldLink RX3 15 "BunchTimes$Race" "zone" "I" ∈ wsX3_copyFrom := by decide +kernel
theorem w_X3_copyFrom_7 : Cond.fieldLink RX3 18 "BunchTimes$Race" "teamOf" "[I" ∈ wsX3_copyFrom := by decide +kernel
theorem w_X3_copyFrom_8 : Cond.methodLink RX3 49 arraycopyName ∈ wsX3_copyFrom := by decide +kernel
theorem w_X3_copyFrom_9 : Cond.native arraycopyName ∈ wsX3_copyFrom := by decide +kernel
theorem w_X3_copyFrom_10 : Cond.static arraycopyName ∈ wsX3_copyFrom := by decide +kernel
theorem w_X3_copyFrom_11 : Cond.initialized "java/lang/System" ∈ wsX3_copyFrom := by decide +kernel
theorem w_X3_copyFrom_12 : Cond.fieldLink RX3 22 "BunchTimes$Race" "age" "[I" ∈ wsX3_copyFrom := by decide +kernel
theorem w_X3_copyFrom_13 : Cond.fieldLink RX3 25 "BunchTimes$Race" "in" "[Z" ∈ wsX3_copyFrom := by decide +kernel
theorem w_X3_copyFrom_14 : Cond.fieldLink RX3 31 "BunchTimes$Race" "all" "[LBunchTimes$Stage;" ∈ wsX3_copyFrom := by decide +kernel
theorem w_X3_copyFrom_15 : Cond.initialized RX4 ∈ wsX3_copyFrom := by decide +kernel
theorem w_X3_copyFrom_16 : Cond.instanceMethod yX4_copyFrom ∈ wsX3_copyFrom := by decide +kernel
theorem w_X3_copyFrom_17 : Cond.selects RX4 yX4_copyFrom yX4_copyFrom ∈ wsX3_copyFrom := by decide +kernel
def f_X3_copyFrom_L95_b (o0 : Nat) (o1 : Nat) (K : z_D → Option z_D) (R : Int32 → z_D → Option z_D) (x2 : Int32) (d : z_D) : Option z_D := (if (d o0 2) ≤ x2 then (K d) else z_aald 8 x2 (fun j10 => z_aald 8 x2 (fun j11 => ((f_X4_copyFrom d (o0 + 5 + 21 * j10) (o1 + 5 + 21 * j11)).bind fun d12 => (R (x2 + 1) d12)))))
def f_X3_copyFrom_L95 (o0 : Nat) (o1 : Nat) (K : z_D → Option z_D) : Nat → Int32 → z_D → Option z_D
  | 0 => fun _ _ => none
  | n + 1 => f_X3_copyFrom_L95_b o0 o1 K (f_X3_copyFrom_L95 o0 o1 K n)
set_option maxHeartbeats 4000000 in
set_option maxRecDepth 100000 in
theorem g_X3_copyFrom_L95 {E : z_E} {l : Launch} {S : z_S} {o0 : Nat} {o1 : Nat} {K : z_D → Option z_D} (h0 : A_Race S o0) (h1 : A_Race S o1) (hK : ∀ (d9 : z_D), z_G E l Y_X3_copyFrom (cvV S) (K d9) 124 [] [] (S, d9) 0 0) : ∀ (n : Nat) (x2 : Int32) (d : z_D), z_G E l Y_X3_copyFrom (cvV S) (f_X3_copyFrom_L95 o0 o1 K n x2 d) 95 [(0, .ref (E.2.1 + o0)), (1, .ref (E.2.1 + o1)), (2, .int x2)] [] (S, d) 0 0 := by
  intro n
  induction n with
  | zero => intro _ _; exact r_none
  | succ n ih =>
    intro x2 d
    show z_G E l Y_X3_copyFrom (cvV S) (f_X3_copyFrom_L95_b o0 o1 K (f_X3_copyFrom_L95 o0 o1 K n) x2 d) 95 [(0, .ref (E.2.1 + o0)), (1, .ref (E.2.1 + o1)), (2, .int x2)] [] (S, d) 0 0
    unfold f_X3_copyFrom_L95_b
    refine r_iload_n 2 2 rfl rfl 96 rfl dX3_copyFrom_95 ?_
    refine r_aload_n 0 0 rfl rfl 97 rfl dX3_copyFrom_96 ?_
    refine r_get (h0.1 0 (Nat.le_of_ble_eq_true rfl)) rfl (Nat.le_of_ble_eq_true rfl) rfl rfl w_X3_copyFrom_1 2 (Nat.le_of_ble_eq_true rfl) rfl w_X3_copyFrom_3 (.int (d o0 2)) rfl 100 rfl dX3_copyFrom_97 ?_
    refine r_icmp_ge 124 103 rfl rfl dX3_copyFrom_100 ?_ ?_
    · refine r_sub [] rfl ?_
      exact hK d
    · refine r_aload_n 0 0 rfl rfl 104 rfl dX3_copyFrom_103 ?_
      refine r_get (h0.1 0 (Nat.le_of_ble_eq_true rfl)) rfl (Nat.le_of_ble_eq_true rfl) rfl rfl w_X3_copyFrom_1 9 (Nat.le_of_ble_eq_true rfl) rfl w_X3_copyFrom_14 (.ref (E.2.1 + (o0 + 4))) rfl 107 rfl dX3_copyFrom_104 ?_
      refine r_iload_n 2 2 rfl rfl 108 rfl dX3_copyFrom_107 ?_
      refine r_aald (h0.1 4 (Nat.le_of_ble_eq_true rfl)) rfl rfl (fun _ h9 => if_pos h9) 109 rfl dX3_copyFrom_108 (fun j10 hj10 => ?_)
      refine r_aload_n 1 1 rfl rfl 110 rfl dX3_copyFrom_109 ?_
      refine r_get (h1.1 0 (Nat.le_of_ble_eq_true rfl)) rfl (Nat.le_of_ble_eq_true rfl) rfl rfl w_X3_copyFrom_1 9 (Nat.le_of_ble_eq_true rfl) rfl w_X3_copyFrom_14 (.ref (E.2.1 + (o1 + 4))) rfl 113 rfl dX3_copyFrom_110 ?_
      refine r_iload_n 2 2 rfl rfl 114 rfl dX3_copyFrom_113 ?_
      refine r_aald (h1.1 4 (Nat.le_of_ble_eq_true rfl)) rfl rfl (fun _ h9 => if_pos h9) 115 rfl dX3_copyFrom_114 (fun j11 hj11 => ?_)
      refine r_callVN_V (c_X4_copyFrom (E := E) (l := l) (S := S) d (o0 + 5 + 21 * j10) (h0.2 j10 hj10) (o1 + 5 + 21 * j11) (h1.2 j11 hj11)) ok_X4_copyFrom ⟨⟨(Nat.le_of_ble_eq_true rfl), (Nat.le_of_ble_eq_true rfl)⟩, (Nat.le_of_ble_eq_true rfl), (Nat.le_of_ble_eq_true rfl)⟩ ((h0.2 j10 hj10) 0 (Nat.le_of_ble_eq_true rfl)) (Nat.le_of_ble_eq_true rfl) rfl rfl rfl (Nat.le_of_ble_eq_true rfl) 8 rfl gX3_copyFrom_X4_copyFrom_n55 w_X3_copyFrom_15 w_X3_copyFrom_16 w_X3_copyFrom_17 rfl rfl 118 rfl dX3_copyFrom_115 (fun d12 => ?_)
      refine r_iinc (x2 + 1) 2 rfl rfl [(2, .int (x2 + 1)), (0, .ref (E.2.1 + o0)), (1, .ref (E.2.1 + o1))] (Nat.le_of_ble_eq_true rfl) rfl 121 rfl dX3_copyFrom_118 ?_
      refine r_goto 95 rfl dX3_copyFrom_121 ?_
      refine r_sub [1, 2, 0] rfl ?_
      exact ih (x2 + 1) d12
def f_X3_copyFrom (d : z_D) (o0 : Nat) (o1 : Nat) : Option z_D := z_put d o0 0 (d o1 0) (fun d1 => z_put d1 o0 1 (d1 o1 1) (fun d2 => z_put d2 o0 2 (d2 o1 2) (fun d3 => z_putz d3 o0 3 (d3 o1 3) (fun d4 => z_put d4 o0 4 (d4 o1 4) (fun d5 => z_put d5 o0 5 (d5 o1 5) (fun d6 => z_cpy d6 (o1 + 1) (o0 + 1) 16 (fun d7 => z_cpy d7 (o1 + 2) (o0 + 2) 16 (fun d8 => z_cpyz d8 (o1 + 3) (o0 + 3) 16 (fun d9 => (f_X3_copyFrom_L95 o0 o1 (fun d13 => (some d13)) z_N 0 d9))))))))))
set_option maxHeartbeats 4000000 in
set_option maxRecDepth 100000 in
theorem c_X3_copyFrom {E : z_E} {l : Launch} {S : z_S} (d : z_D) (o0 : Nat) (h0 : A_Race S o0) (o1 : Nat) (h1 : A_Race S o1) : z_Sp E l yX3_copyFrom Y_X3_copyFrom (cvV S) [.ref (E.2.1 + o0), .ref (E.2.1 + o1)] (S, d) (f_X3_copyFrom d o0 o1) := by
  refine z_entry (lv := [(0, .ref (E.2.1 + o0)), (1, .ref (E.2.1 + o1))]) (by decide) rfl rfl (Nat.le_of_ble_eq_true rfl) rfl ?_
  unfold f_X3_copyFrom
  refine r_aload_n 0 0 rfl rfl 1 rfl dX3_copyFrom_0 ?_
  refine r_aload_n 1 1 rfl rfl 2 rfl dX3_copyFrom_1 ?_
  refine r_get (h1.1 0 (Nat.le_of_ble_eq_true rfl)) rfl (Nat.le_of_ble_eq_true rfl) rfl rfl w_X3_copyFrom_1 0 (Nat.le_of_ble_eq_true rfl) rfl w_X3_copyFrom_0 (.int (d o1 0)) rfl 5 rfl dX3_copyFrom_2 ?_
  refine r_put (h0.1 0 (Nat.le_of_ble_eq_true rfl)) rfl (Nat.le_of_ble_eq_true rfl) rfl rfl w_X3_copyFrom_1 tyX3 tyX3_ok nmX3 (Nat.le_of_ble_eq_true rfl) rfl w_X3_copyFrom_0 rfl rfl rfl rfl rfl 8 rfl dX3_copyFrom_5 (fun d1 => ?_)
  refine r_aload_n 0 0 rfl rfl 9 rfl dX3_copyFrom_8 ?_
  refine r_aload_n 1 1 rfl rfl 10 rfl dX3_copyFrom_9 ?_
  refine r_get (h1.1 0 (Nat.le_of_ble_eq_true rfl)) rfl (Nat.le_of_ble_eq_true rfl) rfl rfl w_X3_copyFrom_1 1 (Nat.le_of_ble_eq_true rfl) rfl w_X3_copyFrom_2 (.int (d1 o1 1)) rfl 13 rfl dX3_copyFrom_10 ?_
  refine r_put (h0.1 0 (Nat.le_of_ble_eq_true rfl)) rfl (Nat.le_of_ble_eq_true rfl) rfl rfl w_X3_copyFrom_1 tyX3 tyX3_ok nmX3 (Nat.le_of_ble_eq_true rfl) rfl w_X3_copyFrom_2 rfl rfl rfl rfl rfl 16 rfl dX3_copyFrom_13 (fun d2 => ?_)
  refine r_aload_n 0 0 rfl rfl 17 rfl dX3_copyFrom_16 ?_
  refine r_aload_n 1 1 rfl rfl 18 rfl dX3_copyFrom_17 ?_
  refine r_get (h1.1 0 (Nat.le_of_ble_eq_true rfl)) rfl (Nat.le_of_ble_eq_true rfl) rfl rfl w_X3_copyFrom_1 2 (Nat.le_of_ble_eq_true rfl) rfl w_X3_copyFrom_3 (.int (d2 o1 2)) rfl 21 rfl dX3_copyFrom_18 ?_
  refine r_put (h0.1 0 (Nat.le_of_ble_eq_true rfl)) rfl (Nat.le_of_ble_eq_true rfl) rfl rfl w_X3_copyFrom_1 tyX3 tyX3_ok nmX3 (Nat.le_of_ble_eq_true rfl) rfl w_X3_copyFrom_3 rfl rfl rfl rfl rfl 24 rfl dX3_copyFrom_21 (fun d3 => ?_)
  refine r_aload_n 0 0 rfl rfl 25 rfl dX3_copyFrom_24 ?_
  refine r_aload_n 1 1 rfl rfl 26 rfl dX3_copyFrom_25 ?_
  refine r_get (h1.1 0 (Nat.le_of_ble_eq_true rfl)) rfl (Nat.le_of_ble_eq_true rfl) rfl rfl w_X3_copyFrom_1 3 (Nat.le_of_ble_eq_true rfl) rfl w_X3_copyFrom_4 (.int (d3 o1 3)) rfl 29 rfl dX3_copyFrom_26 ?_
  refine r_putz (h0.1 0 (Nat.le_of_ble_eq_true rfl)) rfl (Nat.le_of_ble_eq_true rfl) rfl rfl w_X3_copyFrom_1 tyX3 tyX3_ok nmX3 (Nat.le_of_ble_eq_true rfl) rfl w_X3_copyFrom_4 rfl rfl rfl 32 rfl dX3_copyFrom_29 (fun d4 => ?_)
  refine r_aload_n 0 0 rfl rfl 33 rfl dX3_copyFrom_32 ?_
  refine r_aload_n 1 1 rfl rfl 34 rfl dX3_copyFrom_33 ?_
  refine r_get (h1.1 0 (Nat.le_of_ble_eq_true rfl)) rfl (Nat.le_of_ble_eq_true rfl) rfl rfl w_X3_copyFrom_1 4 (Nat.le_of_ble_eq_true rfl) rfl w_X3_copyFrom_5 (.int (d4 o1 4)) rfl 37 rfl dX3_copyFrom_34 ?_
  refine r_put (h0.1 0 (Nat.le_of_ble_eq_true rfl)) rfl (Nat.le_of_ble_eq_true rfl) rfl rfl w_X3_copyFrom_1 tyX3 tyX3_ok nmX3 (Nat.le_of_ble_eq_true rfl) rfl w_X3_copyFrom_5 rfl rfl rfl rfl rfl 40 rfl dX3_copyFrom_37 (fun d5 => ?_)
  refine r_aload_n 0 0 rfl rfl 41 rfl dX3_copyFrom_40 ?_
  refine r_aload_n 1 1 rfl rfl 42 rfl dX3_copyFrom_41 ?_
  refine r_get (h1.1 0 (Nat.le_of_ble_eq_true rfl)) rfl (Nat.le_of_ble_eq_true rfl) rfl rfl w_X3_copyFrom_1 5 (Nat.le_of_ble_eq_true rfl) rfl w_X3_copyFrom_6 (.int (d5 o1 5)) rfl 45 rfl dX3_copyFrom_42 ?_
  refine r_put (h0.1 0 (Nat.le_of_ble_eq_true rfl)) rfl (Nat.le_of_ble_eq_true rfl) rfl rfl w_X3_copyFrom_1 tyX3 tyX3_ok nmX3 (Nat.le_of_ble_eq_true rfl) rfl w_X3_copyFrom_6 rfl rfl rfl rfl rfl 48 rfl dX3_copyFrom_45 (fun d6 => ?_)
  refine r_aload_n 1 1 rfl rfl 49 rfl dX3_copyFrom_48 ?_
  refine r_get (h1.1 0 (Nat.le_of_ble_eq_true rfl)) rfl (Nat.le_of_ble_eq_true rfl) rfl rfl w_X3_copyFrom_1 6 (Nat.le_of_ble_eq_true rfl) rfl w_X3_copyFrom_7 (.ref (E.2.1 + (o1 + 1))) rfl 52 rfl dX3_copyFrom_49 ?_
  refine r_iconst 0 rfl 53 rfl dX3_copyFrom_52 ?_
  refine r_aload_n 0 0 rfl rfl 54 rfl dX3_copyFrom_53 ?_
  refine r_get (h0.1 0 (Nat.le_of_ble_eq_true rfl)) rfl (Nat.le_of_ble_eq_true rfl) rfl rfl w_X3_copyFrom_1 6 (Nat.le_of_ble_eq_true rfl) rfl w_X3_copyFrom_7 (.ref (E.2.1 + (o0 + 1))) rfl 57 rfl dX3_copyFrom_54 ?_
  refine r_iconst 0 rfl 58 rfl dX3_copyFrom_57 ?_
  refine r_bipush 16 rfl 60 rfl dX3_copyFrom_58 ?_
  refine r_cpy w_X3_copyFrom_8 w_X3_copyFrom_9 w_X3_copyFrom_10 w_X3_copyFrom_11 (h1.1 1 (Nat.le_of_ble_eq_true rfl)) (h0.1 1 (Nat.le_of_ble_eq_true rfl)) rfl rfl (by decide) rfl (Nat.le_of_ble_eq_true rfl) (Nat.le_of_ble_eq_true rfl) (Nat.le_of_ble_eq_true rfl) (Nat.le_of_ble_eq_true rfl) 63 rfl dX3_copyFrom_60 (fun d7 => ?_)
  refine r_aload_n 1 1 rfl rfl 64 rfl dX3_copyFrom_63 ?_
  refine r_get (h1.1 0 (Nat.le_of_ble_eq_true rfl)) rfl (Nat.le_of_ble_eq_true rfl) rfl rfl w_X3_copyFrom_1 7 (Nat.le_of_ble_eq_true rfl) rfl w_X3_copyFrom_12 (.ref (E.2.1 + (o1 + 2))) rfl 67 rfl dX3_copyFrom_64 ?_
  refine r_iconst 0 rfl 68 rfl dX3_copyFrom_67 ?_
  refine r_aload_n 0 0 rfl rfl 69 rfl dX3_copyFrom_68 ?_
  refine r_get (h0.1 0 (Nat.le_of_ble_eq_true rfl)) rfl (Nat.le_of_ble_eq_true rfl) rfl rfl w_X3_copyFrom_1 7 (Nat.le_of_ble_eq_true rfl) rfl w_X3_copyFrom_12 (.ref (E.2.1 + (o0 + 2))) rfl 72 rfl dX3_copyFrom_69 ?_
  refine r_iconst 0 rfl 73 rfl dX3_copyFrom_72 ?_
  refine r_bipush 16 rfl 75 rfl dX3_copyFrom_73 ?_
  refine r_cpy w_X3_copyFrom_8 w_X3_copyFrom_9 w_X3_copyFrom_10 w_X3_copyFrom_11 (h1.1 2 (Nat.le_of_ble_eq_true rfl)) (h0.1 2 (Nat.le_of_ble_eq_true rfl)) rfl rfl (by decide) rfl (Nat.le_of_ble_eq_true rfl) (Nat.le_of_ble_eq_true rfl) (Nat.le_of_ble_eq_true rfl) (Nat.le_of_ble_eq_true rfl) 78 rfl dX3_copyFrom_75 (fun d8 => ?_)
  refine r_aload_n 1 1 rfl rfl 79 rfl dX3_copyFrom_78 ?_
  refine r_get (h1.1 0 (Nat.le_of_ble_eq_true rfl)) rfl (Nat.le_of_ble_eq_true rfl) rfl rfl w_X3_copyFrom_1 8 (Nat.le_of_ble_eq_true rfl) rfl w_X3_copyFrom_13 (.ref (E.2.1 + (o1 + 3))) rfl 82 rfl dX3_copyFrom_79 ?_
  refine r_iconst 0 rfl 83 rfl dX3_copyFrom_82 ?_
  refine r_aload_n 0 0 rfl rfl 84 rfl dX3_copyFrom_83 ?_
  refine r_get (h0.1 0 (Nat.le_of_ble_eq_true rfl)) rfl (Nat.le_of_ble_eq_true rfl) rfl rfl w_X3_copyFrom_1 8 (Nat.le_of_ble_eq_true rfl) rfl w_X3_copyFrom_13 (.ref (E.2.1 + (o0 + 3))) rfl 87 rfl dX3_copyFrom_84 ?_
  refine r_iconst 0 rfl 88 rfl dX3_copyFrom_87 ?_
  refine r_bipush 16 rfl 90 rfl dX3_copyFrom_88 ?_
  refine r_cpyz w_X3_copyFrom_8 w_X3_copyFrom_9 w_X3_copyFrom_10 w_X3_copyFrom_11 (h1.1 3 (Nat.le_of_ble_eq_true rfl)) (h0.1 3 (Nat.le_of_ble_eq_true rfl)) rfl rfl (by decide) rfl (Nat.le_of_ble_eq_true rfl) (Nat.le_of_ble_eq_true rfl) (Nat.le_of_ble_eq_true rfl) (Nat.le_of_ble_eq_true rfl) 93 rfl dX3_copyFrom_90 (fun d9 => ?_)
  refine r_iconst 0 rfl 94 rfl dX3_copyFrom_93 ?_
  refine r_istore_n 2 rfl [(2, .int 0), (0, .ref (E.2.1 + o0)), (1, .ref (E.2.1 + o1))] (Nat.le_of_ble_eq_true rfl) rfl 95 rfl dX3_copyFrom_94 ?_
  refine r_sub [1, 2, 0] rfl ?_
  refine g_X3_copyFrom_L95 h0 h1 (fun d13 => ?_) z_N 0 d9
  exact r_return rfl rfl (Nat.le_of_ble_eq_true rfl) (Nat.le_of_ble_eq_true rfl) dX3_copyFrom_124
def Y_X3_addTeam : z_Y := (RX3, cX3_addTeam, 1, wsX3_addTeam, (some .int), { frames := 0, cells := 0, slots := 0, locals := 0 }, 0, 0)
theorem ok_X3_addTeam : z_Ok yX3_addTeam Y_X3_addTeam 0 := ⟨⟨_, rfl⟩, rfl, rfl, rfl, by decide +kernel, by decide +kernel⟩
theorem w_X3_addTeam_0 : Cond.fieldLink RX3 36 "BunchTimes$Race" "teams" "I" ∈ wsX3_addTeam := by decide +kernel
theorem w_X3_addTeam_1 : ∀ w ∈ u_ws RX3 TX3 10, w ∈ wsX3_addTeam := by decide +kernel
def f_X3_addTeam (d : z_D) (o0 : Nat) : Option (Int32 × z_D) := (if (d o0 0) < 6 then z_put d o0 0 ((d o0 0) + 1) (fun d1 => (some (((d1 o0 0) - 1), d1))) else (some ((-1), d)))
set_option maxHeartbeats 4000000 in
set_option maxRecDepth 100000 in
theorem c_X3_addTeam {E : z_E} {l : Launch} {S : z_S} (d : z_D) (o0 : Nat) (h0 : A_Race S o0) : z_Sp E l yX3_addTeam Y_X3_addTeam (cvX S) [.ref (E.2.1 + o0)] (S, d) (f_X3_addTeam d o0) := by
  refine z_entry (lv := [(0, .ref (E.2.1 + o0))]) (by decide) rfl rfl (Nat.le_of_ble_eq_true rfl) rfl ?_
  unfold f_X3_addTeam
  refine r_aload_n 0 0 rfl rfl 1 rfl dX3_addTeam_0 ?_
  refine r_get (h0.1 0 (Nat.le_of_ble_eq_true rfl)) rfl (Nat.le_of_ble_eq_true rfl) rfl rfl w_X3_addTeam_1 0 (Nat.le_of_ble_eq_true rfl) rfl w_X3_addTeam_0 (.int (d o0 0)) rfl 4 rfl dX3_addTeam_1 ?_
  refine r_bipush 6 rfl 6 rfl dX3_addTeam_4 ?_
  refine r_icmp_lt 11 9 rfl rfl dX3_addTeam_6 ?_ ?_
  · refine r_aload_n 0 0 rfl rfl 12 rfl dX3_addTeam_11 ?_
    refine r_dup rfl 13 rfl dX3_addTeam_12 ?_
    refine r_get (h0.1 0 (Nat.le_of_ble_eq_true rfl)) rfl (Nat.le_of_ble_eq_true rfl) rfl rfl w_X3_addTeam_1 0 (Nat.le_of_ble_eq_true rfl) rfl w_X3_addTeam_0 (.int (d o0 0)) rfl 16 rfl dX3_addTeam_13 ?_
    refine r_iconst 1 rfl 17 rfl dX3_addTeam_16 ?_
    refine r_iadd 18 rfl dX3_addTeam_17 ?_
    refine r_put (h0.1 0 (Nat.le_of_ble_eq_true rfl)) rfl (Nat.le_of_ble_eq_true rfl) rfl rfl w_X3_addTeam_1 tyX3 tyX3_ok nmX3 (Nat.le_of_ble_eq_true rfl) rfl w_X3_addTeam_0 rfl rfl rfl rfl rfl 21 rfl dX3_addTeam_18 (fun d1 => ?_)
    refine r_aload_n 0 0 rfl rfl 22 rfl dX3_addTeam_21 ?_
    refine r_get (h0.1 0 (Nat.le_of_ble_eq_true rfl)) rfl (Nat.le_of_ble_eq_true rfl) rfl rfl w_X3_addTeam_1 0 (Nat.le_of_ble_eq_true rfl) rfl w_X3_addTeam_0 (.int (d1 o0 0)) rfl 25 rfl dX3_addTeam_22 ?_
    refine r_iconst 1 rfl 26 rfl dX3_addTeam_25 ?_
    refine r_isub 27 rfl dX3_addTeam_26 ?_
    exact r_ireturn rfl rfl (Nat.le_of_ble_eq_true rfl) (Nat.le_of_ble_eq_true rfl) dX3_addTeam_27
  · refine r_iconst (-1) rfl 10 rfl dX3_addTeam_9 ?_
    exact r_ireturn rfl rfl (Nat.le_of_ble_eq_true rfl) (Nat.le_of_ble_eq_true rfl) dX3_addTeam_10
def Y_X3_latestFinishers : z_Y := (RX3, cX3_latestFinishers, 1, wsX3_latestFinishers, (some .int), { frames := 0, cells := 0, slots := 0, locals := 0 }, 0, 0)
theorem ok_X3_latestFinishers : z_Ok yX3_latestFinishers Y_X3_latestFinishers 0 := ⟨⟨_, rfl⟩, rfl, rfl, rfl, by decide +kernel, by decide +kernel⟩
theorem w_X3_latestFinishers_0 : Cond.fieldLink RX3 42 "BunchTimes$Race" "stages" "I" ∈ wsX3_latestFinishers := by decide +kernel
theorem w_X3_latestFinishers_1 : ∀ w ∈ u_ws RX3 TX3 10, w ∈ wsX3_latestFinishers := by decide +kernel
theorem w_X3_latestFinishers_2 : Cond.fieldLink RX3 31 "BunchTimes$Race" "all" "[LBunchTimes$Stage;" ∈ wsX3_latestFinishers := by decide +kernel
theorem w_X3_latestFinishers_3 : ∀ w ∈ u_ws RX4 TX4 20, w ∈ wsX3_latestFinishers := by decide +kernel
def f_X3_latestFinishers (d : z_D) (o0 : Nat) : Option Int32 := (if (d o0 2) = 0 then (some 0) else z_aald 8 ((d o0 2) - 1) (fun j1 => (some (d (o0 + 5 + 21 * j1) 7))))
set_option maxHeartbeats 4000000 in
set_option maxRecDepth 100000 in
theorem c_X3_latestFinishers {E : z_E} {l : Launch} {S : z_S} (d : z_D) (o0 : Nat) (h0 : A_Race S o0) : z_Sp E l yX3_latestFinishers Y_X3_latestFinishers (cvI S d) [.ref (E.2.1 + o0)] (S, d) (f_X3_latestFinishers d o0) := by
  refine z_entry (lv := [(0, .ref (E.2.1 + o0))]) (by decide) rfl rfl (Nat.le_of_ble_eq_true rfl) rfl ?_
  unfold f_X3_latestFinishers
  refine r_aload_n 0 0 rfl rfl 1 rfl dX3_latestFinishers_0 ?_
  refine r_get (h0.1 0 (Nat.le_of_ble_eq_true rfl)) rfl (Nat.le_of_ble_eq_true rfl) rfl rfl w_X3_latestFinishers_1 2 (Nat.le_of_ble_eq_true rfl) rfl w_X3_latestFinishers_0 (.int (d o0 2)) rfl 4 rfl dX3_latestFinishers_1 ?_
  refine r_if_ne 11 7 rfl rfl dX3_latestFinishers_4 ?_ ?_
  · refine r_aload_n 0 0 rfl rfl 12 rfl dX3_latestFinishers_11 ?_
    refine r_get (h0.1 0 (Nat.le_of_ble_eq_true rfl)) rfl (Nat.le_of_ble_eq_true rfl) rfl rfl w_X3_latestFinishers_1 9 (Nat.le_of_ble_eq_true rfl) rfl w_X3_latestFinishers_2 (.ref (E.2.1 + (o0 + 4))) rfl 15 rfl dX3_latestFinishers_12 ?_
    refine r_aload_n 0 0 rfl rfl 16 rfl dX3_latestFinishers_15 ?_
    refine r_get (h0.1 0 (Nat.le_of_ble_eq_true rfl)) rfl (Nat.le_of_ble_eq_true rfl) rfl rfl w_X3_latestFinishers_1 2 (Nat.le_of_ble_eq_true rfl) rfl w_X3_latestFinishers_0 (.int (d o0 2)) rfl 19 rfl dX3_latestFinishers_16 ?_
    refine r_iconst 1 rfl 20 rfl dX3_latestFinishers_19 ?_
    refine r_isub 21 rfl dX3_latestFinishers_20 ?_
    refine r_aald (h0.1 4 (Nat.le_of_ble_eq_true rfl)) rfl rfl (fun _ h9 => if_pos h9) 22 rfl dX3_latestFinishers_21 (fun j1 hj1 => ?_)
    refine r_getN 7 18 rfl ((h0.2 j1 hj1) 0 (Nat.le_of_ble_eq_true rfl)) rfl (Nat.le_of_ble_eq_true rfl) rfl rfl w_X3_latestFinishers_3 (Nat.le_of_ble_eq_true rfl) rfl (.int (d (o0 + 5 + 21 * j1) 7)) rfl 25 rfl dX3_latestFinishers_22 ?_
    exact r_ireturn rfl rfl (Nat.le_of_ble_eq_true rfl) (Nat.le_of_ble_eq_true rfl) dX3_latestFinishers_25
  · refine r_iconst 0 rfl 8 rfl dX3_latestFinishers_7 ?_
    refine r_goto 25 rfl dX3_latestFinishers_8 ?_
    exact r_ireturn rfl rfl (Nat.le_of_ble_eq_true rfl) (Nat.le_of_ble_eq_true rfl) dX3_latestFinishers_25
def Y_X3_addRider : z_Y := (RX3, cX3_addRider, 3, wsX3_addRider, (some .int), { frames := 1, cells := 0, slots := 0, locals := 22 }, 0, 0)
theorem ok_X3_addRider : z_Ok yX3_addRider Y_X3_addRider 2 := ⟨⟨_, rfl⟩, rfl, rfl, rfl, by decide +kernel, by decide +kernel⟩
theorem w_X3_addRider_0 : Cond.fieldLink RX3 39 "BunchTimes$Race" "riders" "I" ∈ wsX3_addRider := by decide +kernel
theorem w_X3_addRider_1 : ∀ w ∈ u_ws RX3 TX3 10, w ∈ wsX3_addRider := by decide +kernel
theorem w_X3_addRider_2 : Cond.fieldLink RX3 36 "BunchTimes$Race" "teams" "I" ∈ wsX3_addRider := by decide +kernel
theorem w_X3_addRider_3 : Cond.initialized RX8 ∈ wsX3_addRider := by decide +kernel
theorem w_X3_addRider_4 : Cond.static yX8_within ∈ wsX3_addRider := by decide +kernel
theorem w_X3_addRider_5 : Cond.fieldLink RX3 45 "BunchTimes$Race" "open" "Z" ∈ wsX3_addRider := by decide +kernel
theorem w_X3_addRider_6 : Cond.fieldLink RX3 18 "BunchTimes$Race" "teamOf" "[I" ∈ wsX3_addRider := by decide +kernel
theorem w_X3_addRider_7 : Cond.fieldLink RX3 22 "BunchTimes$Race" "age" "[I" ∈ wsX3_addRider := by decide +kernel
theorem w_X3_addRider_8 : Cond.fieldLink RX3 25 "BunchTimes$Race" "in" "[Z" ∈ wsX3_addRider := by decide +kernel
def f_X3_addRider (d : z_D) (o0 : Nat) (x1 : Int32) (x2 : Int32) : Option (Int32 × z_D) := (if 16 ≤ (d o0 1) then (some ((-1), d)) else ((f_X8_within x1 0 ((d o0 0) - 1)).bind fun v1 => (if v1 = 0 then (some ((-1), d)) else ((f_X8_within x2 16 50).bind fun v2 => (if v2 = 0 then (some ((-1), d)) else z_let (fun x_52 : Unit => z_ast d (o0 + 1) 16 (d o0 1) x1 (fun d3 => z_ast d3 (o0 + 2) 16 (d3 o0 1) x2 (fun d4 => z_ast d4 (o0 + 3) 16 (d4 o0 1) (1 &&& 1) (fun d5 => z_put d5 o0 1 ((d5 o0 1) + 1) (fun d6 => (some (((d6 o0 1) - 1), d6))))))) (fun J52 => (if (d o0 3) = 0 then (J52 ()) else ((f_X3_latestFinishers d o0).bind fun v7 => (if v7 ≤ 0 then (J52 ()) else (some ((-1), d)))))))))))
set_option maxHeartbeats 4000000 in
set_option maxRecDepth 100000 in
theorem c_X3_addRider {E : z_E} {l : Launch} {S : z_S} (d : z_D) (o0 : Nat) (h0 : A_Race S o0) (x1 : Int32) (x2 : Int32) : z_Sp E l yX3_addRider Y_X3_addRider (cvX S) [.ref (E.2.1 + o0), .int x1, .int x2] (S, d) (f_X3_addRider d o0 x1 x2) := by
  refine z_entry (lv := [(0, .ref (E.2.1 + o0)), (1, .int x1), (2, .int x2)]) (by decide) rfl rfl (Nat.le_of_ble_eq_true rfl) rfl ?_
  unfold f_X3_addRider
  refine r_aload_n 0 0 rfl rfl 1 rfl dX3_addRider_0 ?_
  refine r_get (h0.1 0 (Nat.le_of_ble_eq_true rfl)) rfl (Nat.le_of_ble_eq_true rfl) rfl rfl w_X3_addRider_1 1 (Nat.le_of_ble_eq_true rfl) rfl w_X3_addRider_0 (.int (d o0 1)) rfl 4 rfl dX3_addRider_1 ?_
  refine r_bipush 16 rfl 6 rfl dX3_addRider_4 ?_
  refine r_icmp_ge 34 9 rfl rfl dX3_addRider_6 ?_ ?_
  · refine r_iconst (-1) rfl 35 rfl dX3_addRider_34 ?_
    exact r_ireturn rfl rfl (Nat.le_of_ble_eq_true rfl) (Nat.le_of_ble_eq_true rfl) dX3_addRider_35
  · refine r_iload_n 1 1 rfl rfl 10 rfl dX3_addRider_9 ?_
    refine r_iconst 0 rfl 11 rfl dX3_addRider_10 ?_
    refine r_aload_n 0 0 rfl rfl 12 rfl dX3_addRider_11 ?_
    refine r_get (h0.1 0 (Nat.le_of_ble_eq_true rfl)) rfl (Nat.le_of_ble_eq_true rfl) rfl rfl w_X3_addRider_1 0 (Nat.le_of_ble_eq_true rfl) rfl w_X3_addRider_2 (.int (d o0 0)) rfl 15 rfl dX3_addRider_12 ?_
    refine r_iconst 1 rfl 16 rfl dX3_addRider_15 ?_
    refine r_isub 17 rfl dX3_addRider_16 ?_
    refine r_callSN_I (c_X8_within (E := E) (l := l) (S := S) d x1 0 ((d o0 0) - 1)) ok_X8_within ⟨⟨(Nat.le_of_ble_eq_true rfl), (Nat.le_of_ble_eq_true rfl)⟩, (Nat.le_of_ble_eq_true rfl), (Nat.le_of_ble_eq_true rfl)⟩ rfl (Nat.le_of_ble_eq_true rfl) 19 rfl gX3_addRider_X8_within_n59 w_X3_addRider_3 w_X3_addRider_4 rfl rfl 20 rfl dX3_addRider_17 (fun v1 => ?_)
    refine r_if_eq 34 23 rfl rfl dX3_addRider_20 ?_ ?_
    · refine r_iconst (-1) rfl 35 rfl dX3_addRider_34 ?_
      exact r_ireturn rfl rfl (Nat.le_of_ble_eq_true rfl) (Nat.le_of_ble_eq_true rfl) dX3_addRider_35
    · refine r_iload_n 2 2 rfl rfl 24 rfl dX3_addRider_23 ?_
      refine r_bipush 16 rfl 26 rfl dX3_addRider_24 ?_
      refine r_bipush 50 rfl 28 rfl dX3_addRider_26 ?_
      refine r_callSN_I (c_X8_within (E := E) (l := l) (S := S) d x2 16 50) ok_X8_within ⟨⟨(Nat.le_of_ble_eq_true rfl), (Nat.le_of_ble_eq_true rfl)⟩, (Nat.le_of_ble_eq_true rfl), (Nat.le_of_ble_eq_true rfl)⟩ rfl (Nat.le_of_ble_eq_true rfl) 19 rfl gX3_addRider_X8_within_n59 w_X3_addRider_3 w_X3_addRider_4 rfl rfl 31 rfl dX3_addRider_28 (fun v2 => ?_)
      refine r_if_ne 36 34 rfl rfl dX3_addRider_31 ?_ ?_
      · refine r_aload_n 0 0 rfl rfl 37 rfl dX3_addRider_36 ?_
        refine r_get (h0.1 0 (Nat.le_of_ble_eq_true rfl)) rfl (Nat.le_of_ble_eq_true rfl) rfl rfl w_X3_addRider_1 3 (Nat.le_of_ble_eq_true rfl) rfl w_X3_addRider_5 (.int (d o0 3)) rfl 40 rfl dX3_addRider_37 ?_
        refine r_let 52 (f := fun x_52 : Unit => [(0, .ref (E.2.1 + o0)), (1, .int x1), (2, .int x2)]) (g := fun x_52 : Unit => []) (ww := fun x_52 : Unit => (S, d)) (fun x_52 => ?_) (fun J52 hJ52 => ?_)
        · refine r_aload_n 0 0 rfl rfl 53 rfl dX3_addRider_52 ?_
          refine r_get (h0.1 0 (Nat.le_of_ble_eq_true rfl)) rfl (Nat.le_of_ble_eq_true rfl) rfl rfl w_X3_addRider_1 6 (Nat.le_of_ble_eq_true rfl) rfl w_X3_addRider_6 (.ref (E.2.1 + (o0 + 1))) rfl 56 rfl dX3_addRider_53 ?_
          refine r_aload_n 0 0 rfl rfl 57 rfl dX3_addRider_56 ?_
          refine r_get (h0.1 0 (Nat.le_of_ble_eq_true rfl)) rfl (Nat.le_of_ble_eq_true rfl) rfl rfl w_X3_addRider_1 1 (Nat.le_of_ble_eq_true rfl) rfl w_X3_addRider_0 (.int (d o0 1)) rfl 60 rfl dX3_addRider_57 ?_
          refine r_iload_n 1 1 rfl rfl 61 rfl dX3_addRider_60 ?_
          refine r_iast (h0.1 1 (Nat.le_of_ble_eq_true rfl)) rfl rfl 62 rfl dX3_addRider_61 (fun d3 => ?_)
          refine r_aload_n 0 0 rfl rfl 63 rfl dX3_addRider_62 ?_
          refine r_get (h0.1 0 (Nat.le_of_ble_eq_true rfl)) rfl (Nat.le_of_ble_eq_true rfl) rfl rfl w_X3_addRider_1 7 (Nat.le_of_ble_eq_true rfl) rfl w_X3_addRider_7 (.ref (E.2.1 + (o0 + 2))) rfl 66 rfl dX3_addRider_63 ?_
          refine r_aload_n 0 0 rfl rfl 67 rfl dX3_addRider_66 ?_
          refine r_get (h0.1 0 (Nat.le_of_ble_eq_true rfl)) rfl (Nat.le_of_ble_eq_true rfl) rfl rfl w_X3_addRider_1 1 (Nat.le_of_ble_eq_true rfl) rfl w_X3_addRider_0 (.int (d3 o0 1)) rfl 70 rfl dX3_addRider_67 ?_
          refine r_iload_n 2 2 rfl rfl 71 rfl dX3_addRider_70 ?_
          refine r_iast (h0.1 2 (Nat.le_of_ble_eq_true rfl)) rfl rfl 72 rfl dX3_addRider_71 (fun d4 => ?_)
          refine r_aload_n 0 0 rfl rfl 73 rfl dX3_addRider_72 ?_
          refine r_get (h0.1 0 (Nat.le_of_ble_eq_true rfl)) rfl (Nat.le_of_ble_eq_true rfl) rfl rfl w_X3_addRider_1 8 (Nat.le_of_ble_eq_true rfl) rfl w_X3_addRider_8 (.ref (E.2.1 + (o0 + 3))) rfl 76 rfl dX3_addRider_73 ?_
          refine r_aload_n 0 0 rfl rfl 77 rfl dX3_addRider_76 ?_
          refine r_get (h0.1 0 (Nat.le_of_ble_eq_true rfl)) rfl (Nat.le_of_ble_eq_true rfl) rfl rfl w_X3_addRider_1 1 (Nat.le_of_ble_eq_true rfl) rfl w_X3_addRider_0 (.int (d4 o0 1)) rfl 80 rfl dX3_addRider_77 ?_
          refine r_iconst 1 rfl 81 rfl dX3_addRider_80 ?_
          refine r_zast (h0.1 3 (Nat.le_of_ble_eq_true rfl)) rfl rfl 82 rfl dX3_addRider_81 (fun d5 => ?_)
          refine r_aload_n 0 0 rfl rfl 83 rfl dX3_addRider_82 ?_
          refine r_dup rfl 84 rfl dX3_addRider_83 ?_
          refine r_get (h0.1 0 (Nat.le_of_ble_eq_true rfl)) rfl (Nat.le_of_ble_eq_true rfl) rfl rfl w_X3_addRider_1 1 (Nat.le_of_ble_eq_true rfl) rfl w_X3_addRider_0 (.int (d5 o0 1)) rfl 87 rfl dX3_addRider_84 ?_
          refine r_iconst 1 rfl 88 rfl dX3_addRider_87 ?_
          refine r_iadd 89 rfl dX3_addRider_88 ?_
          refine r_put (h0.1 0 (Nat.le_of_ble_eq_true rfl)) rfl (Nat.le_of_ble_eq_true rfl) rfl rfl w_X3_addRider_1 tyX3 tyX3_ok nmX3 (Nat.le_of_ble_eq_true rfl) rfl w_X3_addRider_0 rfl rfl rfl rfl rfl 92 rfl dX3_addRider_89 (fun d6 => ?_)
          refine r_aload_n 0 0 rfl rfl 93 rfl dX3_addRider_92 ?_
          refine r_get (h0.1 0 (Nat.le_of_ble_eq_true rfl)) rfl (Nat.le_of_ble_eq_true rfl) rfl rfl w_X3_addRider_1 1 (Nat.le_of_ble_eq_true rfl) rfl w_X3_addRider_0 (.int (d6 o0 1)) rfl 96 rfl dX3_addRider_93 ?_
          refine r_iconst 1 rfl 97 rfl dX3_addRider_96 ?_
          refine r_isub 98 rfl dX3_addRider_97 ?_
          exact r_ireturn rfl rfl (Nat.le_of_ble_eq_true rfl) (Nat.le_of_ble_eq_true rfl) dX3_addRider_98
        refine r_if_eq 52 43 rfl rfl dX3_addRider_40 ?_ ?_
        · refine r_sub [0, 1, 2] rfl ?_
          exact hJ52 ()
        · refine r_aload_n 0 0 rfl rfl 44 rfl dX3_addRider_43 ?_
          refine r_callV_I (c_X3_latestFinishers (E := E) (l := l) (S := S) d o0 h0) ok_X3_latestFinishers ⟨⟨(Nat.le_of_ble_eq_true rfl), (Nat.le_of_ble_eq_true rfl)⟩, (Nat.le_of_ble_eq_true rfl), (Nat.le_of_ble_eq_true rfl)⟩ (h0.1 0 (Nat.le_of_ble_eq_true rfl)) (Nat.le_of_ble_eq_true rfl) rfl rfl rfl (Nat.le_of_ble_eq_true rfl) gX3_addRider_X3_latestFinishers rfl rfl 47 rfl dX3_addRider_44 (fun v7 => ?_)
          refine r_if_le 52 50 rfl rfl dX3_addRider_47 ?_ ?_
          · refine r_sub [0, 1, 2] rfl ?_
            exact hJ52 ()
          · refine r_iconst (-1) rfl 51 rfl dX3_addRider_50 ?_
            exact r_ireturn rfl rfl (Nat.le_of_ble_eq_true rfl) (Nat.le_of_ble_eq_true rfl) dX3_addRider_51
      · refine r_iconst (-1) rfl 35 rfl dX3_addRider_34 ?_
        exact r_ireturn rfl rfl (Nat.le_of_ble_eq_true rfl) (Nat.le_of_ble_eq_true rfl) dX3_addRider_35
def Y_X3_countIn : z_Y := (RX3, cX3_countIn, 3, wsX3_countIn, (some .int), { frames := 0, cells := 0, slots := 0, locals := 0 }, 0, 0)
theorem ok_X3_countIn : z_Ok yX3_countIn Y_X3_countIn 0 := ⟨⟨_, rfl⟩, rfl, rfl, rfl, by decide +kernel, by decide +kernel⟩
theorem w_X3_countIn_0 : Cond.fieldLink RX3 39 "BunchTimes$Race" "riders" "I" ∈ wsX3_countIn := by decide +kernel
theorem w_X3_countIn_1 : ∀ w ∈ u_ws RX3 TX3 10, w ∈ wsX3_countIn := by decide +kernel
theorem w_X3_countIn_2 : Cond.fieldLink RX3 25 "BunchTimes$Race" "in" "[Z" ∈ wsX3_countIn := by decide +kernel
def f_X3_countIn_L4_b (d : z_D) (o0 : Nat) (K : Int32 → Option Int32) (R : Int32 → Int32 → Option Int32) (x1 : Int32) (x2 : Int32) : Option Int32 := (if (d o0 1) ≤ x2 then (K x1) else z_ald d (o0 + 3) 16 x2 (fun v1 => (if v1 = 0 then (R x1 (x2 + 1)) else (R (x1 + 1) (x2 + 1)))))
def f_X3_countIn_L4 (d : z_D) (o0 : Nat) (K : Int32 → Option Int32) : Nat → Int32 → Int32 → Option Int32
  | 0 => fun _ _ => none
  | n + 1 => f_X3_countIn_L4_b d o0 K (f_X3_countIn_L4 d o0 K n)
set_option maxHeartbeats 4000000 in
set_option maxRecDepth 100000 in
theorem g_X3_countIn_L4 {E : z_E} {l : Launch} {S : z_S} {d : z_D} {o0 : Nat} {K : Int32 → Option Int32} (h0 : A_Race S o0) (hK : ∀ (y1 : Int32), z_G E l Y_X3_countIn (cvI S d) (K y1) 30 [(1, .int y1)] [] (S, d) 0 0) : ∀ (n : Nat) (x1 : Int32) (x2 : Int32), z_G E l Y_X3_countIn (cvI S d) (f_X3_countIn_L4 d o0 K n x1 x2) 4 [(0, .ref (E.2.1 + o0)), (1, .int x1), (2, .int x2)] [] (S, d) 0 0 := by
  intro n
  induction n with
  | zero => intro _ _; exact r_none
  | succ n ih =>
    intro x1 x2
    show z_G E l Y_X3_countIn (cvI S d) (f_X3_countIn_L4_b d o0 K (f_X3_countIn_L4 d o0 K n) x1 x2) 4 [(0, .ref (E.2.1 + o0)), (1, .int x1), (2, .int x2)] [] (S, d) 0 0
    unfold f_X3_countIn_L4_b
    refine r_iload_n 2 2 rfl rfl 5 rfl dX3_countIn_4 ?_
    refine r_aload_n 0 0 rfl rfl 6 rfl dX3_countIn_5 ?_
    refine r_get (h0.1 0 (Nat.le_of_ble_eq_true rfl)) rfl (Nat.le_of_ble_eq_true rfl) rfl rfl w_X3_countIn_1 1 (Nat.le_of_ble_eq_true rfl) rfl w_X3_countIn_0 (.int (d o0 1)) rfl 9 rfl dX3_countIn_6 ?_
    refine r_icmp_ge 30 12 rfl rfl dX3_countIn_9 ?_ ?_
    · refine r_sub [1] rfl ?_
      exact hK x1
    · refine r_aload_n 0 0 rfl rfl 13 rfl dX3_countIn_12 ?_
      refine r_get (h0.1 0 (Nat.le_of_ble_eq_true rfl)) rfl (Nat.le_of_ble_eq_true rfl) rfl rfl w_X3_countIn_1 8 (Nat.le_of_ble_eq_true rfl) rfl w_X3_countIn_2 (.ref (E.2.1 + (o0 + 3))) rfl 16 rfl dX3_countIn_13 ?_
      refine r_iload_n 2 2 rfl rfl 17 rfl dX3_countIn_16 ?_
      refine r_zald (h0.1 3 (Nat.le_of_ble_eq_true rfl)) rfl rfl 18 rfl dX3_countIn_17 (fun v1 => ?_)
      refine r_if_eq 24 21 rfl rfl dX3_countIn_18 ?_ ?_
      · refine r_iinc (x2 + 1) 2 rfl rfl [(2, .int (x2 + 1)), (0, .ref (E.2.1 + o0)), (1, .int x1)] (Nat.le_of_ble_eq_true rfl) rfl 27 rfl dX3_countIn_24 ?_
        refine r_goto 4 rfl dX3_countIn_27 ?_
        refine r_sub [1, 2, 0] rfl ?_
        exact ih x1 (x2 + 1)
      · refine r_iinc (x1 + 1) 1 rfl rfl [(1, .int (x1 + 1)), (0, .ref (E.2.1 + o0)), (2, .int x2)] (Nat.le_of_ble_eq_true rfl) rfl 24 rfl dX3_countIn_21 ?_
        refine r_iinc (x2 + 1) 2 rfl rfl [(2, .int (x2 + 1)), (1, .int (x1 + 1)), (0, .ref (E.2.1 + o0))] (Nat.le_of_ble_eq_true rfl) rfl 27 rfl dX3_countIn_24 ?_
        refine r_goto 4 rfl dX3_countIn_27 ?_
        refine r_sub [2, 1, 0] rfl ?_
        exact ih (x1 + 1) (x2 + 1)
def f_X3_countIn (d : z_D) (o0 : Nat) : Option Int32 := (f_X3_countIn_L4 d o0 (fun v2 => (some v2)) z_N 0 0)
set_option maxHeartbeats 4000000 in
set_option maxRecDepth 100000 in
theorem c_X3_countIn {E : z_E} {l : Launch} {S : z_S} (d : z_D) (o0 : Nat) (h0 : A_Race S o0) : z_Sp E l yX3_countIn Y_X3_countIn (cvI S d) [.ref (E.2.1 + o0)] (S, d) (f_X3_countIn d o0) := by
  refine z_entry (lv := [(0, .ref (E.2.1 + o0))]) (by decide) rfl rfl (Nat.le_of_ble_eq_true rfl) rfl ?_
  unfold f_X3_countIn
  refine r_iconst 0 rfl 1 rfl dX3_countIn_0 ?_
  refine r_istore_n 1 rfl [(1, .int 0), (0, .ref (E.2.1 + o0))] (Nat.le_of_ble_eq_true rfl) rfl 2 rfl dX3_countIn_1 ?_
  refine r_iconst 0 rfl 3 rfl dX3_countIn_2 ?_
  refine r_istore_n 2 rfl [(2, .int 0), (1, .int 0), (0, .ref (E.2.1 + o0))] (Nat.le_of_ble_eq_true rfl) rfl 4 rfl dX3_countIn_3 ?_
  refine r_sub [2, 1, 0] rfl ?_
  refine g_X3_countIn_L4 h0 (fun v2 => ?_) z_N 0 0
  refine r_iload_n 1 0 rfl rfl 31 rfl dX3_countIn_30 ?_
  exact r_ireturn rfl rfl (Nat.le_of_ble_eq_true rfl) (Nat.le_of_ble_eq_true rfl) dX3_countIn_31
def Y_X3_openStage : z_Y := (RX3, cX3_openStage, 3, wsX3_openStage, (some .int), { frames := 3, cells := 0, slots := 0, locals := 69 }, 0, 0)
theorem ok_X3_openStage : z_Ok yX3_openStage Y_X3_openStage 2 := ⟨⟨_, rfl⟩, rfl, rfl, rfl, by decide +kernel, by decide +kernel⟩
theorem w_X3_openStage_0 : Cond.fieldLink RX3 42 "BunchTimes$Race" "stages" "I" ∈ wsX3_openStage := by decide +kernel
theorem w_X3_openStage_1 : ∀ w ∈ u_ws RX3 TX3 10, w ∈ wsX3_openStage := by decide +kernel
theorem w_X3_openStage_2 : Cond.fieldLink RX3 45 "BunchTimes$Race" "open" "Z" ∈ wsX3_openStage := by decide +kernel
theorem w_X3_openStage_3 : Cond.initialized RX8 ∈ wsX3_openStage := by decide +kernel
theorem w_X3_openStage_4 : Cond.static yX8_within ∈ wsX3_openStage := by decide +kernel
theorem w_X3_openStage_5 : Cond.fieldLink RX3 31 "BunchTimes$Race" "all" "[LBunchTimes$Stage;" ∈ wsX3_openStage := by decide +kernel
theorem w_X3_openStage_6 : Cond.initialized RX4 ∈ wsX3_openStage := by decide +kernel
theorem w_X3_openStage_7 : Cond.instanceMethod yX4_begin ∈ wsX3_openStage := by decide +kernel
theorem w_X3_openStage_8 : Cond.selects RX4 yX4_begin yX4_begin ∈ wsX3_openStage := by decide +kernel
def f_X3_openStage (d : z_D) (o0 : Nat) (x1 : Int32) (x2 : Int32) : Option (Int32 × z_D) := (if 8 ≤ (d o0 2) then (some ((-1), d)) else (if (d o0 3) = 0 then ((f_X8_within x1 0 3).bind fun v1 => (if v1 = 0 then (some ((-1), d)) else ((f_X8_within x2 1 300).bind fun v2 => (if v2 = 0 then (some ((-1), d)) else ((f_X3_countIn d o0).bind fun v3 => (if v3 = 0 then (some ((-1), d)) else z_aald 8 (d o0 2) (fun j4 => ((f_X4_begin d (o0 + 5 + 21 * j4) x1 x2).bind fun d5 => z_put d5 o0 3 1 (fun d6 => z_put d6 o0 2 ((d6 o0 2) + 1) (fun d7 => (some (((d7 o0 2) - 1), d7)))))))))))) else (some ((-1), d))))
set_option maxHeartbeats 4000000 in
set_option maxRecDepth 100000 in
theorem c_X3_openStage {E : z_E} {l : Launch} {S : z_S} (d : z_D) (o0 : Nat) (h0 : A_Race S o0) (x1 : Int32) (x2 : Int32) : z_Sp E l yX3_openStage Y_X3_openStage (cvX S) [.ref (E.2.1 + o0), .int x1, .int x2] (S, d) (f_X3_openStage d o0 x1 x2) := by
  refine z_entry (lv := [(0, .ref (E.2.1 + o0)), (1, .int x1), (2, .int x2)]) (by decide) rfl rfl (Nat.le_of_ble_eq_true rfl) rfl ?_
  unfold f_X3_openStage
  refine r_aload_n 0 0 rfl rfl 1 rfl dX3_openStage_0 ?_
  refine r_get (h0.1 0 (Nat.le_of_ble_eq_true rfl)) rfl (Nat.le_of_ble_eq_true rfl) rfl rfl w_X3_openStage_1 2 (Nat.le_of_ble_eq_true rfl) rfl w_X3_openStage_0 (.int (d o0 2)) rfl 4 rfl dX3_openStage_1 ?_
  refine r_bipush 8 rfl 6 rfl dX3_openStage_4 ?_
  refine r_icmp_ge 25 9 rfl rfl dX3_openStage_6 ?_ ?_
  · refine r_iconst (-1) rfl 26 rfl dX3_openStage_25 ?_
    exact r_ireturn rfl rfl (Nat.le_of_ble_eq_true rfl) (Nat.le_of_ble_eq_true rfl) dX3_openStage_26
  · refine r_aload_n 0 0 rfl rfl 10 rfl dX3_openStage_9 ?_
    refine r_get (h0.1 0 (Nat.le_of_ble_eq_true rfl)) rfl (Nat.le_of_ble_eq_true rfl) rfl rfl w_X3_openStage_1 3 (Nat.le_of_ble_eq_true rfl) rfl w_X3_openStage_2 (.int (d o0 3)) rfl 13 rfl dX3_openStage_10 ?_
    refine r_if_ne 25 16 rfl rfl dX3_openStage_13 ?_ ?_
    · refine r_iconst (-1) rfl 26 rfl dX3_openStage_25 ?_
      exact r_ireturn rfl rfl (Nat.le_of_ble_eq_true rfl) (Nat.le_of_ble_eq_true rfl) dX3_openStage_26
    · refine r_iload_n 1 1 rfl rfl 17 rfl dX3_openStage_16 ?_
      refine r_iconst 0 rfl 18 rfl dX3_openStage_17 ?_
      refine r_iconst 3 rfl 19 rfl dX3_openStage_18 ?_
      refine r_callSN_I (c_X8_within (E := E) (l := l) (S := S) d x1 0 3) ok_X8_within ⟨⟨(Nat.le_of_ble_eq_true rfl), (Nat.le_of_ble_eq_true rfl)⟩, (Nat.le_of_ble_eq_true rfl), (Nat.le_of_ble_eq_true rfl)⟩ rfl (Nat.le_of_ble_eq_true rfl) 19 rfl gX3_openStage_X8_within_n59 w_X3_openStage_3 w_X3_openStage_4 rfl rfl 22 rfl dX3_openStage_19 (fun v1 => ?_)
      refine r_if_ne 27 25 rfl rfl dX3_openStage_22 ?_ ?_
      · refine r_iload_n 2 2 rfl rfl 28 rfl dX3_openStage_27 ?_
        refine r_iconst 1 rfl 29 rfl dX3_openStage_28 ?_
        refine r_sipush 300 rfl 32 rfl dX3_openStage_29 ?_
        refine r_callSN_I (c_X8_within (E := E) (l := l) (S := S) d x2 1 300) ok_X8_within ⟨⟨(Nat.le_of_ble_eq_true rfl), (Nat.le_of_ble_eq_true rfl)⟩, (Nat.le_of_ble_eq_true rfl), (Nat.le_of_ble_eq_true rfl)⟩ rfl (Nat.le_of_ble_eq_true rfl) 19 rfl gX3_openStage_X8_within_n59 w_X3_openStage_3 w_X3_openStage_4 rfl rfl 35 rfl dX3_openStage_32 (fun v2 => ?_)
        refine r_if_eq 45 38 rfl rfl dX3_openStage_35 ?_ ?_
        · refine r_iconst (-1) rfl 46 rfl dX3_openStage_45 ?_
          exact r_ireturn rfl rfl (Nat.le_of_ble_eq_true rfl) (Nat.le_of_ble_eq_true rfl) dX3_openStage_46
        · refine r_aload_n 0 0 rfl rfl 39 rfl dX3_openStage_38 ?_
          refine r_callV_I (c_X3_countIn (E := E) (l := l) (S := S) d o0 h0) ok_X3_countIn ⟨⟨(Nat.le_of_ble_eq_true rfl), (Nat.le_of_ble_eq_true rfl)⟩, (Nat.le_of_ble_eq_true rfl), (Nat.le_of_ble_eq_true rfl)⟩ (h0.1 0 (Nat.le_of_ble_eq_true rfl)) (Nat.le_of_ble_eq_true rfl) rfl rfl rfl (Nat.le_of_ble_eq_true rfl) gX3_openStage_X3_countIn rfl rfl 42 rfl dX3_openStage_39 (fun v3 => ?_)
          refine r_if_ne 47 45 rfl rfl dX3_openStage_42 ?_ ?_
          · refine r_aload_n 0 0 rfl rfl 48 rfl dX3_openStage_47 ?_
            refine r_get (h0.1 0 (Nat.le_of_ble_eq_true rfl)) rfl (Nat.le_of_ble_eq_true rfl) rfl rfl w_X3_openStage_1 9 (Nat.le_of_ble_eq_true rfl) rfl w_X3_openStage_5 (.ref (E.2.1 + (o0 + 4))) rfl 51 rfl dX3_openStage_48 ?_
            refine r_aload_n 0 0 rfl rfl 52 rfl dX3_openStage_51 ?_
            refine r_get (h0.1 0 (Nat.le_of_ble_eq_true rfl)) rfl (Nat.le_of_ble_eq_true rfl) rfl rfl w_X3_openStage_1 2 (Nat.le_of_ble_eq_true rfl) rfl w_X3_openStage_0 (.int (d o0 2)) rfl 55 rfl dX3_openStage_52 ?_
            refine r_aald (h0.1 4 (Nat.le_of_ble_eq_true rfl)) rfl rfl (fun _ h9 => if_pos h9) 56 rfl dX3_openStage_55 (fun j4 hj4 => ?_)
            refine r_iload_n 1 1 rfl rfl 57 rfl dX3_openStage_56 ?_
            refine r_iload_n 2 2 rfl rfl 58 rfl dX3_openStage_57 ?_
            refine r_callVN_V (c_X4_begin (E := E) (l := l) (S := S) d (o0 + 5 + 21 * j4) (h0.2 j4 hj4) x1 x2) ok_X4_begin ⟨⟨(Nat.le_of_ble_eq_true rfl), (Nat.le_of_ble_eq_true rfl)⟩, (Nat.le_of_ble_eq_true rfl), (Nat.le_of_ble_eq_true rfl)⟩ ((h0.2 j4 hj4) 0 (Nat.le_of_ble_eq_true rfl)) (Nat.le_of_ble_eq_true rfl) rfl rfl rfl (Nat.le_of_ble_eq_true rfl) 22 rfl gX3_openStage_X4_begin_n70 w_X3_openStage_6 w_X3_openStage_7 w_X3_openStage_8 rfl rfl 61 rfl dX3_openStage_58 (fun d5 => ?_)
            refine r_aload_n 0 0 rfl rfl 62 rfl dX3_openStage_61 ?_
            refine r_iconst 1 rfl 63 rfl dX3_openStage_62 ?_
            refine r_put (h0.1 0 (Nat.le_of_ble_eq_true rfl)) rfl (Nat.le_of_ble_eq_true rfl) rfl rfl w_X3_openStage_1 tyX3 tyX3_ok nmX3 (Nat.le_of_ble_eq_true rfl) rfl w_X3_openStage_2 rfl rfl rfl rfl rfl 66 rfl dX3_openStage_63 (fun d6 => ?_)
            refine r_aload_n 0 0 rfl rfl 67 rfl dX3_openStage_66 ?_
            refine r_dup rfl 68 rfl dX3_openStage_67 ?_
            refine r_get (h0.1 0 (Nat.le_of_ble_eq_true rfl)) rfl (Nat.le_of_ble_eq_true rfl) rfl rfl w_X3_openStage_1 2 (Nat.le_of_ble_eq_true rfl) rfl w_X3_openStage_0 (.int (d6 o0 2)) rfl 71 rfl dX3_openStage_68 ?_
            refine r_iconst 1 rfl 72 rfl dX3_openStage_71 ?_
            refine r_iadd 73 rfl dX3_openStage_72 ?_
            refine r_put (h0.1 0 (Nat.le_of_ble_eq_true rfl)) rfl (Nat.le_of_ble_eq_true rfl) rfl rfl w_X3_openStage_1 tyX3 tyX3_ok nmX3 (Nat.le_of_ble_eq_true rfl) rfl w_X3_openStage_0 rfl rfl rfl rfl rfl 76 rfl dX3_openStage_73 (fun d7 => ?_)
            refine r_aload_n 0 0 rfl rfl 77 rfl dX3_openStage_76 ?_
            refine r_get (h0.1 0 (Nat.le_of_ble_eq_true rfl)) rfl (Nat.le_of_ble_eq_true rfl) rfl rfl w_X3_openStage_1 2 (Nat.le_of_ble_eq_true rfl) rfl w_X3_openStage_0 (.int (d7 o0 2)) rfl 80 rfl dX3_openStage_77 ?_
            refine r_iconst 1 rfl 81 rfl dX3_openStage_80 ?_
            refine r_isub 82 rfl dX3_openStage_81 ?_
            exact r_ireturn rfl rfl (Nat.le_of_ble_eq_true rfl) (Nat.le_of_ble_eq_true rfl) dX3_openStage_82
          · refine r_iconst (-1) rfl 46 rfl dX3_openStage_45 ?_
            exact r_ireturn rfl rfl (Nat.le_of_ble_eq_true rfl) (Nat.le_of_ble_eq_true rfl) dX3_openStage_46
      · refine r_iconst (-1) rfl 26 rfl dX3_openStage_25 ?_
        exact r_ireturn rfl rfl (Nat.le_of_ble_eq_true rfl) (Nat.le_of_ble_eq_true rfl) dX3_openStage_26
def Y_X3_addMark : z_Y := (RX3, cX3_addMark, 3, wsX3_addMark, (some .int), { frames := 2, cells := 0, slots := 0, locals := 45 }, 0, 0)
theorem ok_X3_addMark : z_Ok yX3_addMark Y_X3_addMark 2 := ⟨⟨_, rfl⟩, rfl, rfl, rfl, by decide +kernel, by decide +kernel⟩
theorem w_X3_addMark_0 : Cond.fieldLink RX3 45 "BunchTimes$Race" "open" "Z" ∈ wsX3_addMark := by decide +kernel
theorem w_X3_addMark_1 : ∀ w ∈ u_ws RX3 TX3 10, w ∈ wsX3_addMark := by decide +kernel
theorem w_X3_addMark_2 : Cond.fieldLink RX3 31 "BunchTimes$Race" "all" "[LBunchTimes$Stage;" ∈ wsX3_addMark := by decide +kernel
theorem w_X3_addMark_3 : Cond.fieldLink RX3 42 "BunchTimes$Race" "stages" "I" ∈ wsX3_addMark := by decide +kernel
theorem w_X3_addMark_4 : ∀ w ∈ u_ws RX4 TX4 20, w ∈ wsX3_addMark := by decide +kernel
theorem w_X3_addMark_5 : Cond.initialized RX1 ∈ wsX3_addMark := by decide +kernel
theorem w_X3_addMark_6 : Cond.instanceMethod yX1_addMark ∈ wsX3_addMark := by decide +kernel
theorem w_X3_addMark_7 : Cond.selects RX1 yX1_addMark yX1_addMark ∈ wsX3_addMark := by decide +kernel
def f_X3_addMark (d : z_D) (o0 : Nat) (x1 : Int32) (x2 : Int32) : Option (Int32 × z_D) := (if (d o0 3) = 0 then (some ((-1), d)) else z_aald 8 ((d o0 2) - 1) (fun j1 => z_bX (f_X1_addMark d ((o0 + 5 + 21 * j1) + 1) x1 x2) (fun v2 d3 => (some (v2, d3)))))
set_option maxHeartbeats 4000000 in
set_option maxRecDepth 100000 in
theorem c_X3_addMark {E : z_E} {l : Launch} {S : z_S} (d : z_D) (o0 : Nat) (h0 : A_Race S o0) (x1 : Int32) (x2 : Int32) : z_Sp E l yX3_addMark Y_X3_addMark (cvX S) [.ref (E.2.1 + o0), .int x1, .int x2] (S, d) (f_X3_addMark d o0 x1 x2) := by
  refine z_entry (lv := [(0, .ref (E.2.1 + o0)), (1, .int x1), (2, .int x2)]) (by decide) rfl rfl (Nat.le_of_ble_eq_true rfl) rfl ?_
  unfold f_X3_addMark
  refine r_aload_n 0 0 rfl rfl 1 rfl dX3_addMark_0 ?_
  refine r_get (h0.1 0 (Nat.le_of_ble_eq_true rfl)) rfl (Nat.le_of_ble_eq_true rfl) rfl rfl w_X3_addMark_1 3 (Nat.le_of_ble_eq_true rfl) rfl w_X3_addMark_0 (.int (d o0 3)) rfl 4 rfl dX3_addMark_1 ?_
  refine r_if_eq 29 7 rfl rfl dX3_addMark_4 ?_ ?_
  · refine r_iconst (-1) rfl 30 rfl dX3_addMark_29 ?_
    exact r_ireturn rfl rfl (Nat.le_of_ble_eq_true rfl) (Nat.le_of_ble_eq_true rfl) dX3_addMark_30
  · refine r_aload_n 0 0 rfl rfl 8 rfl dX3_addMark_7 ?_
    refine r_get (h0.1 0 (Nat.le_of_ble_eq_true rfl)) rfl (Nat.le_of_ble_eq_true rfl) rfl rfl w_X3_addMark_1 9 (Nat.le_of_ble_eq_true rfl) rfl w_X3_addMark_2 (.ref (E.2.1 + (o0 + 4))) rfl 11 rfl dX3_addMark_8 ?_
    refine r_aload_n 0 0 rfl rfl 12 rfl dX3_addMark_11 ?_
    refine r_get (h0.1 0 (Nat.le_of_ble_eq_true rfl)) rfl (Nat.le_of_ble_eq_true rfl) rfl rfl w_X3_addMark_1 2 (Nat.le_of_ble_eq_true rfl) rfl w_X3_addMark_3 (.int (d o0 2)) rfl 15 rfl dX3_addMark_12 ?_
    refine r_iconst 1 rfl 16 rfl dX3_addMark_15 ?_
    refine r_isub 17 rfl dX3_addMark_16 ?_
    refine r_aald (h0.1 4 (Nat.le_of_ble_eq_true rfl)) rfl rfl (fun _ h9 => if_pos h9) 18 rfl dX3_addMark_17 (fun j1 hj1 => ?_)
    refine r_getN 0 13 rfl ((h0.2 j1 hj1) 0 (Nat.le_of_ble_eq_true rfl)) rfl (Nat.le_of_ble_eq_true rfl) rfl rfl w_X3_addMark_4 (Nat.le_of_ble_eq_true rfl) rfl (.ref (E.2.1 + ((o0 + 5 + 21 * j1) + 1))) rfl 21 rfl dX3_addMark_18 ?_
    refine r_iload_n 1 1 rfl rfl 22 rfl dX3_addMark_21 ?_
    refine r_iload_n 2 2 rfl rfl 23 rfl dX3_addMark_22 ?_
    refine r_callVN_X (c_X1_addMark (E := E) (l := l) (S := S) d ((o0 + 5 + 21 * j1) + 1) (A_Stage.course (h0.2 j1 hj1)) x1 x2) ok_X1_addMark ⟨⟨(Nat.le_of_ble_eq_true rfl), (Nat.le_of_ble_eq_true rfl)⟩, (Nat.le_of_ble_eq_true rfl), (Nat.le_of_ble_eq_true rfl)⟩ ((A_Stage.course (h0.2 j1 hj1)) 0 (Nat.le_of_ble_eq_true rfl)) (Nat.le_of_ble_eq_true rfl) rfl rfl rfl (Nat.le_of_ble_eq_true rfl) 26 rfl gX3_addMark_X1_addMark_n78 w_X3_addMark_5 w_X3_addMark_6 w_X3_addMark_7 rfl rfl 26 rfl dX3_addMark_23 (fun v2 d3 => ?_)
    refine r_goto 30 rfl dX3_addMark_26 ?_
    exact r_ireturn rfl rfl (Nat.le_of_ble_eq_true rfl) (Nat.le_of_ble_eq_true rfl) dX3_addMark_30
def Y_X3_hasRider : z_Y := (RX3, cX3_hasRider, 2, wsX3_hasRider, (some .boolean), { frames := 1, cells := 0, slots := 0, locals := 22 }, 0, 0)
theorem ok_X3_hasRider : z_Ok yX3_hasRider Y_X3_hasRider 1 := ⟨⟨_, rfl⟩, rfl, rfl, rfl, by decide +kernel, by decide +kernel⟩
theorem w_X3_hasRider_0 : Cond.fieldLink RX3 39 "BunchTimes$Race" "riders" "I" ∈ wsX3_hasRider := by decide +kernel
theorem w_X3_hasRider_1 : ∀ w ∈ u_ws RX3 TX3 10, w ∈ wsX3_hasRider := by decide +kernel
theorem w_X3_hasRider_2 : Cond.initialized RX8 ∈ wsX3_hasRider := by decide +kernel
theorem w_X3_hasRider_3 : Cond.static yX8_within ∈ wsX3_hasRider := by decide +kernel
def f_X3_hasRider (d : z_D) (o0 : Nat) (x1 : Int32) : Option Int32 := ((f_X8_within x1 0 ((d o0 1) - 1)).bind fun v1 => (z_bool v1 (some v1)))
set_option maxHeartbeats 4000000 in
set_option maxRecDepth 100000 in
theorem c_X3_hasRider {E : z_E} {l : Launch} {S : z_S} (d : z_D) (o0 : Nat) (h0 : A_Race S o0) (x1 : Int32) : z_Sp E l yX3_hasRider Y_X3_hasRider (cvI S d) [.ref (E.2.1 + o0), .int x1] (S, d) (f_X3_hasRider d o0 x1) := by
  refine z_entry (lv := [(0, .ref (E.2.1 + o0)), (1, .int x1)]) (by decide) rfl rfl (Nat.le_of_ble_eq_true rfl) rfl ?_
  unfold f_X3_hasRider
  refine r_iload_n 1 1 rfl rfl 1 rfl dX3_hasRider_0 ?_
  refine r_iconst 0 rfl 2 rfl dX3_hasRider_1 ?_
  refine r_aload_n 0 0 rfl rfl 3 rfl dX3_hasRider_2 ?_
  refine r_get (h0.1 0 (Nat.le_of_ble_eq_true rfl)) rfl (Nat.le_of_ble_eq_true rfl) rfl rfl w_X3_hasRider_1 1 (Nat.le_of_ble_eq_true rfl) rfl w_X3_hasRider_0 (.int (d o0 1)) rfl 6 rfl dX3_hasRider_3 ?_
  refine r_iconst 1 rfl 7 rfl dX3_hasRider_6 ?_
  refine r_isub 8 rfl dX3_hasRider_7 ?_
  refine r_callSN_I (c_X8_within (E := E) (l := l) (S := S) d x1 0 ((d o0 1) - 1)) ok_X8_within ⟨⟨(Nat.le_of_ble_eq_true rfl), (Nat.le_of_ble_eq_true rfl)⟩, (Nat.le_of_ble_eq_true rfl), (Nat.le_of_ble_eq_true rfl)⟩ rfl (Nat.le_of_ble_eq_true rfl) 19 rfl gX3_hasRider_X8_within_n59 w_X3_hasRider_2 w_X3_hasRider_3 rfl rfl 11 rfl dX3_hasRider_8 (fun v1 => ?_)
  exact r_zreturn rfl rfl (Nat.le_of_ble_eq_true rfl) (Nat.le_of_ble_eq_true rfl) dX3_hasRider_11
def Y_X3_isIn : z_Y := (RX3, cX3_isIn, 2, wsX3_isIn, (some .boolean), { frames := 2, cells := 0, slots := 0, locals := 43 }, 0, 0)
theorem ok_X3_isIn : z_Ok yX3_isIn Y_X3_isIn 1 := ⟨⟨_, rfl⟩, rfl, rfl, rfl, by decide +kernel, by decide +kernel⟩
theorem w_X3_isIn_0 : Cond.fieldLink RX3 25 "BunchTimes$Race" "in" "[Z" ∈ wsX3_isIn := by decide +kernel
theorem w_X3_isIn_1 : ∀ w ∈ u_ws RX3 TX3 10, w ∈ wsX3_isIn := by decide +kernel
def f_X3_isIn (d : z_D) (o0 : Nat) (x1 : Int32) : Option Int32 := ((f_X3_hasRider d o0 x1).bind fun v1 => (if v1 = 0 then (some 0) else z_ald d (o0 + 3) 16 x1 (fun v2 => (if v2 = 0 then (some 0) else (some 1)))))
set_option maxHeartbeats 4000000 in
set_option maxRecDepth 100000 in
theorem c_X3_isIn {E : z_E} {l : Launch} {S : z_S} (d : z_D) (o0 : Nat) (h0 : A_Race S o0) (x1 : Int32) : z_Sp E l yX3_isIn Y_X3_isIn (cvI S d) [.ref (E.2.1 + o0), .int x1] (S, d) (f_X3_isIn d o0 x1) := by
  refine z_entry (lv := [(0, .ref (E.2.1 + o0)), (1, .int x1)]) (by decide) rfl rfl (Nat.le_of_ble_eq_true rfl) rfl ?_
  unfold f_X3_isIn
  refine r_aload_n 0 0 rfl rfl 1 rfl dX3_isIn_0 ?_
  refine r_iload_n 1 1 rfl rfl 2 rfl dX3_isIn_1 ?_
  refine r_callV_I (c_X3_hasRider (E := E) (l := l) (S := S) d o0 h0 x1) ok_X3_hasRider ⟨⟨(Nat.le_of_ble_eq_true rfl), (Nat.le_of_ble_eq_true rfl)⟩, (Nat.le_of_ble_eq_true rfl), (Nat.le_of_ble_eq_true rfl)⟩ (h0.1 0 (Nat.le_of_ble_eq_true rfl)) (Nat.le_of_ble_eq_true rfl) rfl rfl rfl (Nat.le_of_ble_eq_true rfl) gX3_isIn_X3_hasRider rfl rfl 5 rfl dX3_isIn_2 (fun v1 => ?_)
  refine r_if_eq 21 8 rfl rfl dX3_isIn_5 ?_ ?_
  · refine r_iconst 0 rfl 22 rfl dX3_isIn_21 ?_
    exact r_zreturnc (by decide) rfl rfl (Nat.le_of_ble_eq_true rfl) (Nat.le_of_ble_eq_true rfl) dX3_isIn_22
  · refine r_aload_n 0 0 rfl rfl 9 rfl dX3_isIn_8 ?_
    refine r_get (h0.1 0 (Nat.le_of_ble_eq_true rfl)) rfl (Nat.le_of_ble_eq_true rfl) rfl rfl w_X3_isIn_1 8 (Nat.le_of_ble_eq_true rfl) rfl w_X3_isIn_0 (.ref (E.2.1 + (o0 + 3))) rfl 12 rfl dX3_isIn_9 ?_
    refine r_iload_n 1 1 rfl rfl 13 rfl dX3_isIn_12 ?_
    refine r_zald (h0.1 3 (Nat.le_of_ble_eq_true rfl)) rfl rfl 14 rfl dX3_isIn_13 (fun v2 => ?_)
    refine r_if_eq 21 17 rfl rfl dX3_isIn_14 ?_ ?_
    · refine r_iconst 0 rfl 22 rfl dX3_isIn_21 ?_
      exact r_zreturnc (by decide) rfl rfl (Nat.le_of_ble_eq_true rfl) (Nat.le_of_ble_eq_true rfl) dX3_isIn_22
    · refine r_iconst 1 rfl 18 rfl dX3_isIn_17 ?_
      refine r_goto 22 rfl dX3_isIn_18 ?_
      exact r_zreturnc (by decide) rfl rfl (Nat.le_of_ble_eq_true rfl) (Nat.le_of_ble_eq_true rfl) dX3_isIn_22
def Y_X3_addFinish : z_Y := (RX3, cX3_addFinish, 3, wsX3_addFinish, (some .boolean), { frames := 3, cells := 0, slots := 0, locals := 64 }, 0, 0)
theorem ok_X3_addFinish : z_Ok yX3_addFinish Y_X3_addFinish 2 := ⟨⟨_, rfl⟩, rfl, rfl, rfl, by decide +kernel, by decide +kernel⟩
theorem w_X3_addFinish_0 : Cond.fieldLink RX3 45 "BunchTimes$Race" "open" "Z" ∈ wsX3_addFinish := by decide +kernel
theorem w_X3_addFinish_1 : ∀ w ∈ u_ws RX3 TX3 10, w ∈ wsX3_addFinish := by decide +kernel
theorem w_X3_addFinish_2 : Cond.fieldLink RX3 31 "BunchTimes$Race" "all" "[LBunchTimes$Stage;" ∈ wsX3_addFinish := by decide +kernel
theorem w_X3_addFinish_3 : Cond.fieldLink RX3 42 "BunchTimes$Race" "stages" "I" ∈ wsX3_addFinish := by decide +kernel
theorem w_X3_addFinish_4 : Cond.initialized RX4 ∈ wsX3_addFinish := by decide +kernel
theorem w_X3_addFinish_5 : Cond.instanceMethod yX4_addFinish ∈ wsX3_addFinish := by decide +kernel
theorem w_X3_addFinish_6 : Cond.selects RX4 yX4_addFinish yX4_addFinish ∈ wsX3_addFinish := by decide +kernel
def f_X3_addFinish (d : z_D) (o0 : Nat) (x1 : Int32) (x2 : Int32) : Option (Int32 × z_D) := (if (d o0 3) = 0 then (some (0, d)) else ((f_X3_isIn d o0 x1).bind fun v1 => (if v1 = 0 then (some (0, d)) else z_aald 8 ((d o0 2) - 1) (fun j2 => z_bX (f_X4_addFinish d (o0 + 5 + 21 * j2) x1 x2) (fun v3 d4 => (if v3 = 0 then (some (0, d4)) else (some (1, d4))))))))
set_option maxHeartbeats 4000000 in
set_option maxRecDepth 100000 in
theorem c_X3_addFinish {E : z_E} {l : Launch} {S : z_S} (d : z_D) (o0 : Nat) (h0 : A_Race S o0) (x1 : Int32) (x2 : Int32) : z_Sp E l yX3_addFinish Y_X3_addFinish (cvX S) [.ref (E.2.1 + o0), .int x1, .int x2] (S, d) (f_X3_addFinish d o0 x1 x2) := by
  refine z_entry (lv := [(0, .ref (E.2.1 + o0)), (1, .int x1), (2, .int x2)]) (by decide) rfl rfl (Nat.le_of_ble_eq_true rfl) rfl ?_
  unfold f_X3_addFinish
  refine r_aload_n 0 0 rfl rfl 1 rfl dX3_addFinish_0 ?_
  refine r_get (h0.1 0 (Nat.le_of_ble_eq_true rfl)) rfl (Nat.le_of_ble_eq_true rfl) rfl rfl w_X3_addFinish_1 3 (Nat.le_of_ble_eq_true rfl) rfl w_X3_addFinish_0 (.int (d o0 3)) rfl 4 rfl dX3_addFinish_1 ?_
  refine r_if_eq 38 7 rfl rfl dX3_addFinish_4 ?_ ?_
  · refine r_iconst 0 rfl 39 rfl dX3_addFinish_38 ?_
    exact r_zreturnc (by decide) rfl rfl (Nat.le_of_ble_eq_true rfl) (Nat.le_of_ble_eq_true rfl) dX3_addFinish_39
  · refine r_aload_n 0 0 rfl rfl 8 rfl dX3_addFinish_7 ?_
    refine r_iload_n 1 1 rfl rfl 9 rfl dX3_addFinish_8 ?_
    refine r_callV_I (c_X3_isIn (E := E) (l := l) (S := S) d o0 h0 x1) ok_X3_isIn ⟨⟨(Nat.le_of_ble_eq_true rfl), (Nat.le_of_ble_eq_true rfl)⟩, (Nat.le_of_ble_eq_true rfl), (Nat.le_of_ble_eq_true rfl)⟩ (h0.1 0 (Nat.le_of_ble_eq_true rfl)) (Nat.le_of_ble_eq_true rfl) rfl rfl rfl (Nat.le_of_ble_eq_true rfl) gX3_addFinish_X3_isIn rfl rfl 12 rfl dX3_addFinish_9 (fun v1 => ?_)
    refine r_if_eq 38 15 rfl rfl dX3_addFinish_12 ?_ ?_
    · refine r_iconst 0 rfl 39 rfl dX3_addFinish_38 ?_
      exact r_zreturnc (by decide) rfl rfl (Nat.le_of_ble_eq_true rfl) (Nat.le_of_ble_eq_true rfl) dX3_addFinish_39
    · refine r_aload_n 0 0 rfl rfl 16 rfl dX3_addFinish_15 ?_
      refine r_get (h0.1 0 (Nat.le_of_ble_eq_true rfl)) rfl (Nat.le_of_ble_eq_true rfl) rfl rfl w_X3_addFinish_1 9 (Nat.le_of_ble_eq_true rfl) rfl w_X3_addFinish_2 (.ref (E.2.1 + (o0 + 4))) rfl 19 rfl dX3_addFinish_16 ?_
      refine r_aload_n 0 0 rfl rfl 20 rfl dX3_addFinish_19 ?_
      refine r_get (h0.1 0 (Nat.le_of_ble_eq_true rfl)) rfl (Nat.le_of_ble_eq_true rfl) rfl rfl w_X3_addFinish_1 2 (Nat.le_of_ble_eq_true rfl) rfl w_X3_addFinish_3 (.int (d o0 2)) rfl 23 rfl dX3_addFinish_20 ?_
      refine r_iconst 1 rfl 24 rfl dX3_addFinish_23 ?_
      refine r_isub 25 rfl dX3_addFinish_24 ?_
      refine r_aald (h0.1 4 (Nat.le_of_ble_eq_true rfl)) rfl rfl (fun _ h9 => if_pos h9) 26 rfl dX3_addFinish_25 (fun j2 hj2 => ?_)
      refine r_iload_n 1 1 rfl rfl 27 rfl dX3_addFinish_26 ?_
      refine r_iload_n 2 2 rfl rfl 28 rfl dX3_addFinish_27 ?_
      refine r_callVN_X (c_X4_addFinish (E := E) (l := l) (S := S) d (o0 + 5 + 21 * j2) (h0.2 j2 hj2) x1 x2) ok_X4_addFinish ⟨⟨(Nat.le_of_ble_eq_true rfl), (Nat.le_of_ble_eq_true rfl)⟩, (Nat.le_of_ble_eq_true rfl), (Nat.le_of_ble_eq_true rfl)⟩ ((h0.2 j2 hj2) 0 (Nat.le_of_ble_eq_true rfl)) (Nat.le_of_ble_eq_true rfl) rfl rfl rfl (Nat.le_of_ble_eq_true rfl) 30 rfl gX3_addFinish_X4_addFinish_n88 w_X3_addFinish_4 w_X3_addFinish_5 w_X3_addFinish_6 rfl rfl 31 rfl dX3_addFinish_28 (fun v3 d4 => ?_)
      refine r_if_eq 38 34 rfl rfl dX3_addFinish_31 ?_ ?_
      · refine r_iconst 0 rfl 39 rfl dX3_addFinish_38 ?_
        exact r_zreturnc (by decide) rfl rfl (Nat.le_of_ble_eq_true rfl) (Nat.le_of_ble_eq_true rfl) dX3_addFinish_39
      · refine r_iconst 1 rfl 35 rfl dX3_addFinish_34 ?_
        refine r_goto 39 rfl dX3_addFinish_35 ?_
        exact r_zreturnc (by decide) rfl rfl (Nat.le_of_ble_eq_true rfl) (Nat.le_of_ble_eq_true rfl) dX3_addFinish_39
def Y_X3_addCrossing : z_Y := (RX3, cX3_addCrossing, 3, wsX3_addCrossing, (some .int), { frames := 3, cells := 0, slots := 0, locals := 64 }, 0, 0)
theorem ok_X3_addCrossing : z_Ok yX3_addCrossing Y_X3_addCrossing 2 := ⟨⟨_, rfl⟩, rfl, rfl, rfl, by decide +kernel, by decide +kernel⟩
theorem w_X3_addCrossing_0 : Cond.fieldLink RX3 45 "BunchTimes$Race" "open" "Z" ∈ wsX3_addCrossing := by decide +kernel
theorem w_X3_addCrossing_1 : ∀ w ∈ u_ws RX3 TX3 10, w ∈ wsX3_addCrossing := by decide +kernel
theorem w_X3_addCrossing_2 : Cond.fieldLink RX3 31 "BunchTimes$Race" "all" "[LBunchTimes$Stage;" ∈ wsX3_addCrossing := by decide +kernel
theorem w_X3_addCrossing_3 : Cond.fieldLink RX3 42 "BunchTimes$Race" "stages" "I" ∈ wsX3_addCrossing := by decide +kernel
theorem w_X3_addCrossing_4 : ∀ w ∈ u_ws RX4 TX4 20, w ∈ wsX3_addCrossing := by decide +kernel
theorem w_X3_addCrossing_5 : Cond.initialized RX1 ∈ wsX3_addCrossing := by decide +kernel
theorem w_X3_addCrossing_6 : Cond.instanceMethod yX1_addCrossing ∈ wsX3_addCrossing := by decide +kernel
theorem w_X3_addCrossing_7 : Cond.selects RX1 yX1_addCrossing yX1_addCrossing ∈ wsX3_addCrossing := by decide +kernel
def f_X3_addCrossing (d : z_D) (o0 : Nat) (x1 : Int32) (x2 : Int32) : Option (Int32 × z_D) := (if (d o0 3) = 0 then (some ((-1), d)) else ((f_X3_isIn d o0 x2).bind fun v1 => (if v1 = 0 then (some ((-1), d)) else z_aald 8 ((d o0 2) - 1) (fun j2 => z_bX (f_X1_addCrossing d ((o0 + 5 + 21 * j2) + 1) x1 x2) (fun v3 d4 => (some (v3, d4)))))))
set_option maxHeartbeats 4000000 in
set_option maxRecDepth 100000 in
theorem c_X3_addCrossing {E : z_E} {l : Launch} {S : z_S} (d : z_D) (o0 : Nat) (h0 : A_Race S o0) (x1 : Int32) (x2 : Int32) : z_Sp E l yX3_addCrossing Y_X3_addCrossing (cvX S) [.ref (E.2.1 + o0), .int x1, .int x2] (S, d) (f_X3_addCrossing d o0 x1 x2) := by
  refine z_entry (lv := [(0, .ref (E.2.1 + o0)), (1, .int x1), (2, .int x2)]) (by decide) rfl rfl (Nat.le_of_ble_eq_true rfl) rfl ?_
  unfold f_X3_addCrossing
  refine r_aload_n 0 0 rfl rfl 1 rfl dX3_addCrossing_0 ?_
  refine r_get (h0.1 0 (Nat.le_of_ble_eq_true rfl)) rfl (Nat.le_of_ble_eq_true rfl) rfl rfl w_X3_addCrossing_1 3 (Nat.le_of_ble_eq_true rfl) rfl w_X3_addCrossing_0 (.int (d o0 3)) rfl 4 rfl dX3_addCrossing_1 ?_
  refine r_if_eq 37 7 rfl rfl dX3_addCrossing_4 ?_ ?_
  · refine r_iconst (-1) rfl 38 rfl dX3_addCrossing_37 ?_
    exact r_ireturn rfl rfl (Nat.le_of_ble_eq_true rfl) (Nat.le_of_ble_eq_true rfl) dX3_addCrossing_38
  · refine r_aload_n 0 0 rfl rfl 8 rfl dX3_addCrossing_7 ?_
    refine r_iload_n 2 2 rfl rfl 9 rfl dX3_addCrossing_8 ?_
    refine r_callV_I (c_X3_isIn (E := E) (l := l) (S := S) d o0 h0 x2) ok_X3_isIn ⟨⟨(Nat.le_of_ble_eq_true rfl), (Nat.le_of_ble_eq_true rfl)⟩, (Nat.le_of_ble_eq_true rfl), (Nat.le_of_ble_eq_true rfl)⟩ (h0.1 0 (Nat.le_of_ble_eq_true rfl)) (Nat.le_of_ble_eq_true rfl) rfl rfl rfl (Nat.le_of_ble_eq_true rfl) gX3_addCrossing_X3_isIn rfl rfl 12 rfl dX3_addCrossing_9 (fun v1 => ?_)
    refine r_if_eq 37 15 rfl rfl dX3_addCrossing_12 ?_ ?_
    · refine r_iconst (-1) rfl 38 rfl dX3_addCrossing_37 ?_
      exact r_ireturn rfl rfl (Nat.le_of_ble_eq_true rfl) (Nat.le_of_ble_eq_true rfl) dX3_addCrossing_38
    · refine r_aload_n 0 0 rfl rfl 16 rfl dX3_addCrossing_15 ?_
      refine r_get (h0.1 0 (Nat.le_of_ble_eq_true rfl)) rfl (Nat.le_of_ble_eq_true rfl) rfl rfl w_X3_addCrossing_1 9 (Nat.le_of_ble_eq_true rfl) rfl w_X3_addCrossing_2 (.ref (E.2.1 + (o0 + 4))) rfl 19 rfl dX3_addCrossing_16 ?_
      refine r_aload_n 0 0 rfl rfl 20 rfl dX3_addCrossing_19 ?_
      refine r_get (h0.1 0 (Nat.le_of_ble_eq_true rfl)) rfl (Nat.le_of_ble_eq_true rfl) rfl rfl w_X3_addCrossing_1 2 (Nat.le_of_ble_eq_true rfl) rfl w_X3_addCrossing_3 (.int (d o0 2)) rfl 23 rfl dX3_addCrossing_20 ?_
      refine r_iconst 1 rfl 24 rfl dX3_addCrossing_23 ?_
      refine r_isub 25 rfl dX3_addCrossing_24 ?_
      refine r_aald (h0.1 4 (Nat.le_of_ble_eq_true rfl)) rfl rfl (fun _ h9 => if_pos h9) 26 rfl dX3_addCrossing_25 (fun j2 hj2 => ?_)
      refine r_getN 0 13 rfl ((h0.2 j2 hj2) 0 (Nat.le_of_ble_eq_true rfl)) rfl (Nat.le_of_ble_eq_true rfl) rfl rfl w_X3_addCrossing_4 (Nat.le_of_ble_eq_true rfl) rfl (.ref (E.2.1 + ((o0 + 5 + 21 * j2) + 1))) rfl 29 rfl dX3_addCrossing_26 ?_
      refine r_iload_n 1 1 rfl rfl 30 rfl dX3_addCrossing_29 ?_
      refine r_iload_n 2 2 rfl rfl 31 rfl dX3_addCrossing_30 ?_
      refine r_callVN_X (c_X1_addCrossing (E := E) (l := l) (S := S) d ((o0 + 5 + 21 * j2) + 1) (A_Stage.course (h0.2 j2 hj2)) x1 x2) ok_X1_addCrossing ⟨⟨(Nat.le_of_ble_eq_true rfl), (Nat.le_of_ble_eq_true rfl)⟩, (Nat.le_of_ble_eq_true rfl), (Nat.le_of_ble_eq_true rfl)⟩ ((A_Stage.course (h0.2 j2 hj2)) 0 (Nat.le_of_ble_eq_true rfl)) (Nat.le_of_ble_eq_true rfl) rfl rfl rfl (Nat.le_of_ble_eq_true rfl) 34 rfl gX3_addCrossing_X1_addCrossing_n92 w_X3_addCrossing_5 w_X3_addCrossing_6 w_X3_addCrossing_7 rfl rfl 34 rfl dX3_addCrossing_31 (fun v3 d4 => ?_)
      refine r_goto 38 rfl dX3_addCrossing_34 ?_
      exact r_ireturn rfl rfl (Nat.le_of_ble_eq_true rfl) (Nat.le_of_ble_eq_true rfl) dX3_addCrossing_38
def Y_X3_addFall : z_Y := (RX3, cX3_addFall, 4, wsX3_addFall, (some .boolean), { frames := 3, cells := 0, slots := 0, locals := 64 }, 0, 0)
theorem ok_X3_addFall : z_Ok yX3_addFall Y_X3_addFall 3 := ⟨⟨_, rfl⟩, rfl, rfl, rfl, by decide +kernel, by decide +kernel⟩
theorem w_X3_addFall_0 : Cond.fieldLink RX3 45 "BunchTimes$Race" "open" "Z" ∈ wsX3_addFall := by decide +kernel
theorem w_X3_addFall_1 : ∀ w ∈ u_ws RX3 TX3 10, w ∈ wsX3_addFall := by decide +kernel
theorem w_X3_addFall_2 : Cond.fieldLink RX3 31 "BunchTimes$Race" "all" "[LBunchTimes$Stage;" ∈ wsX3_addFall := by decide +kernel
theorem w_X3_addFall_3 : Cond.fieldLink RX3 42 "BunchTimes$Race" "stages" "I" ∈ wsX3_addFall := by decide +kernel
theorem w_X3_addFall_4 : Cond.initialized RX4 ∈ wsX3_addFall := by decide +kernel
theorem w_X3_addFall_5 : Cond.instanceMethod yX4_addFall ∈ wsX3_addFall := by decide +kernel
theorem w_X3_addFall_6 : Cond.selects RX4 yX4_addFall yX4_addFall ∈ wsX3_addFall := by decide +kernel
def f_X3_addFall (d : z_D) (o0 : Nat) (x1 : Int32) (x2 : Int32) (x3 : Int32) : Option (Int32 × z_D) := (if (d o0 3) = 0 then (some (0, d)) else ((f_X3_isIn d o0 x1).bind fun v1 => (if v1 = 0 then (some (0, d)) else (if x3 = x1 then (some (0, d)) else z_let (fun x_35 : Unit => z_aald 8 ((d o0 2) - 1) (fun j2 => z_bX (f_X4_addFall d (o0 + 5 + 21 * j2) x1 x2 x3) (fun v3 d4 => (if v3 = 0 then (some (0, d4)) else (some (1, d4)))))) (fun J35 => (if x3 = (-1) then (J35 ()) else ((f_X3_isIn d o0 x3).bind fun v5 => (if v5 = 0 then (some (0, d)) else (J35 ())))))))))
set_option maxHeartbeats 4000000 in
set_option maxRecDepth 100000 in
theorem c_X3_addFall {E : z_E} {l : Launch} {S : z_S} (d : z_D) (o0 : Nat) (h0 : A_Race S o0) (x1 : Int32) (x2 : Int32) (x3 : Int32) : z_Sp E l yX3_addFall Y_X3_addFall (cvX S) [.ref (E.2.1 + o0), .int x1, .int x2, .int x3] (S, d) (f_X3_addFall d o0 x1 x2 x3) := by
  refine z_entry (lv := [(0, .ref (E.2.1 + o0)), (1, .int x1), (2, .int x2), (3, .int x3)]) (by decide) rfl rfl (Nat.le_of_ble_eq_true rfl) rfl ?_
  unfold f_X3_addFall
  refine r_aload_n 0 0 rfl rfl 1 rfl dX3_addFall_0 ?_
  refine r_get (h0.1 0 (Nat.le_of_ble_eq_true rfl)) rfl (Nat.le_of_ble_eq_true rfl) rfl rfl w_X3_addFall_1 3 (Nat.le_of_ble_eq_true rfl) rfl w_X3_addFall_0 (.int (d o0 3)) rfl 4 rfl dX3_addFall_1 ?_
  refine r_if_eq 20 7 rfl rfl dX3_addFall_4 ?_ ?_
  · refine r_iconst 0 rfl 21 rfl dX3_addFall_20 ?_
    exact r_zreturnc (by decide) rfl rfl (Nat.le_of_ble_eq_true rfl) (Nat.le_of_ble_eq_true rfl) dX3_addFall_21
  · refine r_aload_n 0 0 rfl rfl 8 rfl dX3_addFall_7 ?_
    refine r_iload_n 1 1 rfl rfl 9 rfl dX3_addFall_8 ?_
    refine r_callV_I (c_X3_isIn (E := E) (l := l) (S := S) d o0 h0 x1) ok_X3_isIn ⟨⟨(Nat.le_of_ble_eq_true rfl), (Nat.le_of_ble_eq_true rfl)⟩, (Nat.le_of_ble_eq_true rfl), (Nat.le_of_ble_eq_true rfl)⟩ (h0.1 0 (Nat.le_of_ble_eq_true rfl)) (Nat.le_of_ble_eq_true rfl) rfl rfl rfl (Nat.le_of_ble_eq_true rfl) gX3_addFall_X3_isIn rfl rfl 12 rfl dX3_addFall_9 (fun v1 => ?_)
    refine r_if_eq 20 15 rfl rfl dX3_addFall_12 ?_ ?_
    · refine r_iconst 0 rfl 21 rfl dX3_addFall_20 ?_
      exact r_zreturnc (by decide) rfl rfl (Nat.le_of_ble_eq_true rfl) (Nat.le_of_ble_eq_true rfl) dX3_addFall_21
    · refine r_iload_n 3 3 rfl rfl 16 rfl dX3_addFall_15 ?_
      refine r_iload_n 1 1 rfl rfl 17 rfl dX3_addFall_16 ?_
      refine r_icmp_ne 22 20 rfl rfl dX3_addFall_17 ?_ ?_
      · refine r_iload_n 3 3 rfl rfl 23 rfl dX3_addFall_22 ?_
        refine r_iconst (-1) rfl 24 rfl dX3_addFall_23 ?_
        refine r_let 35 (f := fun x_35 : Unit => [(0, .ref (E.2.1 + o0)), (1, .int x1), (2, .int x2), (3, .int x3)]) (g := fun x_35 : Unit => []) (ww := fun x_35 : Unit => (S, d)) (fun x_35 => ?_) (fun J35 hJ35 => ?_)
        · refine r_aload_n 0 0 rfl rfl 36 rfl dX3_addFall_35 ?_
          refine r_get (h0.1 0 (Nat.le_of_ble_eq_true rfl)) rfl (Nat.le_of_ble_eq_true rfl) rfl rfl w_X3_addFall_1 9 (Nat.le_of_ble_eq_true rfl) rfl w_X3_addFall_2 (.ref (E.2.1 + (o0 + 4))) rfl 39 rfl dX3_addFall_36 ?_
          refine r_aload_n 0 0 rfl rfl 40 rfl dX3_addFall_39 ?_
          refine r_get (h0.1 0 (Nat.le_of_ble_eq_true rfl)) rfl (Nat.le_of_ble_eq_true rfl) rfl rfl w_X3_addFall_1 2 (Nat.le_of_ble_eq_true rfl) rfl w_X3_addFall_3 (.int (d o0 2)) rfl 43 rfl dX3_addFall_40 ?_
          refine r_iconst 1 rfl 44 rfl dX3_addFall_43 ?_
          refine r_isub 45 rfl dX3_addFall_44 ?_
          refine r_aald (h0.1 4 (Nat.le_of_ble_eq_true rfl)) rfl rfl (fun _ h9 => if_pos h9) 46 rfl dX3_addFall_45 (fun j2 hj2 => ?_)
          refine r_iload_n 1 1 rfl rfl 47 rfl dX3_addFall_46 ?_
          refine r_iload_n 2 2 rfl rfl 48 rfl dX3_addFall_47 ?_
          refine r_iload_n 3 3 rfl rfl 49 rfl dX3_addFall_48 ?_
          refine r_callVN_X (c_X4_addFall (E := E) (l := l) (S := S) d (o0 + 5 + 21 * j2) (h0.2 j2 hj2) x1 x2 x3) ok_X4_addFall ⟨⟨(Nat.le_of_ble_eq_true rfl), (Nat.le_of_ble_eq_true rfl)⟩, (Nat.le_of_ble_eq_true rfl), (Nat.le_of_ble_eq_true rfl)⟩ ((h0.2 j2 hj2) 0 (Nat.le_of_ble_eq_true rfl)) (Nat.le_of_ble_eq_true rfl) rfl rfl rfl (Nat.le_of_ble_eq_true rfl) 37 rfl gX3_addFall_X4_addFall_n95 w_X3_addFall_4 w_X3_addFall_5 w_X3_addFall_6 rfl rfl 52 rfl dX3_addFall_49 (fun v3 d4 => ?_)
          refine r_if_eq 59 55 rfl rfl dX3_addFall_52 ?_ ?_
          · refine r_iconst 0 rfl 60 rfl dX3_addFall_59 ?_
            exact r_zreturnc (by decide) rfl rfl (Nat.le_of_ble_eq_true rfl) (Nat.le_of_ble_eq_true rfl) dX3_addFall_60
          · refine r_iconst 1 rfl 56 rfl dX3_addFall_55 ?_
            refine r_goto 60 rfl dX3_addFall_56 ?_
            exact r_zreturnc (by decide) rfl rfl (Nat.le_of_ble_eq_true rfl) (Nat.le_of_ble_eq_true rfl) dX3_addFall_60
        refine r_icmp_eq 35 27 rfl rfl dX3_addFall_24 ?_ ?_
        · refine r_sub [0, 1, 2, 3] rfl ?_
          exact hJ35 ()
        · refine r_aload_n 0 0 rfl rfl 28 rfl dX3_addFall_27 ?_
          refine r_iload_n 3 3 rfl rfl 29 rfl dX3_addFall_28 ?_
          refine r_callV_I (c_X3_isIn (E := E) (l := l) (S := S) d o0 h0 x3) ok_X3_isIn ⟨⟨(Nat.le_of_ble_eq_true rfl), (Nat.le_of_ble_eq_true rfl)⟩, (Nat.le_of_ble_eq_true rfl), (Nat.le_of_ble_eq_true rfl)⟩ (h0.1 0 (Nat.le_of_ble_eq_true rfl)) (Nat.le_of_ble_eq_true rfl) rfl rfl rfl (Nat.le_of_ble_eq_true rfl) gX3_addFall_X3_isIn rfl rfl 32 rfl dX3_addFall_29 (fun v5 => ?_)
          refine r_if_eq 59 35 rfl rfl dX3_addFall_32 ?_ ?_
          · refine r_iconst 0 rfl 60 rfl dX3_addFall_59 ?_
            exact r_zreturnc (by decide) rfl rfl (Nat.le_of_ble_eq_true rfl) (Nat.le_of_ble_eq_true rfl) dX3_addFall_60
          · refine r_sub [0, 1, 2, 3] rfl ?_
            exact hJ35 ()
      · refine r_iconst 0 rfl 21 rfl dX3_addFall_20 ?_
        exact r_zreturnc (by decide) rfl rfl (Nat.le_of_ble_eq_true rfl) (Nat.le_of_ble_eq_true rfl) dX3_addFall_21
def Y_X3_addJury : z_Y := (RX3, cX3_addJury, 3, wsX3_addJury, (some .int), { frames := 3, cells := 0, slots := 0, locals := 64 }, 0, 0)
theorem ok_X3_addJury : z_Ok yX3_addJury Y_X3_addJury 2 := ⟨⟨_, rfl⟩, rfl, rfl, rfl, by decide +kernel, by decide +kernel⟩
theorem w_X3_addJury_0 : Cond.fieldLink RX3 45 "BunchTimes$Race" "open" "Z" ∈ wsX3_addJury := by decide +kernel
theorem w_X3_addJury_1 : ∀ w ∈ u_ws RX3 TX3 10, w ∈ wsX3_addJury := by decide +kernel
theorem w_X3_addJury_2 : Cond.fieldLink RX3 31 "BunchTimes$Race" "all" "[LBunchTimes$Stage;" ∈ wsX3_addJury := by decide +kernel
theorem w_X3_addJury_3 : Cond.fieldLink RX3 42 "BunchTimes$Race" "stages" "I" ∈ wsX3_addJury := by decide +kernel
theorem w_X3_addJury_4 : Cond.initialized RX4 ∈ wsX3_addJury := by decide +kernel
theorem w_X3_addJury_5 : Cond.instanceMethod yX4_addJury ∈ wsX3_addJury := by decide +kernel
theorem w_X3_addJury_6 : Cond.selects RX4 yX4_addJury yX4_addJury ∈ wsX3_addJury := by decide +kernel
def f_X3_addJury (d : z_D) (o0 : Nat) (x1 : Int32) (x2 : Int32) : Option (Int32 × z_D) := (if (d o0 3) = 0 then (some ((-1), d)) else ((f_X3_isIn d o0 x1).bind fun v1 => (if v1 = 0 then (some ((-1), d)) else z_aald 8 ((d o0 2) - 1) (fun j2 => z_bX (f_X4_addJury d (o0 + 5 + 21 * j2) x1 x2) (fun v3 d4 => (some (v3, d4)))))))
set_option maxHeartbeats 4000000 in
set_option maxRecDepth 100000 in
theorem c_X3_addJury {E : z_E} {l : Launch} {S : z_S} (d : z_D) (o0 : Nat) (h0 : A_Race S o0) (x1 : Int32) (x2 : Int32) : z_Sp E l yX3_addJury Y_X3_addJury (cvX S) [.ref (E.2.1 + o0), .int x1, .int x2] (S, d) (f_X3_addJury d o0 x1 x2) := by
  refine z_entry (lv := [(0, .ref (E.2.1 + o0)), (1, .int x1), (2, .int x2)]) (by decide) rfl rfl (Nat.le_of_ble_eq_true rfl) rfl ?_
  unfold f_X3_addJury
  refine r_aload_n 0 0 rfl rfl 1 rfl dX3_addJury_0 ?_
  refine r_get (h0.1 0 (Nat.le_of_ble_eq_true rfl)) rfl (Nat.le_of_ble_eq_true rfl) rfl rfl w_X3_addJury_1 3 (Nat.le_of_ble_eq_true rfl) rfl w_X3_addJury_0 (.int (d o0 3)) rfl 4 rfl dX3_addJury_1 ?_
  refine r_if_eq 34 7 rfl rfl dX3_addJury_4 ?_ ?_
  · refine r_iconst (-1) rfl 35 rfl dX3_addJury_34 ?_
    exact r_ireturn rfl rfl (Nat.le_of_ble_eq_true rfl) (Nat.le_of_ble_eq_true rfl) dX3_addJury_35
  · refine r_aload_n 0 0 rfl rfl 8 rfl dX3_addJury_7 ?_
    refine r_iload_n 1 1 rfl rfl 9 rfl dX3_addJury_8 ?_
    refine r_callV_I (c_X3_isIn (E := E) (l := l) (S := S) d o0 h0 x1) ok_X3_isIn ⟨⟨(Nat.le_of_ble_eq_true rfl), (Nat.le_of_ble_eq_true rfl)⟩, (Nat.le_of_ble_eq_true rfl), (Nat.le_of_ble_eq_true rfl)⟩ (h0.1 0 (Nat.le_of_ble_eq_true rfl)) (Nat.le_of_ble_eq_true rfl) rfl rfl rfl (Nat.le_of_ble_eq_true rfl) gX3_addJury_X3_isIn rfl rfl 12 rfl dX3_addJury_9 (fun v1 => ?_)
    refine r_if_eq 34 15 rfl rfl dX3_addJury_12 ?_ ?_
    · refine r_iconst (-1) rfl 35 rfl dX3_addJury_34 ?_
      exact r_ireturn rfl rfl (Nat.le_of_ble_eq_true rfl) (Nat.le_of_ble_eq_true rfl) dX3_addJury_35
    · refine r_aload_n 0 0 rfl rfl 16 rfl dX3_addJury_15 ?_
      refine r_get (h0.1 0 (Nat.le_of_ble_eq_true rfl)) rfl (Nat.le_of_ble_eq_true rfl) rfl rfl w_X3_addJury_1 9 (Nat.le_of_ble_eq_true rfl) rfl w_X3_addJury_2 (.ref (E.2.1 + (o0 + 4))) rfl 19 rfl dX3_addJury_16 ?_
      refine r_aload_n 0 0 rfl rfl 20 rfl dX3_addJury_19 ?_
      refine r_get (h0.1 0 (Nat.le_of_ble_eq_true rfl)) rfl (Nat.le_of_ble_eq_true rfl) rfl rfl w_X3_addJury_1 2 (Nat.le_of_ble_eq_true rfl) rfl w_X3_addJury_3 (.int (d o0 2)) rfl 23 rfl dX3_addJury_20 ?_
      refine r_iconst 1 rfl 24 rfl dX3_addJury_23 ?_
      refine r_isub 25 rfl dX3_addJury_24 ?_
      refine r_aald (h0.1 4 (Nat.le_of_ble_eq_true rfl)) rfl rfl (fun _ h9 => if_pos h9) 26 rfl dX3_addJury_25 (fun j2 hj2 => ?_)
      refine r_iload_n 1 1 rfl rfl 27 rfl dX3_addJury_26 ?_
      refine r_iload_n 2 2 rfl rfl 28 rfl dX3_addJury_27 ?_
      refine r_callVN_X (c_X4_addJury (E := E) (l := l) (S := S) d (o0 + 5 + 21 * j2) (h0.2 j2 hj2) x1 x2) ok_X4_addJury ⟨⟨(Nat.le_of_ble_eq_true rfl), (Nat.le_of_ble_eq_true rfl)⟩, (Nat.le_of_ble_eq_true rfl), (Nat.le_of_ble_eq_true rfl)⟩ ((h0.2 j2 hj2) 0 (Nat.le_of_ble_eq_true rfl)) (Nat.le_of_ble_eq_true rfl) rfl rfl rfl (Nat.le_of_ble_eq_true rfl) 39 rfl gX3_addJury_X4_addJury_n98 w_X3_addJury_4 w_X3_addJury_5 w_X3_addJury_6 rfl rfl 31 rfl dX3_addJury_28 (fun v3 d4 => ?_)
      refine r_goto 35 rfl dX3_addJury_31 ?_
      exact r_ireturn rfl rfl (Nat.le_of_ble_eq_true rfl) (Nat.le_of_ble_eq_true rfl) dX3_addJury_35
def Y_X3_addGrace : z_Y := (RX3, cX3_addGrace, 2, wsX3_addGrace, (some .boolean), { frames := 3, cells := 0, slots := 0, locals := 64 }, 0, 0)
theorem ok_X3_addGrace : z_Ok yX3_addGrace Y_X3_addGrace 1 := ⟨⟨_, rfl⟩, rfl, rfl, rfl, by decide +kernel, by decide +kernel⟩
theorem w_X3_addGrace_0 : Cond.fieldLink RX3 45 "BunchTimes$Race" "open" "Z" ∈ wsX3_addGrace := by decide +kernel
theorem w_X3_addGrace_1 : ∀ w ∈ u_ws RX3 TX3 10, w ∈ wsX3_addGrace := by decide +kernel
theorem w_X3_addGrace_2 : Cond.fieldLink RX3 31 "BunchTimes$Race" "all" "[LBunchTimes$Stage;" ∈ wsX3_addGrace := by decide +kernel
theorem w_X3_addGrace_3 : Cond.fieldLink RX3 42 "BunchTimes$Race" "stages" "I" ∈ wsX3_addGrace := by decide +kernel
theorem w_X3_addGrace_4 : Cond.initialized RX4 ∈ wsX3_addGrace := by decide +kernel
theorem w_X3_addGrace_5 : Cond.instanceMethod yX4_addGrace ∈ wsX3_addGrace := by decide +kernel
theorem w_X3_addGrace_6 : Cond.selects RX4 yX4_addGrace yX4_addGrace ∈ wsX3_addGrace := by decide +kernel
def f_X3_addGrace (d : z_D) (o0 : Nat) (x1 : Int32) : Option (Int32 × z_D) := (if (d o0 3) = 0 then (some (0, d)) else ((f_X3_isIn d o0 x1).bind fun v1 => (if v1 = 0 then (some (0, d)) else z_aald 8 ((d o0 2) - 1) (fun j2 => z_bX (f_X4_addGrace d (o0 + 5 + 21 * j2) x1) (fun v3 d4 => (if v3 = 0 then (some (0, d4)) else (some (1, d4))))))))
set_option maxHeartbeats 4000000 in
set_option maxRecDepth 100000 in
theorem c_X3_addGrace {E : z_E} {l : Launch} {S : z_S} (d : z_D) (o0 : Nat) (h0 : A_Race S o0) (x1 : Int32) : z_Sp E l yX3_addGrace Y_X3_addGrace (cvX S) [.ref (E.2.1 + o0), .int x1] (S, d) (f_X3_addGrace d o0 x1) := by
  refine z_entry (lv := [(0, .ref (E.2.1 + o0)), (1, .int x1)]) (by decide) rfl rfl (Nat.le_of_ble_eq_true rfl) rfl ?_
  unfold f_X3_addGrace
  refine r_aload_n 0 0 rfl rfl 1 rfl dX3_addGrace_0 ?_
  refine r_get (h0.1 0 (Nat.le_of_ble_eq_true rfl)) rfl (Nat.le_of_ble_eq_true rfl) rfl rfl w_X3_addGrace_1 3 (Nat.le_of_ble_eq_true rfl) rfl w_X3_addGrace_0 (.int (d o0 3)) rfl 4 rfl dX3_addGrace_1 ?_
  refine r_if_eq 37 7 rfl rfl dX3_addGrace_4 ?_ ?_
  · refine r_iconst 0 rfl 38 rfl dX3_addGrace_37 ?_
    exact r_zreturnc (by decide) rfl rfl (Nat.le_of_ble_eq_true rfl) (Nat.le_of_ble_eq_true rfl) dX3_addGrace_38
  · refine r_aload_n 0 0 rfl rfl 8 rfl dX3_addGrace_7 ?_
    refine r_iload_n 1 1 rfl rfl 9 rfl dX3_addGrace_8 ?_
    refine r_callV_I (c_X3_isIn (E := E) (l := l) (S := S) d o0 h0 x1) ok_X3_isIn ⟨⟨(Nat.le_of_ble_eq_true rfl), (Nat.le_of_ble_eq_true rfl)⟩, (Nat.le_of_ble_eq_true rfl), (Nat.le_of_ble_eq_true rfl)⟩ (h0.1 0 (Nat.le_of_ble_eq_true rfl)) (Nat.le_of_ble_eq_true rfl) rfl rfl rfl (Nat.le_of_ble_eq_true rfl) gX3_addGrace_X3_isIn rfl rfl 12 rfl dX3_addGrace_9 (fun v1 => ?_)
    refine r_if_eq 37 15 rfl rfl dX3_addGrace_12 ?_ ?_
    · refine r_iconst 0 rfl 38 rfl dX3_addGrace_37 ?_
      exact r_zreturnc (by decide) rfl rfl (Nat.le_of_ble_eq_true rfl) (Nat.le_of_ble_eq_true rfl) dX3_addGrace_38
    · refine r_aload_n 0 0 rfl rfl 16 rfl dX3_addGrace_15 ?_
      refine r_get (h0.1 0 (Nat.le_of_ble_eq_true rfl)) rfl (Nat.le_of_ble_eq_true rfl) rfl rfl w_X3_addGrace_1 9 (Nat.le_of_ble_eq_true rfl) rfl w_X3_addGrace_2 (.ref (E.2.1 + (o0 + 4))) rfl 19 rfl dX3_addGrace_16 ?_
      refine r_aload_n 0 0 rfl rfl 20 rfl dX3_addGrace_19 ?_
      refine r_get (h0.1 0 (Nat.le_of_ble_eq_true rfl)) rfl (Nat.le_of_ble_eq_true rfl) rfl rfl w_X3_addGrace_1 2 (Nat.le_of_ble_eq_true rfl) rfl w_X3_addGrace_3 (.int (d o0 2)) rfl 23 rfl dX3_addGrace_20 ?_
      refine r_iconst 1 rfl 24 rfl dX3_addGrace_23 ?_
      refine r_isub 25 rfl dX3_addGrace_24 ?_
      refine r_aald (h0.1 4 (Nat.le_of_ble_eq_true rfl)) rfl rfl (fun _ h9 => if_pos h9) 26 rfl dX3_addGrace_25 (fun j2 hj2 => ?_)
      refine r_iload_n 1 1 rfl rfl 27 rfl dX3_addGrace_26 ?_
      refine r_callVN_X (c_X4_addGrace (E := E) (l := l) (S := S) d (o0 + 5 + 21 * j2) (h0.2 j2 hj2) x1) ok_X4_addGrace ⟨⟨(Nat.le_of_ble_eq_true rfl), (Nat.le_of_ble_eq_true rfl)⟩, (Nat.le_of_ble_eq_true rfl), (Nat.le_of_ble_eq_true rfl)⟩ ((h0.2 j2 hj2) 0 (Nat.le_of_ble_eq_true rfl)) (Nat.le_of_ble_eq_true rfl) rfl rfl rfl (Nat.le_of_ble_eq_true rfl) 41 rfl gX3_addGrace_X4_addGrace_n101 w_X3_addGrace_4 w_X3_addGrace_5 w_X3_addGrace_6 rfl rfl 30 rfl dX3_addGrace_27 (fun v3 d4 => ?_)
      refine r_if_eq 37 33 rfl rfl dX3_addGrace_30 ?_ ?_
      · refine r_iconst 0 rfl 38 rfl dX3_addGrace_37 ?_
        exact r_zreturnc (by decide) rfl rfl (Nat.le_of_ble_eq_true rfl) (Nat.le_of_ble_eq_true rfl) dX3_addGrace_38
      · refine r_iconst 1 rfl 34 rfl dX3_addGrace_33 ?_
        refine r_goto 38 rfl dX3_addGrace_34 ?_
        exact r_zreturnc (by decide) rfl rfl (Nat.le_of_ble_eq_true rfl) (Nat.le_of_ble_eq_true rfl) dX3_addGrace_38
def Y_X3_dropRider : z_Y := (RX3, cX3_dropRider, 2, wsX3_dropRider, (some .boolean), { frames := 3, cells := 0, slots := 0, locals := 64 }, 0, 0)
theorem ok_X3_dropRider : z_Ok yX3_dropRider Y_X3_dropRider 1 := ⟨⟨_, rfl⟩, rfl, rfl, rfl, by decide +kernel, by decide +kernel⟩
theorem w_X3_dropRider_0 : Cond.fieldLink RX3 45 "BunchTimes$Race" "open" "Z" ∈ wsX3_dropRider := by decide +kernel
theorem w_X3_dropRider_1 : ∀ w ∈ u_ws RX3 TX3 10, w ∈ wsX3_dropRider := by decide +kernel
theorem w_X3_dropRider_2 : Cond.fieldLink RX3 31 "BunchTimes$Race" "all" "[LBunchTimes$Stage;" ∈ wsX3_dropRider := by decide +kernel
theorem w_X3_dropRider_3 : Cond.fieldLink RX3 42 "BunchTimes$Race" "stages" "I" ∈ wsX3_dropRider := by decide +kernel
theorem w_X3_dropRider_4 : Cond.initialized RX4 ∈ wsX3_dropRider := by decide +kernel
theorem w_X3_dropRider_5 : Cond.instanceMethod yX4_forget ∈ wsX3_dropRider := by decide +kernel
theorem w_X3_dropRider_6 : Cond.selects RX4 yX4_forget yX4_forget ∈ wsX3_dropRider := by decide +kernel
theorem w_X3_dropRider_7 : Cond.fieldLink RX3 25 "BunchTimes$Race" "in" "[Z" ∈ wsX3_dropRider := by decide +kernel
def f_X3_dropRider (d : z_D) (o0 : Nat) (x1 : Int32) : Option (Int32 × z_D) := (if (d o0 3) = 0 then (some (0, d)) else ((f_X3_isIn d o0 x1).bind fun v1 => (if v1 = 0 then (some (0, d)) else z_aald 8 ((d o0 2) - 1) (fun j2 => ((f_X4_forget d (o0 + 5 + 21 * j2) x1).bind fun d3 => z_ast d3 (o0 + 3) 16 x1 (0 &&& 1) (fun d4 => (some (1, d4))))))))
set_option maxHeartbeats 4000000 in
set_option maxRecDepth 100000 in
theorem c_X3_dropRider {E : z_E} {l : Launch} {S : z_S} (d : z_D) (o0 : Nat) (h0 : A_Race S o0) (x1 : Int32) : z_Sp E l yX3_dropRider Y_X3_dropRider (cvX S) [.ref (E.2.1 + o0), .int x1] (S, d) (f_X3_dropRider d o0 x1) := by
  refine z_entry (lv := [(0, .ref (E.2.1 + o0)), (1, .int x1)]) (by decide) rfl rfl (Nat.le_of_ble_eq_true rfl) rfl ?_
  unfold f_X3_dropRider
  refine r_aload_n 0 0 rfl rfl 1 rfl dX3_dropRider_0 ?_
  refine r_get (h0.1 0 (Nat.le_of_ble_eq_true rfl)) rfl (Nat.le_of_ble_eq_true rfl) rfl rfl w_X3_dropRider_1 3 (Nat.le_of_ble_eq_true rfl) rfl w_X3_dropRider_0 (.int (d o0 3)) rfl 4 rfl dX3_dropRider_1 ?_
  refine r_if_eq 15 7 rfl rfl dX3_dropRider_4 ?_ ?_
  · refine r_iconst 0 rfl 16 rfl dX3_dropRider_15 ?_
    exact r_zreturnc (by decide) rfl rfl (Nat.le_of_ble_eq_true rfl) (Nat.le_of_ble_eq_true rfl) dX3_dropRider_16
  · refine r_aload_n 0 0 rfl rfl 8 rfl dX3_dropRider_7 ?_
    refine r_iload_n 1 1 rfl rfl 9 rfl dX3_dropRider_8 ?_
    refine r_callV_I (c_X3_isIn (E := E) (l := l) (S := S) d o0 h0 x1) ok_X3_isIn ⟨⟨(Nat.le_of_ble_eq_true rfl), (Nat.le_of_ble_eq_true rfl)⟩, (Nat.le_of_ble_eq_true rfl), (Nat.le_of_ble_eq_true rfl)⟩ (h0.1 0 (Nat.le_of_ble_eq_true rfl)) (Nat.le_of_ble_eq_true rfl) rfl rfl rfl (Nat.le_of_ble_eq_true rfl) gX3_dropRider_X3_isIn rfl rfl 12 rfl dX3_dropRider_9 (fun v1 => ?_)
    refine r_if_ne 17 15 rfl rfl dX3_dropRider_12 ?_ ?_
    · refine r_aload_n 0 0 rfl rfl 18 rfl dX3_dropRider_17 ?_
      refine r_get (h0.1 0 (Nat.le_of_ble_eq_true rfl)) rfl (Nat.le_of_ble_eq_true rfl) rfl rfl w_X3_dropRider_1 9 (Nat.le_of_ble_eq_true rfl) rfl w_X3_dropRider_2 (.ref (E.2.1 + (o0 + 4))) rfl 21 rfl dX3_dropRider_18 ?_
      refine r_aload_n 0 0 rfl rfl 22 rfl dX3_dropRider_21 ?_
      refine r_get (h0.1 0 (Nat.le_of_ble_eq_true rfl)) rfl (Nat.le_of_ble_eq_true rfl) rfl rfl w_X3_dropRider_1 2 (Nat.le_of_ble_eq_true rfl) rfl w_X3_dropRider_3 (.int (d o0 2)) rfl 25 rfl dX3_dropRider_22 ?_
      refine r_iconst 1 rfl 26 rfl dX3_dropRider_25 ?_
      refine r_isub 27 rfl dX3_dropRider_26 ?_
      refine r_aald (h0.1 4 (Nat.le_of_ble_eq_true rfl)) rfl rfl (fun _ h9 => if_pos h9) 28 rfl dX3_dropRider_27 (fun j2 hj2 => ?_)
      refine r_iload_n 1 1 rfl rfl 29 rfl dX3_dropRider_28 ?_
      refine r_callVN_V (c_X4_forget (E := E) (l := l) (S := S) d (o0 + 5 + 21 * j2) (h0.2 j2 hj2) x1) ok_X4_forget ⟨⟨(Nat.le_of_ble_eq_true rfl), (Nat.le_of_ble_eq_true rfl)⟩, (Nat.le_of_ble_eq_true rfl), (Nat.le_of_ble_eq_true rfl)⟩ ((h0.2 j2 hj2) 0 (Nat.le_of_ble_eq_true rfl)) (Nat.le_of_ble_eq_true rfl) rfl rfl rfl (Nat.le_of_ble_eq_true rfl) 43 rfl gX3_dropRider_X4_forget_n104 w_X3_dropRider_4 w_X3_dropRider_5 w_X3_dropRider_6 rfl rfl 32 rfl dX3_dropRider_29 (fun d3 => ?_)
      refine r_aload_n 0 0 rfl rfl 33 rfl dX3_dropRider_32 ?_
      refine r_get (h0.1 0 (Nat.le_of_ble_eq_true rfl)) rfl (Nat.le_of_ble_eq_true rfl) rfl rfl w_X3_dropRider_1 8 (Nat.le_of_ble_eq_true rfl) rfl w_X3_dropRider_7 (.ref (E.2.1 + (o0 + 3))) rfl 36 rfl dX3_dropRider_33 ?_
      refine r_iload_n 1 1 rfl rfl 37 rfl dX3_dropRider_36 ?_
      refine r_iconst 0 rfl 38 rfl dX3_dropRider_37 ?_
      refine r_zast (h0.1 3 (Nat.le_of_ble_eq_true rfl)) rfl rfl 39 rfl dX3_dropRider_38 (fun d4 => ?_)
      refine r_iconst 1 rfl 40 rfl dX3_dropRider_39 ?_
      exact r_zreturnc (by decide) rfl rfl (Nat.le_of_ble_eq_true rfl) (Nat.le_of_ble_eq_true rfl) dX3_dropRider_40
    · refine r_iconst 0 rfl 16 rfl dX3_dropRider_15 ?_
      exact r_zreturnc (by decide) rfl rfl (Nat.le_of_ble_eq_true rfl) (Nat.le_of_ble_eq_true rfl) dX3_dropRider_16
def Y_X3_setGap : z_Y := (RX3, cX3_setGap, 2, wsX3_setGap, (some .boolean), { frames := 1, cells := 0, slots := 0, locals := 22 }, 0, 0)
theorem ok_X3_setGap : z_Ok yX3_setGap Y_X3_setGap 1 := ⟨⟨_, rfl⟩, rfl, rfl, rfl, by decide +kernel, by decide +kernel⟩
theorem w_X3_setGap_0 : Cond.initialized RX8 ∈ wsX3_setGap := by decide +kernel
theorem w_X3_setGap_1 : Cond.static yX8_within ∈ wsX3_setGap := by decide +kernel
theorem w_X3_setGap_2 : Cond.fieldLink RX3 9 "BunchTimes$Race" "gap" "I" ∈ wsX3_setGap := by decide +kernel
theorem w_X3_setGap_3 : ∀ w ∈ u_ws RX3 TX3 10, w ∈ wsX3_setGap := by decide +kernel
def f_X3_setGap (d : z_D) (o0 : Nat) (x1 : Int32) : Option (Int32 × z_D) := ((f_X8_within x1 1 99).bind fun v1 => (if v1 = 0 then (some (0, d)) else z_put d o0 4 x1 (fun d2 => (some (1, d2)))))
set_option maxHeartbeats 4000000 in
set_option maxRecDepth 100000 in
theorem c_X3_setGap {E : z_E} {l : Launch} {S : z_S} (d : z_D) (o0 : Nat) (h0 : A_Race S o0) (x1 : Int32) : z_Sp E l yX3_setGap Y_X3_setGap (cvX S) [.ref (E.2.1 + o0), .int x1] (S, d) (f_X3_setGap d o0 x1) := by
  refine z_entry (lv := [(0, .ref (E.2.1 + o0)), (1, .int x1)]) (by decide) rfl rfl (Nat.le_of_ble_eq_true rfl) rfl ?_
  unfold f_X3_setGap
  refine r_iload_n 1 1 rfl rfl 1 rfl dX3_setGap_0 ?_
  refine r_iconst 1 rfl 2 rfl dX3_setGap_1 ?_
  refine r_bipush 99 rfl 4 rfl dX3_setGap_2 ?_
  refine r_callSN_I (c_X8_within (E := E) (l := l) (S := S) d x1 1 99) ok_X8_within ⟨⟨(Nat.le_of_ble_eq_true rfl), (Nat.le_of_ble_eq_true rfl)⟩, (Nat.le_of_ble_eq_true rfl), (Nat.le_of_ble_eq_true rfl)⟩ rfl (Nat.le_of_ble_eq_true rfl) 19 rfl gX3_setGap_X8_within_n59 w_X3_setGap_0 w_X3_setGap_1 rfl rfl 7 rfl dX3_setGap_4 (fun v1 => ?_)
  refine r_if_ne 12 10 rfl rfl dX3_setGap_7 ?_ ?_
  · refine r_aload_n 0 0 rfl rfl 13 rfl dX3_setGap_12 ?_
    refine r_iload_n 1 1 rfl rfl 14 rfl dX3_setGap_13 ?_
    refine r_put (h0.1 0 (Nat.le_of_ble_eq_true rfl)) rfl (Nat.le_of_ble_eq_true rfl) rfl rfl w_X3_setGap_3 tyX3 tyX3_ok nmX3 (Nat.le_of_ble_eq_true rfl) rfl w_X3_setGap_2 rfl rfl rfl rfl rfl 17 rfl dX3_setGap_14 (fun d2 => ?_)
    refine r_iconst 1 rfl 18 rfl dX3_setGap_17 ?_
    exact r_zreturnc (by decide) rfl rfl (Nat.le_of_ble_eq_true rfl) (Nat.le_of_ble_eq_true rfl) dX3_setGap_18
  · refine r_iconst 0 rfl 11 rfl dX3_setGap_10 ?_
    exact r_zreturnc (by decide) rfl rfl (Nat.le_of_ble_eq_true rfl) (Nat.le_of_ble_eq_true rfl) dX3_setGap_11
def Y_X3_setZone : z_Y := (RX3, cX3_setZone, 2, wsX3_setZone, (some .boolean), { frames := 1, cells := 0, slots := 0, locals := 22 }, 0, 0)
theorem ok_X3_setZone : z_Ok yX3_setZone Y_X3_setZone 1 := ⟨⟨_, rfl⟩, rfl, rfl, rfl, by decide +kernel, by decide +kernel⟩
theorem w_X3_setZone_0 : Cond.initialized RX8 ∈ wsX3_setZone := by decide +kernel
theorem w_X3_setZone_1 : Cond.static yX8_within ∈ wsX3_setZone := by decide +kernel
theorem w_X3_setZone_2 : Cond.fieldLink RX3 15 "BunchTimes$Race" "zone" "I" ∈ wsX3_setZone := by decide +kernel
theorem w_X3_setZone_3 : ∀ w ∈ u_ws RX3 TX3 10, w ∈ wsX3_setZone := by decide +kernel
def f_X3_setZone (d : z_D) (o0 : Nat) (x1 : Int32) : Option (Int32 × z_D) := ((f_X8_within x1 0 9).bind fun v1 => (if v1 = 0 then (some (0, d)) else z_put d o0 5 x1 (fun d2 => (some (1, d2)))))
set_option maxHeartbeats 4000000 in
set_option maxRecDepth 100000 in
theorem c_X3_setZone {E : z_E} {l : Launch} {S : z_S} (d : z_D) (o0 : Nat) (h0 : A_Race S o0) (x1 : Int32) : z_Sp E l yX3_setZone Y_X3_setZone (cvX S) [.ref (E.2.1 + o0), .int x1] (S, d) (f_X3_setZone d o0 x1) := by
  refine z_entry (lv := [(0, .ref (E.2.1 + o0)), (1, .int x1)]) (by decide) rfl rfl (Nat.le_of_ble_eq_true rfl) rfl ?_
  unfold f_X3_setZone
  refine r_iload_n 1 1 rfl rfl 1 rfl dX3_setZone_0 ?_
  refine r_iconst 0 rfl 2 rfl dX3_setZone_1 ?_
  refine r_bipush 9 rfl 4 rfl dX3_setZone_2 ?_
  refine r_callSN_I (c_X8_within (E := E) (l := l) (S := S) d x1 0 9) ok_X8_within ⟨⟨(Nat.le_of_ble_eq_true rfl), (Nat.le_of_ble_eq_true rfl)⟩, (Nat.le_of_ble_eq_true rfl), (Nat.le_of_ble_eq_true rfl)⟩ rfl (Nat.le_of_ble_eq_true rfl) 19 rfl gX3_setZone_X8_within_n59 w_X3_setZone_0 w_X3_setZone_1 rfl rfl 7 rfl dX3_setZone_4 (fun v1 => ?_)
  refine r_if_ne 12 10 rfl rfl dX3_setZone_7 ?_ ?_
  · refine r_aload_n 0 0 rfl rfl 13 rfl dX3_setZone_12 ?_
    refine r_iload_n 1 1 rfl rfl 14 rfl dX3_setZone_13 ?_
    refine r_put (h0.1 0 (Nat.le_of_ble_eq_true rfl)) rfl (Nat.le_of_ble_eq_true rfl) rfl rfl w_X3_setZone_3 tyX3 tyX3_ok nmX3 (Nat.le_of_ble_eq_true rfl) rfl w_X3_setZone_2 rfl rfl rfl rfl rfl 17 rfl dX3_setZone_14 (fun d2 => ?_)
    refine r_iconst 1 rfl 18 rfl dX3_setZone_17 ?_
    exact r_zreturnc (by decide) rfl rfl (Nat.le_of_ble_eq_true rfl) (Nat.le_of_ble_eq_true rfl) dX3_setZone_18
  · refine r_iconst 0 rfl 11 rfl dX3_setZone_10 ?_
    exact r_zreturnc (by decide) rfl rfl (Nat.le_of_ble_eq_true rfl) (Nat.le_of_ble_eq_true rfl) dX3_setZone_11
def Y_X3_sendOut : z_Y := (RX3, cX3_sendOut, 4, wsX3_sendOut, (some .int), { frames := 1, cells := 0, slots := 0, locals := 21 }, 0, 0)
theorem ok_X3_sendOut : z_Ok yX3_sendOut Y_X3_sendOut 1 := ⟨⟨_, rfl⟩, rfl, rfl, rfl, by decide +kernel, by decide +kernel⟩
theorem w_X3_sendOut_0 : Cond.fieldLink RX3 39 "BunchTimes$Race" "riders" "I" ∈ wsX3_sendOut := by decide +kernel
theorem w_X3_sendOut_1 : ∀ w ∈ u_ws RX3 TX3 10, w ∈ wsX3_sendOut := by decide +kernel
theorem w_X3_sendOut_2 : Cond.fieldLink RX3 25 "BunchTimes$Race" "in" "[Z" ∈ wsX3_sendOut := by decide +kernel
theorem w_X3_sendOut_3 : Cond.initialized RX4 ∈ wsX3_sendOut := by decide +kernel
theorem w_X3_sendOut_4 : Cond.instanceMethod yX4_sendsOut ∈ wsX3_sendOut := by decide +kernel
theorem w_X3_sendOut_5 : Cond.selects RX4 yX4_sendsOut yX4_sendsOut ∈ wsX3_sendOut := by decide +kernel
def f_X3_sendOut_L4_b (o0 : Nat) (o1 : Nat) (K : Int32 → z_D → Option (Int32 × z_D)) (R : Int32 → Int32 → z_D → Option (Int32 × z_D)) (x2 : Int32) (x3 : Int32) (d : z_D) : Option (Int32 × z_D) := (if (d o0 1) ≤ x3 then (K x2 d) else z_ald d (o0 + 3) 16 x3 (fun v1 => (if v1 = 0 then (R x2 (x3 + 1) d) else ((f_X4_sendsOut d o1 x3).bind fun v2 => (if v2 = 0 then (R x2 (x3 + 1) d) else z_ast d (o0 + 3) 16 x3 (0 &&& 1) (fun d3 => (R (x2 + 1) (x3 + 1) d3)))))))
def f_X3_sendOut_L4 (o0 : Nat) (o1 : Nat) (K : Int32 → z_D → Option (Int32 × z_D)) : Nat → Int32 → Int32 → z_D → Option (Int32 × z_D)
  | 0 => fun _ _ _ => none
  | n + 1 => f_X3_sendOut_L4_b o0 o1 K (f_X3_sendOut_L4 o0 o1 K n)
set_option maxHeartbeats 4000000 in
set_option maxRecDepth 100000 in
theorem g_X3_sendOut_L4 {E : z_E} {l : Launch} {S : z_S} {o0 : Nat} {o1 : Nat} {K : Int32 → z_D → Option (Int32 × z_D)} (h0 : A_Race S o0) (h1 : A_Stage S o1) (hK : ∀ (y2 : Int32) (d9 : z_D), z_G E l Y_X3_sendOut (cvX S) (K y2 d9) 45 [(2, .int y2)] [] (S, d9) 0 0) : ∀ (n : Nat) (x2 : Int32) (x3 : Int32) (d : z_D), z_G E l Y_X3_sendOut (cvX S) (f_X3_sendOut_L4 o0 o1 K n x2 x3 d) 4 [(0, .ref (E.2.1 + o0)), (1, .ref (E.2.1 + o1)), (2, .int x2), (3, .int x3)] [] (S, d) 0 0 := by
  intro n
  induction n with
  | zero => intro _ _ _; exact r_none
  | succ n ih =>
    intro x2 x3 d
    show z_G E l Y_X3_sendOut (cvX S) (f_X3_sendOut_L4_b o0 o1 K (f_X3_sendOut_L4 o0 o1 K n) x2 x3 d) 4 [(0, .ref (E.2.1 + o0)), (1, .ref (E.2.1 + o1)), (2, .int x2), (3, .int x3)] [] (S, d) 0 0
    unfold f_X3_sendOut_L4_b
    refine r_iload_n 3 3 rfl rfl 5 rfl dX3_sendOut_4 ?_
    refine r_aload_n 0 0 rfl rfl 6 rfl dX3_sendOut_5 ?_
    refine r_get (h0.1 0 (Nat.le_of_ble_eq_true rfl)) rfl (Nat.le_of_ble_eq_true rfl) rfl rfl w_X3_sendOut_1 1 (Nat.le_of_ble_eq_true rfl) rfl w_X3_sendOut_0 (.int (d o0 1)) rfl 9 rfl dX3_sendOut_6 ?_
    refine r_icmp_ge 45 12 rfl rfl dX3_sendOut_9 ?_ ?_
    · refine r_sub [2] rfl ?_
      exact hK x2 d
    · refine r_aload_n 0 0 rfl rfl 13 rfl dX3_sendOut_12 ?_
      refine r_get (h0.1 0 (Nat.le_of_ble_eq_true rfl)) rfl (Nat.le_of_ble_eq_true rfl) rfl rfl w_X3_sendOut_1 8 (Nat.le_of_ble_eq_true rfl) rfl w_X3_sendOut_2 (.ref (E.2.1 + (o0 + 3))) rfl 16 rfl dX3_sendOut_13 ?_
      refine r_iload_n 3 3 rfl rfl 17 rfl dX3_sendOut_16 ?_
      refine r_zald (h0.1 3 (Nat.le_of_ble_eq_true rfl)) rfl rfl 18 rfl dX3_sendOut_17 (fun v1 => ?_)
      refine r_if_eq 39 21 rfl rfl dX3_sendOut_18 ?_ ?_
      · refine r_iinc (x3 + 1) 3 rfl rfl [(3, .int (x3 + 1)), (0, .ref (E.2.1 + o0)), (1, .ref (E.2.1 + o1)), (2, .int x2)] (Nat.le_of_ble_eq_true rfl) rfl 42 rfl dX3_sendOut_39 ?_
        refine r_goto 4 rfl dX3_sendOut_42 ?_
        refine r_sub [1, 2, 3, 0] rfl ?_
        exact ih x2 (x3 + 1) d
      · refine r_aload_n 1 1 rfl rfl 22 rfl dX3_sendOut_21 ?_
        refine r_iload_n 3 3 rfl rfl 23 rfl dX3_sendOut_22 ?_
        refine r_callVN_I (c_X4_sendsOut (E := E) (l := l) (S := S) d o1 h1 x3) ok_X4_sendsOut ⟨⟨(Nat.le_of_ble_eq_true rfl), (Nat.le_of_ble_eq_true rfl)⟩, (Nat.le_of_ble_eq_true rfl), (Nat.le_of_ble_eq_true rfl)⟩ (h1 0 (Nat.le_of_ble_eq_true rfl)) (Nat.le_of_ble_eq_true rfl) rfl rfl rfl (Nat.le_of_ble_eq_true rfl) 53 rfl gX3_sendOut_X4_sendsOut_n139 w_X3_sendOut_3 w_X3_sendOut_4 w_X3_sendOut_5 rfl rfl 26 rfl dX3_sendOut_23 (fun v2 => ?_)
        refine r_if_eq 39 29 rfl rfl dX3_sendOut_26 ?_ ?_
        · refine r_iinc (x3 + 1) 3 rfl rfl [(3, .int (x3 + 1)), (0, .ref (E.2.1 + o0)), (1, .ref (E.2.1 + o1)), (2, .int x2)] (Nat.le_of_ble_eq_true rfl) rfl 42 rfl dX3_sendOut_39 ?_
          refine r_goto 4 rfl dX3_sendOut_42 ?_
          refine r_sub [1, 2, 3, 0] rfl ?_
          exact ih x2 (x3 + 1) d
        · refine r_aload_n 0 0 rfl rfl 30 rfl dX3_sendOut_29 ?_
          refine r_get (h0.1 0 (Nat.le_of_ble_eq_true rfl)) rfl (Nat.le_of_ble_eq_true rfl) rfl rfl w_X3_sendOut_1 8 (Nat.le_of_ble_eq_true rfl) rfl w_X3_sendOut_2 (.ref (E.2.1 + (o0 + 3))) rfl 33 rfl dX3_sendOut_30 ?_
          refine r_iload_n 3 3 rfl rfl 34 rfl dX3_sendOut_33 ?_
          refine r_iconst 0 rfl 35 rfl dX3_sendOut_34 ?_
          refine r_zast (h0.1 3 (Nat.le_of_ble_eq_true rfl)) rfl rfl 36 rfl dX3_sendOut_35 (fun d3 => ?_)
          refine r_iinc (x2 + 1) 2 rfl rfl [(2, .int (x2 + 1)), (0, .ref (E.2.1 + o0)), (1, .ref (E.2.1 + o1)), (3, .int x3)] (Nat.le_of_ble_eq_true rfl) rfl 39 rfl dX3_sendOut_36 ?_
          refine r_iinc (x3 + 1) 3 rfl rfl [(3, .int (x3 + 1)), (2, .int (x2 + 1)), (0, .ref (E.2.1 + o0)), (1, .ref (E.2.1 + o1))] (Nat.le_of_ble_eq_true rfl) rfl 42 rfl dX3_sendOut_39 ?_
          refine r_goto 4 rfl dX3_sendOut_42 ?_
          refine r_sub [2, 3, 1, 0] rfl ?_
          exact ih (x2 + 1) (x3 + 1) d3
def f_X3_sendOut (d : z_D) (o0 : Nat) (o1 : Nat) : Option (Int32 × z_D) := (f_X3_sendOut_L4 o0 o1 (fun v5 d4 => (some (v5, d4))) z_N 0 0 d)
set_option maxHeartbeats 4000000 in
set_option maxRecDepth 100000 in
theorem c_X3_sendOut {E : z_E} {l : Launch} {S : z_S} (d : z_D) (o0 : Nat) (h0 : A_Race S o0) (o1 : Nat) (h1 : A_Stage S o1) : z_Sp E l yX3_sendOut Y_X3_sendOut (cvX S) [.ref (E.2.1 + o0), .ref (E.2.1 + o1)] (S, d) (f_X3_sendOut d o0 o1) := by
  refine z_entry (lv := [(0, .ref (E.2.1 + o0)), (1, .ref (E.2.1 + o1))]) (by decide) rfl rfl (Nat.le_of_ble_eq_true rfl) rfl ?_
  unfold f_X3_sendOut
  refine r_iconst 0 rfl 1 rfl dX3_sendOut_0 ?_
  refine r_istore_n 2 rfl [(2, .int 0), (0, .ref (E.2.1 + o0)), (1, .ref (E.2.1 + o1))] (Nat.le_of_ble_eq_true rfl) rfl 2 rfl dX3_sendOut_1 ?_
  refine r_iconst 0 rfl 3 rfl dX3_sendOut_2 ?_
  refine r_istore_n 3 rfl [(3, .int 0), (2, .int 0), (0, .ref (E.2.1 + o0)), (1, .ref (E.2.1 + o1))] (Nat.le_of_ble_eq_true rfl) rfl 4 rfl dX3_sendOut_3 ?_
  refine r_sub [2, 3, 1, 0] rfl ?_
  refine g_X3_sendOut_L4 h0 h1 (fun v5 d4 => ?_) z_N 0 0 d
  refine r_iload_n 2 0 rfl rfl 46 rfl dX3_sendOut_45 ?_
  exact r_ireturn rfl rfl (Nat.le_of_ble_eq_true rfl) (Nat.le_of_ble_eq_true rfl) dX3_sendOut_46
def Y_X3_closeStage : z_Y := (RX3, cX3_closeStage, 2, wsX3_closeStage, (some .int), { frames := 4, cells := 0, slots := 0, locals := 91 }, 0, 0)
theorem ok_X3_closeStage : z_Ok yX3_closeStage Y_X3_closeStage 0 := ⟨⟨_, rfl⟩, rfl, rfl, rfl, by decide +kernel, by decide +kernel⟩
theorem w_X3_closeStage_0 : Cond.fieldLink RX3 45 "BunchTimes$Race" "open" "Z" ∈ wsX3_closeStage := by decide +kernel
theorem w_X3_closeStage_1 : ∀ w ∈ u_ws RX3 TX3 10, w ∈ wsX3_closeStage := by decide +kernel
theorem w_X3_closeStage_2 : Cond.fieldLink RX3 31 "BunchTimes$Race" "all" "[LBunchTimes$Stage;" ∈ wsX3_closeStage := by decide +kernel
theorem w_X3_closeStage_3 : Cond.fieldLink RX3 42 "BunchTimes$Race" "stages" "I" ∈ wsX3_closeStage := by decide +kernel
theorem w_X3_closeStage_4 : ∀ w ∈ u_ws RX4 TX4 20, w ∈ wsX3_closeStage := by decide +kernel
theorem w_X3_closeStage_5 : Cond.initialized RX4 ∈ wsX3_closeStage := by decide +kernel
theorem w_X3_closeStage_6 : Cond.instanceMethod yX4_rank ∈ wsX3_closeStage := by decide +kernel
theorem w_X3_closeStage_7 : Cond.selects RX4 yX4_rank yX4_rank ∈ wsX3_closeStage := by decide +kernel
theorem w_X3_closeStage_8 : Cond.fieldLink RX3 9 "BunchTimes$Race" "gap" "I" ∈ wsX3_closeStage := by decide +kernel
theorem w_X3_closeStage_9 : Cond.instanceMethod yX4_split ∈ wsX3_closeStage := by decide +kernel
theorem w_X3_closeStage_10 : Cond.selects RX4 yX4_split yX4_split ∈ wsX3_closeStage := by decide +kernel
theorem w_X3_closeStage_11 : Cond.fieldLink RX3 15 "BunchTimes$Race" "zone" "I" ∈ wsX3_closeStage := by decide +kernel
theorem w_X3_closeStage_12 : Cond.instanceMethod yX4_takeTimes ∈ wsX3_closeStage := by decide +kernel
theorem w_X3_closeStage_13 : Cond.selects RX4 yX4_takeTimes yX4_takeTimes ∈ wsX3_closeStage := by decide +kernel
theorem w_X3_closeStage_14 : Cond.instanceMethod yX4_judge ∈ wsX3_closeStage := by decide +kernel
theorem w_X3_closeStage_15 : Cond.selects RX4 yX4_judge yX4_judge ∈ wsX3_closeStage := by decide +kernel
theorem w_X3_closeStage_16 : Cond.initialized RX2 ∈ wsX3_closeStage := by decide +kernel
theorem w_X3_closeStage_17 : Cond.instanceMethod yX2_awardOrder ∈ wsX3_closeStage := by decide +kernel
theorem w_X3_closeStage_18 : Cond.selects RX2 yX2_awardOrder yX2_awardOrder ∈ wsX3_closeStage := by decide +kernel
theorem w_X3_closeStage_19 : Cond.instanceMethod yX2_awardMarks ∈ wsX3_closeStage := by decide +kernel
theorem w_X3_closeStage_20 : Cond.selects RX2 yX2_awardMarks yX2_awardMarks ∈ wsX3_closeStage := by decide +kernel
def f_X3_closeStage (d : z_D) (o0 : Nat) : Option (Int32 × z_D) := (if (d o0 3) = 0 then (some ((-1), d)) else z_aald 8 ((d o0 2) - 1) (fun j1 => (if (d (o0 + 5 + 21 * j1) 7) = 0 then (some ((-1), d)) else z_aald 8 ((d o0 2) - 1) (fun j2 => ((f_X4_rank d (o0 + 5 + 21 * j2)).bind fun d3 => ((f_X4_split d3 (o0 + 5 + 21 * j2) (d3 o0 4)).bind fun d4 => ((f_X4_takeTimes d4 (o0 + 5 + 21 * j2) (d4 o0 5)).bind fun d5 => ((f_X4_judge d5 (o0 + 5 + 21 * j2)).bind fun d6 => ((f_X2_awardOrder d6 ((o0 + 5 + 21 * j2) + 6) (o0 + 5 + 21 * j2)).bind fun d7 => ((f_X2_awardMarks d7 ((o0 + 5 + 21 * j2) + 6) (o0 + 5 + 21 * j2)).bind fun d8 => z_put d8 o0 3 0 (fun d9 => z_bX (f_X3_sendOut d9 o0 (o0 + 5 + 21 * j2)) (fun v10 d11 => (some (v10, d11))))))))))))))
set_option maxHeartbeats 4000000 in
set_option maxRecDepth 100000 in
theorem c_X3_closeStage {E : z_E} {l : Launch} {S : z_S} (d : z_D) (o0 : Nat) (h0 : A_Race S o0) : z_Sp E l yX3_closeStage Y_X3_closeStage (cvX S) [.ref (E.2.1 + o0)] (S, d) (f_X3_closeStage d o0) := by
  refine z_entry (lv := [(0, .ref (E.2.1 + o0))]) (by decide) rfl rfl (Nat.le_of_ble_eq_true rfl) rfl ?_
  unfold f_X3_closeStage
  refine r_aload_n 0 0 rfl rfl 1 rfl dX3_closeStage_0 ?_
  refine r_get (h0.1 0 (Nat.le_of_ble_eq_true rfl)) rfl (Nat.le_of_ble_eq_true rfl) rfl rfl w_X3_closeStage_1 3 (Nat.le_of_ble_eq_true rfl) rfl w_X3_closeStage_0 (.int (d o0 3)) rfl 4 rfl dX3_closeStage_1 ?_
  refine r_if_eq 24 7 rfl rfl dX3_closeStage_4 ?_ ?_
  · refine r_iconst (-1) rfl 25 rfl dX3_closeStage_24 ?_
    exact r_ireturn rfl rfl (Nat.le_of_ble_eq_true rfl) (Nat.le_of_ble_eq_true rfl) dX3_closeStage_25
  · refine r_aload_n 0 0 rfl rfl 8 rfl dX3_closeStage_7 ?_
    refine r_get (h0.1 0 (Nat.le_of_ble_eq_true rfl)) rfl (Nat.le_of_ble_eq_true rfl) rfl rfl w_X3_closeStage_1 9 (Nat.le_of_ble_eq_true rfl) rfl w_X3_closeStage_2 (.ref (E.2.1 + (o0 + 4))) rfl 11 rfl dX3_closeStage_8 ?_
    refine r_aload_n 0 0 rfl rfl 12 rfl dX3_closeStage_11 ?_
    refine r_get (h0.1 0 (Nat.le_of_ble_eq_true rfl)) rfl (Nat.le_of_ble_eq_true rfl) rfl rfl w_X3_closeStage_1 2 (Nat.le_of_ble_eq_true rfl) rfl w_X3_closeStage_3 (.int (d o0 2)) rfl 15 rfl dX3_closeStage_12 ?_
    refine r_iconst 1 rfl 16 rfl dX3_closeStage_15 ?_
    refine r_isub 17 rfl dX3_closeStage_16 ?_
    refine r_aald (h0.1 4 (Nat.le_of_ble_eq_true rfl)) rfl rfl (fun _ h9 => if_pos h9) 18 rfl dX3_closeStage_17 (fun j1 hj1 => ?_)
    refine r_getN 7 18 rfl ((h0.2 j1 hj1) 0 (Nat.le_of_ble_eq_true rfl)) rfl (Nat.le_of_ble_eq_true rfl) rfl rfl w_X3_closeStage_4 (Nat.le_of_ble_eq_true rfl) rfl (.int (d (o0 + 5 + 21 * j1) 7)) rfl 21 rfl dX3_closeStage_18 ?_
    refine r_if_ne 26 24 rfl rfl dX3_closeStage_21 ?_ ?_
    · refine r_aload_n 0 0 rfl rfl 27 rfl dX3_closeStage_26 ?_
      refine r_get (h0.1 0 (Nat.le_of_ble_eq_true rfl)) rfl (Nat.le_of_ble_eq_true rfl) rfl rfl w_X3_closeStage_1 9 (Nat.le_of_ble_eq_true rfl) rfl w_X3_closeStage_2 (.ref (E.2.1 + (o0 + 4))) rfl 30 rfl dX3_closeStage_27 ?_
      refine r_aload_n 0 0 rfl rfl 31 rfl dX3_closeStage_30 ?_
      refine r_get (h0.1 0 (Nat.le_of_ble_eq_true rfl)) rfl (Nat.le_of_ble_eq_true rfl) rfl rfl w_X3_closeStage_1 2 (Nat.le_of_ble_eq_true rfl) rfl w_X3_closeStage_3 (.int (d o0 2)) rfl 34 rfl dX3_closeStage_31 ?_
      refine r_iconst 1 rfl 35 rfl dX3_closeStage_34 ?_
      refine r_isub 36 rfl dX3_closeStage_35 ?_
      refine r_aald (h0.1 4 (Nat.le_of_ble_eq_true rfl)) rfl rfl (fun _ h9 => if_pos h9) 37 rfl dX3_closeStage_36 (fun j2 hj2 => ?_)
      refine r_astore_n 1 rfl [(1, .ref (E.2.1 + (o0 + 5 + 21 * j2))), (0, .ref (E.2.1 + o0))] (Nat.le_of_ble_eq_true rfl) rfl 38 rfl dX3_closeStage_37 ?_
      refine r_aload_n 1 0 rfl rfl 39 rfl dX3_closeStage_38 ?_
      refine r_callVN_V (c_X4_rank (E := E) (l := l) (S := S) d (o0 + 5 + 21 * j2) (h0.2 j2 hj2)) ok_X4_rank ⟨⟨(Nat.le_of_ble_eq_true rfl), (Nat.le_of_ble_eq_true rfl)⟩, (Nat.le_of_ble_eq_true rfl), (Nat.le_of_ble_eq_true rfl)⟩ ((h0.2 j2 hj2) 0 (Nat.le_of_ble_eq_true rfl)) (Nat.le_of_ble_eq_true rfl) rfl rfl rfl (Nat.le_of_ble_eq_true rfl) 47 rfl gX3_closeStage_X4_rank_n111 w_X3_closeStage_5 w_X3_closeStage_6 w_X3_closeStage_7 rfl rfl 42 rfl dX3_closeStage_39 (fun d3 => ?_)
      refine r_aload_n 1 0 rfl rfl 43 rfl dX3_closeStage_42 ?_
      refine r_aload_n 0 1 rfl rfl 44 rfl dX3_closeStage_43 ?_
      refine r_get (h0.1 0 (Nat.le_of_ble_eq_true rfl)) rfl (Nat.le_of_ble_eq_true rfl) rfl rfl w_X3_closeStage_1 4 (Nat.le_of_ble_eq_true rfl) rfl w_X3_closeStage_8 (.int (d3 o0 4)) rfl 47 rfl dX3_closeStage_44 ?_
      refine r_callVN_V (c_X4_split (E := E) (l := l) (S := S) d3 (o0 + 5 + 21 * j2) (h0.2 j2 hj2) (d3 o0 4)) ok_X4_split ⟨⟨(Nat.le_of_ble_eq_true rfl), (Nat.le_of_ble_eq_true rfl)⟩, (Nat.le_of_ble_eq_true rfl), (Nat.le_of_ble_eq_true rfl)⟩ ((h0.2 j2 hj2) 0 (Nat.le_of_ble_eq_true rfl)) (Nat.le_of_ble_eq_true rfl) rfl rfl rfl (Nat.le_of_ble_eq_true rfl) 48 rfl gX3_closeStage_X4_split_n114 w_X3_closeStage_5 w_X3_closeStage_9 w_X3_closeStage_10 rfl rfl 50 rfl dX3_closeStage_47 (fun d4 => ?_)
      refine r_aload_n 1 0 rfl rfl 51 rfl dX3_closeStage_50 ?_
      refine r_aload_n 0 1 rfl rfl 52 rfl dX3_closeStage_51 ?_
      refine r_get (h0.1 0 (Nat.le_of_ble_eq_true rfl)) rfl (Nat.le_of_ble_eq_true rfl) rfl rfl w_X3_closeStage_1 5 (Nat.le_of_ble_eq_true rfl) rfl w_X3_closeStage_11 (.int (d4 o0 5)) rfl 55 rfl dX3_closeStage_52 ?_
      refine r_callVN_V (c_X4_takeTimes (E := E) (l := l) (S := S) d4 (o0 + 5 + 21 * j2) (h0.2 j2 hj2) (d4 o0 5)) ok_X4_takeTimes ⟨⟨(Nat.le_of_ble_eq_true rfl), (Nat.le_of_ble_eq_true rfl)⟩, (Nat.le_of_ble_eq_true rfl), (Nat.le_of_ble_eq_true rfl)⟩ ((h0.2 j2 hj2) 0 (Nat.le_of_ble_eq_true rfl)) (Nat.le_of_ble_eq_true rfl) rfl rfl rfl (Nat.le_of_ble_eq_true rfl) 49 rfl gX3_closeStage_X4_takeTimes_n117 w_X3_closeStage_5 w_X3_closeStage_12 w_X3_closeStage_13 rfl rfl 58 rfl dX3_closeStage_55 (fun d5 => ?_)
      refine r_aload_n 1 0 rfl rfl 59 rfl dX3_closeStage_58 ?_
      refine r_callVN_V (c_X4_judge (E := E) (l := l) (S := S) d5 (o0 + 5 + 21 * j2) (h0.2 j2 hj2)) ok_X4_judge ⟨⟨(Nat.le_of_ble_eq_true rfl), (Nat.le_of_ble_eq_true rfl)⟩, (Nat.le_of_ble_eq_true rfl), (Nat.le_of_ble_eq_true rfl)⟩ ((h0.2 j2 hj2) 0 (Nat.le_of_ble_eq_true rfl)) (Nat.le_of_ble_eq_true rfl) rfl rfl rfl (Nat.le_of_ble_eq_true rfl) 50 rfl gX3_closeStage_X4_judge_n120 w_X3_closeStage_5 w_X3_closeStage_14 w_X3_closeStage_15 rfl rfl 62 rfl dX3_closeStage_59 (fun d6 => ?_)
      refine r_aload_n 1 0 rfl rfl 63 rfl dX3_closeStage_62 ?_
      refine r_getN 1 14 rfl ((h0.2 j2 hj2) 0 (Nat.le_of_ble_eq_true rfl)) rfl (Nat.le_of_ble_eq_true rfl) rfl rfl w_X3_closeStage_4 (Nat.le_of_ble_eq_true rfl) rfl (.ref (E.2.1 + ((o0 + 5 + 21 * j2) + 6))) rfl 66 rfl dX3_closeStage_63 ?_
      refine r_aload_n 1 0 rfl rfl 67 rfl dX3_closeStage_66 ?_
      refine r_callVN_V (c_X2_awardOrder (E := E) (l := l) (S := S) d6 ((o0 + 5 + 21 * j2) + 6) (A_Stage.prizes (h0.2 j2 hj2)) (o0 + 5 + 21 * j2) (h0.2 j2 hj2)) ok_X2_awardOrder ⟨⟨(Nat.le_of_ble_eq_true rfl), (Nat.le_of_ble_eq_true rfl)⟩, (Nat.le_of_ble_eq_true rfl), (Nat.le_of_ble_eq_true rfl)⟩ ((A_Stage.prizes (h0.2 j2 hj2)) 0 (Nat.le_of_ble_eq_true rfl)) (Nat.le_of_ble_eq_true rfl) rfl rfl rfl (Nat.le_of_ble_eq_true rfl) 51 rfl gX3_closeStage_X2_awardOrder_n127 w_X3_closeStage_16 w_X3_closeStage_17 w_X3_closeStage_18 rfl rfl 70 rfl dX3_closeStage_67 (fun d7 => ?_)
      refine r_aload_n 1 0 rfl rfl 71 rfl dX3_closeStage_70 ?_
      refine r_getN 1 14 rfl ((h0.2 j2 hj2) 0 (Nat.le_of_ble_eq_true rfl)) rfl (Nat.le_of_ble_eq_true rfl) rfl rfl w_X3_closeStage_4 (Nat.le_of_ble_eq_true rfl) rfl (.ref (E.2.1 + ((o0 + 5 + 21 * j2) + 6))) rfl 74 rfl dX3_closeStage_71 ?_
      refine r_aload_n 1 0 rfl rfl 75 rfl dX3_closeStage_74 ?_
      refine r_callVN_V (c_X2_awardMarks (E := E) (l := l) (S := S) d7 ((o0 + 5 + 21 * j2) + 6) (A_Stage.prizes (h0.2 j2 hj2)) (o0 + 5 + 21 * j2) (h0.2 j2 hj2)) ok_X2_awardMarks ⟨⟨(Nat.le_of_ble_eq_true rfl), (Nat.le_of_ble_eq_true rfl)⟩, (Nat.le_of_ble_eq_true rfl), (Nat.le_of_ble_eq_true rfl)⟩ ((A_Stage.prizes (h0.2 j2 hj2)) 0 (Nat.le_of_ble_eq_true rfl)) (Nat.le_of_ble_eq_true rfl) rfl rfl rfl (Nat.le_of_ble_eq_true rfl) 52 rfl gX3_closeStage_X2_awardMarks_n132 w_X3_closeStage_16 w_X3_closeStage_19 w_X3_closeStage_20 rfl rfl 78 rfl dX3_closeStage_75 (fun d8 => ?_)
      refine r_aload_n 0 1 rfl rfl 79 rfl dX3_closeStage_78 ?_
      refine r_iconst 0 rfl 80 rfl dX3_closeStage_79 ?_
      refine r_put (h0.1 0 (Nat.le_of_ble_eq_true rfl)) rfl (Nat.le_of_ble_eq_true rfl) rfl rfl w_X3_closeStage_1 tyX3 tyX3_ok nmX3 (Nat.le_of_ble_eq_true rfl) rfl w_X3_closeStage_0 rfl rfl rfl rfl rfl 83 rfl dX3_closeStage_80 (fun d9 => ?_)
      refine r_aload_n 0 1 rfl rfl 84 rfl dX3_closeStage_83 ?_
      refine r_aload_n 1 0 rfl rfl 85 rfl dX3_closeStage_84 ?_
      refine r_callV_X (c_X3_sendOut (E := E) (l := l) (S := S) d9 o0 h0 (o0 + 5 + 21 * j2) (h0.2 j2 hj2)) ok_X3_sendOut ⟨⟨(Nat.le_of_ble_eq_true rfl), (Nat.le_of_ble_eq_true rfl)⟩, (Nat.le_of_ble_eq_true rfl), (Nat.le_of_ble_eq_true rfl)⟩ (h0.1 0 (Nat.le_of_ble_eq_true rfl)) (Nat.le_of_ble_eq_true rfl) rfl rfl rfl (Nat.le_of_ble_eq_true rfl) gX3_closeStage_X3_sendOut rfl rfl 88 rfl dX3_closeStage_85 (fun v10 d11 => ?_)
      exact r_ireturn rfl rfl (Nat.le_of_ble_eq_true rfl) (Nat.le_of_ble_eq_true rfl) dX3_closeStage_88
    · refine r_iconst (-1) rfl 25 rfl dX3_closeStage_24 ?_
      exact r_ireturn rfl rfl (Nat.le_of_ble_eq_true rfl) (Nat.le_of_ble_eq_true rfl) dX3_closeStage_25
def Y_X3_closed : z_Y := (RX3, cX3_closed, 1, wsX3_closed, (some .int), { frames := 0, cells := 0, slots := 0, locals := 0 }, 0, 0)
theorem ok_X3_closed : z_Ok yX3_closed Y_X3_closed 0 := ⟨⟨_, rfl⟩, rfl, rfl, rfl, by decide +kernel, by decide +kernel⟩
theorem w_X3_closed_0 : Cond.fieldLink RX3 45 "BunchTimes$Race" "open" "Z" ∈ wsX3_closed := by decide +kernel
theorem w_X3_closed_1 : ∀ w ∈ u_ws RX3 TX3 10, w ∈ wsX3_closed := by decide +kernel
theorem w_X3_closed_2 : Cond.fieldLink RX3 42 "BunchTimes$Race" "stages" "I" ∈ wsX3_closed := by decide +kernel
def f_X3_closed (d : z_D) (o0 : Nat) : Option Int32 := (if (d o0 3) = 0 then (some (d o0 2)) else (some ((d o0 2) - 1)))
set_option maxHeartbeats 4000000 in
set_option maxRecDepth 100000 in
theorem c_X3_closed {E : z_E} {l : Launch} {S : z_S} (d : z_D) (o0 : Nat) (h0 : A_Race S o0) : z_Sp E l yX3_closed Y_X3_closed (cvI S d) [.ref (E.2.1 + o0)] (S, d) (f_X3_closed d o0) := by
  refine z_entry (lv := [(0, .ref (E.2.1 + o0))]) (by decide) rfl rfl (Nat.le_of_ble_eq_true rfl) rfl ?_
  unfold f_X3_closed
  refine r_aload_n 0 0 rfl rfl 1 rfl dX3_closed_0 ?_
  refine r_get (h0.1 0 (Nat.le_of_ble_eq_true rfl)) rfl (Nat.le_of_ble_eq_true rfl) rfl rfl w_X3_closed_1 3 (Nat.le_of_ble_eq_true rfl) rfl w_X3_closed_0 (.int (d o0 3)) rfl 4 rfl dX3_closed_1 ?_
  refine r_if_eq 16 7 rfl rfl dX3_closed_4 ?_ ?_
  · refine r_aload_n 0 0 rfl rfl 17 rfl dX3_closed_16 ?_
    refine r_get (h0.1 0 (Nat.le_of_ble_eq_true rfl)) rfl (Nat.le_of_ble_eq_true rfl) rfl rfl w_X3_closed_1 2 (Nat.le_of_ble_eq_true rfl) rfl w_X3_closed_2 (.int (d o0 2)) rfl 20 rfl dX3_closed_17 ?_
    exact r_ireturn rfl rfl (Nat.le_of_ble_eq_true rfl) (Nat.le_of_ble_eq_true rfl) dX3_closed_20
  · refine r_aload_n 0 0 rfl rfl 8 rfl dX3_closed_7 ?_
    refine r_get (h0.1 0 (Nat.le_of_ble_eq_true rfl)) rfl (Nat.le_of_ble_eq_true rfl) rfl rfl w_X3_closed_1 2 (Nat.le_of_ble_eq_true rfl) rfl w_X3_closed_2 (.int (d o0 2)) rfl 11 rfl dX3_closed_8 ?_
    refine r_iconst 1 rfl 12 rfl dX3_closed_11 ?_
    refine r_isub 13 rfl dX3_closed_12 ?_
    refine r_goto 20 rfl dX3_closed_13 ?_
    exact r_ireturn rfl rfl (Nat.le_of_ble_eq_true rfl) (Nat.le_of_ble_eq_true rfl) dX3_closed_20
def Y_X3_closedStage : z_Y := (RX3, cX3_closedStage, 2, wsX3_closedStage, (some (.object "BunchTimes$Stage")), { frames := 1, cells := 0, slots := 0, locals := 22 }, 0, 0)
theorem ok_X3_closedStage : z_Ok yX3_closedStage Y_X3_closedStage 1 := ⟨⟨_, rfl⟩, rfl, rfl, rfl, by decide +kernel, by decide +kernel⟩
theorem w_X3_closedStage_0 : Cond.initialized RX8 ∈ wsX3_closedStage := by decide +kernel
theorem w_X3_closedStage_1 : Cond.static yX8_within ∈ wsX3_closedStage := by decide +kernel
theorem w_X3_closedStage_2 : Cond.fieldLink RX3 31 "BunchTimes$Race" "all" "[LBunchTimes$Stage;" ∈ wsX3_closedStage := by decide +kernel
theorem w_X3_closedStage_3 : ∀ w ∈ u_ws RX3 TX3 10, w ∈ wsX3_closedStage := by decide +kernel
def f_X3_closedStage (d : z_D) (o0 : Nat) (x1 : Int32) : Option (Option Nat) := ((f_X3_closed d o0).bind fun v1 => ((f_X8_within x1 0 (v1 - 1)).bind fun v2 => (if v2 = 0 then (some none) else z_aald 8 x1 (fun j3 => (some (some j3))))))
set_option maxHeartbeats 4000000 in
set_option maxRecDepth 100000 in
theorem c_X3_closedStage {E : z_E} {l : Launch} {S : z_S} (d : z_D) (o0 : Nat) (h0 : A_Race S o0) (x1 : Int32) : z_Sp E l yX3_closedStage Y_X3_closedStage (cvR E S d o0) [.ref (E.2.1 + o0), .int x1] (S, d) (f_X3_closedStage d o0 x1) := by
  refine z_entry (lv := [(0, .ref (E.2.1 + o0)), (1, .int x1)]) (by decide) rfl rfl (Nat.le_of_ble_eq_true rfl) rfl ?_
  unfold f_X3_closedStage
  refine r_iload_n 1 1 rfl rfl 1 rfl dX3_closedStage_0 ?_
  refine r_iconst 0 rfl 2 rfl dX3_closedStage_1 ?_
  refine r_aload_n 0 0 rfl rfl 3 rfl dX3_closedStage_2 ?_
  refine r_callV_I (c_X3_closed (E := E) (l := l) (S := S) d o0 h0) ok_X3_closed ⟨⟨(Nat.le_of_ble_eq_true rfl), (Nat.le_of_ble_eq_true rfl)⟩, (Nat.le_of_ble_eq_true rfl), (Nat.le_of_ble_eq_true rfl)⟩ (h0.1 0 (Nat.le_of_ble_eq_true rfl)) (Nat.le_of_ble_eq_true rfl) rfl rfl rfl (Nat.le_of_ble_eq_true rfl) gX3_closedStage_X3_closed rfl rfl 6 rfl dX3_closedStage_3 (fun v1 => ?_)
  refine r_iconst 1 rfl 7 rfl dX3_closedStage_6 ?_
  refine r_isub 8 rfl dX3_closedStage_7 ?_
  refine r_callSN_I (c_X8_within (E := E) (l := l) (S := S) d x1 0 (v1 - 1)) ok_X8_within ⟨⟨(Nat.le_of_ble_eq_true rfl), (Nat.le_of_ble_eq_true rfl)⟩, (Nat.le_of_ble_eq_true rfl), (Nat.le_of_ble_eq_true rfl)⟩ rfl (Nat.le_of_ble_eq_true rfl) 19 rfl gX3_closedStage_X8_within_n59 w_X3_closedStage_0 w_X3_closedStage_1 rfl rfl 11 rfl dX3_closedStage_8 (fun v2 => ?_)
  refine r_if_eq 23 14 rfl rfl dX3_closedStage_11 ?_ ?_
  · refine r_null 24 rfl dX3_closedStage_23 ?_
    exact r_areturn (Or.inl rfl) rfl rfl (Nat.le_of_ble_eq_true rfl) (Nat.le_of_ble_eq_true rfl) dX3_closedStage_24
  · refine r_aload_n 0 0 rfl rfl 15 rfl dX3_closedStage_14 ?_
    refine r_get (h0.1 0 (Nat.le_of_ble_eq_true rfl)) rfl (Nat.le_of_ble_eq_true rfl) rfl rfl w_X3_closedStage_3 9 (Nat.le_of_ble_eq_true rfl) rfl w_X3_closedStage_2 (.ref (E.2.1 + (o0 + 4))) rfl 18 rfl dX3_closedStage_15 ?_
    refine r_iload_n 1 1 rfl rfl 19 rfl dX3_closedStage_18 ?_
    refine r_aald (h0.1 4 (Nat.le_of_ble_eq_true rfl)) rfl rfl (fun _ h9 => if_pos h9) 20 rfl dX3_closedStage_19 (fun j3 hj3 => ?_)
    refine r_goto 24 rfl dX3_closedStage_20 ?_
    exact r_areturn (Or.inr ⟨_, rfl⟩) rfl rfl (Nat.le_of_ble_eq_true rfl) (Nat.le_of_ble_eq_true rfl) dX3_closedStage_24
def Y_X3_latestMarks : z_Y := (RX3, cX3_latestMarks, 1, wsX3_latestMarks, (some .int), { frames := 0, cells := 0, slots := 0, locals := 0 }, 0, 0)
theorem ok_X3_latestMarks : z_Ok yX3_latestMarks Y_X3_latestMarks 0 := ⟨⟨_, rfl⟩, rfl, rfl, rfl, by decide +kernel, by decide +kernel⟩
theorem w_X3_latestMarks_0 : Cond.fieldLink RX3 42 "BunchTimes$Race" "stages" "I" ∈ wsX3_latestMarks := by decide +kernel
theorem w_X3_latestMarks_1 : ∀ w ∈ u_ws RX3 TX3 10, w ∈ wsX3_latestMarks := by decide +kernel
theorem w_X3_latestMarks_2 : Cond.fieldLink RX3 31 "BunchTimes$Race" "all" "[LBunchTimes$Stage;" ∈ wsX3_latestMarks := by decide +kernel
theorem w_X3_latestMarks_3 : ∀ w ∈ u_ws RX4 TX4 20, w ∈ wsX3_latestMarks := by decide +kernel
theorem w_X3_latestMarks_4 : ∀ w ∈ u_ws RX1 TX1 7, w ∈ wsX3_latestMarks := by decide +kernel
def f_X3_latestMarks (d : z_D) (o0 : Nat) : Option Int32 := (if (d o0 2) = 0 then (some 0) else z_aald 8 ((d o0 2) - 1) (fun j1 => (some (d ((o0 + 5 + 21 * j1) + 1) 2))))
set_option maxHeartbeats 4000000 in
set_option maxRecDepth 100000 in
theorem c_X3_latestMarks {E : z_E} {l : Launch} {S : z_S} (d : z_D) (o0 : Nat) (h0 : A_Race S o0) : z_Sp E l yX3_latestMarks Y_X3_latestMarks (cvI S d) [.ref (E.2.1 + o0)] (S, d) (f_X3_latestMarks d o0) := by
  refine z_entry (lv := [(0, .ref (E.2.1 + o0))]) (by decide) rfl rfl (Nat.le_of_ble_eq_true rfl) rfl ?_
  unfold f_X3_latestMarks
  refine r_aload_n 0 0 rfl rfl 1 rfl dX3_latestMarks_0 ?_
  refine r_get (h0.1 0 (Nat.le_of_ble_eq_true rfl)) rfl (Nat.le_of_ble_eq_true rfl) rfl rfl w_X3_latestMarks_1 2 (Nat.le_of_ble_eq_true rfl) rfl w_X3_latestMarks_0 (.int (d o0 2)) rfl 4 rfl dX3_latestMarks_1 ?_
  refine r_if_ne 11 7 rfl rfl dX3_latestMarks_4 ?_ ?_
  · refine r_aload_n 0 0 rfl rfl 12 rfl dX3_latestMarks_11 ?_
    refine r_get (h0.1 0 (Nat.le_of_ble_eq_true rfl)) rfl (Nat.le_of_ble_eq_true rfl) rfl rfl w_X3_latestMarks_1 9 (Nat.le_of_ble_eq_true rfl) rfl w_X3_latestMarks_2 (.ref (E.2.1 + (o0 + 4))) rfl 15 rfl dX3_latestMarks_12 ?_
    refine r_aload_n 0 0 rfl rfl 16 rfl dX3_latestMarks_15 ?_
    refine r_get (h0.1 0 (Nat.le_of_ble_eq_true rfl)) rfl (Nat.le_of_ble_eq_true rfl) rfl rfl w_X3_latestMarks_1 2 (Nat.le_of_ble_eq_true rfl) rfl w_X3_latestMarks_0 (.int (d o0 2)) rfl 19 rfl dX3_latestMarks_16 ?_
    refine r_iconst 1 rfl 20 rfl dX3_latestMarks_19 ?_
    refine r_isub 21 rfl dX3_latestMarks_20 ?_
    refine r_aald (h0.1 4 (Nat.le_of_ble_eq_true rfl)) rfl rfl (fun _ h9 => if_pos h9) 22 rfl dX3_latestMarks_21 (fun j1 hj1 => ?_)
    refine r_getN 0 13 rfl ((h0.2 j1 hj1) 0 (Nat.le_of_ble_eq_true rfl)) rfl (Nat.le_of_ble_eq_true rfl) rfl rfl w_X3_latestMarks_3 (Nat.le_of_ble_eq_true rfl) rfl (.ref (E.2.1 + ((o0 + 5 + 21 * j1) + 1))) rfl 25 rfl dX3_latestMarks_22 ?_
    refine r_getN 2 5 rfl ((A_Stage.course (h0.2 j1 hj1)) 0 (Nat.le_of_ble_eq_true rfl)) rfl (Nat.le_of_ble_eq_true rfl) rfl rfl w_X3_latestMarks_4 (Nat.le_of_ble_eq_true rfl) rfl (.int (d ((o0 + 5 + 21 * j1) + 1) 2)) rfl 28 rfl dX3_latestMarks_25 ?_
    exact r_ireturn rfl rfl (Nat.le_of_ble_eq_true rfl) (Nat.le_of_ble_eq_true rfl) dX3_latestMarks_28
  · refine r_iconst 0 rfl 8 rfl dX3_latestMarks_7 ?_
    refine r_goto 28 rfl dX3_latestMarks_8 ?_
    exact r_ireturn rfl rfl (Nat.le_of_ble_eq_true rfl) (Nat.le_of_ble_eq_true rfl) dX3_latestMarks_28
def Y_X3_latestLength : z_Y := (RX3, cX3_latestLength, 1, wsX3_latestLength, (some .int), { frames := 0, cells := 0, slots := 0, locals := 0 }, 0, 0)
theorem ok_X3_latestLength : z_Ok yX3_latestLength Y_X3_latestLength 0 := ⟨⟨_, rfl⟩, rfl, rfl, rfl, by decide +kernel, by decide +kernel⟩
theorem w_X3_latestLength_0 : Cond.fieldLink RX3 42 "BunchTimes$Race" "stages" "I" ∈ wsX3_latestLength := by decide +kernel
theorem w_X3_latestLength_1 : ∀ w ∈ u_ws RX3 TX3 10, w ∈ wsX3_latestLength := by decide +kernel
theorem w_X3_latestLength_2 : Cond.fieldLink RX3 31 "BunchTimes$Race" "all" "[LBunchTimes$Stage;" ∈ wsX3_latestLength := by decide +kernel
theorem w_X3_latestLength_3 : ∀ w ∈ u_ws RX4 TX4 20, w ∈ wsX3_latestLength := by decide +kernel
theorem w_X3_latestLength_4 : ∀ w ∈ u_ws RX1 TX1 7, w ∈ wsX3_latestLength := by decide +kernel
def f_X3_latestLength (d : z_D) (o0 : Nat) : Option Int32 := (if (d o0 2) = 0 then (some 0) else z_aald 8 ((d o0 2) - 1) (fun j1 => (some (d ((o0 + 5 + 21 * j1) + 1) 1))))
set_option maxHeartbeats 4000000 in
set_option maxRecDepth 100000 in
theorem c_X3_latestLength {E : z_E} {l : Launch} {S : z_S} (d : z_D) (o0 : Nat) (h0 : A_Race S o0) : z_Sp E l yX3_latestLength Y_X3_latestLength (cvI S d) [.ref (E.2.1 + o0)] (S, d) (f_X3_latestLength d o0) := by
  refine z_entry (lv := [(0, .ref (E.2.1 + o0))]) (by decide) rfl rfl (Nat.le_of_ble_eq_true rfl) rfl ?_
  unfold f_X3_latestLength
  refine r_aload_n 0 0 rfl rfl 1 rfl dX3_latestLength_0 ?_
  refine r_get (h0.1 0 (Nat.le_of_ble_eq_true rfl)) rfl (Nat.le_of_ble_eq_true rfl) rfl rfl w_X3_latestLength_1 2 (Nat.le_of_ble_eq_true rfl) rfl w_X3_latestLength_0 (.int (d o0 2)) rfl 4 rfl dX3_latestLength_1 ?_
  refine r_if_ne 11 7 rfl rfl dX3_latestLength_4 ?_ ?_
  · refine r_aload_n 0 0 rfl rfl 12 rfl dX3_latestLength_11 ?_
    refine r_get (h0.1 0 (Nat.le_of_ble_eq_true rfl)) rfl (Nat.le_of_ble_eq_true rfl) rfl rfl w_X3_latestLength_1 9 (Nat.le_of_ble_eq_true rfl) rfl w_X3_latestLength_2 (.ref (E.2.1 + (o0 + 4))) rfl 15 rfl dX3_latestLength_12 ?_
    refine r_aload_n 0 0 rfl rfl 16 rfl dX3_latestLength_15 ?_
    refine r_get (h0.1 0 (Nat.le_of_ble_eq_true rfl)) rfl (Nat.le_of_ble_eq_true rfl) rfl rfl w_X3_latestLength_1 2 (Nat.le_of_ble_eq_true rfl) rfl w_X3_latestLength_0 (.int (d o0 2)) rfl 19 rfl dX3_latestLength_16 ?_
    refine r_iconst 1 rfl 20 rfl dX3_latestLength_19 ?_
    refine r_isub 21 rfl dX3_latestLength_20 ?_
    refine r_aald (h0.1 4 (Nat.le_of_ble_eq_true rfl)) rfl rfl (fun _ h9 => if_pos h9) 22 rfl dX3_latestLength_21 (fun j1 hj1 => ?_)
    refine r_getN 0 13 rfl ((h0.2 j1 hj1) 0 (Nat.le_of_ble_eq_true rfl)) rfl (Nat.le_of_ble_eq_true rfl) rfl rfl w_X3_latestLength_3 (Nat.le_of_ble_eq_true rfl) rfl (.ref (E.2.1 + ((o0 + 5 + 21 * j1) + 1))) rfl 25 rfl dX3_latestLength_22 ?_
    refine r_getN 1 3 rfl ((A_Stage.course (h0.2 j1 hj1)) 0 (Nat.le_of_ble_eq_true rfl)) rfl (Nat.le_of_ble_eq_true rfl) rfl rfl w_X3_latestLength_4 (Nat.le_of_ble_eq_true rfl) rfl (.int (d ((o0 + 5 + 21 * j1) + 1) 1)) rfl 28 rfl dX3_latestLength_25 ?_
    exact r_ireturn rfl rfl (Nat.le_of_ble_eq_true rfl) (Nat.le_of_ble_eq_true rfl) dX3_latestLength_28
  · refine r_iconst 0 rfl 8 rfl dX3_latestLength_7 ?_
    refine r_goto 28 rfl dX3_latestLength_8 ?_
    exact r_ireturn rfl rfl (Nat.le_of_ble_eq_true rfl) (Nat.le_of_ble_eq_true rfl) dX3_latestLength_28
def Y_X3_gained : z_Y := (RX3, cX3_gained, 5, wsX3_gained, (some .int), { frames := 1, cells := 0, slots := 0, locals := 22 }, 0, 0)
theorem ok_X3_gained : z_Ok yX3_gained Y_X3_gained 2 := ⟨⟨_, rfl⟩, rfl, rfl, rfl, by decide +kernel, by decide +kernel⟩
theorem w_X3_gained_0 : Cond.fieldLink RX3 31 "BunchTimes$Race" "all" "[LBunchTimes$Stage;" ∈ wsX3_gained := by decide +kernel
theorem w_X3_gained_1 : ∀ w ∈ u_ws RX3 TX3 10, w ∈ wsX3_gained := by decide +kernel
theorem w_X3_gained_2 : Cond.initialized RX4 ∈ wsX3_gained := by decide +kernel
theorem w_X3_gained_3 : Cond.instanceMethod yX4_gainedBy ∈ wsX3_gained := by decide +kernel
theorem w_X3_gained_4 : Cond.selects RX4 yX4_gainedBy yX4_gainedBy ∈ wsX3_gained := by decide +kernel
def f_X3_gained_L5_b (d : z_D) (o0 : Nat) (x1 : Int32) (x2 : Int32) (K : Int32 → Option Int32) (R : Int32 → Int32 → Option Int32) (x3 : Int32) (x4 : Int32) : Option Int32 := ((f_X3_closed d o0).bind fun v1 => (if v1 ≤ x4 then (K x3) else z_aald 8 x4 (fun j2 => ((f_X4_gainedBy d (o0 + 5 + 21 * j2) x1 x2).bind fun v3 => z_nam (x3 + v3) (fun v4 => (R v4 (x4 + 1)))))))
def f_X3_gained_L5 (d : z_D) (o0 : Nat) (x1 : Int32) (x2 : Int32) (K : Int32 → Option Int32) : Nat → Int32 → Int32 → Option Int32
  | 0 => fun _ _ => none
  | n + 1 => f_X3_gained_L5_b d o0 x1 x2 K (f_X3_gained_L5 d o0 x1 x2 K n)
set_option maxHeartbeats 4000000 in
set_option maxRecDepth 100000 in
theorem g_X3_gained_L5 {E : z_E} {l : Launch} {S : z_S} {d : z_D} {o0 : Nat} {x1 : Int32} {x2 : Int32} {K : Int32 → Option Int32} (h0 : A_Race S o0) (hK : ∀ (y3 : Int32), z_G E l Y_X3_gained (cvI S d) (K y3) 35 [(3, .int y3)] [] (S, d) 0 0) : ∀ (n : Nat) (x3 : Int32) (x4 : Int32), z_G E l Y_X3_gained (cvI S d) (f_X3_gained_L5 d o0 x1 x2 K n x3 x4) 5 [(0, .ref (E.2.1 + o0)), (1, .int x1), (2, .int x2), (3, .int x3), (4, .int x4)] [] (S, d) 0 0 := by
  intro n
  induction n with
  | zero => intro _ _; exact r_none
  | succ n ih =>
    intro x3 x4
    show z_G E l Y_X3_gained (cvI S d) (f_X3_gained_L5_b d o0 x1 x2 K (f_X3_gained_L5 d o0 x1 x2 K n) x3 x4) 5 [(0, .ref (E.2.1 + o0)), (1, .int x1), (2, .int x2), (3, .int x3), (4, .int x4)] [] (S, d) 0 0
    unfold f_X3_gained_L5_b
    refine r_iload 4 4 rfl 7 rfl dX3_gained_5 ?_
    refine r_aload_n 0 0 rfl rfl 8 rfl dX3_gained_7 ?_
    refine r_callV_I (c_X3_closed (E := E) (l := l) (S := S) d o0 h0) ok_X3_closed ⟨⟨(Nat.le_of_ble_eq_true rfl), (Nat.le_of_ble_eq_true rfl)⟩, (Nat.le_of_ble_eq_true rfl), (Nat.le_of_ble_eq_true rfl)⟩ (h0.1 0 (Nat.le_of_ble_eq_true rfl)) (Nat.le_of_ble_eq_true rfl) rfl rfl rfl (Nat.le_of_ble_eq_true rfl) gX3_gained_X3_closed rfl rfl 11 rfl dX3_gained_8 (fun v1 => ?_)
    refine r_icmp_ge 35 14 rfl rfl dX3_gained_11 ?_ ?_
    · refine r_sub [3] rfl ?_
      exact hK x3
    · refine r_iload_n 3 3 rfl rfl 15 rfl dX3_gained_14 ?_
      refine r_aload_n 0 0 rfl rfl 16 rfl dX3_gained_15 ?_
      refine r_get (h0.1 0 (Nat.le_of_ble_eq_true rfl)) rfl (Nat.le_of_ble_eq_true rfl) rfl rfl w_X3_gained_1 9 (Nat.le_of_ble_eq_true rfl) rfl w_X3_gained_0 (.ref (E.2.1 + (o0 + 4))) rfl 19 rfl dX3_gained_16 ?_
      refine r_iload 4 4 rfl 21 rfl dX3_gained_19 ?_
      refine r_aald (h0.1 4 (Nat.le_of_ble_eq_true rfl)) rfl rfl (fun _ h9 => if_pos h9) 22 rfl dX3_gained_21 (fun j2 hj2 => ?_)
      refine r_iload_n 1 1 rfl rfl 23 rfl dX3_gained_22 ?_
      refine r_iload_n 2 2 rfl rfl 24 rfl dX3_gained_23 ?_
      refine r_callVN_I (c_X4_gainedBy (E := E) (l := l) (S := S) d (o0 + 5 + 21 * j2) (h0.2 j2 hj2) x1 x2) ok_X4_gainedBy ⟨⟨(Nat.le_of_ble_eq_true rfl), (Nat.le_of_ble_eq_true rfl)⟩, (Nat.le_of_ble_eq_true rfl), (Nat.le_of_ble_eq_true rfl)⟩ ((h0.2 j2 hj2) 0 (Nat.le_of_ble_eq_true rfl)) (Nat.le_of_ble_eq_true rfl) rfl rfl rfl (Nat.le_of_ble_eq_true rfl) 86 rfl gX3_gained_X4_gainedBy_n154 w_X3_gained_2 w_X3_gained_3 w_X3_gained_4 rfl rfl 27 rfl dX3_gained_24 (fun v3 => ?_)
      refine r_iadd 28 rfl dX3_gained_27 ?_
      refine r_nami (fun v4 => ?_)
      refine r_istore_n 3 rfl [(3, .int v4), (0, .ref (E.2.1 + o0)), (1, .int x1), (2, .int x2), (4, .int x4)] (Nat.le_of_ble_eq_true rfl) rfl 29 rfl dX3_gained_28 ?_
      refine r_iinc (x4 + 1) 4 rfl rfl [(4, .int (x4 + 1)), (3, .int v4), (0, .ref (E.2.1 + o0)), (1, .int x1), (2, .int x2)] (Nat.le_of_ble_eq_true rfl) rfl 32 rfl dX3_gained_29 ?_
      refine r_goto 5 rfl dX3_gained_32 ?_
      refine r_sub [2, 3, 4, 1, 0] rfl ?_
      exact ih v4 (x4 + 1)
def f_X3_gained (d : z_D) (o0 : Nat) (x1 : Int32) (x2 : Int32) : Option Int32 := (f_X3_gained_L5 d o0 x1 x2 (fun v5 => (some v5)) z_N 0 0)
set_option maxHeartbeats 4000000 in
set_option maxRecDepth 100000 in
theorem c_X3_gained {E : z_E} {l : Launch} {S : z_S} (d : z_D) (o0 : Nat) (h0 : A_Race S o0) (x1 : Int32) (x2 : Int32) : z_Sp E l yX3_gained Y_X3_gained (cvI S d) [.ref (E.2.1 + o0), .int x1, .int x2] (S, d) (f_X3_gained d o0 x1 x2) := by
  refine z_entry (lv := [(0, .ref (E.2.1 + o0)), (1, .int x1), (2, .int x2)]) (by decide) rfl rfl (Nat.le_of_ble_eq_true rfl) rfl ?_
  unfold f_X3_gained
  refine r_iconst 0 rfl 1 rfl dX3_gained_0 ?_
  refine r_istore_n 3 rfl [(3, .int 0), (0, .ref (E.2.1 + o0)), (1, .int x1), (2, .int x2)] (Nat.le_of_ble_eq_true rfl) rfl 2 rfl dX3_gained_1 ?_
  refine r_iconst 0 rfl 3 rfl dX3_gained_2 ?_
  refine r_istore 4 [(4, .int 0), (3, .int 0), (0, .ref (E.2.1 + o0)), (1, .int x1), (2, .int x2)] (Nat.le_of_ble_eq_true rfl) rfl 5 rfl dX3_gained_3 ?_
  refine r_sub [2, 3, 4, 1, 0] rfl ?_
  refine g_X3_gained_L5 h0 (fun v5 => ?_) z_N 0 0
  refine r_iload_n 3 0 rfl rfl 36 rfl dX3_gained_35 ?_
  exact r_ireturn rfl rfl (Nat.le_of_ble_eq_true rfl) (Nat.le_of_ble_eq_true rfl) dX3_gained_36
def Y_X3_sumOf : z_Y := (RX3, cX3_sumOf, 5, wsX3_sumOf, (some .int), { frames := 1, cells := 0, slots := 0, locals := 21 }, 0, 0)
theorem ok_X3_sumOf : z_Ok yX3_sumOf Y_X3_sumOf 2 := ⟨⟨_, rfl⟩, rfl, rfl, rfl, by decide +kernel, by decide +kernel⟩
theorem w_X3_sumOf_0 : Cond.fieldLink RX3 31 "BunchTimes$Race" "all" "[LBunchTimes$Stage;" ∈ wsX3_sumOf := by decide +kernel
theorem w_X3_sumOf_1 : ∀ w ∈ u_ws RX3 TX3 10, w ∈ wsX3_sumOf := by decide +kernel
theorem w_X3_sumOf_2 : Cond.initialized RX4 ∈ wsX3_sumOf := by decide +kernel
theorem w_X3_sumOf_3 : Cond.instanceMethod yX4_netTime ∈ wsX3_sumOf := by decide +kernel
theorem w_X3_sumOf_4 : Cond.selects RX4 yX4_netTime yX4_netTime ∈ wsX3_sumOf := by decide +kernel
def f_X3_sumOf_L5_b (d : z_D) (o0 : Nat) (x1 : Int32) (x2 : Int32) (K : Int32 → Option Int32) (R : Int32 → Int32 → Option Int32) (x3 : Int32) (x4 : Int32) : Option Int32 := ((f_X3_closed d o0).bind fun v1 => (if v1 ≤ x4 then (K x3) else (if x4 = x2 then (R x3 (x4 + 1)) else z_aald 8 x4 (fun j2 => ((f_X4_netTime d (o0 + 5 + 21 * j2) x1).bind fun v3 => z_nam (x3 + v3) (fun v4 => (R v4 (x4 + 1))))))))
def f_X3_sumOf_L5 (d : z_D) (o0 : Nat) (x1 : Int32) (x2 : Int32) (K : Int32 → Option Int32) : Nat → Int32 → Int32 → Option Int32
  | 0 => fun _ _ => none
  | n + 1 => f_X3_sumOf_L5_b d o0 x1 x2 K (f_X3_sumOf_L5 d o0 x1 x2 K n)
set_option maxHeartbeats 4000000 in
set_option maxRecDepth 100000 in
theorem g_X3_sumOf_L5 {E : z_E} {l : Launch} {S : z_S} {d : z_D} {o0 : Nat} {x1 : Int32} {x2 : Int32} {K : Int32 → Option Int32} (h0 : A_Race S o0) (hK : ∀ (y3 : Int32), z_G E l Y_X3_sumOf (cvI S d) (K y3) 40 [(3, .int y3)] [] (S, d) 0 0) : ∀ (n : Nat) (x3 : Int32) (x4 : Int32), z_G E l Y_X3_sumOf (cvI S d) (f_X3_sumOf_L5 d o0 x1 x2 K n x3 x4) 5 [(0, .ref (E.2.1 + o0)), (1, .int x1), (2, .int x2), (3, .int x3), (4, .int x4)] [] (S, d) 0 0 := by
  intro n
  induction n with
  | zero => intro _ _; exact r_none
  | succ n ih =>
    intro x3 x4
    show z_G E l Y_X3_sumOf (cvI S d) (f_X3_sumOf_L5_b d o0 x1 x2 K (f_X3_sumOf_L5 d o0 x1 x2 K n) x3 x4) 5 [(0, .ref (E.2.1 + o0)), (1, .int x1), (2, .int x2), (3, .int x3), (4, .int x4)] [] (S, d) 0 0
    unfold f_X3_sumOf_L5_b
    refine r_iload 4 4 rfl 7 rfl dX3_sumOf_5 ?_
    refine r_aload_n 0 0 rfl rfl 8 rfl dX3_sumOf_7 ?_
    refine r_callV_I (c_X3_closed (E := E) (l := l) (S := S) d o0 h0) ok_X3_closed ⟨⟨(Nat.le_of_ble_eq_true rfl), (Nat.le_of_ble_eq_true rfl)⟩, (Nat.le_of_ble_eq_true rfl), (Nat.le_of_ble_eq_true rfl)⟩ (h0.1 0 (Nat.le_of_ble_eq_true rfl)) (Nat.le_of_ble_eq_true rfl) rfl rfl rfl (Nat.le_of_ble_eq_true rfl) gX3_sumOf_X3_closed rfl rfl 11 rfl dX3_sumOf_8 (fun v1 => ?_)
    refine r_icmp_ge 40 14 rfl rfl dX3_sumOf_11 ?_ ?_
    · refine r_sub [3] rfl ?_
      exact hK x3
    · refine r_iload 4 4 rfl 16 rfl dX3_sumOf_14 ?_
      refine r_iload_n 2 2 rfl rfl 17 rfl dX3_sumOf_16 ?_
      refine r_icmp_eq 34 20 rfl rfl dX3_sumOf_17 ?_ ?_
      · refine r_iinc (x4 + 1) 4 rfl rfl [(4, .int (x4 + 1)), (0, .ref (E.2.1 + o0)), (1, .int x1), (2, .int x2), (3, .int x3)] (Nat.le_of_ble_eq_true rfl) rfl 37 rfl dX3_sumOf_34 ?_
        refine r_goto 5 rfl dX3_sumOf_37 ?_
        refine r_sub [1, 2, 3, 4, 0] rfl ?_
        exact ih x3 (x4 + 1)
      · refine r_iload_n 3 3 rfl rfl 21 rfl dX3_sumOf_20 ?_
        refine r_aload_n 0 0 rfl rfl 22 rfl dX3_sumOf_21 ?_
        refine r_get (h0.1 0 (Nat.le_of_ble_eq_true rfl)) rfl (Nat.le_of_ble_eq_true rfl) rfl rfl w_X3_sumOf_1 9 (Nat.le_of_ble_eq_true rfl) rfl w_X3_sumOf_0 (.ref (E.2.1 + (o0 + 4))) rfl 25 rfl dX3_sumOf_22 ?_
        refine r_iload 4 4 rfl 27 rfl dX3_sumOf_25 ?_
        refine r_aald (h0.1 4 (Nat.le_of_ble_eq_true rfl)) rfl rfl (fun _ h9 => if_pos h9) 28 rfl dX3_sumOf_27 (fun j2 hj2 => ?_)
        refine r_iload_n 1 1 rfl rfl 29 rfl dX3_sumOf_28 ?_
        refine r_callVN_I (c_X4_netTime (E := E) (l := l) (S := S) d (o0 + 5 + 21 * j2) (h0.2 j2 hj2) x1) ok_X4_netTime ⟨⟨(Nat.le_of_ble_eq_true rfl), (Nat.le_of_ble_eq_true rfl)⟩, (Nat.le_of_ble_eq_true rfl), (Nat.le_of_ble_eq_true rfl)⟩ ((h0.2 j2 hj2) 0 (Nat.le_of_ble_eq_true rfl)) (Nat.le_of_ble_eq_true rfl) rfl rfl rfl (Nat.le_of_ble_eq_true rfl) 82 rfl gX3_sumOf_X4_netTime_n157 w_X3_sumOf_2 w_X3_sumOf_3 w_X3_sumOf_4 rfl rfl 32 rfl dX3_sumOf_29 (fun v3 => ?_)
        refine r_iadd 33 rfl dX3_sumOf_32 ?_
        refine r_nami (fun v4 => ?_)
        refine r_istore_n 3 rfl [(3, .int v4), (0, .ref (E.2.1 + o0)), (1, .int x1), (2, .int x2), (4, .int x4)] (Nat.le_of_ble_eq_true rfl) rfl 34 rfl dX3_sumOf_33 ?_
        refine r_iinc (x4 + 1) 4 rfl rfl [(4, .int (x4 + 1)), (3, .int v4), (0, .ref (E.2.1 + o0)), (1, .int x1), (2, .int x2)] (Nat.le_of_ble_eq_true rfl) rfl 37 rfl dX3_sumOf_34 ?_
        refine r_goto 5 rfl dX3_sumOf_37 ?_
        refine r_sub [2, 3, 4, 1, 0] rfl ?_
        exact ih v4 (x4 + 1)
def f_X3_sumOf (d : z_D) (o0 : Nat) (x1 : Int32) (x2 : Int32) : Option Int32 := (f_X3_sumOf_L5 d o0 x1 x2 (fun v5 => (some v5)) z_N 0 0)
set_option maxHeartbeats 4000000 in
set_option maxRecDepth 100000 in
theorem c_X3_sumOf {E : z_E} {l : Launch} {S : z_S} (d : z_D) (o0 : Nat) (h0 : A_Race S o0) (x1 : Int32) (x2 : Int32) : z_Sp E l yX3_sumOf Y_X3_sumOf (cvI S d) [.ref (E.2.1 + o0), .int x1, .int x2] (S, d) (f_X3_sumOf d o0 x1 x2) := by
  refine z_entry (lv := [(0, .ref (E.2.1 + o0)), (1, .int x1), (2, .int x2)]) (by decide) rfl rfl (Nat.le_of_ble_eq_true rfl) rfl ?_
  unfold f_X3_sumOf
  refine r_iconst 0 rfl 1 rfl dX3_sumOf_0 ?_
  refine r_istore_n 3 rfl [(3, .int 0), (0, .ref (E.2.1 + o0)), (1, .int x1), (2, .int x2)] (Nat.le_of_ble_eq_true rfl) rfl 2 rfl dX3_sumOf_1 ?_
  refine r_iconst 0 rfl 3 rfl dX3_sumOf_2 ?_
  refine r_istore 4 [(4, .int 0), (3, .int 0), (0, .ref (E.2.1 + o0)), (1, .int x1), (2, .int x2)] (Nat.le_of_ble_eq_true rfl) rfl 5 rfl dX3_sumOf_3 ?_
  refine r_sub [2, 3, 4, 1, 0] rfl ?_
  refine g_X3_sumOf_L5 h0 (fun v5 => ?_) z_N 0 0
  refine r_iload_n 3 0 rfl rfl 41 rfl dX3_sumOf_40 ?_
  exact r_ireturn rfl rfl (Nat.le_of_ble_eq_true rfl) (Nat.le_of_ble_eq_true rfl) dX3_sumOf_41
def Y_X3_placesOf : z_Y := (RX3, cX3_placesOf, 5, wsX3_placesOf, (some .int), { frames := 1, cells := 0, slots := 0, locals := 21 }, 0, 0)
theorem ok_X3_placesOf : z_Ok yX3_placesOf Y_X3_placesOf 2 := ⟨⟨_, rfl⟩, rfl, rfl, rfl, by decide +kernel, by decide +kernel⟩
theorem w_X3_placesOf_0 : Cond.fieldLink RX3 31 "BunchTimes$Race" "all" "[LBunchTimes$Stage;" ∈ wsX3_placesOf := by decide +kernel
theorem w_X3_placesOf_1 : ∀ w ∈ u_ws RX3 TX3 10, w ∈ wsX3_placesOf := by decide +kernel
theorem w_X3_placesOf_2 : Cond.initialized RX4 ∈ wsX3_placesOf := by decide +kernel
theorem w_X3_placesOf_3 : Cond.instanceMethod yX4_placeOf ∈ wsX3_placesOf := by decide +kernel
theorem w_X3_placesOf_4 : Cond.selects RX4 yX4_placeOf yX4_placeOf ∈ wsX3_placesOf := by decide +kernel
def f_X3_placesOf_L5_b (d : z_D) (o0 : Nat) (x1 : Int32) (x2 : Int32) (K : Int32 → Option Int32) (R : Int32 → Int32 → Option Int32) (x3 : Int32) (x4 : Int32) : Option Int32 := ((f_X3_closed d o0).bind fun v1 => (if v1 ≤ x4 then (K x3) else (if x4 = x2 then (R x3 (x4 + 1)) else z_aald 8 x4 (fun j2 => ((f_X4_placeOf d (o0 + 5 + 21 * j2) x1).bind fun v3 => z_nam (x3 + v3) (fun v4 => (R v4 (x4 + 1))))))))
def f_X3_placesOf_L5 (d : z_D) (o0 : Nat) (x1 : Int32) (x2 : Int32) (K : Int32 → Option Int32) : Nat → Int32 → Int32 → Option Int32
  | 0 => fun _ _ => none
  | n + 1 => f_X3_placesOf_L5_b d o0 x1 x2 K (f_X3_placesOf_L5 d o0 x1 x2 K n)
set_option maxHeartbeats 4000000 in
set_option maxRecDepth 100000 in
theorem g_X3_placesOf_L5 {E : z_E} {l : Launch} {S : z_S} {d : z_D} {o0 : Nat} {x1 : Int32} {x2 : Int32} {K : Int32 → Option Int32} (h0 : A_Race S o0) (hK : ∀ (y3 : Int32), z_G E l Y_X3_placesOf (cvI S d) (K y3) 40 [(3, .int y3)] [] (S, d) 0 0) : ∀ (n : Nat) (x3 : Int32) (x4 : Int32), z_G E l Y_X3_placesOf (cvI S d) (f_X3_placesOf_L5 d o0 x1 x2 K n x3 x4) 5 [(0, .ref (E.2.1 + o0)), (1, .int x1), (2, .int x2), (3, .int x3), (4, .int x4)] [] (S, d) 0 0 := by
  intro n
  induction n with
  | zero => intro _ _; exact r_none
  | succ n ih =>
    intro x3 x4
    show z_G E l Y_X3_placesOf (cvI S d) (f_X3_placesOf_L5_b d o0 x1 x2 K (f_X3_placesOf_L5 d o0 x1 x2 K n) x3 x4) 5 [(0, .ref (E.2.1 + o0)), (1, .int x1), (2, .int x2), (3, .int x3), (4, .int x4)] [] (S, d) 0 0
    unfold f_X3_placesOf_L5_b
    refine r_iload 4 4 rfl 7 rfl dX3_placesOf_5 ?_
    refine r_aload_n 0 0 rfl rfl 8 rfl dX3_placesOf_7 ?_
    refine r_callV_I (c_X3_closed (E := E) (l := l) (S := S) d o0 h0) ok_X3_closed ⟨⟨(Nat.le_of_ble_eq_true rfl), (Nat.le_of_ble_eq_true rfl)⟩, (Nat.le_of_ble_eq_true rfl), (Nat.le_of_ble_eq_true rfl)⟩ (h0.1 0 (Nat.le_of_ble_eq_true rfl)) (Nat.le_of_ble_eq_true rfl) rfl rfl rfl (Nat.le_of_ble_eq_true rfl) gX3_placesOf_X3_closed rfl rfl 11 rfl dX3_placesOf_8 (fun v1 => ?_)
    refine r_icmp_ge 40 14 rfl rfl dX3_placesOf_11 ?_ ?_
    · refine r_sub [3] rfl ?_
      exact hK x3
    · refine r_iload 4 4 rfl 16 rfl dX3_placesOf_14 ?_
      refine r_iload_n 2 2 rfl rfl 17 rfl dX3_placesOf_16 ?_
      refine r_icmp_eq 34 20 rfl rfl dX3_placesOf_17 ?_ ?_
      · refine r_iinc (x4 + 1) 4 rfl rfl [(4, .int (x4 + 1)), (0, .ref (E.2.1 + o0)), (1, .int x1), (2, .int x2), (3, .int x3)] (Nat.le_of_ble_eq_true rfl) rfl 37 rfl dX3_placesOf_34 ?_
        refine r_goto 5 rfl dX3_placesOf_37 ?_
        refine r_sub [1, 2, 3, 4, 0] rfl ?_
        exact ih x3 (x4 + 1)
      · refine r_iload_n 3 3 rfl rfl 21 rfl dX3_placesOf_20 ?_
        refine r_aload_n 0 0 rfl rfl 22 rfl dX3_placesOf_21 ?_
        refine r_get (h0.1 0 (Nat.le_of_ble_eq_true rfl)) rfl (Nat.le_of_ble_eq_true rfl) rfl rfl w_X3_placesOf_1 9 (Nat.le_of_ble_eq_true rfl) rfl w_X3_placesOf_0 (.ref (E.2.1 + (o0 + 4))) rfl 25 rfl dX3_placesOf_22 ?_
        refine r_iload 4 4 rfl 27 rfl dX3_placesOf_25 ?_
        refine r_aald (h0.1 4 (Nat.le_of_ble_eq_true rfl)) rfl rfl (fun _ h9 => if_pos h9) 28 rfl dX3_placesOf_27 (fun j2 hj2 => ?_)
        refine r_iload_n 1 1 rfl rfl 29 rfl dX3_placesOf_28 ?_
        refine r_callVN_I (c_X4_placeOf (E := E) (l := l) (S := S) d (o0 + 5 + 21 * j2) (h0.2 j2 hj2) x1) ok_X4_placeOf ⟨⟨(Nat.le_of_ble_eq_true rfl), (Nat.le_of_ble_eq_true rfl)⟩, (Nat.le_of_ble_eq_true rfl), (Nat.le_of_ble_eq_true rfl)⟩ ((h0.2 j2 hj2) 0 (Nat.le_of_ble_eq_true rfl)) (Nat.le_of_ble_eq_true rfl) rfl rfl rfl (Nat.le_of_ble_eq_true rfl) 84 rfl gX3_placesOf_X4_placeOf_n161 w_X3_placesOf_2 w_X3_placesOf_3 w_X3_placesOf_4 rfl rfl 32 rfl dX3_placesOf_29 (fun v3 => ?_)
        refine r_iadd 33 rfl dX3_placesOf_32 ?_
        refine r_nami (fun v4 => ?_)
        refine r_istore_n 3 rfl [(3, .int v4), (0, .ref (E.2.1 + o0)), (1, .int x1), (2, .int x2), (4, .int x4)] (Nat.le_of_ble_eq_true rfl) rfl 34 rfl dX3_placesOf_33 ?_
        refine r_iinc (x4 + 1) 4 rfl rfl [(4, .int (x4 + 1)), (3, .int v4), (0, .ref (E.2.1 + o0)), (1, .int x1), (2, .int x2)] (Nat.le_of_ble_eq_true rfl) rfl 37 rfl dX3_placesOf_34 ?_
        refine r_goto 5 rfl dX3_placesOf_37 ?_
        refine r_sub [2, 3, 4, 1, 0] rfl ?_
        exact ih v4 (x4 + 1)
def f_X3_placesOf (d : z_D) (o0 : Nat) (x1 : Int32) (x2 : Int32) : Option Int32 := (f_X3_placesOf_L5 d o0 x1 x2 (fun v5 => (some v5)) z_N 0 0)
set_option maxHeartbeats 4000000 in
set_option maxRecDepth 100000 in
theorem c_X3_placesOf {E : z_E} {l : Launch} {S : z_S} (d : z_D) (o0 : Nat) (h0 : A_Race S o0) (x1 : Int32) (x2 : Int32) : z_Sp E l yX3_placesOf Y_X3_placesOf (cvI S d) [.ref (E.2.1 + o0), .int x1, .int x2] (S, d) (f_X3_placesOf d o0 x1 x2) := by
  refine z_entry (lv := [(0, .ref (E.2.1 + o0)), (1, .int x1), (2, .int x2)]) (by decide) rfl rfl (Nat.le_of_ble_eq_true rfl) rfl ?_
  unfold f_X3_placesOf
  refine r_iconst 0 rfl 1 rfl dX3_placesOf_0 ?_
  refine r_istore_n 3 rfl [(3, .int 0), (0, .ref (E.2.1 + o0)), (1, .int x1), (2, .int x2)] (Nat.le_of_ble_eq_true rfl) rfl 2 rfl dX3_placesOf_1 ?_
  refine r_iconst 0 rfl 3 rfl dX3_placesOf_2 ?_
  refine r_istore 4 [(4, .int 0), (3, .int 0), (0, .ref (E.2.1 + o0)), (1, .int x1), (2, .int x2)] (Nat.le_of_ble_eq_true rfl) rfl 5 rfl dX3_placesOf_3 ?_
  refine r_sub [2, 3, 4, 1, 0] rfl ?_
  refine g_X3_placesOf_L5 h0 (fun v5 => ?_) z_N 0 0
  refine r_iload_n 3 0 rfl rfl 41 rfl dX3_placesOf_40 ?_
  exact r_ireturn rfl rfl (Nat.le_of_ble_eq_true rfl) (Nat.le_of_ble_eq_true rfl) dX3_placesOf_41
def Y_X3_isRanked : z_Y := (RX3, cX3_isRanked, 4, wsX3_isRanked, (some .boolean), { frames := 1, cells := 0, slots := 0, locals := 22 }, 0, 0)
theorem ok_X3_isRanked : z_Ok yX3_isRanked Y_X3_isRanked 1 := ⟨⟨_, rfl⟩, rfl, rfl, rfl, by decide +kernel, by decide +kernel⟩
theorem w_X3_isRanked_0 : Cond.fieldLink RX3 36 "BunchTimes$Race" "teams" "I" ∈ wsX3_isRanked := by decide +kernel
theorem w_X3_isRanked_1 : ∀ w ∈ u_ws RX3 TX3 10, w ∈ wsX3_isRanked := by decide +kernel
theorem w_X3_isRanked_2 : Cond.initialized RX8 ∈ wsX3_isRanked := by decide +kernel
theorem w_X3_isRanked_3 : Cond.static yX8_within ∈ wsX3_isRanked := by decide +kernel
theorem w_X3_isRanked_4 : Cond.fieldLink RX3 39 "BunchTimes$Race" "riders" "I" ∈ wsX3_isRanked := by decide +kernel
theorem w_X3_isRanked_5 : Cond.fieldLink RX3 25 "BunchTimes$Race" "in" "[Z" ∈ wsX3_isRanked := by decide +kernel
theorem w_X3_isRanked_6 : Cond.fieldLink RX3 18 "BunchTimes$Race" "teamOf" "[I" ∈ wsX3_isRanked := by decide +kernel
def f_X3_isRanked_L27_b (d : z_D) (o0 : Nat) (x1 : Int32) (K : Int32 → Option Int32) (R : Int32 → Int32 → Option Int32) (x2 : Int32) (x3 : Int32) : Option Int32 := (if (d o0 1) ≤ x3 then (K x2) else z_ald d (o0 + 3) 16 x3 (fun v3 => (if v3 = 0 then (R x2 (x3 + 1)) else z_ald d (o0 + 1) 16 x3 (fun v4 => (if v4 = x1 then (R (x2 + 1) (x3 + 1)) else (R x2 (x3 + 1)))))))
def f_X3_isRanked_L27 (d : z_D) (o0 : Nat) (x1 : Int32) (K : Int32 → Option Int32) : Nat → Int32 → Int32 → Option Int32
  | 0 => fun _ _ => none
  | n + 1 => f_X3_isRanked_L27_b d o0 x1 K (f_X3_isRanked_L27 d o0 x1 K n)
set_option maxHeartbeats 4000000 in
set_option maxRecDepth 100000 in
theorem g_X3_isRanked_L27 {E : z_E} {l : Launch} {S : z_S} {d : z_D} {o0 : Nat} {x1 : Int32} {K : Int32 → Option Int32} (h0 : A_Race S o0) (hK : ∀ (y2 : Int32), z_G E l Y_X3_isRanked (cvI S d) (K y2) 63 [(2, .int y2)] [] (S, d) 0 0) : ∀ (n : Nat) (x2 : Int32) (x3 : Int32), z_G E l Y_X3_isRanked (cvI S d) (f_X3_isRanked_L27 d o0 x1 K n x2 x3) 27 [(0, .ref (E.2.1 + o0)), (1, .int x1), (2, .int x2), (3, .int x3)] [] (S, d) 0 0 := by
  intro n
  induction n with
  | zero => intro _ _; exact r_none
  | succ n ih =>
    intro x2 x3
    show z_G E l Y_X3_isRanked (cvI S d) (f_X3_isRanked_L27_b d o0 x1 K (f_X3_isRanked_L27 d o0 x1 K n) x2 x3) 27 [(0, .ref (E.2.1 + o0)), (1, .int x1), (2, .int x2), (3, .int x3)] [] (S, d) 0 0
    unfold f_X3_isRanked_L27_b
    refine r_iload_n 3 3 rfl rfl 28 rfl dX3_isRanked_27 ?_
    refine r_aload_n 0 0 rfl rfl 29 rfl dX3_isRanked_28 ?_
    refine r_get (h0.1 0 (Nat.le_of_ble_eq_true rfl)) rfl (Nat.le_of_ble_eq_true rfl) rfl rfl w_X3_isRanked_1 1 (Nat.le_of_ble_eq_true rfl) rfl w_X3_isRanked_4 (.int (d o0 1)) rfl 32 rfl dX3_isRanked_29 ?_
    refine r_icmp_ge 63 35 rfl rfl dX3_isRanked_32 ?_ ?_
    · refine r_sub [2] rfl ?_
      exact hK x2
    · refine r_aload_n 0 0 rfl rfl 36 rfl dX3_isRanked_35 ?_
      refine r_get (h0.1 0 (Nat.le_of_ble_eq_true rfl)) rfl (Nat.le_of_ble_eq_true rfl) rfl rfl w_X3_isRanked_1 8 (Nat.le_of_ble_eq_true rfl) rfl w_X3_isRanked_5 (.ref (E.2.1 + (o0 + 3))) rfl 39 rfl dX3_isRanked_36 ?_
      refine r_iload_n 3 3 rfl rfl 40 rfl dX3_isRanked_39 ?_
      refine r_zald (h0.1 3 (Nat.le_of_ble_eq_true rfl)) rfl rfl 41 rfl dX3_isRanked_40 (fun v3 => ?_)
      refine r_if_eq 57 44 rfl rfl dX3_isRanked_41 ?_ ?_
      · refine r_iinc (x3 + 1) 3 rfl rfl [(3, .int (x3 + 1)), (0, .ref (E.2.1 + o0)), (1, .int x1), (2, .int x2)] (Nat.le_of_ble_eq_true rfl) rfl 60 rfl dX3_isRanked_57 ?_
        refine r_goto 27 rfl dX3_isRanked_60 ?_
        refine r_sub [1, 2, 3, 0] rfl ?_
        exact ih x2 (x3 + 1)
      · refine r_aload_n 0 0 rfl rfl 45 rfl dX3_isRanked_44 ?_
        refine r_get (h0.1 0 (Nat.le_of_ble_eq_true rfl)) rfl (Nat.le_of_ble_eq_true rfl) rfl rfl w_X3_isRanked_1 6 (Nat.le_of_ble_eq_true rfl) rfl w_X3_isRanked_6 (.ref (E.2.1 + (o0 + 1))) rfl 48 rfl dX3_isRanked_45 ?_
        refine r_iload_n 3 3 rfl rfl 49 rfl dX3_isRanked_48 ?_
        refine r_iald (h0.1 1 (Nat.le_of_ble_eq_true rfl)) rfl rfl 50 rfl dX3_isRanked_49 (fun v4 => ?_)
        refine r_iload_n 1 1 rfl rfl 51 rfl dX3_isRanked_50 ?_
        refine r_icmp_ne 57 54 rfl rfl dX3_isRanked_51 ?_ ?_
        · refine r_iinc (x3 + 1) 3 rfl rfl [(3, .int (x3 + 1)), (0, .ref (E.2.1 + o0)), (1, .int x1), (2, .int x2)] (Nat.le_of_ble_eq_true rfl) rfl 60 rfl dX3_isRanked_57 ?_
          refine r_goto 27 rfl dX3_isRanked_60 ?_
          refine r_sub [1, 2, 3, 0] rfl ?_
          exact ih x2 (x3 + 1)
        · refine r_iinc (x2 + 1) 2 rfl rfl [(2, .int (x2 + 1)), (0, .ref (E.2.1 + o0)), (1, .int x1), (3, .int x3)] (Nat.le_of_ble_eq_true rfl) rfl 57 rfl dX3_isRanked_54 ?_
          refine r_iinc (x3 + 1) 3 rfl rfl [(3, .int (x3 + 1)), (2, .int (x2 + 1)), (0, .ref (E.2.1 + o0)), (1, .int x1)] (Nat.le_of_ble_eq_true rfl) rfl 60 rfl dX3_isRanked_57 ?_
          refine r_goto 27 rfl dX3_isRanked_60 ?_
          refine r_sub [2, 3, 1, 0] rfl ?_
          exact ih (x2 + 1) (x3 + 1)
def f_X3_isRanked (d : z_D) (o0 : Nat) (x1 : Int32) : Option Int32 := ((f_X3_closed d o0).bind fun v1 => (if v1 = 0 then (some 0) else ((f_X8_within x1 0 ((d o0 0) - 1)).bind fun v2 => (if v2 = 0 then (some 0) else (f_X3_isRanked_L27 d o0 x1 (fun v5 => (if v5 < 3 then (some 0) else (some 1))) z_N 0 0)))))
set_option maxHeartbeats 4000000 in
set_option maxRecDepth 100000 in
theorem c_X3_isRanked {E : z_E} {l : Launch} {S : z_S} (d : z_D) (o0 : Nat) (h0 : A_Race S o0) (x1 : Int32) : z_Sp E l yX3_isRanked Y_X3_isRanked (cvI S d) [.ref (E.2.1 + o0), .int x1] (S, d) (f_X3_isRanked d o0 x1) := by
  refine z_entry (lv := [(0, .ref (E.2.1 + o0)), (1, .int x1)]) (by decide) rfl rfl (Nat.le_of_ble_eq_true rfl) rfl ?_
  unfold f_X3_isRanked
  refine r_aload_n 0 0 rfl rfl 1 rfl dX3_isRanked_0 ?_
  refine r_callV_I (c_X3_closed (E := E) (l := l) (S := S) d o0 h0) ok_X3_closed ⟨⟨(Nat.le_of_ble_eq_true rfl), (Nat.le_of_ble_eq_true rfl)⟩, (Nat.le_of_ble_eq_true rfl), (Nat.le_of_ble_eq_true rfl)⟩ (h0.1 0 (Nat.le_of_ble_eq_true rfl)) (Nat.le_of_ble_eq_true rfl) rfl rfl rfl (Nat.le_of_ble_eq_true rfl) gX3_isRanked_X3_closed rfl rfl 4 rfl dX3_isRanked_1 (fun v1 => ?_)
  refine r_if_eq 21 7 rfl rfl dX3_isRanked_4 ?_ ?_
  · refine r_iconst 0 rfl 22 rfl dX3_isRanked_21 ?_
    exact r_zreturnc (by decide) rfl rfl (Nat.le_of_ble_eq_true rfl) (Nat.le_of_ble_eq_true rfl) dX3_isRanked_22
  · refine r_iload_n 1 1 rfl rfl 8 rfl dX3_isRanked_7 ?_
    refine r_iconst 0 rfl 9 rfl dX3_isRanked_8 ?_
    refine r_aload_n 0 0 rfl rfl 10 rfl dX3_isRanked_9 ?_
    refine r_get (h0.1 0 (Nat.le_of_ble_eq_true rfl)) rfl (Nat.le_of_ble_eq_true rfl) rfl rfl w_X3_isRanked_1 0 (Nat.le_of_ble_eq_true rfl) rfl w_X3_isRanked_0 (.int (d o0 0)) rfl 13 rfl dX3_isRanked_10 ?_
    refine r_iconst 1 rfl 14 rfl dX3_isRanked_13 ?_
    refine r_isub 15 rfl dX3_isRanked_14 ?_
    refine r_callSN_I (c_X8_within (E := E) (l := l) (S := S) d x1 0 ((d o0 0) - 1)) ok_X8_within ⟨⟨(Nat.le_of_ble_eq_true rfl), (Nat.le_of_ble_eq_true rfl)⟩, (Nat.le_of_ble_eq_true rfl), (Nat.le_of_ble_eq_true rfl)⟩ rfl (Nat.le_of_ble_eq_true rfl) 19 rfl gX3_isRanked_X8_within_n59 w_X3_isRanked_2 w_X3_isRanked_3 rfl rfl 18 rfl dX3_isRanked_15 (fun v2 => ?_)
    refine r_if_ne 23 21 rfl rfl dX3_isRanked_18 ?_ ?_
    · refine r_iconst 0 rfl 24 rfl dX3_isRanked_23 ?_
      refine r_istore_n 2 rfl [(2, .int 0), (0, .ref (E.2.1 + o0)), (1, .int x1)] (Nat.le_of_ble_eq_true rfl) rfl 25 rfl dX3_isRanked_24 ?_
      refine r_iconst 0 rfl 26 rfl dX3_isRanked_25 ?_
      refine r_istore_n 3 rfl [(3, .int 0), (2, .int 0), (0, .ref (E.2.1 + o0)), (1, .int x1)] (Nat.le_of_ble_eq_true rfl) rfl 27 rfl dX3_isRanked_26 ?_
      refine r_sub [2, 3, 1, 0] rfl ?_
      refine g_X3_isRanked_L27 h0 (fun v5 => ?_) z_N 0 0
      refine r_iload_n 2 0 rfl rfl 64 rfl dX3_isRanked_63 ?_
      refine r_iconst 3 rfl 65 rfl dX3_isRanked_64 ?_
      refine r_icmp_lt 72 68 rfl rfl dX3_isRanked_65 ?_ ?_
      · refine r_iconst 0 rfl 73 rfl dX3_isRanked_72 ?_
        exact r_zreturnc (by decide) rfl rfl (Nat.le_of_ble_eq_true rfl) (Nat.le_of_ble_eq_true rfl) dX3_isRanked_73
      · refine r_iconst 1 rfl 69 rfl dX3_isRanked_68 ?_
        refine r_goto 73 rfl dX3_isRanked_69 ?_
        exact r_zreturnc (by decide) rfl rfl (Nat.le_of_ble_eq_true rfl) (Nat.le_of_ble_eq_true rfl) dX3_isRanked_73
    · refine r_iconst 0 rfl 22 rfl dX3_isRanked_21 ?_
      exact r_zreturnc (by decide) rfl rfl (Nat.le_of_ble_eq_true rfl) (Nat.le_of_ble_eq_true rfl) dX3_isRanked_22
def Y_X3_teamSum : z_Y := (RX3, cX3_teamSum, 4, wsX3_teamSum, (some .int), { frames := 2, cells := 0, slots := 0, locals := 49 }, 0, 0)
theorem ok_X3_teamSum : z_Ok yX3_teamSum Y_X3_teamSum 1 := ⟨⟨_, rfl⟩, rfl, rfl, rfl, by decide +kernel, by decide +kernel⟩
theorem w_X3_teamSum_0 : Cond.fieldLink RX3 31 "BunchTimes$Race" "all" "[LBunchTimes$Stage;" ∈ wsX3_teamSum := by decide +kernel
theorem w_X3_teamSum_1 : ∀ w ∈ u_ws RX3 TX3 10, w ∈ wsX3_teamSum := by decide +kernel
theorem w_X3_teamSum_2 : Cond.fieldLink RX3 18 "BunchTimes$Race" "teamOf" "[I" ∈ wsX3_teamSum := by decide +kernel
theorem w_X3_teamSum_3 : Cond.initialized RX4 ∈ wsX3_teamSum := by decide +kernel
theorem w_X3_teamSum_4 : Cond.instanceMethod yX4_teamTime ∈ wsX3_teamSum := by decide +kernel
theorem w_X3_teamSum_5 : Cond.selects RX4 yX4_teamTime yX4_teamTime ∈ wsX3_teamSum := by decide +kernel
def f_X3_teamSum_L4_b (d : z_D) (o0 : Nat) (x1 : Int32) (K : Int32 → Option Int32) (R : Int32 → Int32 → Option Int32) (x2 : Int32) (x3 : Int32) : Option Int32 := ((f_X3_closed d o0).bind fun v1 => (if v1 ≤ x3 then (K x2) else z_aald 8 x3 (fun j2 => ((f_X4_teamTime d (o0 + 5 + 21 * j2) (o0 + 1) x1).bind fun v3 => z_nam (x2 + v3) (fun v4 => (R v4 (x3 + 1)))))))
def f_X3_teamSum_L4 (d : z_D) (o0 : Nat) (x1 : Int32) (K : Int32 → Option Int32) : Nat → Int32 → Int32 → Option Int32
  | 0 => fun _ _ => none
  | n + 1 => f_X3_teamSum_L4_b d o0 x1 K (f_X3_teamSum_L4 d o0 x1 K n)
set_option maxHeartbeats 4000000 in
set_option maxRecDepth 100000 in
theorem g_X3_teamSum_L4 {E : z_E} {l : Launch} {S : z_S} {d : z_D} {o0 : Nat} {x1 : Int32} {K : Int32 → Option Int32} (h0 : A_Race S o0) (hK : ∀ (y2 : Int32), z_G E l Y_X3_teamSum (cvI S d) (K y2) 35 [(2, .int y2)] [] (S, d) 0 0) : ∀ (n : Nat) (x2 : Int32) (x3 : Int32), z_G E l Y_X3_teamSum (cvI S d) (f_X3_teamSum_L4 d o0 x1 K n x2 x3) 4 [(0, .ref (E.2.1 + o0)), (1, .int x1), (2, .int x2), (3, .int x3)] [] (S, d) 0 0 := by
  intro n
  induction n with
  | zero => intro _ _; exact r_none
  | succ n ih =>
    intro x2 x3
    show z_G E l Y_X3_teamSum (cvI S d) (f_X3_teamSum_L4_b d o0 x1 K (f_X3_teamSum_L4 d o0 x1 K n) x2 x3) 4 [(0, .ref (E.2.1 + o0)), (1, .int x1), (2, .int x2), (3, .int x3)] [] (S, d) 0 0
    unfold f_X3_teamSum_L4_b
    refine r_iload_n 3 3 rfl rfl 5 rfl dX3_teamSum_4 ?_
    refine r_aload_n 0 0 rfl rfl 6 rfl dX3_teamSum_5 ?_
    refine r_callV_I (c_X3_closed (E := E) (l := l) (S := S) d o0 h0) ok_X3_closed ⟨⟨(Nat.le_of_ble_eq_true rfl), (Nat.le_of_ble_eq_true rfl)⟩, (Nat.le_of_ble_eq_true rfl), (Nat.le_of_ble_eq_true rfl)⟩ (h0.1 0 (Nat.le_of_ble_eq_true rfl)) (Nat.le_of_ble_eq_true rfl) rfl rfl rfl (Nat.le_of_ble_eq_true rfl) gX3_teamSum_X3_closed rfl rfl 9 rfl dX3_teamSum_6 (fun v1 => ?_)
    refine r_icmp_ge 35 12 rfl rfl dX3_teamSum_9 ?_ ?_
    · refine r_sub [2] rfl ?_
      exact hK x2
    · refine r_iload_n 2 2 rfl rfl 13 rfl dX3_teamSum_12 ?_
      refine r_aload_n 0 0 rfl rfl 14 rfl dX3_teamSum_13 ?_
      refine r_get (h0.1 0 (Nat.le_of_ble_eq_true rfl)) rfl (Nat.le_of_ble_eq_true rfl) rfl rfl w_X3_teamSum_1 9 (Nat.le_of_ble_eq_true rfl) rfl w_X3_teamSum_0 (.ref (E.2.1 + (o0 + 4))) rfl 17 rfl dX3_teamSum_14 ?_
      refine r_iload_n 3 3 rfl rfl 18 rfl dX3_teamSum_17 ?_
      refine r_aald (h0.1 4 (Nat.le_of_ble_eq_true rfl)) rfl rfl (fun _ h9 => if_pos h9) 19 rfl dX3_teamSum_18 (fun j2 hj2 => ?_)
      refine r_aload_n 0 0 rfl rfl 20 rfl dX3_teamSum_19 ?_
      refine r_get (h0.1 0 (Nat.le_of_ble_eq_true rfl)) rfl (Nat.le_of_ble_eq_true rfl) rfl rfl w_X3_teamSum_1 6 (Nat.le_of_ble_eq_true rfl) rfl w_X3_teamSum_2 (.ref (E.2.1 + (o0 + 1))) rfl 23 rfl dX3_teamSum_20 ?_
      refine r_iload_n 1 1 rfl rfl 24 rfl dX3_teamSum_23 ?_
      refine r_callVN_I (c_X4_teamTime (E := E) (l := l) (S := S) d (o0 + 5 + 21 * j2) (h0.2 j2 hj2) (o0 + 1) (h0.1 1 (Nat.le_of_ble_eq_true rfl)) x1) ok_X4_teamTime ⟨⟨(Nat.le_of_ble_eq_true rfl), (Nat.le_of_ble_eq_true rfl)⟩, (Nat.le_of_ble_eq_true rfl), (Nat.le_of_ble_eq_true rfl)⟩ ((h0.2 j2 hj2) 0 (Nat.le_of_ble_eq_true rfl)) (Nat.le_of_ble_eq_true rfl) rfl rfl rfl (Nat.le_of_ble_eq_true rfl) 89 rfl gX3_teamSum_X4_teamTime_n164 w_X3_teamSum_3 w_X3_teamSum_4 w_X3_teamSum_5 rfl rfl 27 rfl dX3_teamSum_24 (fun v3 => ?_)
      refine r_iadd 28 rfl dX3_teamSum_27 ?_
      refine r_nami (fun v4 => ?_)
      refine r_istore_n 2 rfl [(2, .int v4), (0, .ref (E.2.1 + o0)), (1, .int x1), (3, .int x3)] (Nat.le_of_ble_eq_true rfl) rfl 29 rfl dX3_teamSum_28 ?_
      refine r_iinc (x3 + 1) 3 rfl rfl [(3, .int (x3 + 1)), (2, .int v4), (0, .ref (E.2.1 + o0)), (1, .int x1)] (Nat.le_of_ble_eq_true rfl) rfl 32 rfl dX3_teamSum_29 ?_
      refine r_goto 4 rfl dX3_teamSum_32 ?_
      refine r_sub [2, 3, 1, 0] rfl ?_
      exact ih v4 (x3 + 1)
def f_X3_teamSum (d : z_D) (o0 : Nat) (x1 : Int32) : Option Int32 := (f_X3_teamSum_L4 d o0 x1 (fun v5 => (some v5)) z_N 0 0)
set_option maxHeartbeats 4000000 in
set_option maxRecDepth 100000 in
theorem c_X3_teamSum {E : z_E} {l : Launch} {S : z_S} (d : z_D) (o0 : Nat) (h0 : A_Race S o0) (x1 : Int32) : z_Sp E l yX3_teamSum Y_X3_teamSum (cvI S d) [.ref (E.2.1 + o0), .int x1] (S, d) (f_X3_teamSum d o0 x1) := by
  refine z_entry (lv := [(0, .ref (E.2.1 + o0)), (1, .int x1)]) (by decide) rfl rfl (Nat.le_of_ble_eq_true rfl) rfl ?_
  unfold f_X3_teamSum
  refine r_iconst 0 rfl 1 rfl dX3_teamSum_0 ?_
  refine r_istore_n 2 rfl [(2, .int 0), (0, .ref (E.2.1 + o0)), (1, .int x1)] (Nat.le_of_ble_eq_true rfl) rfl 2 rfl dX3_teamSum_1 ?_
  refine r_iconst 0 rfl 3 rfl dX3_teamSum_2 ?_
  refine r_istore_n 3 rfl [(3, .int 0), (2, .int 0), (0, .ref (E.2.1 + o0)), (1, .int x1)] (Nat.le_of_ble_eq_true rfl) rfl 4 rfl dX3_teamSum_3 ?_
  refine r_sub [2, 3, 1, 0] rfl ?_
  refine g_X3_teamSum_L4 h0 (fun v5 => ?_) z_N 0 0
  refine r_iload_n 2 0 rfl rfl 36 rfl dX3_teamSum_35 ?_
  exact r_ireturn rfl rfl (Nat.le_of_ble_eq_true rfl) (Nat.le_of_ble_eq_true rfl) dX3_teamSum_36
