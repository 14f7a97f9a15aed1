/-! 3d.gen9: by gen/mk.py -/
def Y_X9_bunches : z_Y := (RX9, cX9_bunches, 5, wsX9_bunches, (some .int), { frames := 2, cells := 0, slots := 0, locals := 44 }, 0, 0)
theorem ok_X9_bunches : z_Ok yX9_bunches Y_X9_bunches 2 := ⟨⟨_, rfl⟩, rfl, rfl, rfl, by decide +kernel, by decide +kernel⟩
theorem w_X9_bunches_0 : Cond.fieldLink RX9 114 "BunchTimesModel" "orderMany" "I" ∈ wsX9_bunches := by decide +kernel
theorem w_X9_bunches_1 : ∀ w ∈ u_ws RX9 TX9 18, w ∈ wsX9_bunches := by decide +kernel
theorem w_X9_bunches_2 : Cond.fieldLink RX9 7 "BunchTimesModel" "row" "[I" ∈ wsX9_bunches := by decide +kernel
def f_X9_bunches_L16_b (d : z_D) (o0 : Nat) (x1 : Int32) (x2 : Int32) (K : Int32 → Option Int32) (R : Int32 → Int32 → Option Int32) (x3 : Int32) (x4 : Int32) : Option Int32 := (if (d o0 6) ≤ x4 then (K x3) else ((f_X9_at x1 0).bind fun v1 => z_ald d (o0 + 1) 2656 v1 (fun v2 => z_let (fun x_51 : Unit => z_nam (x3 + 1) (fun v3 => (R v3 (x4 + 1)))) (fun J51 => (if v2 = 3 then (J51 ()) else ((f_X9_space d o0 x1 x4).bind fun v4 => (if v4 < x2 then z_nam (x3 + 0) (fun v5 => (R v5 (x4 + 1))) else (J51 ()))))))))
def f_X9_bunches_L16 (d : z_D) (o0 : Nat) (x1 : Int32) (x2 : Int32) (K : Int32 → Option Int32) : Nat → Int32 → Int32 → Option Int32
  | 0 => fun _ _ => none
  | n + 1 => f_X9_bunches_L16_b d o0 x1 x2 K (f_X9_bunches_L16 d o0 x1 x2 K n)
set_option maxHeartbeats 4000000 in
set_option maxRecDepth 100000 in
theorem g_X9_bunches_L16 {E : z_E} {l : Launch} {S : z_S} {d : z_D} {o0 : Nat} {x1 : Int32} {x2 : Int32} {K : Int32 → Option Int32} (h0 : A_Model S o0) (hK : ∀ (y3 : Int32), z_G E l Y_X9_bunches (cvI S d) (K y3) 64 [(3, .int y3)] [] (S, d) 0 0) : ∀ (n : Nat) (x3 : Int32) (x4 : Int32), z_G E l Y_X9_bunches (cvI S d) (f_X9_bunches_L16 d o0 x1 x2 K n x3 x4) 16 [(0, .ref (E.2.1 + o0)), (1, .int x1), (2, .int x2), (3, .int x3), (4, .int x4)] [] (S, d) 0 0 := by
  intro n
  induction n with
  | zero => intro _ _; exact r_none
  | succ n ih =>
    intro x3 x4
    show z_G E l Y_X9_bunches (cvI S d) (f_X9_bunches_L16_b d o0 x1 x2 K (f_X9_bunches_L16 d o0 x1 x2 K n) x3 x4) 16 [(0, .ref (E.2.1 + o0)), (1, .int x1), (2, .int x2), (3, .int x3), (4, .int x4)] [] (S, d) 0 0
    unfold f_X9_bunches_L16_b
    refine r_iload 4 4 rfl 18 rfl dX9_bunches_16 ?_
    refine r_aload_n 0 0 rfl rfl 19 rfl dX9_bunches_18 ?_
    refine r_get (h0 0 (Nat.le_of_ble_eq_true rfl)) rfl (Nat.le_of_ble_eq_true rfl) rfl rfl w_X9_bunches_1 6 (Nat.le_of_ble_eq_true rfl) rfl w_X9_bunches_0 (.int (d o0 6)) rfl 22 rfl dX9_bunches_19 ?_
    refine r_icmp_ge 64 25 rfl rfl dX9_bunches_22 ?_ ?_
    · refine r_sub [3] rfl ?_
      exact hK x3
    · refine r_iload_n 3 3 rfl rfl 26 rfl dX9_bunches_25 ?_
      refine r_aload_n 0 0 rfl rfl 27 rfl dX9_bunches_26 ?_
      refine r_get (h0 0 (Nat.le_of_ble_eq_true rfl)) rfl (Nat.le_of_ble_eq_true rfl) rfl rfl w_X9_bunches_1 1 (Nat.le_of_ble_eq_true rfl) rfl w_X9_bunches_2 (.ref (E.2.1 + (o0 + 1))) rfl 30 rfl dX9_bunches_27 ?_
      refine r_iload_n 1 1 rfl rfl 31 rfl dX9_bunches_30 ?_
      refine r_iconst 0 rfl 32 rfl dX9_bunches_31 ?_
      refine r_callS_I (c_X9_at (E := E) (l := l) (S := S) d x1 0) ok_X9_at ⟨⟨(Nat.le_of_ble_eq_true rfl), (Nat.le_of_ble_eq_true rfl)⟩, (Nat.le_of_ble_eq_true rfl), (Nat.le_of_ble_eq_true rfl)⟩ rfl (Nat.le_of_ble_eq_true rfl) gX9_bunches_X9_at rfl rfl 35 rfl dX9_bunches_32 (fun v1 => ?_)
      refine r_iald (h0 1 (Nat.le_of_ble_eq_true rfl)) rfl rfl 36 rfl dX9_bunches_35 (fun v2 => ?_)
      refine r_iconst 3 rfl 37 rfl dX9_bunches_36 ?_
      refine r_let 51 (f := fun x_51 : Unit => [(0, .ref (E.2.1 + o0)), (1, .int x1), (2, .int x2), (4, .int x4)]) (g := fun x_51 : Unit => [.int x3]) (ww := fun x_51 : Unit => (S, d)) (fun x_51 => ?_) (fun J51 hJ51 => ?_)
      · refine r_iconst 1 rfl 52 rfl dX9_bunches_51 ?_
        refine r_goto 56 rfl dX9_bunches_52 ?_
        refine r_iadd 57 rfl dX9_bunches_56 ?_
        refine r_nami (fun v3 => ?_)
        refine r_istore_n 3 rfl [(3, .int v3), (0, .ref (E.2.1 + o0)), (1, .int x1), (2, .int x2), (4, .int x4)] (Nat.le_of_ble_eq_true rfl) rfl 58 rfl dX9_bunches_57 ?_
        refine r_iinc (x4 + 1) 4 rfl rfl [(4, .int (x4 + 1)), (3, .int v3), (0, .ref (E.2.1 + o0)), (1, .int x1), (2, .int x2)] (Nat.le_of_ble_eq_true rfl) rfl 61 rfl dX9_bunches_58 ?_
        refine r_goto 16 rfl dX9_bunches_61 ?_
        refine r_sub [2, 3, 4, 1, 0] rfl ?_
        exact ih v3 (x4 + 1)
      refine r_icmp_eq 51 40 rfl rfl dX9_bunches_37 ?_ ?_
      · refine r_sub [0, 1, 2, 4] rfl ?_
        exact hJ51 ()
      · refine r_aload_n 0 0 rfl rfl 41 rfl dX9_bunches_40 ?_
        refine r_iload_n 1 1 rfl rfl 42 rfl dX9_bunches_41 ?_
        refine r_iload 4 4 rfl 44 rfl dX9_bunches_42 ?_
        refine r_callV_I (c_X9_space (E := E) (l := l) (S := S) d o0 h0 x1 x4) ok_X9_space ⟨⟨(Nat.le_of_ble_eq_true rfl), (Nat.le_of_ble_eq_true rfl)⟩, (Nat.le_of_ble_eq_true rfl), (Nat.le_of_ble_eq_true rfl)⟩ (h0 0 (Nat.le_of_ble_eq_true rfl)) (Nat.le_of_ble_eq_true rfl) rfl rfl rfl (Nat.le_of_ble_eq_true rfl) gX9_bunches_X9_space rfl rfl 47 rfl dX9_bunches_44 (fun v4 => ?_)
        refine r_iload_n 2 2 rfl rfl 48 rfl dX9_bunches_47 ?_
        refine r_icmp_lt 55 51 rfl rfl dX9_bunches_48 ?_ ?_
        · refine r_iconst 0 rfl 56 rfl dX9_bunches_55 ?_
          refine r_iadd 57 rfl dX9_bunches_56 ?_
          refine r_nami (fun v5 => ?_)
          refine r_istore_n 3 rfl [(3, .int v5), (0, .ref (E.2.1 + o0)), (1, .int x1), (2, .int x2), (4, .int x4)] (Nat.le_of_ble_eq_true rfl) rfl 58 rfl dX9_bunches_57 ?_
          refine r_iinc (x4 + 1) 4 rfl rfl [(4, .int (x4 + 1)), (3, .int v5), (0, .ref (E.2.1 + o0)), (1, .int x1), (2, .int x2)] (Nat.le_of_ble_eq_true rfl) rfl 61 rfl dX9_bunches_58 ?_
          refine r_goto 16 rfl dX9_bunches_61 ?_
          refine r_sub [2, 3, 4, 1, 0] rfl ?_
          exact ih v5 (x4 + 1)
        · refine r_sub [0, 1, 2, 4] rfl ?_
          exact hJ51 ()
def f_X9_bunches (d : z_D) (o0 : Nat) (x1 : Int32) (x2 : Int32) : Option Int32 := z_let (fun x_12 : Int32 => (f_X9_bunches_L16 d o0 x1 x2 (fun v6 => (some v6)) z_N x_12 1)) (fun J12 => (if (d o0 6) = 0 then (J12 0) else (J12 1)))
set_option maxHeartbeats 4000000 in
set_option maxRecDepth 100000 in
theorem c_X9_bunches {E : z_E} {l : Launch} {S : z_S} (d : z_D) (o0 : Nat) (h0 : A_Model S o0) (x1 : Int32) (x2 : Int32) : z_Sp E l yX9_bunches Y_X9_bunches (cvI S d) [.ref (E.2.1 + o0), .int x1, .int x2] (S, d) (f_X9_bunches d o0 x1 x2) := by
  refine z_entry (lv := [(0, .ref (E.2.1 + o0)), (1, .int x1), (2, .int x2)]) (by decide) rfl rfl (Nat.le_of_ble_eq_true rfl) rfl ?_
  unfold f_X9_bunches
  refine r_aload_n 0 0 rfl rfl 1 rfl dX9_bunches_0 ?_
  refine r_get (h0 0 (Nat.le_of_ble_eq_true rfl)) rfl (Nat.le_of_ble_eq_true rfl) rfl rfl w_X9_bunches_1 6 (Nat.le_of_ble_eq_true rfl) rfl w_X9_bunches_0 (.int (d o0 6)) rfl 4 rfl dX9_bunches_1 ?_
  refine r_let 12 (f := fun x_12 : Int32 => [(0, .ref (E.2.1 + o0)), (1, .int x1), (2, .int x2)]) (g := fun x_12 : Int32 => [.int x_12]) (ww := fun x_12 : Int32 => (S, d)) (fun x_12 => ?_) (fun J12 hJ12 => ?_)
  · refine r_istore_n 3 rfl [(3, .int x_12), (0, .ref (E.2.1 + o0)), (1, .int x1), (2, .int x2)] (Nat.le_of_ble_eq_true rfl) rfl 13 rfl dX9_bunches_12 ?_
    refine r_iconst 1 rfl 14 rfl dX9_bunches_13 ?_
    refine r_istore 4 [(4, .int 1), (3, .int x_12), (0, .ref (E.2.1 + o0)), (1, .int x1), (2, .int x2)] (Nat.le_of_ble_eq_true rfl) rfl 16 rfl dX9_bunches_14 ?_
    refine r_sub [2, 3, 4, 1, 0] rfl ?_
    refine g_X9_bunches_L16 h0 (fun v6 => ?_) z_N x_12 1
    refine r_iload_n 3 0 rfl rfl 65 rfl dX9_bunches_64 ?_
    exact r_ireturn rfl rfl (Nat.le_of_ble_eq_true rfl) (Nat.le_of_ble_eq_true rfl) dX9_bunches_65
  refine r_if_ne 11 7 rfl rfl dX9_bunches_4 ?_ ?_
  · refine r_iconst 1 rfl 12 rfl dX9_bunches_11 ?_
    refine r_sub [0, 1, 2] rfl ?_
    exact hJ12 1
  · refine r_iconst 0 rfl 8 rfl dX9_bunches_7 ?_
    refine r_goto 12 rfl dX9_bunches_8 ?_
    refine r_sub [0, 1, 2] rfl ?_
    exact hJ12 0
def Y_X9_laysRaw : z_Y := (RX9, cX9_laysRaw, 6, wsX9_laysRaw, none, { frames := 2, cells := 0, slots := 0, locals := 44 }, 0, 0)
theorem ok_X9_laysRaw : z_Ok yX9_laysRaw Y_X9_laysRaw 1 := ⟨⟨_, rfl⟩, rfl, rfl, rfl, by decide +kernel, by decide +kernel⟩
theorem w_X9_laysRaw_0 : Cond.fieldLink RX9 114 "BunchTimesModel" "orderMany" "I" ∈ wsX9_laysRaw := by decide +kernel
theorem w_X9_laysRaw_1 : ∀ w ∈ u_ws RX9 TX9 18, w ∈ wsX9_laysRaw := by decide +kernel
theorem w_X9_laysRaw_2 : Cond.fieldLink RX9 7 "BunchTimesModel" "row" "[I" ∈ wsX9_laysRaw := by decide +kernel
theorem w_X9_laysRaw_3 : Cond.fieldLink RX9 23 "BunchTimesModel" "order" "[I" ∈ wsX9_laysRaw := by decide +kernel
def f_X9_laysRaw_L7_b (o0 : Nat) (x1 : Int32) (K : Int32 → z_D → Option z_D) (R : Int32 → Int32 → Int32 → z_D → Option z_D) (x2 : Int32) (x3 : Int32) (x4 : Int32) (d : z_D) : Option z_D := (if (d o0 6) ≤ x4 then (K x2 d) else z_let (fun x_60 : Int32 => z_let (fun x_73 : Int32 => z_nam (x2 + x_73) (fun v1 => z_let (fun x_104 : Int32 => z_ald d (o0 + 5) 16 x4 (fun v2 => ((f_X9_at_ x1 v2 5).bind fun v3 => z_ast d (o0 + 1) 2656 v3 x_104 (fun d4 => z_ald d4 (o0 + 5) 16 x4 (fun v5 => ((f_X9_at_ x1 v5 7).bind fun v6 => z_ast d4 (o0 + 1) 2656 v6 v1 (fun d7 => z_ald d7 (o0 + 5) 16 x4 (fun v8 => ((f_X9_at_ x1 v8 8).bind fun v9 => z_ast d7 (o0 + 1) 2656 v9 (x4 + 1) (fun d10 => (R v1 x_104 (x4 + 1) d10))))))))))) (fun J104 => (if x_60 = 0 then (J104 x3) else z_ald d (o0 + 5) 16 x4 (fun v11 => ((f_X9_at_ x1 v11 0).bind fun v12 => z_ald d (o0 + 1) 2656 v12 (fun v13 => (J104 (v13 / 10))))))))) (fun J73 => (if x_60 = 0 then (J73 0) else (J73 1)))) (fun J60 => z_let (fun x_55 : Unit => (J60 1)) (fun J55 => (if x4 = 0 then (J55 ()) else ((f_X9_at x1 0).bind fun v14 => z_ald d (o0 + 1) 2656 v14 (fun v15 => (if v15 = 3 then (J55 ()) else ((f_X9_space d o0 x1 x4).bind fun v16 => ((f_X9_at x1 3).bind fun v17 => z_ald d (o0 + 1) 2656 v17 (fun v18 => (if v16 < v18 then (J60 0) else (J55 ()))))))))))))
def f_X9_laysRaw_L7 (o0 : Nat) (x1 : Int32) (K : Int32 → z_D → Option z_D) : Nat → Int32 → Int32 → Int32 → z_D → Option z_D
  | 0 => fun _ _ _ _ => none
  | n + 1 => f_X9_laysRaw_L7_b o0 x1 K (f_X9_laysRaw_L7 o0 x1 K n)
set_option maxHeartbeats 4000000 in
set_option maxRecDepth 100000 in
theorem g_X9_laysRaw_L7 {E : z_E} {l : Launch} {S : z_S} {o0 : Nat} {x1 : Int32} {K : Int32 → z_D → Option z_D} (h0 : A_Model S o0) (hK : ∀ (y2 : Int32) (d9 : z_D), z_G E l Y_X9_laysRaw (cvV S) (K y2 d9) 170 [(0, .ref (E.2.1 + o0)), (1, .int x1), (2, .int y2)] [] (S, d9) 0 0) : ∀ (n : Nat) (x2 : Int32) (x3 : Int32) (x4 : Int32) (d : z_D), z_G E l Y_X9_laysRaw (cvV S) (f_X9_laysRaw_L7 o0 x1 K n x2 x3 x4 d) 7 [(0, .ref (E.2.1 + o0)), (1, .int x1), (2, .int x2), (3, .int x3), (4, .int x4)] [] (S, d) 0 0 := by
  intro n
  induction n with
  | zero => intro _ _ _ _; exact r_none
  | succ n ih =>
    intro x2 x3 x4 d
    show z_G E l Y_X9_laysRaw (cvV S) (f_X9_laysRaw_L7_b o0 x1 K (f_X9_laysRaw_L7 o0 x1 K n) x2 x3 x4 d) 7 [(0, .ref (E.2.1 + o0)), (1, .int x1), (2, .int x2), (3, .int x3), (4, .int x4)] [] (S, d) 0 0
    unfold f_X9_laysRaw_L7_b
    refine r_iload 4 4 rfl 9 rfl dX9_laysRaw_7 ?_
    refine r_aload_n 0 0 rfl rfl 10 rfl dX9_laysRaw_9 ?_
    refine r_get (h0 0 (Nat.le_of_ble_eq_true rfl)) rfl (Nat.le_of_ble_eq_true rfl) rfl rfl w_X9_laysRaw_1 6 (Nat.le_of_ble_eq_true rfl) rfl w_X9_laysRaw_0 (.int (d o0 6)) rfl 13 rfl dX9_laysRaw_10 ?_
    refine r_icmp_ge 170 16 rfl rfl dX9_laysRaw_13 ?_ ?_
    · refine r_sub [0, 1, 2] rfl ?_
      exact hK x2 d
    · refine r_iload 4 4 rfl 18 rfl dX9_laysRaw_16 ?_
      refine r_let 60 (f := fun x_60 : Int32 => [(0, .ref (E.2.1 + o0)), (1, .int x1), (2, .int x2), (3, .int x3), (4, .int x4)]) (g := fun x_60 : Int32 => [.int x_60]) (ww := fun x_60 : Int32 => (S, d)) (fun x_60 => ?_) (fun J60 hJ60 => ?_)
      · refine r_istore 5 [(5, .int x_60), (0, .ref (E.2.1 + o0)), (1, .int x1), (2, .int x2), (3, .int x3), (4, .int x4)] (Nat.le_of_ble_eq_true rfl) rfl 62 rfl dX9_laysRaw_60 ?_
        refine r_iload_n 2 3 rfl rfl 63 rfl dX9_laysRaw_62 ?_
        refine r_iload 5 0 rfl 65 rfl dX9_laysRaw_63 ?_
        refine r_let 73 (f := fun x_73 : Int32 => [(0, .ref (E.2.1 + o0)), (1, .int x1), (3, .int x3), (4, .int x4), (5, .int x_60)]) (g := fun x_73 : Int32 => [.int x_73, .int x2]) (ww := fun x_73 : Int32 => (S, d)) (fun x_73 => ?_) (fun J73 hJ73 => ?_)
        · refine r_iadd 74 rfl dX9_laysRaw_73 ?_
          refine r_nami (fun v1 => ?_)
          refine r_istore_n 2 rfl [(2, .int v1), (0, .ref (E.2.1 + o0)), (1, .int x1), (3, .int x3), (4, .int x4), (5, .int x_60)] (Nat.le_of_ble_eq_true rfl) rfl 75 rfl dX9_laysRaw_74 ?_
          refine r_iload 5 5 rfl 77 rfl dX9_laysRaw_75 ?_
          refine r_let 104 (f := fun x_104 : Int32 => [(0, .ref (E.2.1 + o0)), (1, .int x1), (2, .int v1), (4, .int x4)]) (g := fun x_104 : Int32 => [.int x_104]) (ww := fun x_104 : Int32 => (S, d)) (fun x_104 => ?_) (fun J104 hJ104 => ?_)
          · refine r_istore_n 3 rfl [(3, .int x_104), (0, .ref (E.2.1 + o0)), (1, .int x1), (2, .int v1), (4, .int x4)] (Nat.le_of_ble_eq_true rfl) rfl 105 rfl dX9_laysRaw_104 ?_
            refine r_aload_n 0 1 rfl rfl 106 rfl dX9_laysRaw_105 ?_
            refine r_get (h0 0 (Nat.le_of_ble_eq_true rfl)) rfl (Nat.le_of_ble_eq_true rfl) rfl rfl w_X9_laysRaw_1 1 (Nat.le_of_ble_eq_true rfl) rfl w_X9_laysRaw_2 (.ref (E.2.1 + (o0 + 1))) rfl 109 rfl dX9_laysRaw_106 ?_
            refine r_iload_n 1 2 rfl rfl 110 rfl dX9_laysRaw_109 ?_
            refine r_aload_n 0 1 rfl rfl 111 rfl dX9_laysRaw_110 ?_
            refine r_get (h0 0 (Nat.le_of_ble_eq_true rfl)) rfl (Nat.le_of_ble_eq_true rfl) rfl rfl w_X9_laysRaw_1 5 (Nat.le_of_ble_eq_true rfl) rfl w_X9_laysRaw_3 (.ref (E.2.1 + (o0 + 5))) rfl 114 rfl dX9_laysRaw_111 ?_
            refine r_iload 4 4 rfl 116 rfl dX9_laysRaw_114 ?_
            refine r_iald (h0 5 (Nat.le_of_ble_eq_true rfl)) rfl rfl 117 rfl dX9_laysRaw_116 (fun v2 => ?_)
            refine r_iconst 5 rfl 118 rfl dX9_laysRaw_117 ?_
            refine r_callS_I (c_X9_at_ (E := E) (l := l) (S := S) d x1 v2 5) ok_X9_at_ ⟨⟨(Nat.le_of_ble_eq_true rfl), (Nat.le_of_ble_eq_true rfl)⟩, (Nat.le_of_ble_eq_true rfl), (Nat.le_of_ble_eq_true rfl)⟩ rfl (Nat.le_of_ble_eq_true rfl) gX9_laysRaw_X9_at_ rfl rfl 121 rfl dX9_laysRaw_118 (fun v3 => ?_)
            refine r_iload_n 3 0 rfl rfl 122 rfl dX9_laysRaw_121 ?_
            refine r_iast (h0 1 (Nat.le_of_ble_eq_true rfl)) rfl rfl 123 rfl dX9_laysRaw_122 (fun d4 => ?_)
            refine r_aload_n 0 1 rfl rfl 124 rfl dX9_laysRaw_123 ?_
            refine r_get (h0 0 (Nat.le_of_ble_eq_true rfl)) rfl (Nat.le_of_ble_eq_true rfl) rfl rfl w_X9_laysRaw_1 1 (Nat.le_of_ble_eq_true rfl) rfl w_X9_laysRaw_2 (.ref (E.2.1 + (o0 + 1))) rfl 127 rfl dX9_laysRaw_124 ?_
            refine r_iload_n 1 2 rfl rfl 128 rfl dX9_laysRaw_127 ?_
            refine r_aload_n 0 1 rfl rfl 129 rfl dX9_laysRaw_128 ?_
            refine r_get (h0 0 (Nat.le_of_ble_eq_true rfl)) rfl (Nat.le_of_ble_eq_true rfl) rfl rfl w_X9_laysRaw_1 5 (Nat.le_of_ble_eq_true rfl) rfl w_X9_laysRaw_3 (.ref (E.2.1 + (o0 + 5))) rfl 132 rfl dX9_laysRaw_129 ?_
            refine r_iload 4 4 rfl 134 rfl dX9_laysRaw_132 ?_
            refine r_iald (h0 5 (Nat.le_of_ble_eq_true rfl)) rfl rfl 135 rfl dX9_laysRaw_134 (fun v5 => ?_)
            refine r_bipush 7 rfl 137 rfl dX9_laysRaw_135 ?_
            refine r_callS_I (c_X9_at_ (E := E) (l := l) (S := S) d4 x1 v5 7) ok_X9_at_ ⟨⟨(Nat.le_of_ble_eq_true rfl), (Nat.le_of_ble_eq_true rfl)⟩, (Nat.le_of_ble_eq_true rfl), (Nat.le_of_ble_eq_true rfl)⟩ rfl (Nat.le_of_ble_eq_true rfl) gX9_laysRaw_X9_at_ rfl rfl 140 rfl dX9_laysRaw_137 (fun v6 => ?_)
            refine r_iload_n 2 3 rfl rfl 141 rfl dX9_laysRaw_140 ?_
            refine r_iast (h0 1 (Nat.le_of_ble_eq_true rfl)) rfl rfl 142 rfl dX9_laysRaw_141 (fun d7 => ?_)
            refine r_aload_n 0 1 rfl rfl 143 rfl dX9_laysRaw_142 ?_
            refine r_get (h0 0 (Nat.le_of_ble_eq_true rfl)) rfl (Nat.le_of_ble_eq_true rfl) rfl rfl w_X9_laysRaw_1 1 (Nat.le_of_ble_eq_true rfl) rfl w_X9_laysRaw_2 (.ref (E.2.1 + (o0 + 1))) rfl 146 rfl dX9_laysRaw_143 ?_
            refine r_iload_n 1 2 rfl rfl 147 rfl dX9_laysRaw_146 ?_
            refine r_aload_n 0 1 rfl rfl 148 rfl dX9_laysRaw_147 ?_
            refine r_get (h0 0 (Nat.le_of_ble_eq_true rfl)) rfl (Nat.le_of_ble_eq_true rfl) rfl rfl w_X9_laysRaw_1 5 (Nat.le_of_ble_eq_true rfl) rfl w_X9_laysRaw_3 (.ref (E.2.1 + (o0 + 5))) rfl 151 rfl dX9_laysRaw_148 ?_
            refine r_iload 4 4 rfl 153 rfl dX9_laysRaw_151 ?_
            refine r_iald (h0 5 (Nat.le_of_ble_eq_true rfl)) rfl rfl 154 rfl dX9_laysRaw_153 (fun v8 => ?_)
            refine r_bipush 8 rfl 156 rfl dX9_laysRaw_154 ?_
            refine r_callS_I (c_X9_at_ (E := E) (l := l) (S := S) d7 x1 v8 8) ok_X9_at_ ⟨⟨(Nat.le_of_ble_eq_true rfl), (Nat.le_of_ble_eq_true rfl)⟩, (Nat.le_of_ble_eq_true rfl), (Nat.le_of_ble_eq_true rfl)⟩ rfl (Nat.le_of_ble_eq_true rfl) gX9_laysRaw_X9_at_ rfl rfl 159 rfl dX9_laysRaw_156 (fun v9 => ?_)
            refine r_iload 4 4 rfl 161 rfl dX9_laysRaw_159 ?_
            refine r_iconst 1 rfl 162 rfl dX9_laysRaw_161 ?_
            refine r_iadd 163 rfl dX9_laysRaw_162 ?_
            refine r_iast (h0 1 (Nat.le_of_ble_eq_true rfl)) rfl rfl 164 rfl dX9_laysRaw_163 (fun d10 => ?_)
            refine r_iinc (x4 + 1) 4 rfl rfl [(4, .int (x4 + 1)), (3, .int x_104), (0, .ref (E.2.1 + o0)), (1, .int x1), (2, .int v1)] (Nat.le_of_ble_eq_true rfl) rfl 167 rfl dX9_laysRaw_164 ?_
            refine r_goto 7 rfl dX9_laysRaw_167 ?_
            refine r_sub [2, 3, 4, 1, 0] rfl ?_
            exact ih v1 x_104 (x4 + 1) d10
          refine r_if_eq 103 80 rfl rfl dX9_laysRaw_77 ?_ ?_
          · refine r_iload_n 3 3 rfl rfl 104 rfl dX9_laysRaw_103 ?_
            refine r_sub [1, 2, 0, 4] rfl ?_
            exact hJ104 x3
          · refine r_aload_n 0 1 rfl rfl 81 rfl dX9_laysRaw_80 ?_
            refine r_get (h0 0 (Nat.le_of_ble_eq_true rfl)) rfl (Nat.le_of_ble_eq_true rfl) rfl rfl w_X9_laysRaw_1 1 (Nat.le_of_ble_eq_true rfl) rfl w_X9_laysRaw_2 (.ref (E.2.1 + (o0 + 1))) rfl 84 rfl dX9_laysRaw_81 ?_
            refine r_iload_n 1 2 rfl rfl 85 rfl dX9_laysRaw_84 ?_
            refine r_aload_n 0 1 rfl rfl 86 rfl dX9_laysRaw_85 ?_
            refine r_get (h0 0 (Nat.le_of_ble_eq_true rfl)) rfl (Nat.le_of_ble_eq_true rfl) rfl rfl w_X9_laysRaw_1 5 (Nat.le_of_ble_eq_true rfl) rfl w_X9_laysRaw_3 (.ref (E.2.1 + (o0 + 5))) rfl 89 rfl dX9_laysRaw_86 ?_
            refine r_iload 4 4 rfl 91 rfl dX9_laysRaw_89 ?_
            refine r_iald (h0 5 (Nat.le_of_ble_eq_true rfl)) rfl rfl 92 rfl dX9_laysRaw_91 (fun v11 => ?_)
            refine r_iconst 0 rfl 93 rfl dX9_laysRaw_92 ?_
            refine r_callS_I (c_X9_at_ (E := E) (l := l) (S := S) d x1 v11 0) ok_X9_at_ ⟨⟨(Nat.le_of_ble_eq_true rfl), (Nat.le_of_ble_eq_true rfl)⟩, (Nat.le_of_ble_eq_true rfl), (Nat.le_of_ble_eq_true rfl)⟩ rfl (Nat.le_of_ble_eq_true rfl) gX9_laysRaw_X9_at_ rfl rfl 96 rfl dX9_laysRaw_93 (fun v12 => ?_)
            refine r_iald (h0 1 (Nat.le_of_ble_eq_true rfl)) rfl rfl 97 rfl dX9_laysRaw_96 (fun v13 => ?_)
            refine r_bipush 10 rfl 99 rfl dX9_laysRaw_97 ?_
            refine r_divc (by decide) 100 rfl dX9_laysRaw_99 ?_
            refine r_goto 104 rfl dX9_laysRaw_100 ?_
            refine r_sub [1, 2, 0, 4] rfl ?_
            exact hJ104 (v13 / 10)
        refine r_if_eq 72 68 rfl rfl dX9_laysRaw_65 ?_ ?_
        · refine r_iconst 0 rfl 73 rfl dX9_laysRaw_72 ?_
          refine r_sub [1, 2, 4, 5, 0] rfl ?_
          exact hJ73 0
        · refine r_iconst 1 rfl 69 rfl dX9_laysRaw_68 ?_
          refine r_goto 73 rfl dX9_laysRaw_69 ?_
          refine r_sub [1, 2, 4, 5, 0] rfl ?_
          exact hJ73 1
      refine r_let 55 (f := fun x_55 : Unit => [(0, .ref (E.2.1 + o0)), (1, .int x1), (2, .int x2), (3, .int x3), (4, .int x4)]) (g := fun x_55 : Unit => []) (ww := fun x_55 : Unit => (S, d)) (fun x_55 => ?_) (fun J55 hJ55 => ?_)
      · refine r_iconst 1 rfl 56 rfl dX9_laysRaw_55 ?_
        refine r_goto 60 rfl dX9_laysRaw_56 ?_
        refine r_sub [0, 1, 2, 3, 4] rfl ?_
        exact hJ60 1
      refine r_if_eq 55 21 rfl rfl dX9_laysRaw_18 ?_ ?_
      · refine r_sub [0, 1, 2, 3, 4] rfl ?_
        exact hJ55 ()
      · refine r_aload_n 0 0 rfl rfl 22 rfl dX9_laysRaw_21 ?_
        refine r_get (h0 0 (Nat.le_of_ble_eq_true rfl)) rfl (Nat.le_of_ble_eq_true rfl) rfl rfl w_X9_laysRaw_1 1 (Nat.le_of_ble_eq_true rfl) rfl w_X9_laysRaw_2 (.ref (E.2.1 + (o0 + 1))) rfl 25 rfl dX9_laysRaw_22 ?_
        refine r_iload_n 1 1 rfl rfl 26 rfl dX9_laysRaw_25 ?_
        refine r_iconst 0 rfl 27 rfl dX9_laysRaw_26 ?_
        refine r_callS_I (c_X9_at (E := E) (l := l) (S := S) d x1 0) ok_X9_at ⟨⟨(Nat.le_of_ble_eq_true rfl), (Nat.le_of_ble_eq_true rfl)⟩, (Nat.le_of_ble_eq_true rfl), (Nat.le_of_ble_eq_true rfl)⟩ rfl (Nat.le_of_ble_eq_true rfl) gX9_laysRaw_X9_at rfl rfl 30 rfl dX9_laysRaw_27 (fun v14 => ?_)
        refine r_iald (h0 1 (Nat.le_of_ble_eq_true rfl)) rfl rfl 31 rfl dX9_laysRaw_30 (fun v15 => ?_)
        refine r_iconst 3 rfl 32 rfl dX9_laysRaw_31 ?_
        refine r_icmp_eq 55 35 rfl rfl dX9_laysRaw_32 ?_ ?_
        · refine r_sub [0, 1, 2, 3, 4] rfl ?_
          exact hJ55 ()
        · refine r_aload_n 0 0 rfl rfl 36 rfl dX9_laysRaw_35 ?_
          refine r_iload_n 1 1 rfl rfl 37 rfl dX9_laysRaw_36 ?_
          refine r_iload 4 4 rfl 39 rfl dX9_laysRaw_37 ?_
          refine r_callV_I (c_X9_space (E := E) (l := l) (S := S) d o0 h0 x1 x4) ok_X9_space ⟨⟨(Nat.le_of_ble_eq_true rfl), (Nat.le_of_ble_eq_true rfl)⟩, (Nat.le_of_ble_eq_true rfl), (Nat.le_of_ble_eq_true rfl)⟩ (h0 0 (Nat.le_of_ble_eq_true rfl)) (Nat.le_of_ble_eq_true rfl) rfl rfl rfl (Nat.le_of_ble_eq_true rfl) gX9_laysRaw_X9_space rfl rfl 42 rfl dX9_laysRaw_39 (fun v16 => ?_)
          refine r_aload_n 0 0 rfl rfl 43 rfl dX9_laysRaw_42 ?_
          refine r_get (h0 0 (Nat.le_of_ble_eq_true rfl)) rfl (Nat.le_of_ble_eq_true rfl) rfl rfl w_X9_laysRaw_1 1 (Nat.le_of_ble_eq_true rfl) rfl w_X9_laysRaw_2 (.ref (E.2.1 + (o0 + 1))) rfl 46 rfl dX9_laysRaw_43 ?_
          refine r_iload_n 1 1 rfl rfl 47 rfl dX9_laysRaw_46 ?_
          refine r_iconst 3 rfl 48 rfl dX9_laysRaw_47 ?_
          refine r_callS_I (c_X9_at (E := E) (l := l) (S := S) d x1 3) ok_X9_at ⟨⟨(Nat.le_of_ble_eq_true rfl), (Nat.le_of_ble_eq_true rfl)⟩, (Nat.le_of_ble_eq_true rfl), (Nat.le_of_ble_eq_true rfl)⟩ rfl (Nat.le_of_ble_eq_true rfl) gX9_laysRaw_X9_at rfl rfl 51 rfl dX9_laysRaw_48 (fun v17 => ?_)
          refine r_iald (h0 1 (Nat.le_of_ble_eq_true rfl)) rfl rfl 52 rfl dX9_laysRaw_51 (fun v18 => ?_)
          refine r_icmp_lt 59 55 rfl rfl dX9_laysRaw_52 ?_ ?_
          · refine r_iconst 0 rfl 60 rfl dX9_laysRaw_59 ?_
            refine r_sub [0, 1, 2, 3, 4] rfl ?_
            exact hJ60 0
          · refine r_sub [0, 1, 2, 3, 4] rfl ?_
            exact hJ55 ()
def f_X9_laysRaw (d : z_D) (o0 : Nat) (x1 : Int32) : Option z_D := (f_X9_laysRaw_L7 o0 x1 (fun v20 d19 => ((f_X9_at x1 6).bind fun v21 => z_ast d19 (o0 + 1) 2656 v21 (v20 + 1) (fun d22 => (some d22)))) z_N (-1) 0 0 d)
set_option maxHeartbeats 4000000 in
set_option maxRecDepth 100000 in
theorem c_X9_laysRaw {E : z_E} {l : Launch} {S : z_S} (d : z_D) (o0 : Nat) (h0 : A_Model S o0) (x1 : Int32) : z_Sp E l yX9_laysRaw Y_X9_laysRaw (cvV S) [.ref (E.2.1 + o0), .int x1] (S, d) (f_X9_laysRaw d o0 x1) := by
  refine z_entry (lv := [(0, .ref (E.2.1 + o0)), (1, .int x1)]) (by decide) rfl rfl (Nat.le_of_ble_eq_true rfl) rfl ?_
  unfold f_X9_laysRaw
  refine r_iconst (-1) rfl 1 rfl dX9_laysRaw_0 ?_
  refine r_istore_n 2 rfl [(2, .int (-1)), (0, .ref (E.2.1 + o0)), (1, .int x1)] (Nat.le_of_ble_eq_true rfl) rfl 2 rfl dX9_laysRaw_1 ?_
  refine r_iconst 0 rfl 3 rfl dX9_laysRaw_2 ?_
  refine r_istore_n 3 rfl [(3, .int 0), (2, .int (-1)), (0, .ref (E.2.1 + o0)), (1, .int x1)] (Nat.le_of_ble_eq_true rfl) rfl 4 rfl dX9_laysRaw_3 ?_
  refine r_iconst 0 rfl 5 rfl dX9_laysRaw_4 ?_
  refine r_istore 4 [(4, .int 0), (3, .int 0), (2, .int (-1)), (0, .ref (E.2.1 + o0)), (1, .int x1)] (Nat.le_of_ble_eq_true rfl) rfl 7 rfl dX9_laysRaw_5 ?_
  refine r_sub [3, 4, 2, 1, 0] rfl ?_
  refine g_X9_laysRaw_L7 h0 (fun v20 d19 => ?_) z_N (-1) 0 0 d
  refine r_aload_n 0 0 rfl rfl 171 rfl dX9_laysRaw_170 ?_
  refine r_get (h0 0 (Nat.le_of_ble_eq_true rfl)) rfl (Nat.le_of_ble_eq_true rfl) rfl rfl w_X9_laysRaw_1 1 (Nat.le_of_ble_eq_true rfl) rfl w_X9_laysRaw_2 (.ref (E.2.1 + (o0 + 1))) rfl 174 rfl dX9_laysRaw_171 ?_
  refine r_iload_n 1 1 rfl rfl 175 rfl dX9_laysRaw_174 ?_
  refine r_bipush 6 rfl 177 rfl dX9_laysRaw_175 ?_
  refine r_callS_I (c_X9_at (E := E) (l := l) (S := S) d19 x1 6) ok_X9_at ⟨⟨(Nat.le_of_ble_eq_true rfl), (Nat.le_of_ble_eq_true rfl)⟩, (Nat.le_of_ble_eq_true rfl), (Nat.le_of_ble_eq_true rfl)⟩ rfl (Nat.le_of_ble_eq_true rfl) gX9_laysRaw_X9_at rfl rfl 180 rfl dX9_laysRaw_177 (fun v21 => ?_)
  refine r_iload_n 2 2 rfl rfl 181 rfl dX9_laysRaw_180 ?_
  refine r_iconst 1 rfl 182 rfl dX9_laysRaw_181 ?_
  refine r_iadd 183 rfl dX9_laysRaw_182 ?_
  refine r_iast (h0 1 (Nat.le_of_ble_eq_true rfl)) rfl rfl 184 rfl dX9_laysRaw_183 (fun d22 => ?_)
  exact r_return rfl rfl (Nat.le_of_ble_eq_true rfl) (Nat.le_of_ble_eq_true rfl) dX9_laysRaw_184
def Y_X9_doesCount : z_Y := (RX9, cX9_doesCount, 3, wsX9_doesCount, (some .boolean), { frames := 1, cells := 0, slots := 0, locals := 22 }, 0, 0)
theorem ok_X9_doesCount : z_Ok yX9_doesCount Y_X9_doesCount 2 := ⟨⟨_, rfl⟩, rfl, rfl, rfl, by decide +kernel, by decide +kernel⟩
theorem w_X9_doesCount_0 : Cond.fieldLink RX9 7 "BunchTimesModel" "row" "[I" ∈ wsX9_doesCount := by decide +kernel
theorem w_X9_doesCount_1 : ∀ w ∈ u_ws RX9 TX9 18, w ∈ wsX9_doesCount := by decide +kernel
def f_X9_doesCount (d : z_D) (o0 : Nat) (x1 : Int32) (x2 : Int32) : Option Int32 := ((f_X9_at x1 0).bind fun v1 => z_ald d (o0 + 1) 2656 v1 (fun v2 => (if 1 < v2 then (some 0) else ((f_X9_at_ x1 x2 1).bind fun v3 => z_ald d (o0 + 1) 2656 v3 (fun v4 => (if v4 = (-1) then (some 0) else ((f_X9_at_ x1 x2 1).bind fun v5 => z_ald d (o0 + 1) 2656 v5 (fun v6 => ((f_X9_at x1 4).bind fun v7 => z_ald d (o0 + 1) 2656 v7 (fun v8 => (if v8 < v6 then (some 0) else (some 1))))))))))))
set_option maxHeartbeats 4000000 in
set_option maxRecDepth 100000 in
theorem c_X9_doesCount {E : z_E} {l : Launch} {S : z_S} (d : z_D) (o0 : Nat) (h0 : A_Model S o0) (x1 : Int32) (x2 : Int32) : z_Sp E l yX9_doesCount Y_X9_doesCount (cvI S d) [.ref (E.2.1 + o0), .int x1, .int x2] (S, d) (f_X9_doesCount d o0 x1 x2) := by
  refine z_entry (lv := [(0, .ref (E.2.1 + o0)), (1, .int x1), (2, .int x2)]) (by decide) rfl rfl (Nat.le_of_ble_eq_true rfl) rfl ?_
  unfold f_X9_doesCount
  refine r_aload_n 0 0 rfl rfl 1 rfl dX9_doesCount_0 ?_
  refine r_get (h0 0 (Nat.le_of_ble_eq_true rfl)) rfl (Nat.le_of_ble_eq_true rfl) rfl rfl w_X9_doesCount_1 1 (Nat.le_of_ble_eq_true rfl) rfl w_X9_doesCount_0 (.ref (E.2.1 + (o0 + 1))) rfl 4 rfl dX9_doesCount_1 ?_
  refine r_iload_n 1 1 rfl rfl 5 rfl dX9_doesCount_4 ?_
  refine r_iconst 0 rfl 6 rfl dX9_doesCount_5 ?_
  refine r_callS_I (c_X9_at (E := E) (l := l) (S := S) d x1 0) ok_X9_at ⟨⟨(Nat.le_of_ble_eq_true rfl), (Nat.le_of_ble_eq_true rfl)⟩, (Nat.le_of_ble_eq_true rfl), (Nat.le_of_ble_eq_true rfl)⟩ rfl (Nat.le_of_ble_eq_true rfl) gX9_doesCount_X9_at rfl rfl 9 rfl dX9_doesCount_6 (fun v1 => ?_)
  refine r_iald (h0 1 (Nat.le_of_ble_eq_true rfl)) rfl rfl 10 rfl dX9_doesCount_9 (fun v2 => ?_)
  refine r_iconst 1 rfl 11 rfl dX9_doesCount_10 ?_
  refine r_icmp_gt 57 14 rfl rfl dX9_doesCount_11 ?_ ?_
  · refine r_iconst 0 rfl 58 rfl dX9_doesCount_57 ?_
    exact r_zreturnc (by decide) rfl rfl (Nat.le_of_ble_eq_true rfl) (Nat.le_of_ble_eq_true rfl) dX9_doesCount_58
  · refine r_aload_n 0 0 rfl rfl 15 rfl dX9_doesCount_14 ?_
    refine r_get (h0 0 (Nat.le_of_ble_eq_true rfl)) rfl (Nat.le_of_ble_eq_true rfl) rfl rfl w_X9_doesCount_1 1 (Nat.le_of_ble_eq_true rfl) rfl w_X9_doesCount_0 (.ref (E.2.1 + (o0 + 1))) rfl 18 rfl dX9_doesCount_15 ?_
    refine r_iload_n 1 1 rfl rfl 19 rfl dX9_doesCount_18 ?_
    refine r_iload_n 2 2 rfl rfl 20 rfl dX9_doesCount_19 ?_
    refine r_iconst 1 rfl 21 rfl dX9_doesCount_20 ?_
    refine r_callS_I (c_X9_at_ (E := E) (l := l) (S := S) d x1 x2 1) ok_X9_at_ ⟨⟨(Nat.le_of_ble_eq_true rfl), (Nat.le_of_ble_eq_true rfl)⟩, (Nat.le_of_ble_eq_true rfl), (Nat.le_of_ble_eq_true rfl)⟩ rfl (Nat.le_of_ble_eq_true rfl) gX9_doesCount_X9_at_ rfl rfl 24 rfl dX9_doesCount_21 (fun v3 => ?_)
    refine r_iald (h0 1 (Nat.le_of_ble_eq_true rfl)) rfl rfl 25 rfl dX9_doesCount_24 (fun v4 => ?_)
    refine r_iconst (-1) rfl 26 rfl dX9_doesCount_25 ?_
    refine r_icmp_eq 57 29 rfl rfl dX9_doesCount_26 ?_ ?_
    · refine r_iconst 0 rfl 58 rfl dX9_doesCount_57 ?_
      exact r_zreturnc (by decide) rfl rfl (Nat.le_of_ble_eq_true rfl) (Nat.le_of_ble_eq_true rfl) dX9_doesCount_58
    · refine r_aload_n 0 0 rfl rfl 30 rfl dX9_doesCount_29 ?_
      refine r_get (h0 0 (Nat.le_of_ble_eq_true rfl)) rfl (Nat.le_of_ble_eq_true rfl) rfl rfl w_X9_doesCount_1 1 (Nat.le_of_ble_eq_true rfl) rfl w_X9_doesCount_0 (.ref (E.2.1 + (o0 + 1))) rfl 33 rfl dX9_doesCount_30 ?_
      refine r_iload_n 1 1 rfl rfl 34 rfl dX9_doesCount_33 ?_
      refine r_iload_n 2 2 rfl rfl 35 rfl dX9_doesCount_34 ?_
      refine r_iconst 1 rfl 36 rfl dX9_doesCount_35 ?_
      refine r_callS_I (c_X9_at_ (E := E) (l := l) (S := S) d x1 x2 1) ok_X9_at_ ⟨⟨(Nat.le_of_ble_eq_true rfl), (Nat.le_of_ble_eq_true rfl)⟩, (Nat.le_of_ble_eq_true rfl), (Nat.le_of_ble_eq_true rfl)⟩ rfl (Nat.le_of_ble_eq_true rfl) gX9_doesCount_X9_at_ rfl rfl 39 rfl dX9_doesCount_36 (fun v5 => ?_)
      refine r_iald (h0 1 (Nat.le_of_ble_eq_true rfl)) rfl rfl 40 rfl dX9_doesCount_39 (fun v6 => ?_)
      refine r_aload_n 0 0 rfl rfl 41 rfl dX9_doesCount_40 ?_
      refine r_get (h0 0 (Nat.le_of_ble_eq_true rfl)) rfl (Nat.le_of_ble_eq_true rfl) rfl rfl w_X9_doesCount_1 1 (Nat.le_of_ble_eq_true rfl) rfl w_X9_doesCount_0 (.ref (E.2.1 + (o0 + 1))) rfl 44 rfl dX9_doesCount_41 ?_
      refine r_iload_n 1 1 rfl rfl 45 rfl dX9_doesCount_44 ?_
      refine r_iconst 4 rfl 46 rfl dX9_doesCount_45 ?_
      refine r_callS_I (c_X9_at (E := E) (l := l) (S := S) d x1 4) ok_X9_at ⟨⟨(Nat.le_of_ble_eq_true rfl), (Nat.le_of_ble_eq_true rfl)⟩, (Nat.le_of_ble_eq_true rfl), (Nat.le_of_ble_eq_true rfl)⟩ rfl (Nat.le_of_ble_eq_true rfl) gX9_doesCount_X9_at rfl rfl 49 rfl dX9_doesCount_46 (fun v7 => ?_)
      refine r_iald (h0 1 (Nat.le_of_ble_eq_true rfl)) rfl rfl 50 rfl dX9_doesCount_49 (fun v8 => ?_)
      refine r_icmp_gt 57 53 rfl rfl dX9_doesCount_50 ?_ ?_
      · refine r_iconst 0 rfl 58 rfl dX9_doesCount_57 ?_
        exact r_zreturnc (by decide) rfl rfl (Nat.le_of_ble_eq_true rfl) (Nat.le_of_ble_eq_true rfl) dX9_doesCount_58
      · refine r_iconst 1 rfl 54 rfl dX9_doesCount_53 ?_
        refine r_goto 58 rfl dX9_doesCount_54 ?_
        exact r_zreturnc (by decide) rfl rfl (Nat.le_of_ble_eq_true rfl) (Nat.le_of_ble_eq_true rfl) dX9_doesCount_58
def Y_X9_timeOf : z_Y := (RX9, cX9_timeOf, 7, wsX9_timeOf, (some .int), { frames := 2, cells := 0, slots := 0, locals := 44 }, 0, 0)
theorem ok_X9_timeOf : z_Ok yX9_timeOf Y_X9_timeOf 2 := ⟨⟨_, rfl⟩, rfl, rfl, rfl, by decide +kernel, by decide +kernel⟩
theorem w_X9_timeOf_0 : Cond.fieldLink RX9 7 "BunchTimesModel" "row" "[I" ∈ wsX9_timeOf := by decide +kernel
theorem w_X9_timeOf_1 : ∀ w ∈ u_ws RX9 TX9 18, w ∈ wsX9_timeOf := by decide +kernel
def f_X9_timeOf_L20_b (d : z_D) (o0 : Nat) (x1 : Int32) (K : Int32 → Option Int32) (R : Int32 → Int32 → Int32 → Option Int32) (x3 : Int32) (x4 : Int32) (x5 : Int32) : Option Int32 := ((f_X9_doesCount d o0 x1 x4).bind fun v4 => (if v4 = 0 then (K x3) else ((f_X9_at_ x1 x4 2).bind fun v5 => z_ald d (o0 + 1) 2656 v5 (fun v6 => (if v6 = (-1) then (some x3) else ((f_X9_hasFinish d o0 x1 v6).bind fun v7 => (if v7 = 0 then (some x3) else (if ((x5 >>> (v6 &&& 31)) &&& 1) = 1 then (some x3) else ((f_X9_at_ x1 v6 5).bind fun v8 => z_ald d (o0 + 1) 2656 v8 (fun v9 => z_let (fun x_105 : Int32 => z_nam (x5 ||| (1 <<< (v6 &&& 31))) (fun v10 => (R x_105 v6 v10))) (fun J105 => (if x3 ≤ v9 then (J105 x3) else ((f_X9_at_ x1 v6 5).bind fun v11 => z_ald d (o0 + 1) 2656 v11 (fun v12 => (J105 v12)))))))))))))))
def f_X9_timeOf_L20 (d : z_D) (o0 : Nat) (x1 : Int32) (K : Int32 → Option Int32) : Nat → Int32 → Int32 → Int32 → Option Int32
  | 0 => fun _ _ _ => none
  | n + 1 => f_X9_timeOf_L20_b d o0 x1 K (f_X9_timeOf_L20 d o0 x1 K n)
set_option maxHeartbeats 4000000 in
set_option maxRecDepth 100000 in
theorem g_X9_timeOf_L20 {E : z_E} {l : Launch} {S : z_S} {d : z_D} {o0 : Nat} {x1 : Int32} {K : Int32 → Option Int32} (h0 : A_Model S o0) (hK : ∀ (y3 : Int32), z_G E l Y_X9_timeOf (cvI S d) (K y3) 122 [(3, .int y3)] [] (S, d) 0 0) : ∀ (n : Nat) (x3 : Int32) (x4 : Int32) (x5 : Int32), z_G E l Y_X9_timeOf (cvI S d) (f_X9_timeOf_L20 d o0 x1 K n x3 x4 x5) 20 [(0, .ref (E.2.1 + o0)), (1, .int x1), (3, .int x3), (4, .int x4), (5, .int x5)] [] (S, d) 0 0 := by
  intro n
  induction n with
  | zero => intro _ _ _; exact r_none
  | succ n ih =>
    intro x3 x4 x5
    show z_G E l Y_X9_timeOf (cvI S d) (f_X9_timeOf_L20_b d o0 x1 K (f_X9_timeOf_L20 d o0 x1 K n) x3 x4 x5) 20 [(0, .ref (E.2.1 + o0)), (1, .int x1), (3, .int x3), (4, .int x4), (5, .int x5)] [] (S, d) 0 0
    unfold f_X9_timeOf_L20_b
    refine r_aload_n 0 0 rfl rfl 21 rfl dX9_timeOf_20 ?_
    refine r_iload_n 1 1 rfl rfl 22 rfl dX9_timeOf_21 ?_
    refine r_iload 4 3 rfl 24 rfl dX9_timeOf_22 ?_
    refine r_callV_I (c_X9_doesCount (E := E) (l := l) (S := S) d o0 h0 x1 x4) ok_X9_doesCount ⟨⟨(Nat.le_of_ble_eq_true rfl), (Nat.le_of_ble_eq_true rfl)⟩, (Nat.le_of_ble_eq_true rfl), (Nat.le_of_ble_eq_true rfl)⟩ (h0 0 (Nat.le_of_ble_eq_true rfl)) (Nat.le_of_ble_eq_true rfl) rfl rfl rfl (Nat.le_of_ble_eq_true rfl) gX9_timeOf_X9_doesCount rfl rfl 27 rfl dX9_timeOf_24 (fun v4 => ?_)
    refine r_if_eq 122 30 rfl rfl dX9_timeOf_27 ?_ ?_
    · refine r_sub [2] rfl ?_
      exact hK x3
    · refine r_aload_n 0 0 rfl rfl 31 rfl dX9_timeOf_30 ?_
      refine r_get (h0 0 (Nat.le_of_ble_eq_true rfl)) rfl (Nat.le_of_ble_eq_true rfl) rfl rfl w_X9_timeOf_1 1 (Nat.le_of_ble_eq_true rfl) rfl w_X9_timeOf_0 (.ref (E.2.1 + (o0 + 1))) rfl 34 rfl dX9_timeOf_31 ?_
      refine r_iload_n 1 1 rfl rfl 35 rfl dX9_timeOf_34 ?_
      refine r_iload 4 3 rfl 37 rfl dX9_timeOf_35 ?_
      refine r_iconst 2 rfl 38 rfl dX9_timeOf_37 ?_
      refine r_callS_I (c_X9_at_ (E := E) (l := l) (S := S) d x1 x4 2) ok_X9_at_ ⟨⟨(Nat.le_of_ble_eq_true rfl), (Nat.le_of_ble_eq_true rfl)⟩, (Nat.le_of_ble_eq_true rfl), (Nat.le_of_ble_eq_true rfl)⟩ rfl (Nat.le_of_ble_eq_true rfl) gX9_timeOf_X9_at_ rfl rfl 41 rfl dX9_timeOf_38 (fun v5 => ?_)
      refine r_iald (h0 1 (Nat.le_of_ble_eq_true rfl)) rfl rfl 42 rfl dX9_timeOf_41 (fun v6 => ?_)
      refine r_istore 6 [(6, .int v6), (0, .ref (E.2.1 + o0)), (1, .int x1), (3, .int x3), (4, .int x4), (5, .int x5)] (Nat.le_of_ble_eq_true rfl) rfl 44 rfl dX9_timeOf_42 ?_
      refine r_iload 6 0 rfl 46 rfl dX9_timeOf_44 ?_
      refine r_iconst (-1) rfl 47 rfl dX9_timeOf_46 ?_
      refine r_icmp_eq 71 50 rfl rfl dX9_timeOf_47 ?_ ?_
      · refine r_iload_n 3 3 rfl rfl 72 rfl dX9_timeOf_71 ?_
        exact r_ireturn rfl rfl (Nat.le_of_ble_eq_true rfl) (Nat.le_of_ble_eq_true rfl) dX9_timeOf_72
      · refine r_aload_n 0 1 rfl rfl 51 rfl dX9_timeOf_50 ?_
        refine r_iload_n 1 2 rfl rfl 52 rfl dX9_timeOf_51 ?_
        refine r_iload 6 0 rfl 54 rfl dX9_timeOf_52 ?_
        refine r_callV_I (c_X9_hasFinish (E := E) (l := l) (S := S) d o0 h0 x1 v6) ok_X9_hasFinish ⟨⟨(Nat.le_of_ble_eq_true rfl), (Nat.le_of_ble_eq_true rfl)⟩, (Nat.le_of_ble_eq_true rfl), (Nat.le_of_ble_eq_true rfl)⟩ (h0 0 (Nat.le_of_ble_eq_true rfl)) (Nat.le_of_ble_eq_true rfl) rfl rfl rfl (Nat.le_of_ble_eq_true rfl) gX9_timeOf_X9_hasFinish rfl rfl 57 rfl dX9_timeOf_54 (fun v7 => ?_)
        refine r_if_eq 71 60 rfl rfl dX9_timeOf_57 ?_ ?_
        · refine r_iload_n 3 3 rfl rfl 72 rfl dX9_timeOf_71 ?_
          exact r_ireturn rfl rfl (Nat.le_of_ble_eq_true rfl) (Nat.le_of_ble_eq_true rfl) dX9_timeOf_72
        · refine r_iload 5 5 rfl 62 rfl dX9_timeOf_60 ?_
          refine r_iload 6 0 rfl 64 rfl dX9_timeOf_62 ?_
          refine r_ishr 65 rfl dX9_timeOf_64 ?_
          refine r_iconst 1 rfl 66 rfl dX9_timeOf_65 ?_
          refine r_iand 67 rfl dX9_timeOf_66 ?_
          refine r_iconst 1 rfl 68 rfl dX9_timeOf_67 ?_
          refine r_icmp_ne 73 71 rfl rfl dX9_timeOf_68 ?_ ?_
          · refine r_aload_n 0 1 rfl rfl 74 rfl dX9_timeOf_73 ?_
            refine r_get (h0 0 (Nat.le_of_ble_eq_true rfl)) rfl (Nat.le_of_ble_eq_true rfl) rfl rfl w_X9_timeOf_1 1 (Nat.le_of_ble_eq_true rfl) rfl w_X9_timeOf_0 (.ref (E.2.1 + (o0 + 1))) rfl 77 rfl dX9_timeOf_74 ?_
            refine r_iload_n 1 2 rfl rfl 78 rfl dX9_timeOf_77 ?_
            refine r_iload 6 0 rfl 80 rfl dX9_timeOf_78 ?_
            refine r_iconst 5 rfl 81 rfl dX9_timeOf_80 ?_
            refine r_callS_I (c_X9_at_ (E := E) (l := l) (S := S) d x1 v6 5) ok_X9_at_ ⟨⟨(Nat.le_of_ble_eq_true rfl), (Nat.le_of_ble_eq_true rfl)⟩, (Nat.le_of_ble_eq_true rfl), (Nat.le_of_ble_eq_true rfl)⟩ rfl (Nat.le_of_ble_eq_true rfl) gX9_timeOf_X9_at_ rfl rfl 84 rfl dX9_timeOf_81 (fun v8 => ?_)
            refine r_iald (h0 1 (Nat.le_of_ble_eq_true rfl)) rfl rfl 85 rfl dX9_timeOf_84 (fun v9 => ?_)
            refine r_iload_n 3 3 rfl rfl 86 rfl dX9_timeOf_85 ?_
            refine r_let 105 (f := fun x_105 : Int32 => [(0, .ref (E.2.1 + o0)), (1, .int x1), (5, .int x5), (6, .int v6)]) (g := fun x_105 : Int32 => [.int x_105]) (ww := fun x_105 : Int32 => (S, d)) (fun x_105 => ?_) (fun J105 hJ105 => ?_)
            · refine r_istore_n 3 rfl [(3, .int x_105), (0, .ref (E.2.1 + o0)), (1, .int x1), (5, .int x5), (6, .int v6)] (Nat.le_of_ble_eq_true rfl) rfl 106 rfl dX9_timeOf_105 ?_
              refine r_iload 5 3 rfl 108 rfl dX9_timeOf_106 ?_
              refine r_iconst 1 rfl 109 rfl dX9_timeOf_108 ?_
              refine r_iload 6 4 rfl 111 rfl dX9_timeOf_109 ?_
              refine r_ishl 112 rfl dX9_timeOf_111 ?_
              refine r_ior 113 rfl dX9_timeOf_112 ?_
              refine r_nami (fun v10 => ?_)
              refine r_istore 5 [(5, .int v10), (3, .int x_105), (0, .ref (E.2.1 + o0)), (1, .int x1), (6, .int v6)] (Nat.le_of_ble_eq_true rfl) rfl 115 rfl dX9_timeOf_113 ?_
              refine r_iload 6 4 rfl 117 rfl dX9_timeOf_115 ?_
              refine r_istore 4 [(4, .int v6), (5, .int v10), (3, .int x_105), (0, .ref (E.2.1 + o0)), (1, .int x1), (6, .int v6)] (Nat.le_of_ble_eq_true rfl) rfl 119 rfl dX9_timeOf_117 ?_
              refine r_goto 20 rfl dX9_timeOf_119 ?_
              refine r_sub [3, 4, 2, 0, 1] rfl ?_
              exact ih x_105 v6 v10
            refine r_icmp_ge 104 89 rfl rfl dX9_timeOf_86 ?_ ?_
            · refine r_iload_n 3 3 rfl rfl 105 rfl dX9_timeOf_104 ?_
              refine r_sub [1, 2, 5, 0] rfl ?_
              exact hJ105 x3
            · refine r_aload_n 0 1 rfl rfl 90 rfl dX9_timeOf_89 ?_
              refine r_get (h0 0 (Nat.le_of_ble_eq_true rfl)) rfl (Nat.le_of_ble_eq_true rfl) rfl rfl w_X9_timeOf_1 1 (Nat.le_of_ble_eq_true rfl) rfl w_X9_timeOf_0 (.ref (E.2.1 + (o0 + 1))) rfl 93 rfl dX9_timeOf_90 ?_
              refine r_iload_n 1 2 rfl rfl 94 rfl dX9_timeOf_93 ?_
              refine r_iload 6 0 rfl 96 rfl dX9_timeOf_94 ?_
              refine r_iconst 5 rfl 97 rfl dX9_timeOf_96 ?_
              refine r_callS_I (c_X9_at_ (E := E) (l := l) (S := S) d x1 v6 5) ok_X9_at_ ⟨⟨(Nat.le_of_ble_eq_true rfl), (Nat.le_of_ble_eq_true rfl)⟩, (Nat.le_of_ble_eq_true rfl), (Nat.le_of_ble_eq_true rfl)⟩ rfl (Nat.le_of_ble_eq_true rfl) gX9_timeOf_X9_at_ rfl rfl 100 rfl dX9_timeOf_97 (fun v11 => ?_)
              refine r_iald (h0 1 (Nat.le_of_ble_eq_true rfl)) rfl rfl 101 rfl dX9_timeOf_100 (fun v12 => ?_)
              refine r_goto 105 rfl dX9_timeOf_101 ?_
              refine r_sub [1, 2, 5, 0] rfl ?_
              exact hJ105 v12
          · refine r_iload_n 3 3 rfl rfl 72 rfl dX9_timeOf_71 ?_
            exact r_ireturn rfl rfl (Nat.le_of_ble_eq_true rfl) (Nat.le_of_ble_eq_true rfl) dX9_timeOf_72
def f_X9_timeOf (d : z_D) (o0 : Nat) (x1 : Int32) (x2 : Int32) : Option Int32 := ((f_X9_at_ x1 x2 5).bind fun v1 => z_ald d (o0 + 1) 2656 v1 (fun v2 => z_nam (1 <<< (x2 &&& 31)) (fun v3 => (f_X9_timeOf_L20 d o0 x1 (fun v13 => (some v13)) z_N v2 x2 v3))))
set_option maxHeartbeats 4000000 in
set_option maxRecDepth 100000 in
theorem c_X9_timeOf {E : z_E} {l : Launch} {S : z_S} (d : z_D) (o0 : Nat) (h0 : A_Model S o0) (x1 : Int32) (x2 : Int32) : z_Sp E l yX9_timeOf Y_X9_timeOf (cvI S d) [.ref (E.2.1 + o0), .int x1, .int x2] (S, d) (f_X9_timeOf d o0 x1 x2) := by
  refine z_entry (lv := [(0, .ref (E.2.1 + o0)), (1, .int x1), (2, .int x2)]) (by decide) rfl rfl (Nat.le_of_ble_eq_true rfl) rfl ?_
  unfold f_X9_timeOf
  refine r_aload_n 0 0 rfl rfl 1 rfl dX9_timeOf_0 ?_
  refine r_get (h0 0 (Nat.le_of_ble_eq_true rfl)) rfl (Nat.le_of_ble_eq_true rfl) rfl rfl w_X9_timeOf_1 1 (Nat.le_of_ble_eq_true rfl) rfl w_X9_timeOf_0 (.ref (E.2.1 + (o0 + 1))) rfl 4 rfl dX9_timeOf_1 ?_
  refine r_iload_n 1 1 rfl rfl 5 rfl dX9_timeOf_4 ?_
  refine r_iload_n 2 2 rfl rfl 6 rfl dX9_timeOf_5 ?_
  refine r_iconst 5 rfl 7 rfl dX9_timeOf_6 ?_
  refine r_callS_I (c_X9_at_ (E := E) (l := l) (S := S) d x1 x2 5) ok_X9_at_ ⟨⟨(Nat.le_of_ble_eq_true rfl), (Nat.le_of_ble_eq_true rfl)⟩, (Nat.le_of_ble_eq_true rfl), (Nat.le_of_ble_eq_true rfl)⟩ rfl (Nat.le_of_ble_eq_true rfl) gX9_timeOf_X9_at_ rfl rfl 10 rfl dX9_timeOf_7 (fun v1 => ?_)
  refine r_iald (h0 1 (Nat.le_of_ble_eq_true rfl)) rfl rfl 11 rfl dX9_timeOf_10 (fun v2 => ?_)
  refine r_istore_n 3 rfl [(3, .int v2), (0, .ref (E.2.1 + o0)), (1, .int x1), (2, .int x2)] (Nat.le_of_ble_eq_true rfl) rfl 12 rfl dX9_timeOf_11 ?_
  refine r_iload_n 2 3 rfl rfl 13 rfl dX9_timeOf_12 ?_
  refine r_istore 4 [(4, .int x2), (3, .int v2), (0, .ref (E.2.1 + o0)), (1, .int x1), (2, .int x2)] (Nat.le_of_ble_eq_true rfl) rfl 15 rfl dX9_timeOf_13 ?_
  refine r_iconst 1 rfl 16 rfl dX9_timeOf_15 ?_
  refine r_iload_n 2 4 rfl rfl 17 rfl dX9_timeOf_16 ?_
  refine r_ishl 18 rfl dX9_timeOf_17 ?_
  refine r_nami (fun v3 => ?_)
  refine r_istore 5 [(5, .int v3), (4, .int x2), (3, .int v2), (0, .ref (E.2.1 + o0)), (1, .int x1), (2, .int x2)] (Nat.le_of_ble_eq_true rfl) rfl 20 rfl dX9_timeOf_18 ?_
  refine r_sub [3, 4, 2, 1, 0] rfl ?_
  refine g_X9_timeOf_L20 h0 (fun v13 => ?_) z_N v2 x2 v3
  refine r_iload_n 3 0 rfl rfl 123 rfl dX9_timeOf_122 ?_
  exact r_ireturn rfl rfl (Nat.le_of_ble_eq_true rfl) (Nat.le_of_ble_eq_true rfl) dX9_timeOf_123
def Y_X9_isLate : z_Y := (RX9, cX9_isLate, 3, wsX9_isLate, (some .boolean), { frames := 2, cells := 0, slots := 0, locals := 44 }, 0, 0)
theorem ok_X9_isLate : z_Ok yX9_isLate Y_X9_isLate 2 := ⟨⟨_, rfl⟩, rfl, rfl, rfl, by decide +kernel, by decide +kernel⟩
theorem w_X9_isLate_0 : Cond.fieldLink RX9 7 "BunchTimesModel" "row" "[I" ∈ wsX9_isLate := by decide +kernel
theorem w_X9_isLate_1 : ∀ w ∈ u_ws RX9 TX9 18, w ∈ wsX9_isLate := by decide +kernel
def f_X9_isLate (d : z_D) (o0 : Nat) (x1 : Int32) (x2 : Int32) : Option Int32 := ((f_X9_hasFinish d o0 x1 x2).bind fun v1 => (if v1 = 0 then (some 0) else ((f_X9_at_ x1 x2 4).bind fun v2 => z_ald d (o0 + 1) 2656 v2 (fun v3 => (if v3 = 0 then ((f_X9_at_ x1 x2 6).bind fun v4 => z_ald d (o0 + 1) 2656 v4 (fun v5 => ((f_X9_at x1 9).bind fun v6 => z_ald d (o0 + 1) 2656 v6 (fun v7 => (if v5 ≤ v7 then (some 0) else (some 1)))))) else (some 0))))))
set_option maxHeartbeats 4000000 in
set_option maxRecDepth 100000 in
theorem c_X9_isLate {E : z_E} {l : Launch} {S : z_S} (d : z_D) (o0 : Nat) (h0 : A_Model S o0) (x1 : Int32) (x2 : Int32) : z_Sp E l yX9_isLate Y_X9_isLate (cvI S d) [.ref (E.2.1 + o0), .int x1, .int x2] (S, d) (f_X9_isLate d o0 x1 x2) := by
  refine z_entry (lv := [(0, .ref (E.2.1 + o0)), (1, .int x1), (2, .int x2)]) (by decide) rfl rfl (Nat.le_of_ble_eq_true rfl) rfl ?_
  unfold f_X9_isLate
  refine r_aload_n 0 0 rfl rfl 1 rfl dX9_isLate_0 ?_
  refine r_iload_n 1 1 rfl rfl 2 rfl dX9_isLate_1 ?_
  refine r_iload_n 2 2 rfl rfl 3 rfl dX9_isLate_2 ?_
  refine r_callV_I (c_X9_hasFinish (E := E) (l := l) (S := S) d o0 h0 x1 x2) ok_X9_hasFinish ⟨⟨(Nat.le_of_ble_eq_true rfl), (Nat.le_of_ble_eq_true rfl)⟩, (Nat.le_of_ble_eq_true rfl), (Nat.le_of_ble_eq_true rfl)⟩ (h0 0 (Nat.le_of_ble_eq_true rfl)) (Nat.le_of_ble_eq_true rfl) rfl rfl rfl (Nat.le_of_ble_eq_true rfl) gX9_isLate_X9_hasFinish rfl rfl 6 rfl dX9_isLate_3 (fun v1 => ?_)
  refine r_if_eq 53 9 rfl rfl dX9_isLate_6 ?_ ?_
  · refine r_iconst 0 rfl 54 rfl dX9_isLate_53 ?_
    exact r_zreturnc (by decide) rfl rfl (Nat.le_of_ble_eq_true rfl) (Nat.le_of_ble_eq_true rfl) dX9_isLate_54
  · refine r_aload_n 0 0 rfl rfl 10 rfl dX9_isLate_9 ?_
    refine r_get (h0 0 (Nat.le_of_ble_eq_true rfl)) rfl (Nat.le_of_ble_eq_true rfl) rfl rfl w_X9_isLate_1 1 (Nat.le_of_ble_eq_true rfl) rfl w_X9_isLate_0 (.ref (E.2.1 + (o0 + 1))) rfl 13 rfl dX9_isLate_10 ?_
    refine r_iload_n 1 1 rfl rfl 14 rfl dX9_isLate_13 ?_
    refine r_iload_n 2 2 rfl rfl 15 rfl dX9_isLate_14 ?_
    refine r_iconst 4 rfl 16 rfl dX9_isLate_15 ?_
    refine r_callS_I (c_X9_at_ (E := E) (l := l) (S := S) d x1 x2 4) ok_X9_at_ ⟨⟨(Nat.le_of_ble_eq_true rfl), (Nat.le_of_ble_eq_true rfl)⟩, (Nat.le_of_ble_eq_true rfl), (Nat.le_of_ble_eq_true rfl)⟩ rfl (Nat.le_of_ble_eq_true rfl) gX9_isLate_X9_at_ rfl rfl 19 rfl dX9_isLate_16 (fun v2 => ?_)
    refine r_iald (h0 1 (Nat.le_of_ble_eq_true rfl)) rfl rfl 20 rfl dX9_isLate_19 (fun v3 => ?_)
    refine r_if_ne 53 23 rfl rfl dX9_isLate_20 ?_ ?_
    · refine r_iconst 0 rfl 54 rfl dX9_isLate_53 ?_
      exact r_zreturnc (by decide) rfl rfl (Nat.le_of_ble_eq_true rfl) (Nat.le_of_ble_eq_true rfl) dX9_isLate_54
    · refine r_aload_n 0 0 rfl rfl 24 rfl dX9_isLate_23 ?_
      refine r_get (h0 0 (Nat.le_of_ble_eq_true rfl)) rfl (Nat.le_of_ble_eq_true rfl) rfl rfl w_X9_isLate_1 1 (Nat.le_of_ble_eq_true rfl) rfl w_X9_isLate_0 (.ref (E.2.1 + (o0 + 1))) rfl 27 rfl dX9_isLate_24 ?_
      refine r_iload_n 1 1 rfl rfl 28 rfl dX9_isLate_27 ?_
      refine r_iload_n 2 2 rfl rfl 29 rfl dX9_isLate_28 ?_
      refine r_bipush 6 rfl 31 rfl dX9_isLate_29 ?_
      refine r_callS_I (c_X9_at_ (E := E) (l := l) (S := S) d x1 x2 6) ok_X9_at_ ⟨⟨(Nat.le_of_ble_eq_true rfl), (Nat.le_of_ble_eq_true rfl)⟩, (Nat.le_of_ble_eq_true rfl), (Nat.le_of_ble_eq_true rfl)⟩ rfl (Nat.le_of_ble_eq_true rfl) gX9_isLate_X9_at_ rfl rfl 34 rfl dX9_isLate_31 (fun v4 => ?_)
      refine r_iald (h0 1 (Nat.le_of_ble_eq_true rfl)) rfl rfl 35 rfl dX9_isLate_34 (fun v5 => ?_)
      refine r_aload_n 0 0 rfl rfl 36 rfl dX9_isLate_35 ?_
      refine r_get (h0 0 (Nat.le_of_ble_eq_true rfl)) rfl (Nat.le_of_ble_eq_true rfl) rfl rfl w_X9_isLate_1 1 (Nat.le_of_ble_eq_true rfl) rfl w_X9_isLate_0 (.ref (E.2.1 + (o0 + 1))) rfl 39 rfl dX9_isLate_36 ?_
      refine r_iload_n 1 1 rfl rfl 40 rfl dX9_isLate_39 ?_
      refine r_bipush 9 rfl 42 rfl dX9_isLate_40 ?_
      refine r_callS_I (c_X9_at (E := E) (l := l) (S := S) d x1 9) ok_X9_at ⟨⟨(Nat.le_of_ble_eq_true rfl), (Nat.le_of_ble_eq_true rfl)⟩, (Nat.le_of_ble_eq_true rfl), (Nat.le_of_ble_eq_true rfl)⟩ rfl (Nat.le_of_ble_eq_true rfl) gX9_isLate_X9_at rfl rfl 45 rfl dX9_isLate_42 (fun v6 => ?_)
      refine r_iald (h0 1 (Nat.le_of_ble_eq_true rfl)) rfl rfl 46 rfl dX9_isLate_45 (fun v7 => ?_)
      refine r_icmp_le 53 49 rfl rfl dX9_isLate_46 ?_ ?_
      · refine r_iconst 0 rfl 54 rfl dX9_isLate_53 ?_
        exact r_zreturnc (by decide) rfl rfl (Nat.le_of_ble_eq_true rfl) (Nat.le_of_ble_eq_true rfl) dX9_isLate_54
      · refine r_iconst 1 rfl 50 rfl dX9_isLate_49 ?_
        refine r_goto 54 rfl dX9_isLate_50 ?_
        exact r_zreturnc (by decide) rfl rfl (Nat.le_of_ble_eq_true rfl) (Nat.le_of_ble_eq_true rfl) dX9_isLate_54
def Y_X9_hundredths : z_Y := (RX9, cX9_hundredths, 1, wsX9_hundredths, (some .int), { frames := 0, cells := 0, slots := 0, locals := 0 }, 0, 0)
theorem ok_X9_hundredths : z_Ok yX9_hundredths Y_X9_hundredths 1 := ⟨⟨_, rfl⟩, rfl, rfl, rfl, by decide +kernel, by decide +kernel⟩
def f_X9_hundredths (x0 : Int32) : Option Int32 := (if x0 = 0 then (some 7) else (if x0 = 1 then (some 10) else (if x0 = 2 then (some 15) else (some 30))))
set_option maxHeartbeats 4000000 in
set_option maxRecDepth 100000 in
theorem c_X9_hundredths {E : z_E} {l : Launch} {S : z_S} (d : z_D) (x0 : Int32) : z_Sp E l yX9_hundredths Y_X9_hundredths (cvI S d) [.int x0] (S, d) (f_X9_hundredths x0) := by
  refine z_entry (lv := [(0, .int x0)]) (by decide) rfl rfl (Nat.le_of_ble_eq_true rfl) rfl ?_
  unfold f_X9_hundredths
  refine r_iload_n 0 0 rfl rfl 1 rfl dX9_hundredths_0 ?_
  refine r_if_ne 9 4 rfl rfl dX9_hundredths_1 ?_ ?_
  · refine r_iload_n 0 0 rfl rfl 10 rfl dX9_hundredths_9 ?_
    refine r_iconst 1 rfl 11 rfl dX9_hundredths_10 ?_
    refine r_icmp_ne 19 14 rfl rfl dX9_hundredths_11 ?_ ?_
    · refine r_iload_n 0 0 rfl rfl 20 rfl dX9_hundredths_19 ?_
      refine r_iconst 2 rfl 21 rfl dX9_hundredths_20 ?_
      refine r_icmp_ne 29 24 rfl rfl dX9_hundredths_21 ?_ ?_
      · refine r_bipush 30 rfl 31 rfl dX9_hundredths_29 ?_
        exact r_ireturn rfl rfl (Nat.le_of_ble_eq_true rfl) (Nat.le_of_ble_eq_true rfl) dX9_hundredths_31
      · refine r_bipush 15 rfl 26 rfl dX9_hundredths_24 ?_
        refine r_goto 31 rfl dX9_hundredths_26 ?_
        exact r_ireturn rfl rfl (Nat.le_of_ble_eq_true rfl) (Nat.le_of_ble_eq_true rfl) dX9_hundredths_31
    · refine r_bipush 10 rfl 16 rfl dX9_hundredths_14 ?_
      refine r_goto 31 rfl dX9_hundredths_16 ?_
      exact r_ireturn rfl rfl (Nat.le_of_ble_eq_true rfl) (Nat.le_of_ble_eq_true rfl) dX9_hundredths_31
  · refine r_bipush 7 rfl 6 rfl dX9_hundredths_4 ?_
    refine r_goto 31 rfl dX9_hundredths_6 ?_
    exact r_ireturn rfl rfl (Nat.le_of_ble_eq_true rfl) (Nat.le_of_ble_eq_true rfl) dX9_hundredths_31
def Y_X9_laysLimit : z_Y := (RX9, cX9_laysLimit, 6, wsX9_laysLimit, none, { frames := 1, cells := 0, slots := 0, locals := 22 }, 0, 0)
theorem ok_X9_laysLimit : z_Ok yX9_laysLimit Y_X9_laysLimit 1 := ⟨⟨_, rfl⟩, rfl, rfl, rfl, by decide +kernel, by decide +kernel⟩
theorem w_X9_laysLimit_0 : Cond.fieldLink RX9 7 "BunchTimesModel" "row" "[I" ∈ wsX9_laysLimit := by decide +kernel
theorem w_X9_laysLimit_1 : ∀ w ∈ u_ws RX9 TX9 18, w ∈ wsX9_laysLimit := by decide +kernel
theorem w_X9_laysLimit_2 : Cond.fieldLink RX9 23 "BunchTimesModel" "order" "[I" ∈ wsX9_laysLimit := by decide +kernel
theorem w_X9_laysLimit_3 : Cond.fieldLink RX9 114 "BunchTimesModel" "orderMany" "I" ∈ wsX9_laysLimit := by decide +kernel
def f_X9_laysLimit_L20_b (d : z_D) (o0 : Nat) (x1 : Int32) (K : Int32 → Option z_D) (R : Int32 → Int32 → Option z_D) (x2 : Int32) (x3 : Int32) : Option z_D := (if (d o0 6) ≤ x3 then (K x2) else z_ald d (o0 + 5) 16 x3 (fun v4 => ((f_X9_at_ x1 v4 6).bind fun v5 => z_ald d (o0 + 1) 2656 v5 (fun v6 => (if x2 ≤ v6 then (R x2 (x3 + 1)) else z_ald d (o0 + 5) 16 x3 (fun v7 => ((f_X9_at_ x1 v7 6).bind fun v8 => z_ald d (o0 + 1) 2656 v8 (fun v9 => (R v9 (x3 + 1))))))))))
def f_X9_laysLimit_L20 (d : z_D) (o0 : Nat) (x1 : Int32) (K : Int32 → Option z_D) : Nat → Int32 → Int32 → Option z_D
  | 0 => fun _ _ => none
  | n + 1 => f_X9_laysLimit_L20_b d o0 x1 K (f_X9_laysLimit_L20 d o0 x1 K n)
set_option maxHeartbeats 4000000 in
set_option maxRecDepth 100000 in
theorem g_X9_laysLimit_L20 {E : z_E} {l : Launch} {S : z_S} {d : z_D} {o0 : Nat} {x1 : Int32} {K : Int32 → Option z_D} (h0 : A_Model S o0) (hK : ∀ (y2 : Int32), z_G E l Y_X9_laysLimit (cvV S) (K y2) 77 [(0, .ref (E.2.1 + o0)), (1, .int x1), (2, .int y2)] [] (S, d) 0 0) : ∀ (n : Nat) (x2 : Int32) (x3 : Int32), z_G E l Y_X9_laysLimit (cvV S) (f_X9_laysLimit_L20 d o0 x1 K n x2 x3) 20 [(0, .ref (E.2.1 + o0)), (1, .int x1), (2, .int x2), (3, .int x3)] [] (S, d) 0 0 := by
  intro n
  induction n with
  | zero => intro _ _; exact r_none
  | succ n ih =>
    intro x2 x3
    show z_G E l Y_X9_laysLimit (cvV S) (f_X9_laysLimit_L20_b d o0 x1 K (f_X9_laysLimit_L20 d o0 x1 K n) x2 x3) 20 [(0, .ref (E.2.1 + o0)), (1, .int x1), (2, .int x2), (3, .int x3)] [] (S, d) 0 0
    unfold f_X9_laysLimit_L20_b
    refine r_iload_n 3 3 rfl rfl 21 rfl dX9_laysLimit_20 ?_
    refine r_aload_n 0 0 rfl rfl 22 rfl dX9_laysLimit_21 ?_
    refine r_get (h0 0 (Nat.le_of_ble_eq_true rfl)) rfl (Nat.le_of_ble_eq_true rfl) rfl rfl w_X9_laysLimit_1 6 (Nat.le_of_ble_eq_true rfl) rfl w_X9_laysLimit_3 (.int (d o0 6)) rfl 25 rfl dX9_laysLimit_22 ?_
    refine r_icmp_ge 77 28 rfl rfl dX9_laysLimit_25 ?_ ?_
    · refine r_sub [0, 1, 2] rfl ?_
      exact hK x2
    · refine r_aload_n 0 0 rfl rfl 29 rfl dX9_laysLimit_28 ?_
      refine r_get (h0 0 (Nat.le_of_ble_eq_true rfl)) rfl (Nat.le_of_ble_eq_true rfl) rfl rfl w_X9_laysLimit_1 1 (Nat.le_of_ble_eq_true rfl) rfl w_X9_laysLimit_0 (.ref (E.2.1 + (o0 + 1))) rfl 32 rfl dX9_laysLimit_29 ?_
      refine r_iload_n 1 1 rfl rfl 33 rfl dX9_laysLimit_32 ?_
      refine r_aload_n 0 0 rfl rfl 34 rfl dX9_laysLimit_33 ?_
      refine r_get (h0 0 (Nat.le_of_ble_eq_true rfl)) rfl (Nat.le_of_ble_eq_true rfl) rfl rfl w_X9_laysLimit_1 5 (Nat.le_of_ble_eq_true rfl) rfl w_X9_laysLimit_2 (.ref (E.2.1 + (o0 + 5))) rfl 37 rfl dX9_laysLimit_34 ?_
      refine r_iload_n 3 3 rfl rfl 38 rfl dX9_laysLimit_37 ?_
      refine r_iald (h0 5 (Nat.le_of_ble_eq_true rfl)) rfl rfl 39 rfl dX9_laysLimit_38 (fun v4 => ?_)
      refine r_bipush 6 rfl 41 rfl dX9_laysLimit_39 ?_
      refine r_callS_I (c_X9_at_ (E := E) (l := l) (S := S) d x1 v4 6) ok_X9_at_ ⟨⟨(Nat.le_of_ble_eq_true rfl), (Nat.le_of_ble_eq_true rfl)⟩, (Nat.le_of_ble_eq_true rfl), (Nat.le_of_ble_eq_true rfl)⟩ rfl (Nat.le_of_ble_eq_true rfl) gX9_laysLimit_X9_at_ rfl rfl 44 rfl dX9_laysLimit_41 (fun v5 => ?_)
      refine r_iald (h0 1 (Nat.le_of_ble_eq_true rfl)) rfl rfl 45 rfl dX9_laysLimit_44 (fun v6 => ?_)
      refine r_iload_n 2 2 rfl rfl 46 rfl dX9_laysLimit_45 ?_
      refine r_icmp_ge 69 49 rfl rfl dX9_laysLimit_46 ?_ ?_
      · refine r_iload_n 2 2 rfl rfl 70 rfl dX9_laysLimit_69 ?_
        refine r_istore_n 2 rfl [(2, .int x2), (0, .ref (E.2.1 + o0)), (1, .int x1), (3, .int x3)] (Nat.le_of_ble_eq_true rfl) rfl 71 rfl dX9_laysLimit_70 ?_
        refine r_iinc (x3 + 1) 3 rfl rfl [(3, .int (x3 + 1)), (2, .int x2), (0, .ref (E.2.1 + o0)), (1, .int x1)] (Nat.le_of_ble_eq_true rfl) rfl 74 rfl dX9_laysLimit_71 ?_
        refine r_goto 20 rfl dX9_laysLimit_74 ?_
        refine r_sub [2, 3, 1, 0] rfl ?_
        exact ih x2 (x3 + 1)
      · refine r_aload_n 0 0 rfl rfl 50 rfl dX9_laysLimit_49 ?_
        refine r_get (h0 0 (Nat.le_of_ble_eq_true rfl)) rfl (Nat.le_of_ble_eq_true rfl) rfl rfl w_X9_laysLimit_1 1 (Nat.le_of_ble_eq_true rfl) rfl w_X9_laysLimit_0 (.ref (E.2.1 + (o0 + 1))) rfl 53 rfl dX9_laysLimit_50 ?_
        refine r_iload_n 1 1 rfl rfl 54 rfl dX9_laysLimit_53 ?_
        refine r_aload_n 0 0 rfl rfl 55 rfl dX9_laysLimit_54 ?_
        refine r_get (h0 0 (Nat.le_of_ble_eq_true rfl)) rfl (Nat.le_of_ble_eq_true rfl) rfl rfl w_X9_laysLimit_1 5 (Nat.le_of_ble_eq_true rfl) rfl w_X9_laysLimit_2 (.ref (E.2.1 + (o0 + 5))) rfl 58 rfl dX9_laysLimit_55 ?_
        refine r_iload_n 3 3 rfl rfl 59 rfl dX9_laysLimit_58 ?_
        refine r_iald (h0 5 (Nat.le_of_ble_eq_true rfl)) rfl rfl 60 rfl dX9_laysLimit_59 (fun v7 => ?_)
        refine r_bipush 6 rfl 62 rfl dX9_laysLimit_60 ?_
        refine r_callS_I (c_X9_at_ (E := E) (l := l) (S := S) d x1 v7 6) ok_X9_at_ ⟨⟨(Nat.le_of_ble_eq_true rfl), (Nat.le_of_ble_eq_true rfl)⟩, (Nat.le_of_ble_eq_true rfl), (Nat.le_of_ble_eq_true rfl)⟩ rfl (Nat.le_of_ble_eq_true rfl) gX9_laysLimit_X9_at_ rfl rfl 65 rfl dX9_laysLimit_62 (fun v8 => ?_)
        refine r_iald (h0 1 (Nat.le_of_ble_eq_true rfl)) rfl rfl 66 rfl dX9_laysLimit_65 (fun v9 => ?_)
        refine r_goto 70 rfl dX9_laysLimit_66 ?_
        refine r_istore_n 2 rfl [(2, .int v9), (0, .ref (E.2.1 + o0)), (1, .int x1), (3, .int x3)] (Nat.le_of_ble_eq_true rfl) rfl 71 rfl dX9_laysLimit_70 ?_
        refine r_iinc (x3 + 1) 3 rfl rfl [(3, .int (x3 + 1)), (2, .int v9), (0, .ref (E.2.1 + o0)), (1, .int x1)] (Nat.le_of_ble_eq_true rfl) rfl 74 rfl dX9_laysLimit_71 ?_
        refine r_goto 20 rfl dX9_laysLimit_74 ?_
        refine r_sub [2, 3, 1, 0] rfl ?_
        exact ih v9 (x3 + 1)
def f_X9_laysLimit (d : z_D) (o0 : Nat) (x1 : Int32) : Option z_D := z_ald d (o0 + 5) 16 0 (fun v1 => ((f_X9_at_ x1 v1 6).bind fun v2 => z_ald d (o0 + 1) 2656 v2 (fun v3 => (f_X9_laysLimit_L20 d o0 x1 (fun v10 => ((f_X9_at x1 1).bind fun v11 => z_ald d (o0 + 1) 2656 v11 (fun v12 => z_let (fun x_100 : Int32 => z_div (v12 * 3600) x_100 (fun v13 => z_let (fun x_118 : Int32 => ((f_X9_at x1 0).bind fun v14 => z_ald d (o0 + 1) 2656 v14 (fun v15 => ((f_X9_hundredths v15).bind fun v16 => z_let (fun x_147 : Int32 => z_nam (v16 + x_147) (fun v17 => ((f_X9_at x1 7).bind fun v18 => z_ast d (o0 + 1) 2656 v18 v10 (fun d19 => ((f_X9_at x1 8).bind fun v20 => z_ast d19 (o0 + 1) 2656 v20 v13 (fun d21 => ((f_X9_at x1 9).bind fun v22 => z_ast d21 (o0 + 1) 2656 v22 (v10 + ((v10 * v17) / 100)) (fun d23 => (some d23))))))))) (fun J147 => (if x_118 ≤ 10 then (J147 x_118) else (J147 10))))))) (fun J118 => (if v13 ≤ 38 then (J118 0) else (J118 ((v13 - 38) / 2)))))) (fun J100 => (if v10 = 0 then (J100 1) else (J100 v10)))))) z_N v3 1))))
set_option maxHeartbeats 4000000 in
set_option maxRecDepth 100000 in
theorem c_X9_laysLimit {E : z_E} {l : Launch} {S : z_S} (d : z_D) (o0 : Nat) (h0 : A_Model S o0) (x1 : Int32) : z_Sp E l yX9_laysLimit Y_X9_laysLimit (cvV S) [.ref (E.2.1 + o0), .int x1] (S, d) (f_X9_laysLimit d o0 x1) := by
  refine z_entry (lv := [(0, .ref (E.2.1 + o0)), (1, .int x1)]) (by decide) rfl rfl (Nat.le_of_ble_eq_true rfl) rfl ?_
  unfold f_X9_laysLimit
  refine r_aload_n 0 0 rfl rfl 1 rfl dX9_laysLimit_0 ?_
  refine r_get (h0 0 (Nat.le_of_ble_eq_true rfl)) rfl (Nat.le_of_ble_eq_true rfl) rfl rfl w_X9_laysLimit_1 1 (Nat.le_of_ble_eq_true rfl) rfl w_X9_laysLimit_0 (.ref (E.2.1 + (o0 + 1))) rfl 4 rfl dX9_laysLimit_1 ?_
  refine r_iload_n 1 1 rfl rfl 5 rfl dX9_laysLimit_4 ?_
  refine r_aload_n 0 0 rfl rfl 6 rfl dX9_laysLimit_5 ?_
  refine r_get (h0 0 (Nat.le_of_ble_eq_true rfl)) rfl (Nat.le_of_ble_eq_true rfl) rfl rfl w_X9_laysLimit_1 5 (Nat.le_of_ble_eq_true rfl) rfl w_X9_laysLimit_2 (.ref (E.2.1 + (o0 + 5))) rfl 9 rfl dX9_laysLimit_6 ?_
  refine r_iconst 0 rfl 10 rfl dX9_laysLimit_9 ?_
  refine r_iald (h0 5 (Nat.le_of_ble_eq_true rfl)) rfl rfl 11 rfl dX9_laysLimit_10 (fun v1 => ?_)
  refine r_bipush 6 rfl 13 rfl dX9_laysLimit_11 ?_
  refine r_callS_I (c_X9_at_ (E := E) (l := l) (S := S) d x1 v1 6) ok_X9_at_ ⟨⟨(Nat.le_of_ble_eq_true rfl), (Nat.le_of_ble_eq_true rfl)⟩, (Nat.le_of_ble_eq_true rfl), (Nat.le_of_ble_eq_true rfl)⟩ rfl (Nat.le_of_ble_eq_true rfl) gX9_laysLimit_X9_at_ rfl rfl 16 rfl dX9_laysLimit_13 (fun v2 => ?_)
  refine r_iald (h0 1 (Nat.le_of_ble_eq_true rfl)) rfl rfl 17 rfl dX9_laysLimit_16 (fun v3 => ?_)
  refine r_istore_n 2 rfl [(2, .int v3), (0, .ref (E.2.1 + o0)), (1, .int x1)] (Nat.le_of_ble_eq_true rfl) rfl 18 rfl dX9_laysLimit_17 ?_
  refine r_iconst 1 rfl 19 rfl dX9_laysLimit_18 ?_
  refine r_istore_n 3 rfl [(3, .int 1), (2, .int v3), (0, .ref (E.2.1 + o0)), (1, .int x1)] (Nat.le_of_ble_eq_true rfl) rfl 20 rfl dX9_laysLimit_19 ?_
  refine r_sub [2, 3, 1, 0] rfl ?_
  refine g_X9_laysLimit_L20 h0 (fun v10 => ?_) z_N v3 1
  refine r_aload_n 0 0 rfl rfl 78 rfl dX9_laysLimit_77 ?_
  refine r_get (h0 0 (Nat.le_of_ble_eq_true rfl)) rfl (Nat.le_of_ble_eq_true rfl) rfl rfl w_X9_laysLimit_1 1 (Nat.le_of_ble_eq_true rfl) rfl w_X9_laysLimit_0 (.ref (E.2.1 + (o0 + 1))) rfl 81 rfl dX9_laysLimit_78 ?_
  refine r_iload_n 1 1 rfl rfl 82 rfl dX9_laysLimit_81 ?_
  refine r_iconst 1 rfl 83 rfl dX9_laysLimit_82 ?_
  refine r_callS_I (c_X9_at (E := E) (l := l) (S := S) d x1 1) ok_X9_at ⟨⟨(Nat.le_of_ble_eq_true rfl), (Nat.le_of_ble_eq_true rfl)⟩, (Nat.le_of_ble_eq_true rfl), (Nat.le_of_ble_eq_true rfl)⟩ rfl (Nat.le_of_ble_eq_true rfl) gX9_laysLimit_X9_at rfl rfl 86 rfl dX9_laysLimit_83 (fun v11 => ?_)
  refine r_iald (h0 1 (Nat.le_of_ble_eq_true rfl)) rfl rfl 87 rfl dX9_laysLimit_86 (fun v12 => ?_)
  refine r_sipush 3600 rfl 90 rfl dX9_laysLimit_87 ?_
  refine r_imul 91 rfl dX9_laysLimit_90 ?_
  refine r_iload_n 2 2 rfl rfl 92 rfl dX9_laysLimit_91 ?_
  refine r_let 100 (f := fun x_100 : Int32 => [(0, .ref (E.2.1 + o0)), (1, .int x1), (2, .int v10)]) (g := fun x_100 : Int32 => [.int x_100, .int (v12 * 3600)]) (ww := fun x_100 : Int32 => (S, d)) (fun x_100 => ?_) (fun J100 hJ100 => ?_)
  · refine r_div 101 rfl dX9_laysLimit_100 (fun v13 => ?_)
    refine r_istore_n 3 rfl [(3, .int v13), (0, .ref (E.2.1 + o0)), (1, .int x1), (2, .int v10)] (Nat.le_of_ble_eq_true rfl) rfl 102 rfl dX9_laysLimit_101 ?_
    refine r_iload_n 3 0 rfl rfl 103 rfl dX9_laysLimit_102 ?_
    refine r_bipush 38 rfl 105 rfl dX9_laysLimit_103 ?_
    refine r_let 118 (f := fun x_118 : Int32 => [(0, .ref (E.2.1 + o0)), (1, .int x1), (2, .int v10), (3, .int v13)]) (g := fun x_118 : Int32 => [.int x_118]) (ww := fun x_118 : Int32 => (S, d)) (fun x_118 => ?_) (fun J118 hJ118 => ?_)
    · refine r_istore 4 [(4, .int x_118), (0, .ref (E.2.1 + o0)), (1, .int x1), (2, .int v10), (3, .int v13)] (Nat.le_of_ble_eq_true rfl) rfl 120 rfl dX9_laysLimit_118 ?_
      refine r_aload_n 0 1 rfl rfl 121 rfl dX9_laysLimit_120 ?_
      refine r_get (h0 0 (Nat.le_of_ble_eq_true rfl)) rfl (Nat.le_of_ble_eq_true rfl) rfl rfl w_X9_laysLimit_1 1 (Nat.le_of_ble_eq_true rfl) rfl w_X9_laysLimit_0 (.ref (E.2.1 + (o0 + 1))) rfl 124 rfl dX9_laysLimit_121 ?_
      refine r_iload_n 1 2 rfl rfl 125 rfl dX9_laysLimit_124 ?_
      refine r_iconst 0 rfl 126 rfl dX9_laysLimit_125 ?_
      refine r_callS_I (c_X9_at (E := E) (l := l) (S := S) d x1 0) ok_X9_at ⟨⟨(Nat.le_of_ble_eq_true rfl), (Nat.le_of_ble_eq_true rfl)⟩, (Nat.le_of_ble_eq_true rfl), (Nat.le_of_ble_eq_true rfl)⟩ rfl (Nat.le_of_ble_eq_true rfl) gX9_laysLimit_X9_at rfl rfl 129 rfl dX9_laysLimit_126 (fun v14 => ?_)
      refine r_iald (h0 1 (Nat.le_of_ble_eq_true rfl)) rfl rfl 130 rfl dX9_laysLimit_129 (fun v15 => ?_)
      refine r_callS_I (c_X9_hundredths (E := E) (l := l) (S := S) d v15) ok_X9_hundredths ⟨⟨(Nat.le_of_ble_eq_true rfl), (Nat.le_of_ble_eq_true rfl)⟩, (Nat.le_of_ble_eq_true rfl), (Nat.le_of_ble_eq_true rfl)⟩ rfl (Nat.le_of_ble_eq_true rfl) gX9_laysLimit_X9_hundredths rfl rfl 133 rfl dX9_laysLimit_130 (fun v16 => ?_)
      refine r_iload 4 0 rfl 135 rfl dX9_laysLimit_133 ?_
      refine r_bipush 10 rfl 137 rfl dX9_laysLimit_135 ?_
      refine r_let 147 (f := fun x_147 : Int32 => [(0, .ref (E.2.1 + o0)), (1, .int x1), (2, .int v10), (3, .int v13)]) (g := fun x_147 : Int32 => [.int x_147, .int v16]) (ww := fun x_147 : Int32 => (S, d)) (fun x_147 => ?_) (fun J147 hJ147 => ?_)
      · refine r_iadd 148 rfl dX9_laysLimit_147 ?_
        refine r_nami (fun v17 => ?_)
        refine r_istore 5 [(5, .int v17), (0, .ref (E.2.1 + o0)), (1, .int x1), (2, .int v10), (3, .int v13)] (Nat.le_of_ble_eq_true rfl) rfl 150 rfl dX9_laysLimit_148 ?_
        refine r_aload_n 0 1 rfl rfl 151 rfl dX9_laysLimit_150 ?_
        refine r_get (h0 0 (Nat.le_of_ble_eq_true rfl)) rfl (Nat.le_of_ble_eq_true rfl) rfl rfl w_X9_laysLimit_1 1 (Nat.le_of_ble_eq_true rfl) rfl w_X9_laysLimit_0 (.ref (E.2.1 + (o0 + 1))) rfl 154 rfl dX9_laysLimit_151 ?_
        refine r_iload_n 1 2 rfl rfl 155 rfl dX9_laysLimit_154 ?_
        refine r_bipush 7 rfl 157 rfl dX9_laysLimit_155 ?_
        refine r_callS_I (c_X9_at (E := E) (l := l) (S := S) d x1 7) ok_X9_at ⟨⟨(Nat.le_of_ble_eq_true rfl), (Nat.le_of_ble_eq_true rfl)⟩, (Nat.le_of_ble_eq_true rfl), (Nat.le_of_ble_eq_true rfl)⟩ rfl (Nat.le_of_ble_eq_true rfl) gX9_laysLimit_X9_at rfl rfl 160 rfl dX9_laysLimit_157 (fun v18 => ?_)
        refine r_iload_n 2 3 rfl rfl 161 rfl dX9_laysLimit_160 ?_
        refine r_iast (h0 1 (Nat.le_of_ble_eq_true rfl)) rfl rfl 162 rfl dX9_laysLimit_161 (fun d19 => ?_)
        refine r_aload_n 0 1 rfl rfl 163 rfl dX9_laysLimit_162 ?_
        refine r_get (h0 0 (Nat.le_of_ble_eq_true rfl)) rfl (Nat.le_of_ble_eq_true rfl) rfl rfl w_X9_laysLimit_1 1 (Nat.le_of_ble_eq_true rfl) rfl w_X9_laysLimit_0 (.ref (E.2.1 + (o0 + 1))) rfl 166 rfl dX9_laysLimit_163 ?_
        refine r_iload_n 1 2 rfl rfl 167 rfl dX9_laysLimit_166 ?_
        refine r_bipush 8 rfl 169 rfl dX9_laysLimit_167 ?_
        refine r_callS_I (c_X9_at (E := E) (l := l) (S := S) d19 x1 8) ok_X9_at ⟨⟨(Nat.le_of_ble_eq_true rfl), (Nat.le_of_ble_eq_true rfl)⟩, (Nat.le_of_ble_eq_true rfl), (Nat.le_of_ble_eq_true rfl)⟩ rfl (Nat.le_of_ble_eq_true rfl) gX9_laysLimit_X9_at rfl rfl 172 rfl dX9_laysLimit_169 (fun v20 => ?_)
        refine r_iload_n 3 4 rfl rfl 173 rfl dX9_laysLimit_172 ?_
        refine r_iast (h0 1 (Nat.le_of_ble_eq_true rfl)) rfl rfl 174 rfl dX9_laysLimit_173 (fun d21 => ?_)
        refine r_aload_n 0 1 rfl rfl 175 rfl dX9_laysLimit_174 ?_
        refine r_get (h0 0 (Nat.le_of_ble_eq_true rfl)) rfl (Nat.le_of_ble_eq_true rfl) rfl rfl w_X9_laysLimit_1 1 (Nat.le_of_ble_eq_true rfl) rfl w_X9_laysLimit_0 (.ref (E.2.1 + (o0 + 1))) rfl 178 rfl dX9_laysLimit_175 ?_
        refine r_iload_n 1 2 rfl rfl 179 rfl dX9_laysLimit_178 ?_
        refine r_bipush 9 rfl 181 rfl dX9_laysLimit_179 ?_
        refine r_callS_I (c_X9_at (E := E) (l := l) (S := S) d21 x1 9) ok_X9_at ⟨⟨(Nat.le_of_ble_eq_true rfl), (Nat.le_of_ble_eq_true rfl)⟩, (Nat.le_of_ble_eq_true rfl), (Nat.le_of_ble_eq_true rfl)⟩ rfl (Nat.le_of_ble_eq_true rfl) gX9_laysLimit_X9_at rfl rfl 184 rfl dX9_laysLimit_181 (fun v22 => ?_)
        refine r_iload_n 2 3 rfl rfl 185 rfl dX9_laysLimit_184 ?_
        refine r_iload_n 2 3 rfl rfl 186 rfl dX9_laysLimit_185 ?_
        refine r_iload 5 0 rfl 188 rfl dX9_laysLimit_186 ?_
        refine r_imul 189 rfl dX9_laysLimit_188 ?_
        refine r_bipush 100 rfl 191 rfl dX9_laysLimit_189 ?_
        refine r_divc (by decide) 192 rfl dX9_laysLimit_191 ?_
        refine r_iadd 193 rfl dX9_laysLimit_192 ?_
        refine r_iast (h0 1 (Nat.le_of_ble_eq_true rfl)) rfl rfl 194 rfl dX9_laysLimit_193 (fun d23 => ?_)
        exact r_return rfl rfl (Nat.le_of_ble_eq_true rfl) (Nat.le_of_ble_eq_true rfl) dX9_laysLimit_194
      refine r_icmp_le 145 140 rfl rfl dX9_laysLimit_137 ?_ ?_
      · refine r_iload 4 0 rfl 147 rfl dX9_laysLimit_145 ?_
        refine r_sub [1, 2, 3, 4] rfl ?_
        exact hJ147 x_118
      · refine r_bipush 10 rfl 142 rfl dX9_laysLimit_140 ?_
        refine r_goto 147 rfl dX9_laysLimit_142 ?_
        refine r_sub [1, 2, 3, 4] rfl ?_
        exact hJ147 10
    refine r_icmp_le 117 108 rfl rfl dX9_laysLimit_105 ?_ ?_
    · refine r_iconst 0 rfl 118 rfl dX9_laysLimit_117 ?_
      refine r_sub [1, 2, 3, 0] rfl ?_
      exact hJ118 0
    · refine r_iload_n 3 0 rfl rfl 109 rfl dX9_laysLimit_108 ?_
      refine r_bipush 38 rfl 111 rfl dX9_laysLimit_109 ?_
      refine r_isub 112 rfl dX9_laysLimit_111 ?_
      refine r_iconst 2 rfl 113 rfl dX9_laysLimit_112 ?_
      refine r_divc (by decide) 114 rfl dX9_laysLimit_113 ?_
      refine r_goto 118 rfl dX9_laysLimit_114 ?_
      refine r_sub [1, 2, 3, 0] rfl ?_
      exact hJ118 ((v13 - 38) / 2)
  refine r_if_ne 99 95 rfl rfl dX9_laysLimit_92 ?_ ?_
  · refine r_iload_n 2 2 rfl rfl 100 rfl dX9_laysLimit_99 ?_
    refine r_sub [0, 1, 2] rfl ?_
    exact hJ100 v10
  · refine r_iconst 1 rfl 96 rfl dX9_laysLimit_95 ?_
    refine r_goto 100 rfl dX9_laysLimit_96 ?_
    refine r_sub [0, 1, 2] rfl ?_
    exact hJ100 1
def Y_X9_pointsFor : z_Y := (RX9, cX9_pointsFor, 3, wsX9_pointsFor, (some .int), { frames := 1, cells := 0, slots := 0, locals := 21 }, 0, 0)
theorem ok_X9_pointsFor : z_Ok yX9_pointsFor Y_X9_pointsFor 2 := ⟨⟨_, rfl⟩, rfl, rfl, rfl, by decide +kernel, by decide +kernel⟩
theorem w_X9_pointsFor_0 : Cond.fieldLink RX9 7 "BunchTimesModel" "row" "[I" ∈ wsX9_pointsFor := by decide +kernel
theorem w_X9_pointsFor_1 : ∀ w ∈ u_ws RX9 TX9 18, w ∈ wsX9_pointsFor := by decide +kernel
theorem w_X9_pointsFor_2 : Cond.fieldLink RX9 132 "BunchTimesModel" "FOR_OTHERS" "[I" ∈ wsX9_pointsFor := by decide +kernel
theorem w_X9_pointsFor_3 : Cond.fieldLink RX9 129 "BunchTimesModel" "FOR_HILLS" "[I" ∈ wsX9_pointsFor := by decide +kernel
theorem w_X9_pointsFor_4 : Cond.fieldLink RX9 126 "BunchTimesModel" "FOR_FLAT" "[I" ∈ wsX9_pointsFor := by decide +kernel
def f_X9_pointsFor (d : z_D) (o0 : Nat) (x1 : Int32) (x2 : Int32) : Option Int32 := (if x2 ≤ 4 then ((f_X9_at x1 0).bind fun v1 => z_ald d (o0 + 1) 2656 v1 (fun v2 => (if v2 = 0 then z_tab [25, 20, 16, 13, 10] x2 (fun v7 => (some v7)) else ((f_X9_at x1 0).bind fun v3 => z_ald d (o0 + 1) 2656 v3 (fun v4 => (if v4 = 1 then z_tab [15, 12, 9, 7, 5] x2 (fun v6 => (some v6)) else z_tab [10, 8, 6, 4, 2] x2 (fun v5 => (some v5)))))))) else (some 0))
set_option maxHeartbeats 4000000 in
set_option maxRecDepth 100000 in
theorem c_X9_pointsFor {E : z_E} {l : Launch} {S : z_S} (d : z_D) (o0 : Nat) (h0 : A_Model S o0) (x1 : Int32) (x2 : Int32) : z_Sp E l yX9_pointsFor Y_X9_pointsFor (cvI S d) [.ref (E.2.1 + o0), .int x1, .int x2] (S, d) (f_X9_pointsFor d o0 x1 x2) := by
  refine z_entry (lv := [(0, .ref (E.2.1 + o0)), (1, .int x1), (2, .int x2)]) (by decide) rfl rfl (Nat.le_of_ble_eq_true rfl) rfl ?_
  unfold f_X9_pointsFor
  refine r_iload_n 2 2 rfl rfl 1 rfl dX9_pointsFor_0 ?_
  refine r_iconst 4 rfl 2 rfl dX9_pointsFor_1 ?_
  refine r_icmp_le 7 5 rfl rfl dX9_pointsFor_2 ?_ ?_
  · refine r_aload_n 0 0 rfl rfl 8 rfl dX9_pointsFor_7 ?_
    refine r_get (h0 0 (Nat.le_of_ble_eq_true rfl)) rfl (Nat.le_of_ble_eq_true rfl) rfl rfl w_X9_pointsFor_1 1 (Nat.le_of_ble_eq_true rfl) rfl w_X9_pointsFor_0 (.ref (E.2.1 + (o0 + 1))) rfl 11 rfl dX9_pointsFor_8 ?_
    refine r_iload_n 1 1 rfl rfl 12 rfl dX9_pointsFor_11 ?_
    refine r_iconst 0 rfl 13 rfl dX9_pointsFor_12 ?_
    refine r_callS_I (c_X9_at (E := E) (l := l) (S := S) d x1 0) ok_X9_at ⟨⟨(Nat.le_of_ble_eq_true rfl), (Nat.le_of_ble_eq_true rfl)⟩, (Nat.le_of_ble_eq_true rfl), (Nat.le_of_ble_eq_true rfl)⟩ rfl (Nat.le_of_ble_eq_true rfl) gX9_pointsFor_X9_at rfl rfl 16 rfl dX9_pointsFor_13 (fun v1 => ?_)
    refine r_iald (h0 1 (Nat.le_of_ble_eq_true rfl)) rfl rfl 17 rfl dX9_pointsFor_16 (fun v2 => ?_)
    refine r_if_ne 28 20 rfl rfl dX9_pointsFor_17 ?_ ?_
    · refine r_aload_n 0 0 rfl rfl 29 rfl dX9_pointsFor_28 ?_
      refine r_get (h0 0 (Nat.le_of_ble_eq_true rfl)) rfl (Nat.le_of_ble_eq_true rfl) rfl rfl w_X9_pointsFor_1 1 (Nat.le_of_ble_eq_true rfl) rfl w_X9_pointsFor_0 (.ref (E.2.1 + (o0 + 1))) rfl 32 rfl dX9_pointsFor_29 ?_
      refine r_iload_n 1 1 rfl rfl 33 rfl dX9_pointsFor_32 ?_
      refine r_iconst 0 rfl 34 rfl dX9_pointsFor_33 ?_
      refine r_callS_I (c_X9_at (E := E) (l := l) (S := S) d x1 0) ok_X9_at ⟨⟨(Nat.le_of_ble_eq_true rfl), (Nat.le_of_ble_eq_true rfl)⟩, (Nat.le_of_ble_eq_true rfl), (Nat.le_of_ble_eq_true rfl)⟩ rfl (Nat.le_of_ble_eq_true rfl) gX9_pointsFor_X9_at rfl rfl 37 rfl dX9_pointsFor_34 (fun v3 => ?_)
      refine r_iald (h0 1 (Nat.le_of_ble_eq_true rfl)) rfl rfl 38 rfl dX9_pointsFor_37 (fun v4 => ?_)
      refine r_iconst 1 rfl 39 rfl dX9_pointsFor_38 ?_
      refine r_icmp_ne 50 42 rfl rfl dX9_pointsFor_39 ?_ ?_
      · refine r_gets 8 rfl w_X9_pointsFor_2 53 rfl dX9_pointsFor_50 ?_
        refine r_iload_n 2 2 rfl rfl 54 rfl dX9_pointsFor_53 ?_
        refine r_tald 8 rfl rfl 55 rfl dX9_pointsFor_54 (fun v5 => ?_)
        exact r_ireturn rfl rfl (Nat.le_of_ble_eq_true rfl) (Nat.le_of_ble_eq_true rfl) dX9_pointsFor_55
      · refine r_gets 7 rfl w_X9_pointsFor_3 45 rfl dX9_pointsFor_42 ?_
        refine r_iload_n 2 2 rfl rfl 46 rfl dX9_pointsFor_45 ?_
        refine r_tald 7 rfl rfl 47 rfl dX9_pointsFor_46 (fun v6 => ?_)
        refine r_goto 55 rfl dX9_pointsFor_47 ?_
        exact r_ireturn rfl rfl (Nat.le_of_ble_eq_true rfl) (Nat.le_of_ble_eq_true rfl) dX9_pointsFor_55
    · refine r_gets 6 rfl w_X9_pointsFor_4 23 rfl dX9_pointsFor_20 ?_
      refine r_iload_n 2 2 rfl rfl 24 rfl dX9_pointsFor_23 ?_
      refine r_tald 6 rfl rfl 25 rfl dX9_pointsFor_24 (fun v7 => ?_)
      refine r_goto 55 rfl dX9_pointsFor_25 ?_
      exact r_ireturn rfl rfl (Nat.le_of_ble_eq_true rfl) (Nat.le_of_ble_eq_true rfl) dX9_pointsFor_55
  · refine r_iconst 0 rfl 6 rfl dX9_pointsFor_5 ?_
    exact r_ireturn rfl rfl (Nat.le_of_ble_eq_true rfl) (Nat.le_of_ble_eq_true rfl) dX9_pointsFor_6
def Y_X9_dotsFor : z_Y := (RX9, cX9_dotsFor, 2, wsX9_dotsFor, (some .int), { frames := 0, cells := 0, slots := 0, locals := 0 }, 0, 0)
theorem ok_X9_dotsFor : z_Ok yX9_dotsFor Y_X9_dotsFor 2 := ⟨⟨_, rfl⟩, rfl, rfl, rfl, by decide +kernel, by decide +kernel⟩
theorem w_X9_dotsFor_0 : Cond.fieldLink RX9 135 "BunchTimesModel" "FIRST" "[I" ∈ wsX9_dotsFor := by decide +kernel
theorem w_X9_dotsFor_1 : Cond.fieldLink RX9 138 "BunchTimesModel" "SECOND" "[I" ∈ wsX9_dotsFor := by decide +kernel
def f_X9_dotsFor (d : z_D) (x0 : Int32) (x1 : Int32) : Option Int32 := (if x0 = 1 then (if 4 ≤ x1 then (some 0) else z_tab [10, 8, 6, 4] x1 (fun v1 => (some v1))) else (if x0 = 2 then (if 4 ≤ x1 then (some 0) else z_tab [5, 3, 2, 1] x1 (fun v2 => (some v2))) else (if x0 = 3 then (if 2 ≤ x1 then (some 0) else (some (2 - x1))) else (if x1 = 0 then (some 1) else (some 0)))))
set_option maxHeartbeats 4000000 in
set_option maxRecDepth 100000 in
theorem c_X9_dotsFor {E : z_E} {l : Launch} {S : z_S} (d : z_D) (x0 : Int32) (x1 : Int32) : z_Sp E l yX9_dotsFor Y_X9_dotsFor (cvI S d) [.int x0, .int x1] (S, d) (f_X9_dotsFor d x0 x1) := by
  refine z_entry (lv := [(0, .int x0), (1, .int x1)]) (by decide) rfl rfl (Nat.le_of_ble_eq_true rfl) rfl ?_
  unfold f_X9_dotsFor
  refine r_iload_n 0 0 rfl rfl 1 rfl dX9_dotsFor_0 ?_
  refine r_tsw 28 rfl rfl rfl rfl dX9_dotsFor_1 ?_ (fun hs1 => ?_)
  · refine r_iload_n 1 1 rfl rfl 29 rfl dX9_dotsFor_28 ?_
    refine r_iconst 4 rfl 30 rfl dX9_dotsFor_29 ?_
    refine r_icmp_ge 41 33 rfl rfl dX9_dotsFor_30 ?_ ?_
    · refine r_iconst 0 rfl 42 rfl dX9_dotsFor_41 ?_
      exact r_ireturn rfl rfl (Nat.le_of_ble_eq_true rfl) (Nat.le_of_ble_eq_true rfl) dX9_dotsFor_42
    · refine r_gets 10 rfl w_X9_dotsFor_0 36 rfl dX9_dotsFor_33 ?_
      refine r_iload_n 1 1 rfl rfl 37 rfl dX9_dotsFor_36 ?_
      refine r_tald 10 rfl rfl 38 rfl dX9_dotsFor_37 (fun v1 => ?_)
      refine r_goto 42 rfl dX9_dotsFor_38 ?_
      exact r_ireturn rfl rfl (Nat.le_of_ble_eq_true rfl) (Nat.le_of_ble_eq_true rfl) dX9_dotsFor_42
  refine r_tsw 43 rfl rfl rfl rfl dX9_dotsFor_1 ?_ (fun hs2 => ?_)
  · refine r_iload_n 1 1 rfl rfl 44 rfl dX9_dotsFor_43 ?_
    refine r_iconst 4 rfl 45 rfl dX9_dotsFor_44 ?_
    refine r_icmp_ge 56 48 rfl rfl dX9_dotsFor_45 ?_ ?_
    · refine r_iconst 0 rfl 57 rfl dX9_dotsFor_56 ?_
      exact r_ireturn rfl rfl (Nat.le_of_ble_eq_true rfl) (Nat.le_of_ble_eq_true rfl) dX9_dotsFor_57
    · refine r_gets 11 rfl w_X9_dotsFor_1 51 rfl dX9_dotsFor_48 ?_
      refine r_iload_n 1 1 rfl rfl 52 rfl dX9_dotsFor_51 ?_
      refine r_tald 11 rfl rfl 53 rfl dX9_dotsFor_52 (fun v2 => ?_)
      refine r_goto 57 rfl dX9_dotsFor_53 ?_
      exact r_ireturn rfl rfl (Nat.le_of_ble_eq_true rfl) (Nat.le_of_ble_eq_true rfl) dX9_dotsFor_57
  refine r_tsw 58 rfl rfl rfl rfl dX9_dotsFor_1 ?_ (fun hs3 => ?_)
  · refine r_iload_n 1 1 rfl rfl 59 rfl dX9_dotsFor_58 ?_
    refine r_iconst 2 rfl 60 rfl dX9_dotsFor_59 ?_
    refine r_icmp_ge 69 63 rfl rfl dX9_dotsFor_60 ?_ ?_
    · refine r_iconst 0 rfl 70 rfl dX9_dotsFor_69 ?_
      exact r_ireturn rfl rfl (Nat.le_of_ble_eq_true rfl) (Nat.le_of_ble_eq_true rfl) dX9_dotsFor_70
    · refine r_iconst 2 rfl 64 rfl dX9_dotsFor_63 ?_
      refine r_iload_n 1 1 rfl rfl 65 rfl dX9_dotsFor_64 ?_
      refine r_isub 66 rfl dX9_dotsFor_65 ?_
      refine r_goto 70 rfl dX9_dotsFor_66 ?_
      exact r_ireturn rfl rfl (Nat.le_of_ble_eq_true rfl) (Nat.le_of_ble_eq_true rfl) dX9_dotsFor_70
  refine r_tswD (lo := 1) (hi := 3) 71 3 rfl (fun j hj => match j, hj with | 0, _ => hs1 | 1, _ => hs2 | 2, _ => hs3) rfl dX9_dotsFor_1 ?_
  refine r_iload_n 1 1 rfl rfl 72 rfl dX9_dotsFor_71 ?_
  refine r_if_ne 79 75 rfl rfl dX9_dotsFor_72 ?_ ?_
  · refine r_iconst 0 rfl 80 rfl dX9_dotsFor_79 ?_
    exact r_ireturn rfl rfl (Nat.le_of_ble_eq_true rfl) (Nat.le_of_ble_eq_true rfl) dX9_dotsFor_80
  · refine r_iconst 1 rfl 76 rfl dX9_dotsFor_75 ?_
    refine r_goto 80 rfl dX9_dotsFor_76 ?_
    exact r_ireturn rfl rfl (Nat.le_of_ble_eq_true rfl) (Nat.le_of_ble_eq_true rfl) dX9_dotsFor_80
def Y_X9_adds : z_Y := (RX9, cX9_adds, 5, wsX9_adds, none, { frames := 3, cells := 0, slots := 0, locals := 66 }, 0, 0)
theorem ok_X9_adds : z_Ok yX9_adds Y_X9_adds 4 := ⟨⟨_, rfl⟩, rfl, rfl, rfl, by decide +kernel, by decide +kernel⟩
theorem w_X9_adds_0 : Cond.fieldLink RX9 7 "BunchTimesModel" "row" "[I" ∈ wsX9_adds := by decide +kernel
theorem w_X9_adds_1 : ∀ w ∈ u_ws RX9 TX9 18, w ∈ wsX9_adds := by decide +kernel
def f_X9_adds (d : z_D) (o0 : Nat) (x1 : Int32) (x2 : Int32) (x3 : Int32) (x4 : Int32) : Option z_D := z_let (fun x_15 : Unit => ((f_X9_at_ x1 x2 x3).bind fun v1 => z_ald d (o0 + 1) 2656 v1 (fun v2 => z_ast d (o0 + 1) 2656 v1 (v2 + x4) (fun d3 => (some d3))))) (fun J15 => (if x3 = 9 then (J15 ()) else ((f_X9_isLate d o0 x1 x2).bind fun v4 => (if v4 = 0 then (J15 ()) else (some d)))))
set_option maxHeartbeats 4000000 in
set_option maxRecDepth 100000 in
theorem c_X9_adds {E : z_E} {l : Launch} {S : z_S} (d : z_D) (o0 : Nat) (h0 : A_Model S o0) (x1 : Int32) (x2 : Int32) (x3 : Int32) (x4 : Int32) : z_Sp E l yX9_adds Y_X9_adds (cvV S) [.ref (E.2.1 + o0), .int x1, .int x2, .int x3, .int x4] (S, d) (f_X9_adds d o0 x1 x2 x3 x4) := by
  refine z_entry (lv := [(0, .ref (E.2.1 + o0)), (1, .int x1), (2, .int x2), (3, .int x3), (4, .int x4)]) (by decide) rfl rfl (Nat.le_of_ble_eq_true rfl) rfl ?_
  unfold f_X9_adds
  refine r_iload_n 3 3 rfl rfl 1 rfl dX9_adds_0 ?_
  refine r_bipush 9 rfl 3 rfl dX9_adds_1 ?_
  refine r_let 15 (f := fun x_15 : Unit => [(0, .ref (E.2.1 + o0)), (1, .int x1), (2, .int x2), (3, .int x3), (4, .int x4)]) (g := fun x_15 : Unit => []) (ww := fun x_15 : Unit => (S, d)) (fun x_15 => ?_) (fun J15 hJ15 => ?_)
  · refine r_aload_n 0 0 rfl rfl 16 rfl dX9_adds_15 ?_
    refine r_get (h0 0 (Nat.le_of_ble_eq_true rfl)) rfl (Nat.le_of_ble_eq_true rfl) rfl rfl w_X9_adds_1 1 (Nat.le_of_ble_eq_true rfl) rfl w_X9_adds_0 (.ref (E.2.1 + (o0 + 1))) rfl 19 rfl dX9_adds_16 ?_
    refine r_iload_n 1 1 rfl rfl 20 rfl dX9_adds_19 ?_
    refine r_iload_n 2 2 rfl rfl 21 rfl dX9_adds_20 ?_
    refine r_iload_n 3 3 rfl rfl 22 rfl dX9_adds_21 ?_
    refine r_callS_I (c_X9_at_ (E := E) (l := l) (S := S) d x1 x2 x3) ok_X9_at_ ⟨⟨(Nat.le_of_ble_eq_true rfl), (Nat.le_of_ble_eq_true rfl)⟩, (Nat.le_of_ble_eq_true rfl), (Nat.le_of_ble_eq_true rfl)⟩ rfl (Nat.le_of_ble_eq_true rfl) gX9_adds_X9_at_ rfl rfl 25 rfl dX9_adds_22 (fun v1 => ?_)
    refine r_dup2 rfl rfl 26 rfl dX9_adds_25 ?_
    refine r_iald (h0 1 (Nat.le_of_ble_eq_true rfl)) rfl rfl 27 rfl dX9_adds_26 (fun v2 => ?_)
    refine r_iload 4 4 rfl 29 rfl dX9_adds_27 ?_
    refine r_iadd 30 rfl dX9_adds_29 ?_
    refine r_iast (h0 1 (Nat.le_of_ble_eq_true rfl)) rfl rfl 31 rfl dX9_adds_30 (fun d3 => ?_)
    exact r_return rfl rfl (Nat.le_of_ble_eq_true rfl) (Nat.le_of_ble_eq_true rfl) dX9_adds_31
  refine r_icmp_eq 15 6 rfl rfl dX9_adds_3 ?_ ?_
  · refine r_sub [0, 1, 2, 3, 4] rfl ?_
    exact hJ15 ()
  · refine r_aload_n 0 0 rfl rfl 7 rfl dX9_adds_6 ?_
    refine r_iload_n 1 1 rfl rfl 8 rfl dX9_adds_7 ?_
    refine r_iload_n 2 2 rfl rfl 9 rfl dX9_adds_8 ?_
    refine r_callV_I (c_X9_isLate (E := E) (l := l) (S := S) d o0 h0 x1 x2) ok_X9_isLate ⟨⟨(Nat.le_of_ble_eq_true rfl), (Nat.le_of_ble_eq_true rfl)⟩, (Nat.le_of_ble_eq_true rfl), (Nat.le_of_ble_eq_true rfl)⟩ (h0 0 (Nat.le_of_ble_eq_true rfl)) (Nat.le_of_ble_eq_true rfl) rfl rfl rfl (Nat.le_of_ble_eq_true rfl) gX9_adds_X9_isLate rfl rfl 12 rfl dX9_adds_9 (fun v4 => ?_)
    refine r_if_ne 31 15 rfl rfl dX9_adds_12 ?_ ?_
    · exact r_return rfl rfl (Nat.le_of_ble_eq_true rfl) (Nat.le_of_ble_eq_true rfl) dX9_adds_31
    · refine r_sub [0, 1, 2, 3, 4] rfl ?_
      exact hJ15 ()
def Y_X9_laysPrizes : z_Y := (RX9, cX9_laysPrizes, 7, wsX9_laysPrizes, none, { frames := 4, cells := 0, slots := 0, locals := 90 }, 0, 0)
theorem ok_X9_laysPrizes : z_Ok yX9_laysPrizes Y_X9_laysPrizes 1 := ⟨⟨_, rfl⟩, rfl, rfl, rfl, by decide +kernel, by decide +kernel⟩
theorem w_X9_laysPrizes_0 : Cond.fieldLink RX9 114 "BunchTimesModel" "orderMany" "I" ∈ wsX9_laysPrizes := by decide +kernel
theorem w_X9_laysPrizes_1 : ∀ w ∈ u_ws RX9 TX9 18, w ∈ wsX9_laysPrizes := by decide +kernel
theorem w_X9_laysPrizes_2 : Cond.fieldLink RX9 7 "BunchTimesModel" "row" "[I" ∈ wsX9_laysPrizes := by decide +kernel
theorem w_X9_laysPrizes_3 : Cond.fieldLink RX9 23 "BunchTimesModel" "order" "[I" ∈ wsX9_laysPrizes := by decide +kernel
theorem w_X9_laysPrizes_4 : Cond.fieldLink RX9 151 "BunchTimesModel" "FOR_SPRINT" "[I" ∈ wsX9_laysPrizes := by decide +kernel
def f_X9_laysPrizes_L2_b (o0 : Nat) (x1 : Int32) (K : z_D → Option z_D) (R : Int32 → z_D → Option z_D) (x2 : Int32) (d : z_D) : Option z_D := (if (d o0 6) ≤ x2 then (K d) else ((f_X9_at x1 0).bind fun v1 => z_ald d (o0 + 1) 2656 v1 (fun v2 => z_let (fun x_62 : z_D => z_ald x_62 (o0 + 5) 16 x2 (fun v3 => ((f_X9_pointsFor x_62 o0 x1 x2).bind fun v4 => ((f_X9_adds x_62 o0 x1 v3 10 v4).bind fun d5 => (R (x2 + 1) d5))))) (fun J62 => (if v2 = 3 then (J62 d) else (if 3 ≤ x2 then (J62 d) else z_ald d (o0 + 5) 16 x2 (fun v6 => z_let (fun x_59 : Int32 => ((f_X9_adds d o0 x1 v6 9 x_59).bind fun d7 => (J62 d7))) (fun J59 => (if x2 = 0 then (J59 10) else (if x2 = 1 then (J59 6) else (J59 4)))))))))))
def f_X9_laysPrizes_L2 (o0 : Nat) (x1 : Int32) (K : z_D → Option z_D) : Nat → Int32 → z_D → Option z_D
  | 0 => fun _ _ => none
  | n + 1 => f_X9_laysPrizes_L2_b o0 x1 K (f_X9_laysPrizes_L2 o0 x1 K n)
set_option maxHeartbeats 4000000 in
set_option maxRecDepth 100000 in
theorem g_X9_laysPrizes_L2 {E : z_E} {l : Launch} {S : z_S} {o0 : Nat} {x1 : Int32} {K : z_D → Option z_D} (h0 : A_Model S o0) (hK : ∀ (d9 : z_D), z_G E l Y_X9_laysPrizes (cvV S) (K d9) 87 [(0, .ref (E.2.1 + o0)), (1, .int x1)] [] (S, d9) 0 0) : ∀ (n : Nat) (x2 : Int32) (d : z_D), z_G E l Y_X9_laysPrizes (cvV S) (f_X9_laysPrizes_L2 o0 x1 K n x2 d) 2 [(0, .ref (E.2.1 + o0)), (1, .int x1), (2, .int x2)] [] (S, d) 0 0 := by
  intro n
  induction n with
  | zero => intro _ _; exact r_none
  | succ n ih =>
    intro x2 d
    show z_G E l Y_X9_laysPrizes (cvV S) (f_X9_laysPrizes_L2_b o0 x1 K (f_X9_laysPrizes_L2 o0 x1 K n) x2 d) 2 [(0, .ref (E.2.1 + o0)), (1, .int x1), (2, .int x2)] [] (S, d) 0 0
    unfold f_X9_laysPrizes_L2_b
    refine r_iload_n 2 2 rfl rfl 3 rfl dX9_laysPrizes_2 ?_
    refine r_aload_n 0 0 rfl rfl 4 rfl dX9_laysPrizes_3 ?_
    refine r_get (h0 0 (Nat.le_of_ble_eq_true rfl)) rfl (Nat.le_of_ble_eq_true rfl) rfl rfl w_X9_laysPrizes_1 6 (Nat.le_of_ble_eq_true rfl) rfl w_X9_laysPrizes_0 (.int (d o0 6)) rfl 7 rfl dX9_laysPrizes_4 ?_
    refine r_icmp_ge 87 10 rfl rfl dX9_laysPrizes_7 ?_ ?_
    · refine r_sub [0, 1] rfl ?_
      exact hK d
    · refine r_aload_n 0 0 rfl rfl 11 rfl dX9_laysPrizes_10 ?_
      refine r_get (h0 0 (Nat.le_of_ble_eq_true rfl)) rfl (Nat.le_of_ble_eq_true rfl) rfl rfl w_X9_laysPrizes_1 1 (Nat.le_of_ble_eq_true rfl) rfl w_X9_laysPrizes_2 (.ref (E.2.1 + (o0 + 1))) rfl 14 rfl dX9_laysPrizes_11 ?_
      refine r_iload_n 1 1 rfl rfl 15 rfl dX9_laysPrizes_14 ?_
      refine r_iconst 0 rfl 16 rfl dX9_laysPrizes_15 ?_
      refine r_callS_I (c_X9_at (E := E) (l := l) (S := S) d x1 0) ok_X9_at ⟨⟨(Nat.le_of_ble_eq_true rfl), (Nat.le_of_ble_eq_true rfl)⟩, (Nat.le_of_ble_eq_true rfl), (Nat.le_of_ble_eq_true rfl)⟩ rfl (Nat.le_of_ble_eq_true rfl) gX9_laysPrizes_X9_at rfl rfl 19 rfl dX9_laysPrizes_16 (fun v1 => ?_)
      refine r_iald (h0 1 (Nat.le_of_ble_eq_true rfl)) rfl rfl 20 rfl dX9_laysPrizes_19 (fun v2 => ?_)
      refine r_iconst 3 rfl 21 rfl dX9_laysPrizes_20 ?_
      refine r_let 62 (f := fun x_62 : z_D => [(0, .ref (E.2.1 + o0)), (1, .int x1), (2, .int x2)]) (g := fun x_62 : z_D => []) (ww := fun x_62 : z_D => (S, x_62)) (fun x_62 => ?_) (fun J62 hJ62 => ?_)
      · refine r_aload_n 0 0 rfl rfl 63 rfl dX9_laysPrizes_62 ?_
        refine r_iload_n 1 1 rfl rfl 64 rfl dX9_laysPrizes_63 ?_
        refine r_aload_n 0 0 rfl rfl 65 rfl dX9_laysPrizes_64 ?_
        refine r_get (h0 0 (Nat.le_of_ble_eq_true rfl)) rfl (Nat.le_of_ble_eq_true rfl) rfl rfl w_X9_laysPrizes_1 5 (Nat.le_of_ble_eq_true rfl) rfl w_X9_laysPrizes_3 (.ref (E.2.1 + (o0 + 5))) rfl 68 rfl dX9_laysPrizes_65 ?_
        refine r_iload_n 2 2 rfl rfl 69 rfl dX9_laysPrizes_68 ?_
        refine r_iald (h0 5 (Nat.le_of_ble_eq_true rfl)) rfl rfl 70 rfl dX9_laysPrizes_69 (fun v3 => ?_)
        refine r_bipush 10 rfl 72 rfl dX9_laysPrizes_70 ?_
        refine r_aload_n 0 0 rfl rfl 73 rfl dX9_laysPrizes_72 ?_
        refine r_iload_n 1 1 rfl rfl 74 rfl dX9_laysPrizes_73 ?_
        refine r_iload_n 2 2 rfl rfl 75 rfl dX9_laysPrizes_74 ?_
        refine r_callV_I (c_X9_pointsFor (E := E) (l := l) (S := S) x_62 o0 h0 x1 x2) ok_X9_pointsFor ⟨⟨(Nat.le_of_ble_eq_true rfl), (Nat.le_of_ble_eq_true rfl)⟩, (Nat.le_of_ble_eq_true rfl), (Nat.le_of_ble_eq_true rfl)⟩ (h0 0 (Nat.le_of_ble_eq_true rfl)) (Nat.le_of_ble_eq_true rfl) rfl rfl rfl (Nat.le_of_ble_eq_true rfl) gX9_laysPrizes_X9_pointsFor rfl rfl 78 rfl dX9_laysPrizes_75 (fun v4 => ?_)
        refine r_callV_V (c_X9_adds (E := E) (l := l) (S := S) x_62 o0 h0 x1 v3 10 v4) ok_X9_adds ⟨⟨(Nat.le_of_ble_eq_true rfl), (Nat.le_of_ble_eq_true rfl)⟩, (Nat.le_of_ble_eq_true rfl), (Nat.le_of_ble_eq_true rfl)⟩ (h0 0 (Nat.le_of_ble_eq_true rfl)) (Nat.le_of_ble_eq_true rfl) rfl rfl rfl (Nat.le_of_ble_eq_true rfl) gX9_laysPrizes_X9_adds rfl rfl 81 rfl dX9_laysPrizes_78 (fun d5 => ?_)
        refine r_iinc (x2 + 1) 2 rfl rfl [(2, .int (x2 + 1)), (0, .ref (E.2.1 + o0)), (1, .int x1)] (Nat.le_of_ble_eq_true rfl) rfl 84 rfl dX9_laysPrizes_81 ?_
        refine r_goto 2 rfl dX9_laysPrizes_84 ?_
        refine r_sub [1, 2, 0] rfl ?_
        exact ih (x2 + 1) d5
      refine r_icmp_eq 62 24 rfl rfl dX9_laysPrizes_21 ?_ ?_
      · refine r_sub [0, 1, 2] rfl ?_
        exact hJ62 d
      · refine r_iload_n 2 2 rfl rfl 25 rfl dX9_laysPrizes_24 ?_
        refine r_iconst 3 rfl 26 rfl dX9_laysPrizes_25 ?_
        refine r_icmp_ge 62 29 rfl rfl dX9_laysPrizes_26 ?_ ?_
        · refine r_sub [0, 1, 2] rfl ?_
          exact hJ62 d
        · refine r_aload_n 0 0 rfl rfl 30 rfl dX9_laysPrizes_29 ?_
          refine r_iload_n 1 1 rfl rfl 31 rfl dX9_laysPrizes_30 ?_
          refine r_aload_n 0 0 rfl rfl 32 rfl dX9_laysPrizes_31 ?_
          refine r_get (h0 0 (Nat.le_of_ble_eq_true rfl)) rfl (Nat.le_of_ble_eq_true rfl) rfl rfl w_X9_laysPrizes_1 5 (Nat.le_of_ble_eq_true rfl) rfl w_X9_laysPrizes_3 (.ref (E.2.1 + (o0 + 5))) rfl 35 rfl dX9_laysPrizes_32 ?_
          refine r_iload_n 2 2 rfl rfl 36 rfl dX9_laysPrizes_35 ?_
          refine r_iald (h0 5 (Nat.le_of_ble_eq_true rfl)) rfl rfl 37 rfl dX9_laysPrizes_36 (fun v6 => ?_)
          refine r_bipush 9 rfl 39 rfl dX9_laysPrizes_37 ?_
          refine r_iload_n 2 2 rfl rfl 40 rfl dX9_laysPrizes_39 ?_
          refine r_let 59 (f := fun x_59 : Int32 => [(0, .ref (E.2.1 + o0)), (1, .int x1), (2, .int x2)]) (g := fun x_59 : Int32 => [.int x_59, .int 9, .int v6, .int x1, .ref (E.2.1 + o0)]) (ww := fun x_59 : Int32 => (S, d)) (fun x_59 => ?_) (fun J59 hJ59 => ?_)
          · refine r_callV_V (c_X9_adds (E := E) (l := l) (S := S) d o0 h0 x1 v6 9 x_59) ok_X9_adds ⟨⟨(Nat.le_of_ble_eq_true rfl), (Nat.le_of_ble_eq_true rfl)⟩, (Nat.le_of_ble_eq_true rfl), (Nat.le_of_ble_eq_true rfl)⟩ (h0 0 (Nat.le_of_ble_eq_true rfl)) (Nat.le_of_ble_eq_true rfl) rfl rfl rfl (Nat.le_of_ble_eq_true rfl) gX9_laysPrizes_X9_adds rfl rfl 62 rfl dX9_laysPrizes_59 (fun d7 => ?_)
            refine r_sub [0, 1, 2] rfl ?_
            exact hJ62 d7
          refine r_if_ne 48 43 rfl rfl dX9_laysPrizes_40 ?_ ?_
          · refine r_iload_n 2 2 rfl rfl 49 rfl dX9_laysPrizes_48 ?_
            refine r_iconst 1 rfl 50 rfl dX9_laysPrizes_49 ?_
            refine r_icmp_ne 58 53 rfl rfl dX9_laysPrizes_50 ?_ ?_
            · refine r_iconst 4 rfl 59 rfl dX9_laysPrizes_58 ?_
              refine r_sub [0, 1, 2] rfl ?_
              exact hJ59 4
            · refine r_bipush 6 rfl 55 rfl dX9_laysPrizes_53 ?_
              refine r_goto 59 rfl dX9_laysPrizes_55 ?_
              refine r_sub [0, 1, 2] rfl ?_
              exact hJ59 6
          · refine r_bipush 10 rfl 45 rfl dX9_laysPrizes_43 ?_
            refine r_goto 59 rfl dX9_laysPrizes_45 ?_
            refine r_sub [0, 1, 2] rfl ?_
            exact hJ59 10
def f_X9_laysPrizes_L121_b (o0 : Nat) (x1 : Int32) (x2 : Int32) (x3 : Int32) (K : z_D → Option z_D) (R : Int32 → Int32 → z_D → Option z_D) (x4 : Int32) (x5 : Int32) (d : z_D) : Option z_D := ((f_X9_mark x1 x2 2).bind fun v13 => z_ald d (o0 + 1) 2656 v13 (fun v14 => (if v14 ≤ x5 then (K d) else ((f_X9_mark x1 x2 (3 + x5)).bind fun v15 => z_ald d (o0 + 1) 2656 v15 (fun v16 => ((f_X9_hasFinish d o0 x1 v16).bind fun v17 => (if v17 = 0 then (R x4 (x5 + 1) d) else (if x3 = 0 then z_let (fun x_190 : Int32 => ((f_X9_adds d o0 x1 v16 9 x_190).bind fun d20 => (if 4 ≤ x4 then ((f_X9_adds d20 o0 x1 v16 10 0).bind fun d21 => (R (x4 + 1) (x5 + 1) d21)) else z_tab [10, 7, 4, 2] x4 (fun v22 => ((f_X9_adds d20 o0 x1 v16 10 v22).bind fun d23 => (R (x4 + 1) (x5 + 1) d23)))))) (fun J190 => (if 3 ≤ x4 then (J190 0) else (J190 (3 - x4)))) else ((f_X9_dotsFor d x3 x4).bind fun v18 => ((f_X9_adds d o0 x1 v16 11 v18).bind fun d19 => (R (x4 + 1) (x5 + 1) d19)))))))))))
def f_X9_laysPrizes_L121 (o0 : Nat) (x1 : Int32) (x2 : Int32) (x3 : Int32) (K : z_D → Option z_D) : Nat → Int32 → Int32 → z_D → Option z_D
  | 0 => fun _ _ _ => none
  | n + 1 => f_X9_laysPrizes_L121_b o0 x1 x2 x3 K (f_X9_laysPrizes_L121 o0 x1 x2 x3 K n)
set_option maxHeartbeats 4000000 in
set_option maxRecDepth 100000 in
theorem g_X9_laysPrizes_L121 {E : z_E} {l : Launch} {S : z_S} {o0 : Nat} {x1 : Int32} {x2 : Int32} {x3 : Int32} {K : z_D → Option z_D} (h0 : A_Model S o0) (hK : ∀ (d9 : z_D), z_G E l Y_X9_laysPrizes (cvV S) (K d9) 245 [(0, .ref (E.2.1 + o0)), (1, .int x1), (2, .int x2)] [] (S, d9) 0 0) : ∀ (n : Nat) (x4 : Int32) (x5 : Int32) (d : z_D), z_G E l Y_X9_laysPrizes (cvV S) (f_X9_laysPrizes_L121 o0 x1 x2 x3 K n x4 x5 d) 121 [(0, .ref (E.2.1 + o0)), (1, .int x1), (2, .int x2), (3, .int x3), (4, .int x4), (5, .int x5)] [] (S, d) 0 0 := by
  intro n
  induction n with
  | zero => intro _ _ _; exact r_none
  | succ n ih =>
    intro x4 x5 d
    show z_G E l Y_X9_laysPrizes (cvV S) (f_X9_laysPrizes_L121_b o0 x1 x2 x3 K (f_X9_laysPrizes_L121 o0 x1 x2 x3 K n) x4 x5 d) 121 [(0, .ref (E.2.1 + o0)), (1, .int x1), (2, .int x2), (3, .int x3), (4, .int x4), (5, .int x5)] [] (S, d) 0 0
    unfold f_X9_laysPrizes_L121_b
    refine r_iload 5 5 rfl 123 rfl dX9_laysPrizes_121 ?_
    refine r_aload_n 0 0 rfl rfl 124 rfl dX9_laysPrizes_123 ?_
    refine r_get (h0 0 (Nat.le_of_ble_eq_true rfl)) rfl (Nat.le_of_ble_eq_true rfl) rfl rfl w_X9_laysPrizes_1 1 (Nat.le_of_ble_eq_true rfl) rfl w_X9_laysPrizes_2 (.ref (E.2.1 + (o0 + 1))) rfl 127 rfl dX9_laysPrizes_124 ?_
    refine r_iload_n 1 1 rfl rfl 128 rfl dX9_laysPrizes_127 ?_
    refine r_iload_n 2 2 rfl rfl 129 rfl dX9_laysPrizes_128 ?_
    refine r_iconst 2 rfl 130 rfl dX9_laysPrizes_129 ?_
    refine r_callS_I (c_X9_mark (E := E) (l := l) (S := S) d x1 x2 2) ok_X9_mark ⟨⟨(Nat.le_of_ble_eq_true rfl), (Nat.le_of_ble_eq_true rfl)⟩, (Nat.le_of_ble_eq_true rfl), (Nat.le_of_ble_eq_true rfl)⟩ rfl (Nat.le_of_ble_eq_true rfl) gX9_laysPrizes_X9_mark rfl rfl 133 rfl dX9_laysPrizes_130 (fun v13 => ?_)
    refine r_iald (h0 1 (Nat.le_of_ble_eq_true rfl)) rfl rfl 134 rfl dX9_laysPrizes_133 (fun v14 => ?_)
    refine r_icmp_ge 245 137 rfl rfl dX9_laysPrizes_134 ?_ ?_
    · refine r_sub [0, 1, 2] rfl ?_
      exact hK d
    · refine r_aload_n 0 0 rfl rfl 138 rfl dX9_laysPrizes_137 ?_
      refine r_get (h0 0 (Nat.le_of_ble_eq_true rfl)) rfl (Nat.le_of_ble_eq_true rfl) rfl rfl w_X9_laysPrizes_1 1 (Nat.le_of_ble_eq_true rfl) rfl w_X9_laysPrizes_2 (.ref (E.2.1 + (o0 + 1))) rfl 141 rfl dX9_laysPrizes_138 ?_
      refine r_iload_n 1 1 rfl rfl 142 rfl dX9_laysPrizes_141 ?_
      refine r_iload_n 2 2 rfl rfl 143 rfl dX9_laysPrizes_142 ?_
      refine r_iconst 3 rfl 144 rfl dX9_laysPrizes_143 ?_
      refine r_iload 5 5 rfl 146 rfl dX9_laysPrizes_144 ?_
      refine r_iadd 147 rfl dX9_laysPrizes_146 ?_
      refine r_callS_I (c_X9_mark (E := E) (l := l) (S := S) d x1 x2 (3 + x5)) ok_X9_mark ⟨⟨(Nat.le_of_ble_eq_true rfl), (Nat.le_of_ble_eq_true rfl)⟩, (Nat.le_of_ble_eq_true rfl), (Nat.le_of_ble_eq_true rfl)⟩ rfl (Nat.le_of_ble_eq_true rfl) gX9_laysPrizes_X9_mark rfl rfl 150 rfl dX9_laysPrizes_147 (fun v15 => ?_)
      refine r_iald (h0 1 (Nat.le_of_ble_eq_true rfl)) rfl rfl 151 rfl dX9_laysPrizes_150 (fun v16 => ?_)
      refine r_istore 6 [(6, .int v16), (0, .ref (E.2.1 + o0)), (1, .int x1), (2, .int x2), (3, .int x3), (4, .int x4), (5, .int x5)] (Nat.le_of_ble_eq_true rfl) rfl 153 rfl dX9_laysPrizes_151 ?_
      refine r_aload_n 0 1 rfl rfl 154 rfl dX9_laysPrizes_153 ?_
      refine r_iload_n 1 2 rfl rfl 155 rfl dX9_laysPrizes_154 ?_
      refine r_iload 6 0 rfl 157 rfl dX9_laysPrizes_155 ?_
      refine r_callV_I (c_X9_hasFinish (E := E) (l := l) (S := S) d o0 h0 x1 v16) ok_X9_hasFinish ⟨⟨(Nat.le_of_ble_eq_true rfl), (Nat.le_of_ble_eq_true rfl)⟩, (Nat.le_of_ble_eq_true rfl), (Nat.le_of_ble_eq_true rfl)⟩ (h0 0 (Nat.le_of_ble_eq_true rfl)) (Nat.le_of_ble_eq_true rfl) rfl rfl rfl (Nat.le_of_ble_eq_true rfl) gX9_laysPrizes_X9_hasFinish rfl rfl 160 rfl dX9_laysPrizes_157 (fun v17 => ?_)
      refine r_if_ne 166 163 rfl rfl dX9_laysPrizes_160 ?_ ?_
      · refine r_iload_n 3 4 rfl rfl 167 rfl dX9_laysPrizes_166 ?_
        refine r_if_ne 221 170 rfl rfl dX9_laysPrizes_167 ?_ ?_
        · refine r_aload_n 0 1 rfl rfl 222 rfl dX9_laysPrizes_221 ?_
          refine r_iload_n 1 2 rfl rfl 223 rfl dX9_laysPrizes_222 ?_
          refine r_iload 6 0 rfl 225 rfl dX9_laysPrizes_223 ?_
          refine r_bipush 11 rfl 227 rfl dX9_laysPrizes_225 ?_
          refine r_iload_n 3 4 rfl rfl 228 rfl dX9_laysPrizes_227 ?_
          refine r_iload 4 5 rfl 230 rfl dX9_laysPrizes_228 ?_
          refine r_callS_I (c_X9_dotsFor (E := E) (l := l) (S := S) d x3 x4) ok_X9_dotsFor ⟨⟨(Nat.le_of_ble_eq_true rfl), (Nat.le_of_ble_eq_true rfl)⟩, (Nat.le_of_ble_eq_true rfl), (Nat.le_of_ble_eq_true rfl)⟩ rfl (Nat.le_of_ble_eq_true rfl) gX9_laysPrizes_X9_dotsFor rfl rfl 233 rfl dX9_laysPrizes_230 (fun v18 => ?_)
          refine r_callV_V (c_X9_adds (E := E) (l := l) (S := S) d o0 h0 x1 v16 11 v18) ok_X9_adds ⟨⟨(Nat.le_of_ble_eq_true rfl), (Nat.le_of_ble_eq_true rfl)⟩, (Nat.le_of_ble_eq_true rfl), (Nat.le_of_ble_eq_true rfl)⟩ (h0 0 (Nat.le_of_ble_eq_true rfl)) (Nat.le_of_ble_eq_true rfl) rfl rfl rfl (Nat.le_of_ble_eq_true rfl) gX9_laysPrizes_X9_adds rfl rfl 236 rfl dX9_laysPrizes_233 (fun d19 => ?_)
          refine r_iinc (x4 + 1) 5 rfl rfl [(4, .int (x4 + 1)), (6, .int v16), (0, .ref (E.2.1 + o0)), (1, .int x1), (2, .int x2), (3, .int x3), (5, .int x5)] (Nat.le_of_ble_eq_true rfl) rfl 239 rfl dX9_laysPrizes_236 ?_
          refine r_iinc (x5 + 1) 6 rfl rfl [(5, .int (x5 + 1)), (4, .int (x4 + 1)), (6, .int v16), (0, .ref (E.2.1 + o0)), (1, .int x1), (2, .int x2), (3, .int x3)] (Nat.le_of_ble_eq_true rfl) rfl 242 rfl dX9_laysPrizes_239 ?_
          refine r_goto 121 rfl dX9_laysPrizes_242 ?_
          refine r_sub [3, 4, 5, 6, 1, 0] rfl ?_
          exact ih (x4 + 1) (x5 + 1) d19
        · refine r_aload_n 0 1 rfl rfl 171 rfl dX9_laysPrizes_170 ?_
          refine r_iload_n 1 2 rfl rfl 172 rfl dX9_laysPrizes_171 ?_
          refine r_iload 6 0 rfl 174 rfl dX9_laysPrizes_172 ?_
          refine r_bipush 9 rfl 176 rfl dX9_laysPrizes_174 ?_
          refine r_iload 4 5 rfl 178 rfl dX9_laysPrizes_176 ?_
          refine r_iconst 3 rfl 179 rfl dX9_laysPrizes_178 ?_
          refine r_let 190 (f := fun x_190 : Int32 => [(0, .ref (E.2.1 + o0)), (1, .int x1), (2, .int x2), (3, .int x3), (4, .int x4), (5, .int x5), (6, .int v16)]) (g := fun x_190 : Int32 => [.int x_190, .int 9, .int v16, .int x1, .ref (E.2.1 + o0)]) (ww := fun x_190 : Int32 => (S, d)) (fun x_190 => ?_) (fun J190 hJ190 => ?_)
          · refine r_callV_V (c_X9_adds (E := E) (l := l) (S := S) d o0 h0 x1 v16 9 x_190) ok_X9_adds ⟨⟨(Nat.le_of_ble_eq_true rfl), (Nat.le_of_ble_eq_true rfl)⟩, (Nat.le_of_ble_eq_true rfl), (Nat.le_of_ble_eq_true rfl)⟩ (h0 0 (Nat.le_of_ble_eq_true rfl)) (Nat.le_of_ble_eq_true rfl) rfl rfl rfl (Nat.le_of_ble_eq_true rfl) gX9_laysPrizes_X9_adds rfl rfl 193 rfl dX9_laysPrizes_190 (fun d20 => ?_)
            refine r_aload_n 0 0 rfl rfl 194 rfl dX9_laysPrizes_193 ?_
            refine r_iload_n 1 1 rfl rfl 195 rfl dX9_laysPrizes_194 ?_
            refine r_iload 6 6 rfl 197 rfl dX9_laysPrizes_195 ?_
            refine r_bipush 10 rfl 199 rfl dX9_laysPrizes_197 ?_
            refine r_iload 4 4 rfl 201 rfl dX9_laysPrizes_199 ?_
            refine r_iconst 4 rfl 202 rfl dX9_laysPrizes_201 ?_
            refine r_icmp_ge 214 205 rfl rfl dX9_laysPrizes_202 ?_ ?_
            · refine r_iconst 0 rfl 215 rfl dX9_laysPrizes_214 ?_
              refine r_callV_V (c_X9_adds (E := E) (l := l) (S := S) d20 o0 h0 x1 v16 10 0) ok_X9_adds ⟨⟨(Nat.le_of_ble_eq_true rfl), (Nat.le_of_ble_eq_true rfl)⟩, (Nat.le_of_ble_eq_true rfl), (Nat.le_of_ble_eq_true rfl)⟩ (h0 0 (Nat.le_of_ble_eq_true rfl)) (Nat.le_of_ble_eq_true rfl) rfl rfl rfl (Nat.le_of_ble_eq_true rfl) gX9_laysPrizes_X9_adds rfl rfl 218 rfl dX9_laysPrizes_215 (fun d21 => ?_)
              refine r_goto 236 rfl dX9_laysPrizes_218 ?_
              refine r_iinc (x4 + 1) 4 rfl rfl [(4, .int (x4 + 1)), (0, .ref (E.2.1 + o0)), (1, .int x1), (2, .int x2), (3, .int x3), (5, .int x5), (6, .int v16)] (Nat.le_of_ble_eq_true rfl) rfl 239 rfl dX9_laysPrizes_236 ?_
              refine r_iinc (x5 + 1) 5 rfl rfl [(5, .int (x5 + 1)), (4, .int (x4 + 1)), (0, .ref (E.2.1 + o0)), (1, .int x1), (2, .int x2), (3, .int x3), (6, .int v16)] (Nat.le_of_ble_eq_true rfl) rfl 242 rfl dX9_laysPrizes_239 ?_
              refine r_goto 121 rfl dX9_laysPrizes_242 ?_
              refine r_sub [2, 3, 4, 5, 1, 0] rfl ?_
              exact ih (x4 + 1) (x5 + 1) d21
            · refine r_gets 9 rfl w_X9_laysPrizes_4 208 rfl dX9_laysPrizes_205 ?_
              refine r_iload 4 4 rfl 210 rfl dX9_laysPrizes_208 ?_
              refine r_tald 9 rfl rfl 211 rfl dX9_laysPrizes_210 (fun v22 => ?_)
              refine r_goto 215 rfl dX9_laysPrizes_211 ?_
              refine r_callV_V (c_X9_adds (E := E) (l := l) (S := S) d20 o0 h0 x1 v16 10 v22) ok_X9_adds ⟨⟨(Nat.le_of_ble_eq_true rfl), (Nat.le_of_ble_eq_true rfl)⟩, (Nat.le_of_ble_eq_true rfl), (Nat.le_of_ble_eq_true rfl)⟩ (h0 0 (Nat.le_of_ble_eq_true rfl)) (Nat.le_of_ble_eq_true rfl) rfl rfl rfl (Nat.le_of_ble_eq_true rfl) gX9_laysPrizes_X9_adds rfl rfl 218 rfl dX9_laysPrizes_215 (fun d23 => ?_)
              refine r_goto 236 rfl dX9_laysPrizes_218 ?_
              refine r_iinc (x4 + 1) 4 rfl rfl [(4, .int (x4 + 1)), (0, .ref (E.2.1 + o0)), (1, .int x1), (2, .int x2), (3, .int x3), (5, .int x5), (6, .int v16)] (Nat.le_of_ble_eq_true rfl) rfl 239 rfl dX9_laysPrizes_236 ?_
              refine r_iinc (x5 + 1) 5 rfl rfl [(5, .int (x5 + 1)), (4, .int (x4 + 1)), (0, .ref (E.2.1 + o0)), (1, .int x1), (2, .int x2), (3, .int x3), (6, .int v16)] (Nat.le_of_ble_eq_true rfl) rfl 242 rfl dX9_laysPrizes_239 ?_
              refine r_goto 121 rfl dX9_laysPrizes_242 ?_
              refine r_sub [2, 3, 4, 5, 1, 0] rfl ?_
              exact ih (x4 + 1) (x5 + 1) d23
          refine r_icmp_ge 189 182 rfl rfl dX9_laysPrizes_179 ?_ ?_
          · refine r_iconst 0 rfl 190 rfl dX9_laysPrizes_189 ?_
            refine r_sub [1, 2, 3, 4, 5, 6, 0] rfl ?_
            exact hJ190 0
          · refine r_iconst 3 rfl 183 rfl dX9_laysPrizes_182 ?_
            refine r_iload 4 5 rfl 185 rfl dX9_laysPrizes_183 ?_
            refine r_isub 186 rfl dX9_laysPrizes_185 ?_
            refine r_goto 190 rfl dX9_laysPrizes_186 ?_
            refine r_sub [1, 2, 3, 4, 5, 6, 0] rfl ?_
            exact hJ190 (3 - x4)
      · refine r_goto 239 rfl dX9_laysPrizes_163 ?_
        refine r_iinc (x5 + 1) 6 rfl rfl [(5, .int (x5 + 1)), (6, .int v16), (0, .ref (E.2.1 + o0)), (1, .int x1), (2, .int x2), (3, .int x3), (4, .int x4)] (Nat.le_of_ble_eq_true rfl) rfl 242 rfl dX9_laysPrizes_239 ?_
        refine r_goto 121 rfl dX9_laysPrizes_242 ?_
        refine r_sub [2, 3, 4, 5, 6, 0] rfl ?_
        exact ih x4 (x5 + 1) d
def f_X9_laysPrizes_L89_b (o0 : Nat) (x1 : Int32) (K : z_D → Option z_D) (R : Int32 → z_D → Option z_D) (x2 : Int32) (d : z_D) : Option z_D := ((f_X9_at x1 2).bind fun v9 => z_ald d (o0 + 1) 2656 v9 (fun v10 => (if v10 ≤ x2 then (K d) else ((f_X9_mark x1 x2 1).bind fun v11 => z_ald d (o0 + 1) 2656 v11 (fun v12 => (f_X9_laysPrizes_L121 o0 x1 x2 v12 (fun d24 => (R (x2 + 1) d24)) z_N 0 0 d))))))
def f_X9_laysPrizes_L89 (o0 : Nat) (x1 : Int32) (K : z_D → Option z_D) : Nat → Int32 → z_D → Option z_D
  | 0 => fun _ _ => none
  | n + 1 => f_X9_laysPrizes_L89_b o0 x1 K (f_X9_laysPrizes_L89 o0 x1 K n)
set_option maxHeartbeats 4000000 in
set_option maxRecDepth 100000 in
theorem g_X9_laysPrizes_L89 {E : z_E} {l : Launch} {S : z_S} {o0 : Nat} {x1 : Int32} {K : z_D → Option z_D} (h0 : A_Model S o0) (hK : ∀ (d9 : z_D), z_G E l Y_X9_laysPrizes (cvV S) (K d9) 251 [] [] (S, d9) 0 0) : ∀ (n : Nat) (x2 : Int32) (d : z_D), z_G E l Y_X9_laysPrizes (cvV S) (f_X9_laysPrizes_L89 o0 x1 K n x2 d) 89 [(0, .ref (E.2.1 + o0)), (1, .int x1), (2, .int x2)] [] (S, d) 0 0 := by
  intro n
  induction n with
  | zero => intro _ _; exact r_none
  | succ n ih =>
    intro x2 d
    show z_G E l Y_X9_laysPrizes (cvV S) (f_X9_laysPrizes_L89_b o0 x1 K (f_X9_laysPrizes_L89 o0 x1 K n) x2 d) 89 [(0, .ref (E.2.1 + o0)), (1, .int x1), (2, .int x2)] [] (S, d) 0 0
    unfold f_X9_laysPrizes_L89_b
    refine r_iload_n 2 2 rfl rfl 90 rfl dX9_laysPrizes_89 ?_
    refine r_aload_n 0 0 rfl rfl 91 rfl dX9_laysPrizes_90 ?_
    refine r_get (h0 0 (Nat.le_of_ble_eq_true rfl)) rfl (Nat.le_of_ble_eq_true rfl) rfl rfl w_X9_laysPrizes_1 1 (Nat.le_of_ble_eq_true rfl) rfl w_X9_laysPrizes_2 (.ref (E.2.1 + (o0 + 1))) rfl 94 rfl dX9_laysPrizes_91 ?_
    refine r_iload_n 1 1 rfl rfl 95 rfl dX9_laysPrizes_94 ?_
    refine r_iconst 2 rfl 96 rfl dX9_laysPrizes_95 ?_
    refine r_callS_I (c_X9_at (E := E) (l := l) (S := S) d x1 2) ok_X9_at ⟨⟨(Nat.le_of_ble_eq_true rfl), (Nat.le_of_ble_eq_true rfl)⟩, (Nat.le_of_ble_eq_true rfl), (Nat.le_of_ble_eq_true rfl)⟩ rfl (Nat.le_of_ble_eq_true rfl) gX9_laysPrizes_X9_at rfl rfl 99 rfl dX9_laysPrizes_96 (fun v9 => ?_)
    refine r_iald (h0 1 (Nat.le_of_ble_eq_true rfl)) rfl rfl 100 rfl dX9_laysPrizes_99 (fun v10 => ?_)
    refine r_icmp_ge 251 103 rfl rfl dX9_laysPrizes_100 ?_ ?_
    · refine r_sub [] rfl ?_
      exact hK d
    · refine r_aload_n 0 0 rfl rfl 104 rfl dX9_laysPrizes_103 ?_
      refine r_get (h0 0 (Nat.le_of_ble_eq_true rfl)) rfl (Nat.le_of_ble_eq_true rfl) rfl rfl w_X9_laysPrizes_1 1 (Nat.le_of_ble_eq_true rfl) rfl w_X9_laysPrizes_2 (.ref (E.2.1 + (o0 + 1))) rfl 107 rfl dX9_laysPrizes_104 ?_
      refine r_iload_n 1 1 rfl rfl 108 rfl dX9_laysPrizes_107 ?_
      refine r_iload_n 2 2 rfl rfl 109 rfl dX9_laysPrizes_108 ?_
      refine r_iconst 1 rfl 110 rfl dX9_laysPrizes_109 ?_
      refine r_callS_I (c_X9_mark (E := E) (l := l) (S := S) d x1 x2 1) ok_X9_mark ⟨⟨(Nat.le_of_ble_eq_true rfl), (Nat.le_of_ble_eq_true rfl)⟩, (Nat.le_of_ble_eq_true rfl), (Nat.le_of_ble_eq_true rfl)⟩ rfl (Nat.le_of_ble_eq_true rfl) gX9_laysPrizes_X9_mark rfl rfl 113 rfl dX9_laysPrizes_110 (fun v11 => ?_)
      refine r_iald (h0 1 (Nat.le_of_ble_eq_true rfl)) rfl rfl 114 rfl dX9_laysPrizes_113 (fun v12 => ?_)
      refine r_istore_n 3 rfl [(3, .int v12), (0, .ref (E.2.1 + o0)), (1, .int x1), (2, .int x2)] (Nat.le_of_ble_eq_true rfl) rfl 115 rfl dX9_laysPrizes_114 ?_
      refine r_iconst 0 rfl 116 rfl dX9_laysPrizes_115 ?_
      refine r_istore 4 [(4, .int 0), (3, .int v12), (0, .ref (E.2.1 + o0)), (1, .int x1), (2, .int x2)] (Nat.le_of_ble_eq_true rfl) rfl 118 rfl dX9_laysPrizes_116 ?_
      refine r_iconst 0 rfl 119 rfl dX9_laysPrizes_118 ?_
      refine r_istore 5 [(5, .int 0), (4, .int 0), (3, .int v12), (0, .ref (E.2.1 + o0)), (1, .int x1), (2, .int x2)] (Nat.le_of_ble_eq_true rfl) rfl 121 rfl dX9_laysPrizes_119 ?_
      refine r_sub [3, 4, 5, 2, 1, 0] rfl ?_
      refine g_X9_laysPrizes_L121 h0 (fun d24 => ?_) z_N 0 0 d
      refine r_iinc (x2 + 1) 2 rfl rfl [(2, .int (x2 + 1)), (0, .ref (E.2.1 + o0)), (1, .int x1)] (Nat.le_of_ble_eq_true rfl) rfl 248 rfl dX9_laysPrizes_245 ?_
      refine r_goto 89 rfl dX9_laysPrizes_248 ?_
      refine r_sub [1, 2, 0] rfl ?_
      exact ih (x2 + 1) d24
def f_X9_laysPrizes (d : z_D) (o0 : Nat) (x1 : Int32) : Option z_D := (f_X9_laysPrizes_L2 o0 x1 (fun d8 => (f_X9_laysPrizes_L89 o0 x1 (fun d25 => (some d25)) z_N 0 d8)) z_N 0 d)
set_option maxHeartbeats 4000000 in
set_option maxRecDepth 100000 in
theorem c_X9_laysPrizes {E : z_E} {l : Launch} {S : z_S} (d : z_D) (o0 : Nat) (h0 : A_Model S o0) (x1 : Int32) : z_Sp E l yX9_laysPrizes Y_X9_laysPrizes (cvV S) [.ref (E.2.1 + o0), .int x1] (S, d) (f_X9_laysPrizes d o0 x1) := by
  refine z_entry (lv := [(0, .ref (E.2.1 + o0)), (1, .int x1)]) (by decide) rfl rfl (Nat.le_of_ble_eq_true rfl) rfl ?_
  unfold f_X9_laysPrizes
  refine r_iconst 0 rfl 1 rfl dX9_laysPrizes_0 ?_
  refine r_istore_n 2 rfl [(2, .int 0), (0, .ref (E.2.1 + o0)), (1, .int x1)] (Nat.le_of_ble_eq_true rfl) rfl 2 rfl dX9_laysPrizes_1 ?_
  refine r_sub [1, 2, 0] rfl ?_
  refine g_X9_laysPrizes_L2 h0 (fun d8 => ?_) z_N 0 d
  refine r_iconst 0 rfl 88 rfl dX9_laysPrizes_87 ?_
  refine r_istore_n 2 rfl [(2, .int 0), (0, .ref (E.2.1 + o0)), (1, .int x1)] (Nat.le_of_ble_eq_true rfl) rfl 89 rfl dX9_laysPrizes_88 ?_
  refine r_sub [1, 2, 0] rfl ?_
  refine g_X9_laysPrizes_L89 h0 (fun d25 => ?_) z_N 0 d8
  exact r_return rfl rfl (Nat.le_of_ble_eq_true rfl) (Nat.le_of_ble_eq_true rfl) dX9_laysPrizes_251
def Y_X9_closes : z_Y := (RX9, cX9_closes, 6, wsX9_closes, (some .int), { frames := 5, cells := 0, slots := 0, locals := 116 }, 0, 0)
theorem ok_X9_closes : z_Ok yX9_closes Y_X9_closes 0 := ⟨⟨_, rfl⟩, rfl, rfl, rfl, by decide +kernel, by decide +kernel⟩
theorem w_X9_closes_0 : Cond.fieldLink RX9 7 "BunchTimesModel" "row" "[I" ∈ wsX9_closes := by decide +kernel
theorem w_X9_closes_1 : ∀ w ∈ u_ws RX9 TX9 18, w ∈ wsX9_closes := by decide +kernel
theorem w_X9_closes_2 : Cond.fieldLink RX9 114 "BunchTimesModel" "orderMany" "I" ∈ wsX9_closes := by decide +kernel
theorem w_X9_closes_3 : Cond.fieldLink RX9 23 "BunchTimesModel" "order" "[I" ∈ wsX9_closes := by decide +kernel
def f_X9_closes_L87_b (o0 : Nat) (x1 : Int32) (K : z_D → Option (Int32 × z_D)) (R : Int32 → z_D → Option (Int32 × z_D)) (x2 : Int32) (d : z_D) : Option (Int32 × z_D) := (if (d o0 6) ≤ x2 then (K d) else z_ald d (o0 + 5) 16 x2 (fun v15 => ((f_X9_at_ x1 v15 6).bind fun v16 => z_ald d (o0 + 5) 16 x2 (fun v17 => ((f_X9_timeOf d o0 x1 v17).bind fun v18 => z_ast d (o0 + 1) 2656 v16 v18 (fun d19 => (R (x2 + 1) d19)))))))
def f_X9_closes_L87 (o0 : Nat) (x1 : Int32) (K : z_D → Option (Int32 × z_D)) : Nat → Int32 → z_D → Option (Int32 × z_D)
  | 0 => fun _ _ => none
  | n + 1 => f_X9_closes_L87_b o0 x1 K (f_X9_closes_L87 o0 x1 K n)
set_option maxHeartbeats 4000000 in
set_option maxRecDepth 100000 in
theorem g_X9_closes_L87 {E : z_E} {l : Launch} {S : z_S} {o0 : Nat} {x1 : Int32} {K : z_D → Option (Int32 × z_D)} (h0 : A_Model S o0) (hK : ∀ (d9 : z_D), z_G E l Y_X9_closes (cvX S) (K d9) 129 [(0, .ref (E.2.1 + o0)), (1, .int x1)] [] (S, d9) 0 0) : ∀ (n : Nat) (x2 : Int32) (d : z_D), z_G E l Y_X9_closes (cvX S) (f_X9_closes_L87 o0 x1 K n x2 d) 87 [(0, .ref (E.2.1 + o0)), (1, .int x1), (2, .int x2)] [] (S, d) 0 0 := by
  intro n
  induction n with
  | zero => intro _ _; exact r_none
  | succ n ih =>
    intro x2 d
    show z_G E l Y_X9_closes (cvX S) (f_X9_closes_L87_b o0 x1 K (f_X9_closes_L87 o0 x1 K n) x2 d) 87 [(0, .ref (E.2.1 + o0)), (1, .int x1), (2, .int x2)] [] (S, d) 0 0
    unfold f_X9_closes_L87_b
    refine r_iload_n 2 2 rfl rfl 88 rfl dX9_closes_87 ?_
    refine r_aload_n 0 0 rfl rfl 89 rfl dX9_closes_88 ?_
    refine r_get (h0 0 (Nat.le_of_ble_eq_true rfl)) rfl (Nat.le_of_ble_eq_true rfl) rfl rfl w_X9_closes_1 6 (Nat.le_of_ble_eq_true rfl) rfl w_X9_closes_2 (.int (d o0 6)) rfl 92 rfl dX9_closes_89 ?_
    refine r_icmp_ge 129 95 rfl rfl dX9_closes_92 ?_ ?_
    · refine r_sub [0, 1] rfl ?_
      exact hK d
    · refine r_aload_n 0 0 rfl rfl 96 rfl dX9_closes_95 ?_
      refine r_get (h0 0 (Nat.le_of_ble_eq_true rfl)) rfl (Nat.le_of_ble_eq_true rfl) rfl rfl w_X9_closes_1 1 (Nat.le_of_ble_eq_true rfl) rfl w_X9_closes_0 (.ref (E.2.1 + (o0 + 1))) rfl 99 rfl dX9_closes_96 ?_
      refine r_iload_n 1 1 rfl rfl 100 rfl dX9_closes_99 ?_
      refine r_aload_n 0 0 rfl rfl 101 rfl dX9_closes_100 ?_
      refine r_get (h0 0 (Nat.le_of_ble_eq_true rfl)) rfl (Nat.le_of_ble_eq_true rfl) rfl rfl w_X9_closes_1 5 (Nat.le_of_ble_eq_true rfl) rfl w_X9_closes_3 (.ref (E.2.1 + (o0 + 5))) rfl 104 rfl dX9_closes_101 ?_
      refine r_iload_n 2 2 rfl rfl 105 rfl dX9_closes_104 ?_
      refine r_iald (h0 5 (Nat.le_of_ble_eq_true rfl)) rfl rfl 106 rfl dX9_closes_105 (fun v15 => ?_)
      refine r_bipush 6 rfl 108 rfl dX9_closes_106 ?_
      refine r_callS_I (c_X9_at_ (E := E) (l := l) (S := S) d x1 v15 6) ok_X9_at_ ⟨⟨(Nat.le_of_ble_eq_true rfl), (Nat.le_of_ble_eq_true rfl)⟩, (Nat.le_of_ble_eq_true rfl), (Nat.le_of_ble_eq_true rfl)⟩ rfl (Nat.le_of_ble_eq_true rfl) gX9_closes_X9_at_ rfl rfl 111 rfl dX9_closes_108 (fun v16 => ?_)
      refine r_aload_n 0 0 rfl rfl 112 rfl dX9_closes_111 ?_
      refine r_iload_n 1 1 rfl rfl 113 rfl dX9_closes_112 ?_
      refine r_aload_n 0 0 rfl rfl 114 rfl dX9_closes_113 ?_
      refine r_get (h0 0 (Nat.le_of_ble_eq_true rfl)) rfl (Nat.le_of_ble_eq_true rfl) rfl rfl w_X9_closes_1 5 (Nat.le_of_ble_eq_true rfl) rfl w_X9_closes_3 (.ref (E.2.1 + (o0 + 5))) rfl 117 rfl dX9_closes_114 ?_
      refine r_iload_n 2 2 rfl rfl 118 rfl dX9_closes_117 ?_
      refine r_iald (h0 5 (Nat.le_of_ble_eq_true rfl)) rfl rfl 119 rfl dX9_closes_118 (fun v17 => ?_)
      refine r_callV_I (c_X9_timeOf (E := E) (l := l) (S := S) d o0 h0 x1 v17) ok_X9_timeOf ⟨⟨(Nat.le_of_ble_eq_true rfl), (Nat.le_of_ble_eq_true rfl)⟩, (Nat.le_of_ble_eq_true rfl), (Nat.le_of_ble_eq_true rfl)⟩ (h0 0 (Nat.le_of_ble_eq_true rfl)) (Nat.le_of_ble_eq_true rfl) rfl rfl rfl (Nat.le_of_ble_eq_true rfl) gX9_closes_X9_timeOf rfl rfl 122 rfl dX9_closes_119 (fun v18 => ?_)
      refine r_iast (h0 1 (Nat.le_of_ble_eq_true rfl)) rfl rfl 123 rfl dX9_closes_122 (fun d19 => ?_)
      refine r_iinc (x2 + 1) 2 rfl rfl [(2, .int (x2 + 1)), (0, .ref (E.2.1 + o0)), (1, .int x1)] (Nat.le_of_ble_eq_true rfl) rfl 126 rfl dX9_closes_123 ?_
      refine r_goto 87 rfl dX9_closes_126 ?_
      refine r_sub [1, 2, 0] rfl ?_
      exact ih (x2 + 1) d19
def f_X9_closes_L143_b (d : z_D) (o0 : Nat) (x1 : Int32) (K : Int32 → Option (Int32 × z_D)) (R : Int32 → Int32 → Option (Int32 × z_D)) (x2 : Int32) (x3 : Int32) : Option (Int32 × z_D) := (if (d o0 6) ≤ x3 then (K x2) else z_ald d (o0 + 5) 16 x3 (fun v23 => ((f_X9_isLate d o0 x1 v23).bind fun v24 => (if v24 = 0 then z_nam (x2 + 0) (fun v25 => (R v25 (x3 + 1))) else z_nam (x2 + 1) (fun v26 => (R v26 (x3 + 1)))))))
def f_X9_closes_L143 (d : z_D) (o0 : Nat) (x1 : Int32) (K : Int32 → Option (Int32 × z_D)) : Nat → Int32 → Int32 → Option (Int32 × z_D)
  | 0 => fun _ _ => none
  | n + 1 => f_X9_closes_L143_b d o0 x1 K (f_X9_closes_L143 d o0 x1 K n)
set_option maxHeartbeats 4000000 in
set_option maxRecDepth 100000 in
theorem g_X9_closes_L143 {E : z_E} {l : Launch} {S : z_S} {d : z_D} {o0 : Nat} {x1 : Int32} {K : Int32 → Option (Int32 × z_D)} (h0 : A_Model S o0) (hK : ∀ (y2 : Int32), z_G E l Y_X9_closes (cvX S) (K y2) 179 [(0, .ref (E.2.1 + o0)), (1, .int x1), (2, .int y2)] [] (S, d) 0 0) : ∀ (n : Nat) (x2 : Int32) (x3 : Int32), z_G E l Y_X9_closes (cvX S) (f_X9_closes_L143 d o0 x1 K n x2 x3) 143 [(0, .ref (E.2.1 + o0)), (1, .int x1), (2, .int x2), (3, .int x3)] [] (S, d) 0 0 := by
  intro n
  induction n with
  | zero => intro _ _; exact r_none
  | succ n ih =>
    intro x2 x3
    show z_G E l Y_X9_closes (cvX S) (f_X9_closes_L143_b d o0 x1 K (f_X9_closes_L143 d o0 x1 K n) x2 x3) 143 [(0, .ref (E.2.1 + o0)), (1, .int x1), (2, .int x2), (3, .int x3)] [] (S, d) 0 0
    unfold f_X9_closes_L143_b
    refine r_iload_n 3 3 rfl rfl 144 rfl dX9_closes_143 ?_
    refine r_aload_n 0 0 rfl rfl 145 rfl dX9_closes_144 ?_
    refine r_get (h0 0 (Nat.le_of_ble_eq_true rfl)) rfl (Nat.le_of_ble_eq_true rfl) rfl rfl w_X9_closes_1 6 (Nat.le_of_ble_eq_true rfl) rfl w_X9_closes_2 (.int (d o0 6)) rfl 148 rfl dX9_closes_145 ?_
    refine r_icmp_ge 179 151 rfl rfl dX9_closes_148 ?_ ?_
    · refine r_sub [0, 1, 2] rfl ?_
      exact hK x2
    · refine r_iload_n 2 2 rfl rfl 152 rfl dX9_closes_151 ?_
      refine r_aload_n 0 0 rfl rfl 153 rfl dX9_closes_152 ?_
      refine r_iload_n 1 1 rfl rfl 154 rfl dX9_closes_153 ?_
      refine r_aload_n 0 0 rfl rfl 155 rfl dX9_closes_154 ?_
      refine r_get (h0 0 (Nat.le_of_ble_eq_true rfl)) rfl (Nat.le_of_ble_eq_true rfl) rfl rfl w_X9_closes_1 5 (Nat.le_of_ble_eq_true rfl) rfl w_X9_closes_3 (.ref (E.2.1 + (o0 + 5))) rfl 158 rfl dX9_closes_155 ?_
      refine r_iload_n 3 3 rfl rfl 159 rfl dX9_closes_158 ?_
      refine r_iald (h0 5 (Nat.le_of_ble_eq_true rfl)) rfl rfl 160 rfl dX9_closes_159 (fun v23 => ?_)
      refine r_callV_I (c_X9_isLate (E := E) (l := l) (S := S) d o0 h0 x1 v23) ok_X9_isLate ⟨⟨(Nat.le_of_ble_eq_true rfl), (Nat.le_of_ble_eq_true rfl)⟩, (Nat.le_of_ble_eq_true rfl), (Nat.le_of_ble_eq_true rfl)⟩ (h0 0 (Nat.le_of_ble_eq_true rfl)) (Nat.le_of_ble_eq_true rfl) rfl rfl rfl (Nat.le_of_ble_eq_true rfl) gX9_closes_X9_isLate rfl rfl 163 rfl dX9_closes_160 (fun v24 => ?_)
      refine r_if_eq 170 166 rfl rfl dX9_closes_163 ?_ ?_
      · refine r_iconst 0 rfl 171 rfl dX9_closes_170 ?_
        refine r_iadd 172 rfl dX9_closes_171 ?_
        refine r_nami (fun v25 => ?_)
        refine r_istore_n 2 rfl [(2, .int v25), (0, .ref (E.2.1 + o0)), (1, .int x1), (3, .int x3)] (Nat.le_of_ble_eq_true rfl) rfl 173 rfl dX9_closes_172 ?_
        refine r_iinc (x3 + 1) 3 rfl rfl [(3, .int (x3 + 1)), (2, .int v25), (0, .ref (E.2.1 + o0)), (1, .int x1)] (Nat.le_of_ble_eq_true rfl) rfl 176 rfl dX9_closes_173 ?_
        refine r_goto 143 rfl dX9_closes_176 ?_
        refine r_sub [2, 3, 1, 0] rfl ?_
        exact ih v25 (x3 + 1)
      · refine r_iconst 1 rfl 167 rfl dX9_closes_166 ?_
        refine r_goto 171 rfl dX9_closes_167 ?_
        refine r_iadd 172 rfl dX9_closes_171 ?_
        refine r_nami (fun v26 => ?_)
        refine r_istore_n 2 rfl [(2, .int v26), (0, .ref (E.2.1 + o0)), (1, .int x1), (3, .int x3)] (Nat.le_of_ble_eq_true rfl) rfl 173 rfl dX9_closes_172 ?_
        refine r_iinc (x3 + 1) 3 rfl rfl [(3, .int (x3 + 1)), (2, .int v26), (0, .ref (E.2.1 + o0)), (1, .int x1)] (Nat.le_of_ble_eq_true rfl) rfl 176 rfl dX9_closes_173 ?_
        refine r_goto 143 rfl dX9_closes_176 ?_
        refine r_sub [2, 3, 1, 0] rfl ?_
        exact ih v26 (x3 + 1)
def f_X9_closes_L222_b (o0 : Nat) (x1 : Int32) (K : Int32 → z_D → Option (Int32 × z_D)) (R : Int32 → Int32 → z_D → Option (Int32 × z_D)) (x3 : Int32) (x4 : Int32) (d : z_D) : Option (Int32 × z_D) := z_ald d (o0 + 1) 2656 1 (fun v32 => (if v32 ≤ x4 then (K x3 d) else ((f_X9_isThere d o0 x4).bind fun v33 => z_let (fun x_281 : Int32 => (if x_281 = 0 then (R x3 (x4 + 1) d) else z_ast d (o0 + 1) 2656 ((8 + (3 * x4)) + 2) 0 (fun d34 => (R (x3 + 1) (x4 + 1) d34)))) (fun J281 => z_let (fun x_280 : Unit => (J281 0)) (fun J280 => (if v33 = 0 then (J280 ()) else ((f_X9_hasFinish d o0 x1 x4).bind fun v35 => z_let (fun x_276 : Unit => (J281 1)) (fun J276 => (if v35 = 0 then (J276 ()) else ((f_X9_isLate d o0 x1 x4).bind fun v36 => (if v36 = 0 then (J280 ()) else ((f_X9_at x1 11).bind fun v37 => z_ald d (o0 + 1) 2656 v37 (fun v38 => (if v38 = 0 then (J276 ()) else (J280 ())))))))))))))))
def f_X9_closes_L222 (o0 : Nat) (x1 : Int32) (K : Int32 → z_D → Option (Int32 × z_D)) : Nat → Int32 → Int32 → z_D → Option (Int32 × z_D)
  | 0 => fun _ _ _ => none
  | n + 1 => f_X9_closes_L222_b o0 x1 K (f_X9_closes_L222 o0 x1 K n)
set_option maxHeartbeats 4000000 in
set_option maxRecDepth 100000 in
theorem g_X9_closes_L222 {E : z_E} {l : Launch} {S : z_S} {o0 : Nat} {x1 : Int32} {K : Int32 → z_D → Option (Int32 × z_D)} (h0 : A_Model S o0) (hK : ∀ (y3 : Int32) (d9 : z_D), z_G E l Y_X9_closes (cvX S) (K y3 d9) 315 [(3, .int y3)] [] (S, d9) 0 0) : ∀ (n : Nat) (x3 : Int32) (x4 : Int32) (d : z_D), z_G E l Y_X9_closes (cvX S) (f_X9_closes_L222 o0 x1 K n x3 x4 d) 222 [(0, .ref (E.2.1 + o0)), (1, .int x1), (3, .int x3), (4, .int x4)] [] (S, d) 0 0 := by
  intro n
  induction n with
  | zero => intro _ _ _; exact r_none
  | succ n ih =>
    intro x3 x4 d
    show z_G E l Y_X9_closes (cvX S) (f_X9_closes_L222_b o0 x1 K (f_X9_closes_L222 o0 x1 K n) x3 x4 d) 222 [(0, .ref (E.2.1 + o0)), (1, .int x1), (3, .int x3), (4, .int x4)] [] (S, d) 0 0
    unfold f_X9_closes_L222_b
    refine r_iload 4 3 rfl 224 rfl dX9_closes_222 ?_
    refine r_aload_n 0 0 rfl rfl 225 rfl dX9_closes_224 ?_
    refine r_get (h0 0 (Nat.le_of_ble_eq_true rfl)) rfl (Nat.le_of_ble_eq_true rfl) rfl rfl w_X9_closes_1 1 (Nat.le_of_ble_eq_true rfl) rfl w_X9_closes_0 (.ref (E.2.1 + (o0 + 1))) rfl 228 rfl dX9_closes_225 ?_
    refine r_iconst 1 rfl 229 rfl dX9_closes_228 ?_
    refine r_iald (h0 1 (Nat.le_of_ble_eq_true rfl)) rfl rfl 230 rfl dX9_closes_229 (fun v32 => ?_)
    refine r_icmp_ge 315 233 rfl rfl dX9_closes_230 ?_ ?_
    · refine r_sub [2] rfl ?_
      exact hK x3 d
    · refine r_aload_n 0 0 rfl rfl 234 rfl dX9_closes_233 ?_
      refine r_iload 4 3 rfl 236 rfl dX9_closes_234 ?_
      refine r_callV_I (c_X9_isThere (E := E) (l := l) (S := S) d o0 h0 x4) ok_X9_isThere ⟨⟨(Nat.le_of_ble_eq_true rfl), (Nat.le_of_ble_eq_true rfl)⟩, (Nat.le_of_ble_eq_true rfl), (Nat.le_of_ble_eq_true rfl)⟩ (h0 0 (Nat.le_of_ble_eq_true rfl)) (Nat.le_of_ble_eq_true rfl) rfl rfl rfl (Nat.le_of_ble_eq_true rfl) gX9_closes_X9_isThere rfl rfl 239 rfl dX9_closes_236 (fun v33 => ?_)
      refine r_let 281 (f := fun x_281 : Int32 => [(0, .ref (E.2.1 + o0)), (1, .int x1), (3, .int x3), (4, .int x4)]) (g := fun x_281 : Int32 => [.int x_281]) (ww := fun x_281 : Int32 => (S, d)) (fun x_281 => ?_) (fun J281 hJ281 => ?_)
      · refine r_istore 5 [(5, .int x_281), (0, .ref (E.2.1 + o0)), (1, .int x1), (3, .int x3), (4, .int x4)] (Nat.le_of_ble_eq_true rfl) rfl 283 rfl dX9_closes_281 ?_
        refine r_iload 5 0 rfl 285 rfl dX9_closes_283 ?_
        refine r_if_ne 291 288 rfl rfl dX9_closes_285 ?_ ?_
        · refine r_aload_n 0 1 rfl rfl 292 rfl dX9_closes_291 ?_
          refine r_get (h0 0 (Nat.le_of_ble_eq_true rfl)) rfl (Nat.le_of_ble_eq_true rfl) rfl rfl w_X9_closes_1 1 (Nat.le_of_ble_eq_true rfl) rfl w_X9_closes_0 (.ref (E.2.1 + (o0 + 1))) rfl 295 rfl dX9_closes_292 ?_
          refine r_bipush 8 rfl 297 rfl dX9_closes_295 ?_
          refine r_iconst 3 rfl 298 rfl dX9_closes_297 ?_
          refine r_iload 4 4 rfl 300 rfl dX9_closes_298 ?_
          refine r_imul 301 rfl dX9_closes_300 ?_
          refine r_iadd 302 rfl dX9_closes_301 ?_
          refine r_iconst 2 rfl 303 rfl dX9_closes_302 ?_
          refine r_iadd 304 rfl dX9_closes_303 ?_
          refine r_iconst 0 rfl 305 rfl dX9_closes_304 ?_
          refine r_iast (h0 1 (Nat.le_of_ble_eq_true rfl)) rfl rfl 306 rfl dX9_closes_305 (fun d34 => ?_)
          refine r_iinc (x3 + 1) 3 rfl rfl [(3, .int (x3 + 1)), (5, .int x_281), (0, .ref (E.2.1 + o0)), (1, .int x1), (4, .int x4)] (Nat.le_of_ble_eq_true rfl) rfl 309 rfl dX9_closes_306 ?_
          refine r_iinc (x4 + 1) 4 rfl rfl [(4, .int (x4 + 1)), (3, .int (x3 + 1)), (5, .int x_281), (0, .ref (E.2.1 + o0)), (1, .int x1)] (Nat.le_of_ble_eq_true rfl) rfl 312 rfl dX9_closes_309 ?_
          refine r_goto 222 rfl dX9_closes_312 ?_
          refine r_sub [3, 4, 1, 0] rfl ?_
          exact ih (x3 + 1) (x4 + 1) d34
        · refine r_goto 309 rfl dX9_closes_288 ?_
          refine r_iinc (x4 + 1) 4 rfl rfl [(4, .int (x4 + 1)), (5, .int x_281), (0, .ref (E.2.1 + o0)), (1, .int x1), (3, .int x3)] (Nat.le_of_ble_eq_true rfl) rfl 312 rfl dX9_closes_309 ?_
          refine r_goto 222 rfl dX9_closes_312 ?_
          refine r_sub [2, 3, 4, 0] rfl ?_
          exact ih x3 (x4 + 1) d
      refine r_let 280 (f := fun x_280 : Unit => [(0, .ref (E.2.1 + o0)), (1, .int x1), (3, .int x3), (4, .int x4)]) (g := fun x_280 : Unit => []) (ww := fun x_280 : Unit => (S, d)) (fun x_280 => ?_) (fun J280 hJ280 => ?_)
      · refine r_iconst 0 rfl 281 rfl dX9_closes_280 ?_
        refine r_sub [0, 1, 2, 3] rfl ?_
        exact hJ281 0
      refine r_if_eq 280 242 rfl rfl dX9_closes_239 ?_ ?_
      · refine r_sub [0, 1, 2, 3] rfl ?_
        exact hJ280 ()
      · refine r_aload_n 0 0 rfl rfl 243 rfl dX9_closes_242 ?_
        refine r_iload_n 1 1 rfl rfl 244 rfl dX9_closes_243 ?_
        refine r_iload 4 3 rfl 246 rfl dX9_closes_244 ?_
        refine r_callV_I (c_X9_hasFinish (E := E) (l := l) (S := S) d o0 h0 x1 x4) ok_X9_hasFinish ⟨⟨(Nat.le_of_ble_eq_true rfl), (Nat.le_of_ble_eq_true rfl)⟩, (Nat.le_of_ble_eq_true rfl), (Nat.le_of_ble_eq_true rfl)⟩ (h0 0 (Nat.le_of_ble_eq_true rfl)) (Nat.le_of_ble_eq_true rfl) rfl rfl rfl (Nat.le_of_ble_eq_true rfl) gX9_closes_X9_hasFinish rfl rfl 249 rfl dX9_closes_246 (fun v35 => ?_)
        refine r_let 276 (f := fun x_276 : Unit => [(0, .ref (E.2.1 + o0)), (1, .int x1), (3, .int x3), (4, .int x4)]) (g := fun x_276 : Unit => []) (ww := fun x_276 : Unit => (S, d)) (fun x_276 => ?_) (fun J276 hJ276 => ?_)
        · refine r_iconst 1 rfl 277 rfl dX9_closes_276 ?_
          refine r_goto 281 rfl dX9_closes_277 ?_
          refine r_sub [0, 1, 2, 3] rfl ?_
          exact hJ281 1
        refine r_if_eq 276 252 rfl rfl dX9_closes_249 ?_ ?_
        · refine r_sub [0, 1, 2, 3] rfl ?_
          exact hJ276 ()
        · refine r_aload_n 0 0 rfl rfl 253 rfl dX9_closes_252 ?_
          refine r_iload_n 1 1 rfl rfl 254 rfl dX9_closes_253 ?_
          refine r_iload 4 3 rfl 256 rfl dX9_closes_254 ?_
          refine r_callV_I (c_X9_isLate (E := E) (l := l) (S := S) d o0 h0 x1 x4) ok_X9_isLate ⟨⟨(Nat.le_of_ble_eq_true rfl), (Nat.le_of_ble_eq_true rfl)⟩, (Nat.le_of_ble_eq_true rfl), (Nat.le_of_ble_eq_true rfl)⟩ (h0 0 (Nat.le_of_ble_eq_true rfl)) (Nat.le_of_ble_eq_true rfl) rfl rfl rfl (Nat.le_of_ble_eq_true rfl) gX9_closes_X9_isLate rfl rfl 259 rfl dX9_closes_256 (fun v36 => ?_)
          refine r_if_eq 280 262 rfl rfl dX9_closes_259 ?_ ?_
          · refine r_sub [0, 1, 2, 3] rfl ?_
            exact hJ280 ()
          · refine r_aload_n 0 0 rfl rfl 263 rfl dX9_closes_262 ?_
            refine r_get (h0 0 (Nat.le_of_ble_eq_true rfl)) rfl (Nat.le_of_ble_eq_true rfl) rfl rfl w_X9_closes_1 1 (Nat.le_of_ble_eq_true rfl) rfl w_X9_closes_0 (.ref (E.2.1 + (o0 + 1))) rfl 266 rfl dX9_closes_263 ?_
            refine r_iload_n 1 1 rfl rfl 267 rfl dX9_closes_266 ?_
            refine r_bipush 11 rfl 269 rfl dX9_closes_267 ?_
            refine r_callS_I (c_X9_at (E := E) (l := l) (S := S) d x1 11) ok_X9_at ⟨⟨(Nat.le_of_ble_eq_true rfl), (Nat.le_of_ble_eq_true rfl)⟩, (Nat.le_of_ble_eq_true rfl), (Nat.le_of_ble_eq_true rfl)⟩ rfl (Nat.le_of_ble_eq_true rfl) gX9_closes_X9_at rfl rfl 272 rfl dX9_closes_269 (fun v37 => ?_)
            refine r_iald (h0 1 (Nat.le_of_ble_eq_true rfl)) rfl rfl 273 rfl dX9_closes_272 (fun v38 => ?_)
            refine r_if_ne 280 276 rfl rfl dX9_closes_273 ?_ ?_
            · refine r_sub [0, 1, 2, 3] rfl ?_
              exact hJ280 ()
            · refine r_sub [0, 1, 2, 3] rfl ?_
              exact hJ276 ()
def f_X9_closes (d : z_D) (o0 : Nat) : Option (Int32 × z_D) := ((f_X9_latest d o0).bind fun v1 => ((f_X9_isOpen d o0).bind fun v2 => (if v2 = 0 then (some ((-1), d)) else ((f_X9_finishes d o0 v1).bind fun v3 => (if v3 = 0 then (some ((-1), d)) else z_ast d (o0 + 1) 2656 3 0 (fun d4 => ((f_X9_at v1 3).bind fun v5 => z_ald d4 (o0 + 1) 2656 4 (fun v6 => z_ast d4 (o0 + 1) 2656 v5 v6 (fun d7 => ((f_X9_at v1 4).bind fun v8 => z_ald d7 (o0 + 1) 2656 5 (fun v9 => z_ast d7 (o0 + 1) 2656 v8 v9 (fun d10 => ((f_X9_laysOrder d10 o0 v1).bind fun d11 => ((f_X9_at v1 5).bind fun v12 => z_ast d11 (o0 + 1) 2656 v12 (d11 o0 6) (fun d13 => ((f_X9_laysRaw d13 o0 v1).bind fun d14 => (f_X9_closes_L87 o0 v1 (fun d20 => ((f_X9_laysLimit d20 o0 v1).bind fun d21 => ((f_X9_laysPrizes d21 o0 v1).bind fun d22 => (f_X9_closes_L143 d22 o0 v1 (fun v27 => ((f_X9_at v1 10).bind fun v28 => z_ast d22 (o0 + 1) 2656 v28 v27 (fun d29 => ((f_X9_at v1 11).bind fun v30 => z_let (fun x_216 : Int32 => z_ast d29 (o0 + 1) 2656 v30 x_216 (fun d31 => (f_X9_closes_L222 o0 v1 (fun v40 d39 => (some (v40, d39))) z_N 0 0 d31))) (fun J216 => (if (5 * v27) ≤ (d29 o0 6) then (J216 0) else (J216 1))))))) z_N 0 0)))) z_N 0 d14)))))))))))))))))
set_option maxHeartbeats 4000000 in
set_option maxRecDepth 100000 in
theorem c_X9_closes {E : z_E} {l : Launch} {S : z_S} (d : z_D) (o0 : Nat) (h0 : A_Model S o0) : z_Sp E l yX9_closes Y_X9_closes (cvX S) [.ref (E.2.1 + o0)] (S, d) (f_X9_closes d o0) := by
  refine z_entry (lv := [(0, .ref (E.2.1 + o0))]) (by decide) rfl rfl (Nat.le_of_ble_eq_true rfl) rfl ?_
  unfold f_X9_closes
  refine r_aload_n 0 0 rfl rfl 1 rfl dX9_closes_0 ?_
  refine r_callV_I (c_X9_latest (E := E) (l := l) (S := S) d o0 h0) ok_X9_latest ⟨⟨(Nat.le_of_ble_eq_true rfl), (Nat.le_of_ble_eq_true rfl)⟩, (Nat.le_of_ble_eq_true rfl), (Nat.le_of_ble_eq_true rfl)⟩ (h0 0 (Nat.le_of_ble_eq_true rfl)) (Nat.le_of_ble_eq_true rfl) rfl rfl rfl (Nat.le_of_ble_eq_true rfl) gX9_closes_X9_latest rfl rfl 4 rfl dX9_closes_1 (fun v1 => ?_)
  refine r_istore_n 1 rfl [(1, .int v1), (0, .ref (E.2.1 + o0))] (Nat.le_of_ble_eq_true rfl) rfl 5 rfl dX9_closes_4 ?_
  refine r_aload_n 0 1 rfl rfl 6 rfl dX9_closes_5 ?_
  refine r_callV_I (c_X9_isOpen (E := E) (l := l) (S := S) d o0 h0) ok_X9_isOpen ⟨⟨(Nat.le_of_ble_eq_true rfl), (Nat.le_of_ble_eq_true rfl)⟩, (Nat.le_of_ble_eq_true rfl), (Nat.le_of_ble_eq_true rfl)⟩ (h0 0 (Nat.le_of_ble_eq_true rfl)) (Nat.le_of_ble_eq_true rfl) rfl rfl rfl (Nat.le_of_ble_eq_true rfl) gX9_closes_X9_isOpen rfl rfl 9 rfl dX9_closes_6 (fun v2 => ?_)
  refine r_if_eq 20 12 rfl rfl dX9_closes_9 ?_ ?_
  · refine r_iconst (-1) rfl 21 rfl dX9_closes_20 ?_
    exact r_ireturn rfl rfl (Nat.le_of_ble_eq_true rfl) (Nat.le_of_ble_eq_true rfl) dX9_closes_21
  · refine r_aload_n 0 1 rfl rfl 13 rfl dX9_closes_12 ?_
    refine r_iload_n 1 0 rfl rfl 14 rfl dX9_closes_13 ?_
    refine r_callV_I (c_X9_finishes (E := E) (l := l) (S := S) d o0 h0 v1) ok_X9_finishes ⟨⟨(Nat.le_of_ble_eq_true rfl), (Nat.le_of_ble_eq_true rfl)⟩, (Nat.le_of_ble_eq_true rfl), (Nat.le_of_ble_eq_true rfl)⟩ (h0 0 (Nat.le_of_ble_eq_true rfl)) (Nat.le_of_ble_eq_true rfl) rfl rfl rfl (Nat.le_of_ble_eq_true rfl) gX9_closes_X9_finishes rfl rfl 17 rfl dX9_closes_14 (fun v3 => ?_)
    refine r_if_ne 22 20 rfl rfl dX9_closes_17 ?_ ?_
    · refine r_aload_n 0 1 rfl rfl 23 rfl dX9_closes_22 ?_
      refine r_get (h0 0 (Nat.le_of_ble_eq_true rfl)) rfl (Nat.le_of_ble_eq_true rfl) rfl rfl w_X9_closes_1 1 (Nat.le_of_ble_eq_true rfl) rfl w_X9_closes_0 (.ref (E.2.1 + (o0 + 1))) rfl 26 rfl dX9_closes_23 ?_
      refine r_iconst 3 rfl 27 rfl dX9_closes_26 ?_
      refine r_iconst 0 rfl 28 rfl dX9_closes_27 ?_
      refine r_iast (h0 1 (Nat.le_of_ble_eq_true rfl)) rfl rfl 29 rfl dX9_closes_28 (fun d4 => ?_)
      refine r_aload_n 0 1 rfl rfl 30 rfl dX9_closes_29 ?_
      refine r_get (h0 0 (Nat.le_of_ble_eq_true rfl)) rfl (Nat.le_of_ble_eq_true rfl) rfl rfl w_X9_closes_1 1 (Nat.le_of_ble_eq_true rfl) rfl w_X9_closes_0 (.ref (E.2.1 + (o0 + 1))) rfl 33 rfl dX9_closes_30 ?_
      refine r_iload_n 1 0 rfl rfl 34 rfl dX9_closes_33 ?_
      refine r_iconst 3 rfl 35 rfl dX9_closes_34 ?_
      refine r_callS_I (c_X9_at (E := E) (l := l) (S := S) d4 v1 3) ok_X9_at ⟨⟨(Nat.le_of_ble_eq_true rfl), (Nat.le_of_ble_eq_true rfl)⟩, (Nat.le_of_ble_eq_true rfl), (Nat.le_of_ble_eq_true rfl)⟩ rfl (Nat.le_of_ble_eq_true rfl) gX9_closes_X9_at rfl rfl 38 rfl dX9_closes_35 (fun v5 => ?_)
      refine r_aload_n 0 1 rfl rfl 39 rfl dX9_closes_38 ?_
      refine r_get (h0 0 (Nat.le_of_ble_eq_true rfl)) rfl (Nat.le_of_ble_eq_true rfl) rfl rfl w_X9_closes_1 1 (Nat.le_of_ble_eq_true rfl) rfl w_X9_closes_0 (.ref (E.2.1 + (o0 + 1))) rfl 42 rfl dX9_closes_39 ?_
      refine r_iconst 4 rfl 43 rfl dX9_closes_42 ?_
      refine r_iald (h0 1 (Nat.le_of_ble_eq_true rfl)) rfl rfl 44 rfl dX9_closes_43 (fun v6 => ?_)
      refine r_iast (h0 1 (Nat.le_of_ble_eq_true rfl)) rfl rfl 45 rfl dX9_closes_44 (fun d7 => ?_)
      refine r_aload_n 0 1 rfl rfl 46 rfl dX9_closes_45 ?_
      refine r_get (h0 0 (Nat.le_of_ble_eq_true rfl)) rfl (Nat.le_of_ble_eq_true rfl) rfl rfl w_X9_closes_1 1 (Nat.le_of_ble_eq_true rfl) rfl w_X9_closes_0 (.ref (E.2.1 + (o0 + 1))) rfl 49 rfl dX9_closes_46 ?_
      refine r_iload_n 1 0 rfl rfl 50 rfl dX9_closes_49 ?_
      refine r_iconst 4 rfl 51 rfl dX9_closes_50 ?_
      refine r_callS_I (c_X9_at (E := E) (l := l) (S := S) d7 v1 4) ok_X9_at ⟨⟨(Nat.le_of_ble_eq_true rfl), (Nat.le_of_ble_eq_true rfl)⟩, (Nat.le_of_ble_eq_true rfl), (Nat.le_of_ble_eq_true rfl)⟩ rfl (Nat.le_of_ble_eq_true rfl) gX9_closes_X9_at rfl rfl 54 rfl dX9_closes_51 (fun v8 => ?_)
      refine r_aload_n 0 1 rfl rfl 55 rfl dX9_closes_54 ?_
      refine r_get (h0 0 (Nat.le_of_ble_eq_true rfl)) rfl (Nat.le_of_ble_eq_true rfl) rfl rfl w_X9_closes_1 1 (Nat.le_of_ble_eq_true rfl) rfl w_X9_closes_0 (.ref (E.2.1 + (o0 + 1))) rfl 58 rfl dX9_closes_55 ?_
      refine r_iconst 5 rfl 59 rfl dX9_closes_58 ?_
      refine r_iald (h0 1 (Nat.le_of_ble_eq_true rfl)) rfl rfl 60 rfl dX9_closes_59 (fun v9 => ?_)
      refine r_iast (h0 1 (Nat.le_of_ble_eq_true rfl)) rfl rfl 61 rfl dX9_closes_60 (fun d10 => ?_)
      refine r_aload_n 0 1 rfl rfl 62 rfl dX9_closes_61 ?_
      refine r_iload_n 1 0 rfl rfl 63 rfl dX9_closes_62 ?_
      refine r_callV_V (c_X9_laysOrder (E := E) (l := l) (S := S) d10 o0 h0 v1) ok_X9_laysOrder ⟨⟨(Nat.le_of_ble_eq_true rfl), (Nat.le_of_ble_eq_true rfl)⟩, (Nat.le_of_ble_eq_true rfl), (Nat.le_of_ble_eq_true rfl)⟩ (h0 0 (Nat.le_of_ble_eq_true rfl)) (Nat.le_of_ble_eq_true rfl) rfl rfl rfl (Nat.le_of_ble_eq_true rfl) gX9_closes_X9_laysOrder rfl rfl 66 rfl dX9_closes_63 (fun d11 => ?_)
      refine r_aload_n 0 1 rfl rfl 67 rfl dX9_closes_66 ?_
      refine r_get (h0 0 (Nat.le_of_ble_eq_true rfl)) rfl (Nat.le_of_ble_eq_true rfl) rfl rfl w_X9_closes_1 1 (Nat.le_of_ble_eq_true rfl) rfl w_X9_closes_0 (.ref (E.2.1 + (o0 + 1))) rfl 70 rfl dX9_closes_67 ?_
      refine r_iload_n 1 0 rfl rfl 71 rfl dX9_closes_70 ?_
      refine r_iconst 5 rfl 72 rfl dX9_closes_71 ?_
      refine r_callS_I (c_X9_at (E := E) (l := l) (S := S) d11 v1 5) ok_X9_at ⟨⟨(Nat.le_of_ble_eq_true rfl), (Nat.le_of_ble_eq_true rfl)⟩, (Nat.le_of_ble_eq_true rfl), (Nat.le_of_ble_eq_true rfl)⟩ rfl (Nat.le_of_ble_eq_true rfl) gX9_closes_X9_at rfl rfl 75 rfl dX9_closes_72 (fun v12 => ?_)
      refine r_aload_n 0 1 rfl rfl 76 rfl dX9_closes_75 ?_
      refine r_get (h0 0 (Nat.le_of_ble_eq_true rfl)) rfl (Nat.le_of_ble_eq_true rfl) rfl rfl w_X9_closes_1 6 (Nat.le_of_ble_eq_true rfl) rfl w_X9_closes_2 (.int (d11 o0 6)) rfl 79 rfl dX9_closes_76 ?_
      refine r_iast (h0 1 (Nat.le_of_ble_eq_true rfl)) rfl rfl 80 rfl dX9_closes_79 (fun d13 => ?_)
      refine r_aload_n 0 1 rfl rfl 81 rfl dX9_closes_80 ?_
      refine r_iload_n 1 0 rfl rfl 82 rfl dX9_closes_81 ?_
      refine r_callV_V (c_X9_laysRaw (E := E) (l := l) (S := S) d13 o0 h0 v1) ok_X9_laysRaw ⟨⟨(Nat.le_of_ble_eq_true rfl), (Nat.le_of_ble_eq_true rfl)⟩, (Nat.le_of_ble_eq_true rfl), (Nat.le_of_ble_eq_true rfl)⟩ (h0 0 (Nat.le_of_ble_eq_true rfl)) (Nat.le_of_ble_eq_true rfl) rfl rfl rfl (Nat.le_of_ble_eq_true rfl) gX9_closes_X9_laysRaw rfl rfl 85 rfl dX9_closes_82 (fun d14 => ?_)
      refine r_iconst 0 rfl 86 rfl dX9_closes_85 ?_
      refine r_istore_n 2 rfl [(2, .int 0), (1, .int v1), (0, .ref (E.2.1 + o0))] (Nat.le_of_ble_eq_true rfl) rfl 87 rfl dX9_closes_86 ?_
      refine r_sub [2, 1, 0] rfl ?_
      refine g_X9_closes_L87 h0 (fun d20 => ?_) z_N 0 d14
      refine r_aload_n 0 0 rfl rfl 130 rfl dX9_closes_129 ?_
      refine r_iload_n 1 1 rfl rfl 131 rfl dX9_closes_130 ?_
      refine r_callV_V (c_X9_laysLimit (E := E) (l := l) (S := S) d20 o0 h0 v1) ok_X9_laysLimit ⟨⟨(Nat.le_of_ble_eq_true rfl), (Nat.le_of_ble_eq_true rfl)⟩, (Nat.le_of_ble_eq_true rfl), (Nat.le_of_ble_eq_true rfl)⟩ (h0 0 (Nat.le_of_ble_eq_true rfl)) (Nat.le_of_ble_eq_true rfl) rfl rfl rfl (Nat.le_of_ble_eq_true rfl) gX9_closes_X9_laysLimit rfl rfl 134 rfl dX9_closes_131 (fun d21 => ?_)
      refine r_aload_n 0 0 rfl rfl 135 rfl dX9_closes_134 ?_
      refine r_iload_n 1 1 rfl rfl 136 rfl dX9_closes_135 ?_
      refine r_callV_V (c_X9_laysPrizes (E := E) (l := l) (S := S) d21 o0 h0 v1) ok_X9_laysPrizes ⟨⟨(Nat.le_of_ble_eq_true rfl), (Nat.le_of_ble_eq_true rfl)⟩, (Nat.le_of_ble_eq_true rfl), (Nat.le_of_ble_eq_true rfl)⟩ (h0 0 (Nat.le_of_ble_eq_true rfl)) (Nat.le_of_ble_eq_true rfl) rfl rfl rfl (Nat.le_of_ble_eq_true rfl) gX9_closes_X9_laysPrizes rfl rfl 139 rfl dX9_closes_136 (fun d22 => ?_)
      refine r_iconst 0 rfl 140 rfl dX9_closes_139 ?_
      refine r_istore_n 2 rfl [(2, .int 0), (0, .ref (E.2.1 + o0)), (1, .int v1)] (Nat.le_of_ble_eq_true rfl) rfl 141 rfl dX9_closes_140 ?_
      refine r_iconst 0 rfl 142 rfl dX9_closes_141 ?_
      refine r_istore_n 3 rfl [(3, .int 0), (2, .int 0), (0, .ref (E.2.1 + o0)), (1, .int v1)] (Nat.le_of_ble_eq_true rfl) rfl 143 rfl dX9_closes_142 ?_
      refine r_sub [2, 3, 1, 0] rfl ?_
      refine g_X9_closes_L143 h0 (fun v27 => ?_) z_N 0 0
      refine r_aload_n 0 0 rfl rfl 180 rfl dX9_closes_179 ?_
      refine r_get (h0 0 (Nat.le_of_ble_eq_true rfl)) rfl (Nat.le_of_ble_eq_true rfl) rfl rfl w_X9_closes_1 1 (Nat.le_of_ble_eq_true rfl) rfl w_X9_closes_0 (.ref (E.2.1 + (o0 + 1))) rfl 183 rfl dX9_closes_180 ?_
      refine r_iload_n 1 1 rfl rfl 184 rfl dX9_closes_183 ?_
      refine r_bipush 10 rfl 186 rfl dX9_closes_184 ?_
      refine r_callS_I (c_X9_at (E := E) (l := l) (S := S) d22 v1 10) ok_X9_at ⟨⟨(Nat.le_of_ble_eq_true rfl), (Nat.le_of_ble_eq_true rfl)⟩, (Nat.le_of_ble_eq_true rfl), (Nat.le_of_ble_eq_true rfl)⟩ rfl (Nat.le_of_ble_eq_true rfl) gX9_closes_X9_at rfl rfl 189 rfl dX9_closes_186 (fun v28 => ?_)
      refine r_iload_n 2 2 rfl rfl 190 rfl dX9_closes_189 ?_
      refine r_iast (h0 1 (Nat.le_of_ble_eq_true rfl)) rfl rfl 191 rfl dX9_closes_190 (fun d29 => ?_)
      refine r_aload_n 0 0 rfl rfl 192 rfl dX9_closes_191 ?_
      refine r_get (h0 0 (Nat.le_of_ble_eq_true rfl)) rfl (Nat.le_of_ble_eq_true rfl) rfl rfl w_X9_closes_1 1 (Nat.le_of_ble_eq_true rfl) rfl w_X9_closes_0 (.ref (E.2.1 + (o0 + 1))) rfl 195 rfl dX9_closes_192 ?_
      refine r_iload_n 1 1 rfl rfl 196 rfl dX9_closes_195 ?_
      refine r_bipush 11 rfl 198 rfl dX9_closes_196 ?_
      refine r_callS_I (c_X9_at (E := E) (l := l) (S := S) d29 v1 11) ok_X9_at ⟨⟨(Nat.le_of_ble_eq_true rfl), (Nat.le_of_ble_eq_true rfl)⟩, (Nat.le_of_ble_eq_true rfl), (Nat.le_of_ble_eq_true rfl)⟩ rfl (Nat.le_of_ble_eq_true rfl) gX9_closes_X9_at rfl rfl 201 rfl dX9_closes_198 (fun v30 => ?_)
      refine r_iconst 5 rfl 202 rfl dX9_closes_201 ?_
      refine r_iload_n 2 2 rfl rfl 203 rfl dX9_closes_202 ?_
      refine r_imul 204 rfl dX9_closes_203 ?_
      refine r_aload_n 0 0 rfl rfl 205 rfl dX9_closes_204 ?_
      refine r_get (h0 0 (Nat.le_of_ble_eq_true rfl)) rfl (Nat.le_of_ble_eq_true rfl) rfl rfl w_X9_closes_1 6 (Nat.le_of_ble_eq_true rfl) rfl w_X9_closes_2 (.int (d29 o0 6)) rfl 208 rfl dX9_closes_205 ?_
      refine r_let 216 (f := fun x_216 : Int32 => [(0, .ref (E.2.1 + o0)), (1, .int v1)]) (g := fun x_216 : Int32 => [.int x_216, .int v30, .ref (E.2.1 + (o0 + 1))]) (ww := fun x_216 : Int32 => (S, d29)) (fun x_216 => ?_) (fun J216 hJ216 => ?_)
      · refine r_iast (h0 1 (Nat.le_of_ble_eq_true rfl)) rfl rfl 217 rfl dX9_closes_216 (fun d31 => ?_)
        refine r_iconst 0 rfl 218 rfl dX9_closes_217 ?_
        refine r_istore_n 3 rfl [(3, .int 0), (0, .ref (E.2.1 + o0)), (1, .int v1)] (Nat.le_of_ble_eq_true rfl) rfl 219 rfl dX9_closes_218 ?_
        refine r_iconst 0 rfl 220 rfl dX9_closes_219 ?_
        refine r_istore 4 [(4, .int 0), (3, .int 0), (0, .ref (E.2.1 + o0)), (1, .int v1)] (Nat.le_of_ble_eq_true rfl) rfl 222 rfl dX9_closes_220 ?_
        refine r_sub [2, 3, 1, 0] rfl ?_
        refine g_X9_closes_L222 h0 (fun v40 d39 => ?_) z_N 0 0 d31
        refine r_iload_n 3 0 rfl rfl 316 rfl dX9_closes_315 ?_
        exact r_ireturn rfl rfl (Nat.le_of_ble_eq_true rfl) (Nat.le_of_ble_eq_true rfl) dX9_closes_316
      refine r_icmp_le 215 211 rfl rfl dX9_closes_208 ?_ ?_
      · refine r_iconst 0 rfl 216 rfl dX9_closes_215 ?_
        refine r_sub [0, 1] rfl ?_
        exact hJ216 0
      · refine r_iconst 1 rfl 212 rfl dX9_closes_211 ?_
        refine r_goto 216 rfl dX9_closes_212 ?_
        refine r_sub [0, 1] rfl ?_
        exact hJ216 1
    · refine r_iconst (-1) rfl 21 rfl dX9_closes_20 ?_
      exact r_ireturn rfl rfl (Nat.le_of_ble_eq_true rfl) (Nat.le_of_ble_eq_true rfl) dX9_closes_21
