/-! 3c.gen9: by gen/mk.py -/
def Y_X9_over : z_Y := (RX9, cX9_over, 3, wsX9_over, (some .int), { frames := 4, cells := 0, slots := 0, locals := 89 }, 0, 0)
theorem ok_X9_over : z_Ok yX9_over Y_X9_over 2 := ⟨⟨_, rfl⟩, rfl, rfl, rfl, by decide +kernel, by decide +kernel⟩
theorem w_X9_over_0 : Cond.fieldLink RX9 39 "BunchTimesModel" "thrown" "I" ∈ wsX9_over := by decide +kernel
theorem w_X9_over_1 : ∀ w ∈ u_ws RX9 TX9 18, w ∈ wsX9_over := by decide +kernel
def f_X9_over (d : z_D) (o0 : Nat) (x1 : Int32) (x2 : Int32) : Option (Int32 × z_D) := z_put d o0 0 0 (fun d1 => z_bX (f_X9_overs d1 o0 x1 x2) (fun v2 d3 => (some (v2, d3))))
set_option maxHeartbeats 4000000 in
set_option maxRecDepth 100000 in
theorem c_X9_over {E : z_E} {l : Launch} {S : z_S} (d : z_D) (o0 : Nat) (h0 : A_Model S o0) (x1 : Int32) (x2 : Int32) : z_Sp E l yX9_over Y_X9_over (cvX S) [.ref (E.2.1 + o0), .int x1, .int x2] (S, d) (f_X9_over d o0 x1 x2) := by
  refine z_entry (lv := [(0, .ref (E.2.1 + o0)), (1, .int x1), (2, .int x2)]) (by decide) rfl rfl (Nat.le_of_ble_eq_true rfl) rfl ?_
  unfold f_X9_over
  refine r_aload_n 0 0 rfl rfl 1 rfl dX9_over_0 ?_
  refine r_iconst 0 rfl 2 rfl dX9_over_1 ?_
  refine r_put (h0 0 (Nat.le_of_ble_eq_true rfl)) rfl (Nat.le_of_ble_eq_true rfl) rfl rfl w_X9_over_1 tyX9 tyX9_ok nmX9 (Nat.le_of_ble_eq_true rfl) rfl w_X9_over_0 rfl rfl rfl rfl rfl 5 rfl dX9_over_2 (fun d1 => ?_)
  refine r_aload_n 0 0 rfl rfl 6 rfl dX9_over_5 ?_
  refine r_iload_n 1 1 rfl rfl 7 rfl dX9_over_6 ?_
  refine r_iload_n 2 2 rfl rfl 8 rfl dX9_over_7 ?_
  refine r_callV_X (c_X9_overs (E := E) (l := l) (S := S) d1 o0 h0 x1 x2) ok_X9_overs ⟨⟨(Nat.le_of_ble_eq_true rfl), (Nat.le_of_ble_eq_true rfl)⟩, (Nat.le_of_ble_eq_true rfl), (Nat.le_of_ble_eq_true rfl)⟩ (h0 0 (Nat.le_of_ble_eq_true rfl)) (Nat.le_of_ble_eq_true rfl) rfl rfl rfl (Nat.le_of_ble_eq_true rfl) gX9_over_X9_overs rfl rfl 11 rfl dX9_over_8 (fun v2 d3 => ?_)
  exact r_ireturn rfl rfl (Nat.le_of_ble_eq_true rfl) (Nat.le_of_ble_eq_true rfl) dX9_over_11
def Y_X9_falls : z_Y := (RX9, cX9_falls, 5, wsX9_falls, (some .boolean), { frames := 3, cells := 0, slots := 0, locals := 64 }, 0, 0)
theorem ok_X9_falls : z_Ok yX9_falls Y_X9_falls 3 := ⟨⟨_, rfl⟩, rfl, rfl, rfl, by decide +kernel, by decide +kernel⟩
theorem w_X9_falls_0 : Cond.fieldLink RX9 7 "BunchTimesModel" "row" "[I" ∈ wsX9_falls := by decide +kernel
theorem w_X9_falls_1 : ∀ w ∈ u_ws RX9 TX9 18, w ∈ wsX9_falls := by decide +kernel
def f_X9_falls (d : z_D) (o0 : Nat) (x1 : Int32) (x2 : Int32) (x3 : Int32) : Option (Int32 × z_D) := ((f_X9_latest d o0).bind fun v1 => ((f_X9_isOpen d o0).bind fun v2 => (if v2 = 0 then (some (0, d)) else ((f_X9_isThere d o0 x1).bind fun v3 => (if v3 = 0 then (some (0, d)) else ((f_X9_at v1 1).bind fun v4 => z_ald d (o0 + 1) 2656 v4 (fun v5 => ((f_X9_isIn x2 0 v5).bind fun v6 => (if v6 = 0 then (some (0, d)) else (if x3 = x1 then (some (0, d)) else z_let (fun x_58 : Unit => ((f_X9_at_ v1 x1 1).bind fun v7 => z_ald d (o0 + 1) 2656 v7 (fun v8 => (if v8 = (-1) then ((f_X9_at_ v1 x1 1).bind fun v9 => z_ast d (o0 + 1) 2656 v9 x2 (fun d10 => ((f_X9_at_ v1 x1 2).bind fun v11 => z_ast d10 (o0 + 1) 2656 v11 x3 (fun d12 => (some (1, d12)))))) else (some (0, d)))))) (fun J58 => (if x3 = (-1) then (J58 ()) else ((f_X9_isThere d o0 x3).bind fun v13 => (if v13 = 0 then (some (0, d)) else (J58 ())))))))))))))))
set_option maxHeartbeats 4000000 in
set_option maxRecDepth 100000 in
theorem c_X9_falls {E : z_E} {l : Launch} {S : z_S} (d : z_D) (o0 : Nat) (h0 : A_Model S o0) (x1 : Int32) (x2 : Int32) (x3 : Int32) : z_Sp E l yX9_falls Y_X9_falls (cvX S) [.ref (E.2.1 + o0), .int x1, .int x2, .int x3] (S, d) (f_X9_falls d o0 x1 x2 x3) := by
  refine z_entry (lv := [(0, .ref (E.2.1 + o0)), (1, .int x1), (2, .int x2), (3, .int x3)]) (by decide) rfl rfl (Nat.le_of_ble_eq_true rfl) rfl ?_
  unfold f_X9_falls
  refine r_aload_n 0 0 rfl rfl 1 rfl dX9_falls_0 ?_
  refine r_callV_I (c_X9_latest (E := E) (l := l) (S := S) d o0 h0) ok_X9_latest ⟨⟨(Nat.le_of_ble_eq_true rfl), (Nat.le_of_ble_eq_true rfl)⟩, (Nat.le_of_ble_eq_true rfl), (Nat.le_of_ble_eq_true rfl)⟩ (h0 0 (Nat.le_of_ble_eq_true rfl)) (Nat.le_of_ble_eq_true rfl) rfl rfl rfl (Nat.le_of_ble_eq_true rfl) gX9_falls_X9_latest rfl rfl 4 rfl dX9_falls_1 (fun v1 => ?_)
  refine r_istore 4 [(4, .int v1), (0, .ref (E.2.1 + o0)), (1, .int x1), (2, .int x2), (3, .int x3)] (Nat.le_of_ble_eq_true rfl) rfl 6 rfl dX9_falls_4 ?_
  refine r_aload_n 0 1 rfl rfl 7 rfl dX9_falls_6 ?_
  refine r_callV_I (c_X9_isOpen (E := E) (l := l) (S := S) d o0 h0) ok_X9_isOpen ⟨⟨(Nat.le_of_ble_eq_true rfl), (Nat.le_of_ble_eq_true rfl)⟩, (Nat.le_of_ble_eq_true rfl), (Nat.le_of_ble_eq_true rfl)⟩ (h0 0 (Nat.le_of_ble_eq_true rfl)) (Nat.le_of_ble_eq_true rfl) rfl rfl rfl (Nat.le_of_ble_eq_true rfl) gX9_falls_X9_isOpen rfl rfl 10 rfl dX9_falls_7 (fun v2 => ?_)
  refine r_if_eq 74 13 rfl rfl dX9_falls_10 ?_ ?_
  · refine r_iconst 0 rfl 75 rfl dX9_falls_74 ?_
    exact r_zreturnc (by decide) rfl rfl (Nat.le_of_ble_eq_true rfl) (Nat.le_of_ble_eq_true rfl) dX9_falls_75
  · refine r_aload_n 0 1 rfl rfl 14 rfl dX9_falls_13 ?_
    refine r_iload_n 1 2 rfl rfl 15 rfl dX9_falls_14 ?_
    refine r_callV_I (c_X9_isThere (E := E) (l := l) (S := S) d o0 h0 x1) ok_X9_isThere ⟨⟨(Nat.le_of_ble_eq_true rfl), (Nat.le_of_ble_eq_true rfl)⟩, (Nat.le_of_ble_eq_true rfl), (Nat.le_of_ble_eq_true rfl)⟩ (h0 0 (Nat.le_of_ble_eq_true rfl)) (Nat.le_of_ble_eq_true rfl) rfl rfl rfl (Nat.le_of_ble_eq_true rfl) gX9_falls_X9_isThere rfl rfl 18 rfl dX9_falls_15 (fun v3 => ?_)
    refine r_if_eq 74 21 rfl rfl dX9_falls_18 ?_ ?_
    · refine r_iconst 0 rfl 75 rfl dX9_falls_74 ?_
      exact r_zreturnc (by decide) rfl rfl (Nat.le_of_ble_eq_true rfl) (Nat.le_of_ble_eq_true rfl) dX9_falls_75
    · refine r_iload_n 2 3 rfl rfl 22 rfl dX9_falls_21 ?_
      refine r_iconst 0 rfl 23 rfl dX9_falls_22 ?_
      refine r_aload_n 0 1 rfl rfl 24 rfl dX9_falls_23 ?_
      refine r_get (h0 0 (Nat.le_of_ble_eq_true rfl)) rfl (Nat.le_of_ble_eq_true rfl) rfl rfl w_X9_falls_1 1 (Nat.le_of_ble_eq_true rfl) rfl w_X9_falls_0 (.ref (E.2.1 + (o0 + 1))) rfl 27 rfl dX9_falls_24 ?_
      refine r_iload 4 0 rfl 29 rfl dX9_falls_27 ?_
      refine r_iconst 1 rfl 30 rfl dX9_falls_29 ?_
      refine r_callS_I (c_X9_at (E := E) (l := l) (S := S) d v1 1) ok_X9_at ⟨⟨(Nat.le_of_ble_eq_true rfl), (Nat.le_of_ble_eq_true rfl)⟩, (Nat.le_of_ble_eq_true rfl), (Nat.le_of_ble_eq_true rfl)⟩ rfl (Nat.le_of_ble_eq_true rfl) gX9_falls_X9_at rfl rfl 33 rfl dX9_falls_30 (fun v4 => ?_)
      refine r_iald (h0 1 (Nat.le_of_ble_eq_true rfl)) rfl rfl 34 rfl dX9_falls_33 (fun v5 => ?_)
      refine r_callS_I (c_X9_isIn (E := E) (l := l) (S := S) d x2 0 v5) ok_X9_isIn ⟨⟨(Nat.le_of_ble_eq_true rfl), (Nat.le_of_ble_eq_true rfl)⟩, (Nat.le_of_ble_eq_true rfl), (Nat.le_of_ble_eq_true rfl)⟩ rfl (Nat.le_of_ble_eq_true rfl) gX9_falls_X9_isIn rfl rfl 37 rfl dX9_falls_34 (fun v6 => ?_)
      refine r_if_eq 74 40 rfl rfl dX9_falls_37 ?_ ?_
      · refine r_iconst 0 rfl 75 rfl dX9_falls_74 ?_
        exact r_zreturnc (by decide) rfl rfl (Nat.le_of_ble_eq_true rfl) (Nat.le_of_ble_eq_true rfl) dX9_falls_75
      · refine r_iload_n 3 4 rfl rfl 41 rfl dX9_falls_40 ?_
        refine r_iload_n 1 2 rfl rfl 42 rfl dX9_falls_41 ?_
        refine r_icmp_eq 74 45 rfl rfl dX9_falls_42 ?_ ?_
        · refine r_iconst 0 rfl 75 rfl dX9_falls_74 ?_
          exact r_zreturnc (by decide) rfl rfl (Nat.le_of_ble_eq_true rfl) (Nat.le_of_ble_eq_true rfl) dX9_falls_75
        · refine r_iload_n 3 4 rfl rfl 46 rfl dX9_falls_45 ?_
          refine r_iconst (-1) rfl 47 rfl dX9_falls_46 ?_
          refine r_let 58 (f := fun x_58 : Unit => [(0, .ref (E.2.1 + o0)), (1, .int x1), (2, .int x2), (3, .int x3), (4, .int v1)]) (g := fun x_58 : Unit => []) (ww := fun x_58 : Unit => (S, d)) (fun x_58 => ?_) (fun J58 hJ58 => ?_)
          · refine r_aload_n 0 0 rfl rfl 59 rfl dX9_falls_58 ?_
            refine r_get (h0 0 (Nat.le_of_ble_eq_true rfl)) rfl (Nat.le_of_ble_eq_true rfl) rfl rfl w_X9_falls_1 1 (Nat.le_of_ble_eq_true rfl) rfl w_X9_falls_0 (.ref (E.2.1 + (o0 + 1))) rfl 62 rfl dX9_falls_59 ?_
            refine r_iload 4 4 rfl 64 rfl dX9_falls_62 ?_
            refine r_iload_n 1 1 rfl rfl 65 rfl dX9_falls_64 ?_
            refine r_iconst 1 rfl 66 rfl dX9_falls_65 ?_
            refine r_callS_I (c_X9_at_ (E := E) (l := l) (S := S) d v1 x1 1) ok_X9_at_ ⟨⟨(Nat.le_of_ble_eq_true rfl), (Nat.le_of_ble_eq_true rfl)⟩, (Nat.le_of_ble_eq_true rfl), (Nat.le_of_ble_eq_true rfl)⟩ rfl (Nat.le_of_ble_eq_true rfl) gX9_falls_X9_at_ rfl rfl 69 rfl dX9_falls_66 (fun v7 => ?_)
            refine r_iald (h0 1 (Nat.le_of_ble_eq_true rfl)) rfl rfl 70 rfl dX9_falls_69 (fun v8 => ?_)
            refine r_iconst (-1) rfl 71 rfl dX9_falls_70 ?_
            refine r_icmp_eq 76 74 rfl rfl dX9_falls_71 ?_ ?_
            · refine r_aload_n 0 0 rfl rfl 77 rfl dX9_falls_76 ?_
              refine r_get (h0 0 (Nat.le_of_ble_eq_true rfl)) rfl (Nat.le_of_ble_eq_true rfl) rfl rfl w_X9_falls_1 1 (Nat.le_of_ble_eq_true rfl) rfl w_X9_falls_0 (.ref (E.2.1 + (o0 + 1))) rfl 80 rfl dX9_falls_77 ?_
              refine r_iload 4 4 rfl 82 rfl dX9_falls_80 ?_
              refine r_iload_n 1 1 rfl rfl 83 rfl dX9_falls_82 ?_
              refine r_iconst 1 rfl 84 rfl dX9_falls_83 ?_
              refine r_callS_I (c_X9_at_ (E := E) (l := l) (S := S) d v1 x1 1) ok_X9_at_ ⟨⟨(Nat.le_of_ble_eq_true rfl), (Nat.le_of_ble_eq_true rfl)⟩, (Nat.le_of_ble_eq_true rfl), (Nat.le_of_ble_eq_true rfl)⟩ rfl (Nat.le_of_ble_eq_true rfl) gX9_falls_X9_at_ rfl rfl 87 rfl dX9_falls_84 (fun v9 => ?_)
              refine r_iload_n 2 2 rfl rfl 88 rfl dX9_falls_87 ?_
              refine r_iast (h0 1 (Nat.le_of_ble_eq_true rfl)) rfl rfl 89 rfl dX9_falls_88 (fun d10 => ?_)
              refine r_aload_n 0 0 rfl rfl 90 rfl dX9_falls_89 ?_
              refine r_get (h0 0 (Nat.le_of_ble_eq_true rfl)) rfl (Nat.le_of_ble_eq_true rfl) rfl rfl w_X9_falls_1 1 (Nat.le_of_ble_eq_true rfl) rfl w_X9_falls_0 (.ref (E.2.1 + (o0 + 1))) rfl 93 rfl dX9_falls_90 ?_
              refine r_iload 4 4 rfl 95 rfl dX9_falls_93 ?_
              refine r_iload_n 1 1 rfl rfl 96 rfl dX9_falls_95 ?_
              refine r_iconst 2 rfl 97 rfl dX9_falls_96 ?_
              refine r_callS_I (c_X9_at_ (E := E) (l := l) (S := S) d10 v1 x1 2) ok_X9_at_ ⟨⟨(Nat.le_of_ble_eq_true rfl), (Nat.le_of_ble_eq_true rfl)⟩, (Nat.le_of_ble_eq_true rfl), (Nat.le_of_ble_eq_true rfl)⟩ rfl (Nat.le_of_ble_eq_true rfl) gX9_falls_X9_at_ rfl rfl 100 rfl dX9_falls_97 (fun v11 => ?_)
              refine r_iload_n 3 3 rfl rfl 101 rfl dX9_falls_100 ?_
              refine r_iast (h0 1 (Nat.le_of_ble_eq_true rfl)) rfl rfl 102 rfl dX9_falls_101 (fun d12 => ?_)
              refine r_iconst 1 rfl 103 rfl dX9_falls_102 ?_
              exact r_zreturnc (by decide) rfl rfl (Nat.le_of_ble_eq_true rfl) (Nat.le_of_ble_eq_true rfl) dX9_falls_103
            · refine r_iconst 0 rfl 75 rfl dX9_falls_74 ?_
              exact r_zreturnc (by decide) rfl rfl (Nat.le_of_ble_eq_true rfl) (Nat.le_of_ble_eq_true rfl) dX9_falls_75
          refine r_icmp_eq 58 50 rfl rfl dX9_falls_47 ?_ ?_
          · refine r_sub [1, 2, 3, 4, 0] rfl ?_
            exact hJ58 ()
          · refine r_aload_n 0 1 rfl rfl 51 rfl dX9_falls_50 ?_
            refine r_iload_n 3 4 rfl rfl 52 rfl dX9_falls_51 ?_
            refine r_callV_I (c_X9_isThere (E := E) (l := l) (S := S) d o0 h0 x3) ok_X9_isThere ⟨⟨(Nat.le_of_ble_eq_true rfl), (Nat.le_of_ble_eq_true rfl)⟩, (Nat.le_of_ble_eq_true rfl), (Nat.le_of_ble_eq_true rfl)⟩ (h0 0 (Nat.le_of_ble_eq_true rfl)) (Nat.le_of_ble_eq_true rfl) rfl rfl rfl (Nat.le_of_ble_eq_true rfl) gX9_falls_X9_isThere rfl rfl 55 rfl dX9_falls_52 (fun v13 => ?_)
            refine r_if_eq 74 58 rfl rfl dX9_falls_55 ?_ ?_
            · refine r_iconst 0 rfl 75 rfl dX9_falls_74 ?_
              exact r_zreturnc (by decide) rfl rfl (Nat.le_of_ble_eq_true rfl) (Nat.le_of_ble_eq_true rfl) dX9_falls_75
            · refine r_sub [1, 2, 3, 4, 0] rfl ?_
              exact hJ58 ()
def Y_X9_fall : z_Y := (RX9, cX9_fall, 4, wsX9_fall, (some .boolean), { frames := 4, cells := 0, slots := 0, locals := 88 }, 0, 0)
theorem ok_X9_fall : z_Ok yX9_fall Y_X9_fall 3 := ⟨⟨_, rfl⟩, rfl, rfl, rfl, by decide +kernel, by decide +kernel⟩
theorem w_X9_fall_0 : Cond.fieldLink RX9 39 "BunchTimesModel" "thrown" "I" ∈ wsX9_fall := by decide +kernel
theorem w_X9_fall_1 : ∀ w ∈ u_ws RX9 TX9 18, w ∈ wsX9_fall := by decide +kernel
def f_X9_fall (d : z_D) (o0 : Nat) (x1 : Int32) (x2 : Int32) (x3 : Int32) : Option (Int32 × z_D) := z_put d o0 0 0 (fun d1 => z_bX (f_X9_falls d1 o0 x1 x2 x3) (fun v2 d3 => (z_bool v2 (some (v2, d3)))))
set_option maxHeartbeats 4000000 in
set_option maxRecDepth 100000 in
theorem c_X9_fall {E : z_E} {l : Launch} {S : z_S} (d : z_D) (o0 : Nat) (h0 : A_Model S o0) (x1 : Int32) (x2 : Int32) (x3 : Int32) : z_Sp E l yX9_fall Y_X9_fall (cvX S) [.ref (E.2.1 + o0), .int x1, .int x2, .int x3] (S, d) (f_X9_fall d o0 x1 x2 x3) := by
  refine z_entry (lv := [(0, .ref (E.2.1 + o0)), (1, .int x1), (2, .int x2), (3, .int x3)]) (by decide) rfl rfl (Nat.le_of_ble_eq_true rfl) rfl ?_
  unfold f_X9_fall
  refine r_aload_n 0 0 rfl rfl 1 rfl dX9_fall_0 ?_
  refine r_iconst 0 rfl 2 rfl dX9_fall_1 ?_
  refine r_put (h0 0 (Nat.le_of_ble_eq_true rfl)) rfl (Nat.le_of_ble_eq_true rfl) rfl rfl w_X9_fall_1 tyX9 tyX9_ok nmX9 (Nat.le_of_ble_eq_true rfl) rfl w_X9_fall_0 rfl rfl rfl rfl rfl 5 rfl dX9_fall_2 (fun d1 => ?_)
  refine r_aload_n 0 0 rfl rfl 6 rfl dX9_fall_5 ?_
  refine r_iload_n 1 1 rfl rfl 7 rfl dX9_fall_6 ?_
  refine r_iload_n 2 2 rfl rfl 8 rfl dX9_fall_7 ?_
  refine r_iload_n 3 3 rfl rfl 9 rfl dX9_fall_8 ?_
  refine r_callV_X (c_X9_falls (E := E) (l := l) (S := S) d1 o0 h0 x1 x2 x3) ok_X9_falls ⟨⟨(Nat.le_of_ble_eq_true rfl), (Nat.le_of_ble_eq_true rfl)⟩, (Nat.le_of_ble_eq_true rfl), (Nat.le_of_ble_eq_true rfl)⟩ (h0 0 (Nat.le_of_ble_eq_true rfl)) (Nat.le_of_ble_eq_true rfl) rfl rfl rfl (Nat.le_of_ble_eq_true rfl) gX9_fall_X9_falls rfl rfl 12 rfl dX9_fall_9 (fun v2 d3 => ?_)
  exact r_zreturn rfl rfl (Nat.le_of_ble_eq_true rfl) (Nat.le_of_ble_eq_true rfl) dX9_fall_12
def Y_X9_juries : z_Y := (RX9, cX9_juries, 4, wsX9_juries, (some .int), { frames := 3, cells := 0, slots := 0, locals := 64 }, 0, 0)
theorem ok_X9_juries : z_Ok yX9_juries Y_X9_juries 2 := ⟨⟨_, rfl⟩, rfl, rfl, rfl, by decide +kernel, by decide +kernel⟩
theorem w_X9_juries_0 : Cond.fieldLink RX9 7 "BunchTimesModel" "row" "[I" ∈ wsX9_juries := by decide +kernel
theorem w_X9_juries_1 : ∀ w ∈ u_ws RX9 TX9 18, w ∈ wsX9_juries := by decide +kernel
theorem w_X9_juries_2 : Cond.constant RX9 107 99999 ∈ wsX9_juries := by decide +kernel
def f_X9_juries (d : z_D) (o0 : Nat) (x1 : Int32) (x2 : Int32) : Option (Int32 × z_D) := ((f_X9_isOpen d o0).bind fun v1 => (if v1 = 0 then (some ((-1), d)) else ((f_X9_isThere d o0 x1).bind fun v2 => (if v2 = 0 then (some ((-1), d)) else ((f_X9_isIn x2 1 3600).bind fun v3 => (if v3 = 0 then (some ((-1), d)) else ((f_X9_latest d o0).bind fun v4 => ((f_X9_at_ v4 x1 3).bind fun v5 => z_ald d (o0 + 1) 2656 v5 (fun v6 => (if (v6 + x2) ≤ 99999 then z_ald d (o0 + 1) 2656 v5 (fun v7 => z_ast d (o0 + 1) 2656 v5 (v7 + x2) (fun d8 => z_ald d8 (o0 + 1) 2656 v5 (fun v9 => (some (v9, d8))))) else (some ((-1), d))))))))))))
set_option maxHeartbeats 4000000 in
set_option maxRecDepth 100000 in
theorem c_X9_juries {E : z_E} {l : Launch} {S : z_S} (d : z_D) (o0 : Nat) (h0 : A_Model S o0) (x1 : Int32) (x2 : Int32) : z_Sp E l yX9_juries Y_X9_juries (cvX S) [.ref (E.2.1 + o0), .int x1, .int x2] (S, d) (f_X9_juries d o0 x1 x2) := by
  refine z_entry (lv := [(0, .ref (E.2.1 + o0)), (1, .int x1), (2, .int x2)]) (by decide) rfl rfl (Nat.le_of_ble_eq_true rfl) rfl ?_
  unfold f_X9_juries
  refine r_aload_n 0 0 rfl rfl 1 rfl dX9_juries_0 ?_
  refine r_callV_I (c_X9_isOpen (E := E) (l := l) (S := S) d o0 h0) ok_X9_isOpen ⟨⟨(Nat.le_of_ble_eq_true rfl), (Nat.le_of_ble_eq_true rfl)⟩, (Nat.le_of_ble_eq_true rfl), (Nat.le_of_ble_eq_true rfl)⟩ (h0 0 (Nat.le_of_ble_eq_true rfl)) (Nat.le_of_ble_eq_true rfl) rfl rfl rfl (Nat.le_of_ble_eq_true rfl) gX9_juries_X9_isOpen rfl rfl 4 rfl dX9_juries_1 (fun v1 => ?_)
  refine r_if_eq 26 7 rfl rfl dX9_juries_4 ?_ ?_
  · refine r_iconst (-1) rfl 27 rfl dX9_juries_26 ?_
    exact r_ireturn rfl rfl (Nat.le_of_ble_eq_true rfl) (Nat.le_of_ble_eq_true rfl) dX9_juries_27
  · refine r_aload_n 0 0 rfl rfl 8 rfl dX9_juries_7 ?_
    refine r_iload_n 1 1 rfl rfl 9 rfl dX9_juries_8 ?_
    refine r_callV_I (c_X9_isThere (E := E) (l := l) (S := S) d o0 h0 x1) ok_X9_isThere ⟨⟨(Nat.le_of_ble_eq_true rfl), (Nat.le_of_ble_eq_true rfl)⟩, (Nat.le_of_ble_eq_true rfl), (Nat.le_of_ble_eq_true rfl)⟩ (h0 0 (Nat.le_of_ble_eq_true rfl)) (Nat.le_of_ble_eq_true rfl) rfl rfl rfl (Nat.le_of_ble_eq_true rfl) gX9_juries_X9_isThere rfl rfl 12 rfl dX9_juries_9 (fun v2 => ?_)
    refine r_if_eq 26 15 rfl rfl dX9_juries_12 ?_ ?_
    · refine r_iconst (-1) rfl 27 rfl dX9_juries_26 ?_
      exact r_ireturn rfl rfl (Nat.le_of_ble_eq_true rfl) (Nat.le_of_ble_eq_true rfl) dX9_juries_27
    · refine r_iload_n 2 2 rfl rfl 16 rfl dX9_juries_15 ?_
      refine r_iconst 1 rfl 17 rfl dX9_juries_16 ?_
      refine r_sipush 3600 rfl 20 rfl dX9_juries_17 ?_
      refine r_callS_I (c_X9_isIn (E := E) (l := l) (S := S) d x2 1 3600) ok_X9_isIn ⟨⟨(Nat.le_of_ble_eq_true rfl), (Nat.le_of_ble_eq_true rfl)⟩, (Nat.le_of_ble_eq_true rfl), (Nat.le_of_ble_eq_true rfl)⟩ rfl (Nat.le_of_ble_eq_true rfl) gX9_juries_X9_isIn rfl rfl 23 rfl dX9_juries_20 (fun v3 => ?_)
      refine r_if_ne 28 26 rfl rfl dX9_juries_23 ?_ ?_
      · refine r_aload_n 0 0 rfl rfl 29 rfl dX9_juries_28 ?_
        refine r_callV_I (c_X9_latest (E := E) (l := l) (S := S) d o0 h0) ok_X9_latest ⟨⟨(Nat.le_of_ble_eq_true rfl), (Nat.le_of_ble_eq_true rfl)⟩, (Nat.le_of_ble_eq_true rfl), (Nat.le_of_ble_eq_true rfl)⟩ (h0 0 (Nat.le_of_ble_eq_true rfl)) (Nat.le_of_ble_eq_true rfl) rfl rfl rfl (Nat.le_of_ble_eq_true rfl) gX9_juries_X9_latest rfl rfl 32 rfl dX9_juries_29 (fun v4 => ?_)
        refine r_iload_n 1 1 rfl rfl 33 rfl dX9_juries_32 ?_
        refine r_iconst 3 rfl 34 rfl dX9_juries_33 ?_
        refine r_callS_I (c_X9_at_ (E := E) (l := l) (S := S) d v4 x1 3) ok_X9_at_ ⟨⟨(Nat.le_of_ble_eq_true rfl), (Nat.le_of_ble_eq_true rfl)⟩, (Nat.le_of_ble_eq_true rfl), (Nat.le_of_ble_eq_true rfl)⟩ rfl (Nat.le_of_ble_eq_true rfl) gX9_juries_X9_at_ rfl rfl 37 rfl dX9_juries_34 (fun v5 => ?_)
        refine r_istore_n 3 rfl [(3, .int v5), (0, .ref (E.2.1 + o0)), (1, .int x1), (2, .int x2)] (Nat.le_of_ble_eq_true rfl) rfl 38 rfl dX9_juries_37 ?_
        refine r_aload_n 0 1 rfl rfl 39 rfl dX9_juries_38 ?_
        refine r_get (h0 0 (Nat.le_of_ble_eq_true rfl)) rfl (Nat.le_of_ble_eq_true rfl) rfl rfl w_X9_juries_1 1 (Nat.le_of_ble_eq_true rfl) rfl w_X9_juries_0 (.ref (E.2.1 + (o0 + 1))) rfl 42 rfl dX9_juries_39 ?_
        refine r_iload_n 3 0 rfl rfl 43 rfl dX9_juries_42 ?_
        refine r_iald (h0 1 (Nat.le_of_ble_eq_true rfl)) rfl rfl 44 rfl dX9_juries_43 (fun v6 => ?_)
        refine r_iload_n 2 3 rfl rfl 45 rfl dX9_juries_44 ?_
        refine r_iadd 46 rfl dX9_juries_45 ?_
        refine r_ldc (v := 99999) w_X9_juries_2 48 rfl dX9_juries_46 ?_
        refine r_icmp_le 53 51 rfl rfl dX9_juries_48 ?_ ?_
        · refine r_aload_n 0 1 rfl rfl 54 rfl dX9_juries_53 ?_
          refine r_get (h0 0 (Nat.le_of_ble_eq_true rfl)) rfl (Nat.le_of_ble_eq_true rfl) rfl rfl w_X9_juries_1 1 (Nat.le_of_ble_eq_true rfl) rfl w_X9_juries_0 (.ref (E.2.1 + (o0 + 1))) rfl 57 rfl dX9_juries_54 ?_
          refine r_iload_n 3 0 rfl rfl 58 rfl dX9_juries_57 ?_
          refine r_dup2 rfl rfl 59 rfl dX9_juries_58 ?_
          refine r_iald (h0 1 (Nat.le_of_ble_eq_true rfl)) rfl rfl 60 rfl dX9_juries_59 (fun v7 => ?_)
          refine r_iload_n 2 3 rfl rfl 61 rfl dX9_juries_60 ?_
          refine r_iadd 62 rfl dX9_juries_61 ?_
          refine r_iast (h0 1 (Nat.le_of_ble_eq_true rfl)) rfl rfl 63 rfl dX9_juries_62 (fun d8 => ?_)
          refine r_aload_n 0 1 rfl rfl 64 rfl dX9_juries_63 ?_
          refine r_get (h0 0 (Nat.le_of_ble_eq_true rfl)) rfl (Nat.le_of_ble_eq_true rfl) rfl rfl w_X9_juries_1 1 (Nat.le_of_ble_eq_true rfl) rfl w_X9_juries_0 (.ref (E.2.1 + (o0 + 1))) rfl 67 rfl dX9_juries_64 ?_
          refine r_iload_n 3 0 rfl rfl 68 rfl dX9_juries_67 ?_
          refine r_iald (h0 1 (Nat.le_of_ble_eq_true rfl)) rfl rfl 69 rfl dX9_juries_68 (fun v9 => ?_)
          exact r_ireturn rfl rfl (Nat.le_of_ble_eq_true rfl) (Nat.le_of_ble_eq_true rfl) dX9_juries_69
        · refine r_iconst (-1) rfl 52 rfl dX9_juries_51 ?_
          exact r_ireturn rfl rfl (Nat.le_of_ble_eq_true rfl) (Nat.le_of_ble_eq_true rfl) dX9_juries_52
      · refine r_iconst (-1) rfl 27 rfl dX9_juries_26 ?_
        exact r_ireturn rfl rfl (Nat.le_of_ble_eq_true rfl) (Nat.le_of_ble_eq_true rfl) dX9_juries_27
def Y_X9_jury : z_Y := (RX9, cX9_jury, 3, wsX9_jury, (some .int), { frames := 4, cells := 0, slots := 0, locals := 87 }, 0, 0)
theorem ok_X9_jury : z_Ok yX9_jury Y_X9_jury 2 := ⟨⟨_, rfl⟩, rfl, rfl, rfl, by decide +kernel, by decide +kernel⟩
theorem w_X9_jury_0 : Cond.fieldLink RX9 39 "BunchTimesModel" "thrown" "I" ∈ wsX9_jury := by decide +kernel
theorem w_X9_jury_1 : ∀ w ∈ u_ws RX9 TX9 18, w ∈ wsX9_jury := by decide +kernel
def f_X9_jury (d : z_D) (o0 : Nat) (x1 : Int32) (x2 : Int32) : Option (Int32 × z_D) := z_put d o0 0 0 (fun d1 => z_bX (f_X9_juries d1 o0 x1 x2) (fun v2 d3 => (some (v2, d3))))
set_option maxHeartbeats 4000000 in
set_option maxRecDepth 100000 in
theorem c_X9_jury {E : z_E} {l : Launch} {S : z_S} (d : z_D) (o0 : Nat) (h0 : A_Model S o0) (x1 : Int32) (x2 : Int32) : z_Sp E l yX9_jury Y_X9_jury (cvX S) [.ref (E.2.1 + o0), .int x1, .int x2] (S, d) (f_X9_jury d o0 x1 x2) := by
  refine z_entry (lv := [(0, .ref (E.2.1 + o0)), (1, .int x1), (2, .int x2)]) (by decide) rfl rfl (Nat.le_of_ble_eq_true rfl) rfl ?_
  unfold f_X9_jury
  refine r_aload_n 0 0 rfl rfl 1 rfl dX9_jury_0 ?_
  refine r_iconst 0 rfl 2 rfl dX9_jury_1 ?_
  refine r_put (h0 0 (Nat.le_of_ble_eq_true rfl)) rfl (Nat.le_of_ble_eq_true rfl) rfl rfl w_X9_jury_1 tyX9 tyX9_ok nmX9 (Nat.le_of_ble_eq_true rfl) rfl w_X9_jury_0 rfl rfl rfl rfl rfl 5 rfl dX9_jury_2 (fun d1 => ?_)
  refine r_aload_n 0 0 rfl rfl 6 rfl dX9_jury_5 ?_
  refine r_iload_n 1 1 rfl rfl 7 rfl dX9_jury_6 ?_
  refine r_iload_n 2 2 rfl rfl 8 rfl dX9_jury_7 ?_
  refine r_callV_X (c_X9_juries (E := E) (l := l) (S := S) d1 o0 h0 x1 x2) ok_X9_juries ⟨⟨(Nat.le_of_ble_eq_true rfl), (Nat.le_of_ble_eq_true rfl)⟩, (Nat.le_of_ble_eq_true rfl), (Nat.le_of_ble_eq_true rfl)⟩ (h0 0 (Nat.le_of_ble_eq_true rfl)) (Nat.le_of_ble_eq_true rfl) rfl rfl rfl (Nat.le_of_ble_eq_true rfl) gX9_jury_X9_juries rfl rfl 11 rfl dX9_jury_8 (fun v2 d3 => ?_)
  exact r_ireturn rfl rfl (Nat.le_of_ble_eq_true rfl) (Nat.le_of_ble_eq_true rfl) dX9_jury_11
def Y_X9_graces : z_Y := (RX9, cX9_graces, 2, wsX9_graces, (some .boolean), { frames := 3, cells := 0, slots := 0, locals := 64 }, 0, 0)
theorem ok_X9_graces : z_Ok yX9_graces Y_X9_graces 1 := ⟨⟨_, rfl⟩, rfl, rfl, rfl, by decide +kernel, by decide +kernel⟩
theorem w_X9_graces_0 : Cond.fieldLink RX9 7 "BunchTimesModel" "row" "[I" ∈ wsX9_graces := by decide +kernel
theorem w_X9_graces_1 : ∀ w ∈ u_ws RX9 TX9 18, w ∈ wsX9_graces := by decide +kernel
def f_X9_graces (d : z_D) (o0 : Nat) (x1 : Int32) : Option (Int32 × z_D) := ((f_X9_isOpen d o0).bind fun v1 => (if v1 = 0 then (some (0, d)) else ((f_X9_isThere d o0 x1).bind fun v2 => (if v2 = 0 then (some (0, d)) else ((f_X9_latest d o0).bind fun v3 => ((f_X9_at_ v3 x1 4).bind fun v4 => z_ald d (o0 + 1) 2656 v4 (fun v5 => (if v5 = 1 then (some (0, d)) else ((f_X9_latest d o0).bind fun v6 => ((f_X9_at_ v6 x1 4).bind fun v7 => z_ast d (o0 + 1) 2656 v7 1 (fun d8 => (some (1, d8)))))))))))))
set_option maxHeartbeats 4000000 in
set_option maxRecDepth 100000 in
theorem c_X9_graces {E : z_E} {l : Launch} {S : z_S} (d : z_D) (o0 : Nat) (h0 : A_Model S o0) (x1 : Int32) : z_Sp E l yX9_graces Y_X9_graces (cvX S) [.ref (E.2.1 + o0), .int x1] (S, d) (f_X9_graces d o0 x1) := by
  refine z_entry (lv := [(0, .ref (E.2.1 + o0)), (1, .int x1)]) (by decide) rfl rfl (Nat.le_of_ble_eq_true rfl) rfl ?_
  unfold f_X9_graces
  refine r_aload_n 0 0 rfl rfl 1 rfl dX9_graces_0 ?_
  refine r_callV_I (c_X9_isOpen (E := E) (l := l) (S := S) d o0 h0) ok_X9_isOpen ⟨⟨(Nat.le_of_ble_eq_true rfl), (Nat.le_of_ble_eq_true rfl)⟩, (Nat.le_of_ble_eq_true rfl), (Nat.le_of_ble_eq_true rfl)⟩ (h0 0 (Nat.le_of_ble_eq_true rfl)) (Nat.le_of_ble_eq_true rfl) rfl rfl rfl (Nat.le_of_ble_eq_true rfl) gX9_graces_X9_isOpen rfl rfl 4 rfl dX9_graces_1 (fun v1 => ?_)
  refine r_if_eq 33 7 rfl rfl dX9_graces_4 ?_ ?_
  · refine r_iconst 0 rfl 34 rfl dX9_graces_33 ?_
    exact r_zreturnc (by decide) rfl rfl (Nat.le_of_ble_eq_true rfl) (Nat.le_of_ble_eq_true rfl) dX9_graces_34
  · refine r_aload_n 0 0 rfl rfl 8 rfl dX9_graces_7 ?_
    refine r_iload_n 1 1 rfl rfl 9 rfl dX9_graces_8 ?_
    refine r_callV_I (c_X9_isThere (E := E) (l := l) (S := S) d o0 h0 x1) ok_X9_isThere ⟨⟨(Nat.le_of_ble_eq_true rfl), (Nat.le_of_ble_eq_true rfl)⟩, (Nat.le_of_ble_eq_true rfl), (Nat.le_of_ble_eq_true rfl)⟩ (h0 0 (Nat.le_of_ble_eq_true rfl)) (Nat.le_of_ble_eq_true rfl) rfl rfl rfl (Nat.le_of_ble_eq_true rfl) gX9_graces_X9_isThere rfl rfl 12 rfl dX9_graces_9 (fun v2 => ?_)
    refine r_if_eq 33 15 rfl rfl dX9_graces_12 ?_ ?_
    · refine r_iconst 0 rfl 34 rfl dX9_graces_33 ?_
      exact r_zreturnc (by decide) rfl rfl (Nat.le_of_ble_eq_true rfl) (Nat.le_of_ble_eq_true rfl) dX9_graces_34
    · refine r_aload_n 0 0 rfl rfl 16 rfl dX9_graces_15 ?_
      refine r_get (h0 0 (Nat.le_of_ble_eq_true rfl)) rfl (Nat.le_of_ble_eq_true rfl) rfl rfl w_X9_graces_1 1 (Nat.le_of_ble_eq_true rfl) rfl w_X9_graces_0 (.ref (E.2.1 + (o0 + 1))) rfl 19 rfl dX9_graces_16 ?_
      refine r_aload_n 0 0 rfl rfl 20 rfl dX9_graces_19 ?_
      refine r_callV_I (c_X9_latest (E := E) (l := l) (S := S) d o0 h0) ok_X9_latest ⟨⟨(Nat.le_of_ble_eq_true rfl), (Nat.le_of_ble_eq_true rfl)⟩, (Nat.le_of_ble_eq_true rfl), (Nat.le_of_ble_eq_true rfl)⟩ (h0 0 (Nat.le_of_ble_eq_true rfl)) (Nat.le_of_ble_eq_true rfl) rfl rfl rfl (Nat.le_of_ble_eq_true rfl) gX9_graces_X9_latest rfl rfl 23 rfl dX9_graces_20 (fun v3 => ?_)
      refine r_iload_n 1 1 rfl rfl 24 rfl dX9_graces_23 ?_
      refine r_iconst 4 rfl 25 rfl dX9_graces_24 ?_
      refine r_callS_I (c_X9_at_ (E := E) (l := l) (S := S) d v3 x1 4) ok_X9_at_ ⟨⟨(Nat.le_of_ble_eq_true rfl), (Nat.le_of_ble_eq_true rfl)⟩, (Nat.le_of_ble_eq_true rfl), (Nat.le_of_ble_eq_true rfl)⟩ rfl (Nat.le_of_ble_eq_true rfl) gX9_graces_X9_at_ rfl rfl 28 rfl dX9_graces_25 (fun v4 => ?_)
      refine r_iald (h0 1 (Nat.le_of_ble_eq_true rfl)) rfl rfl 29 rfl dX9_graces_28 (fun v5 => ?_)
      refine r_iconst 1 rfl 30 rfl dX9_graces_29 ?_
      refine r_icmp_ne 35 33 rfl rfl dX9_graces_30 ?_ ?_
      · refine r_aload_n 0 0 rfl rfl 36 rfl dX9_graces_35 ?_
        refine r_get (h0 0 (Nat.le_of_ble_eq_true rfl)) rfl (Nat.le_of_ble_eq_true rfl) rfl rfl w_X9_graces_1 1 (Nat.le_of_ble_eq_true rfl) rfl w_X9_graces_0 (.ref (E.2.1 + (o0 + 1))) rfl 39 rfl dX9_graces_36 ?_
        refine r_aload_n 0 0 rfl rfl 40 rfl dX9_graces_39 ?_
        refine r_callV_I (c_X9_latest (E := E) (l := l) (S := S) d o0 h0) ok_X9_latest ⟨⟨(Nat.le_of_ble_eq_true rfl), (Nat.le_of_ble_eq_true rfl)⟩, (Nat.le_of_ble_eq_true rfl), (Nat.le_of_ble_eq_true rfl)⟩ (h0 0 (Nat.le_of_ble_eq_true rfl)) (Nat.le_of_ble_eq_true rfl) rfl rfl rfl (Nat.le_of_ble_eq_true rfl) gX9_graces_X9_latest rfl rfl 43 rfl dX9_graces_40 (fun v6 => ?_)
        refine r_iload_n 1 1 rfl rfl 44 rfl dX9_graces_43 ?_
        refine r_iconst 4 rfl 45 rfl dX9_graces_44 ?_
        refine r_callS_I (c_X9_at_ (E := E) (l := l) (S := S) d v6 x1 4) ok_X9_at_ ⟨⟨(Nat.le_of_ble_eq_true rfl), (Nat.le_of_ble_eq_true rfl)⟩, (Nat.le_of_ble_eq_true rfl), (Nat.le_of_ble_eq_true rfl)⟩ rfl (Nat.le_of_ble_eq_true rfl) gX9_graces_X9_at_ rfl rfl 48 rfl dX9_graces_45 (fun v7 => ?_)
        refine r_iconst 1 rfl 49 rfl dX9_graces_48 ?_
        refine r_iast (h0 1 (Nat.le_of_ble_eq_true rfl)) rfl rfl 50 rfl dX9_graces_49 (fun d8 => ?_)
        refine r_iconst 1 rfl 51 rfl dX9_graces_50 ?_
        exact r_zreturnc (by decide) rfl rfl (Nat.le_of_ble_eq_true rfl) (Nat.le_of_ble_eq_true rfl) dX9_graces_51
      · refine r_iconst 0 rfl 34 rfl dX9_graces_33 ?_
        exact r_zreturnc (by decide) rfl rfl (Nat.le_of_ble_eq_true rfl) (Nat.le_of_ble_eq_true rfl) dX9_graces_34
def Y_X9_grace : z_Y := (RX9, cX9_grace, 2, wsX9_grace, (some .boolean), { frames := 4, cells := 0, slots := 0, locals := 85 }, 0, 0)
theorem ok_X9_grace : z_Ok yX9_grace Y_X9_grace 1 := ⟨⟨_, rfl⟩, rfl, rfl, rfl, by decide +kernel, by decide +kernel⟩
theorem w_X9_grace_0 : Cond.fieldLink RX9 39 "BunchTimesModel" "thrown" "I" ∈ wsX9_grace := by decide +kernel
theorem w_X9_grace_1 : ∀ w ∈ u_ws RX9 TX9 18, w ∈ wsX9_grace := by decide +kernel
def f_X9_grace (d : z_D) (o0 : Nat) (x1 : Int32) : Option (Int32 × z_D) := z_put d o0 0 0 (fun d1 => z_bX (f_X9_graces d1 o0 x1) (fun v2 d3 => (z_bool v2 (some (v2, d3)))))
set_option maxHeartbeats 4000000 in
set_option maxRecDepth 100000 in
theorem c_X9_grace {E : z_E} {l : Launch} {S : z_S} (d : z_D) (o0 : Nat) (h0 : A_Model S o0) (x1 : Int32) : z_Sp E l yX9_grace Y_X9_grace (cvX S) [.ref (E.2.1 + o0), .int x1] (S, d) (f_X9_grace d o0 x1) := by
  refine z_entry (lv := [(0, .ref (E.2.1 + o0)), (1, .int x1)]) (by decide) rfl rfl (Nat.le_of_ble_eq_true rfl) rfl ?_
  unfold f_X9_grace
  refine r_aload_n 0 0 rfl rfl 1 rfl dX9_grace_0 ?_
  refine r_iconst 0 rfl 2 rfl dX9_grace_1 ?_
  refine r_put (h0 0 (Nat.le_of_ble_eq_true rfl)) rfl (Nat.le_of_ble_eq_true rfl) rfl rfl w_X9_grace_1 tyX9 tyX9_ok nmX9 (Nat.le_of_ble_eq_true rfl) rfl w_X9_grace_0 rfl rfl rfl rfl rfl 5 rfl dX9_grace_2 (fun d1 => ?_)
  refine r_aload_n 0 0 rfl rfl 6 rfl dX9_grace_5 ?_
  refine r_iload_n 1 1 rfl rfl 7 rfl dX9_grace_6 ?_
  refine r_callV_X (c_X9_graces (E := E) (l := l) (S := S) d1 o0 h0 x1) ok_X9_graces ⟨⟨(Nat.le_of_ble_eq_true rfl), (Nat.le_of_ble_eq_true rfl)⟩, (Nat.le_of_ble_eq_true rfl), (Nat.le_of_ble_eq_true rfl)⟩ (h0 0 (Nat.le_of_ble_eq_true rfl)) (Nat.le_of_ble_eq_true rfl) rfl rfl rfl (Nat.le_of_ble_eq_true rfl) gX9_grace_X9_graces rfl rfl 10 rfl dX9_grace_7 (fun v2 d3 => ?_)
  exact r_zreturn rfl rfl (Nat.le_of_ble_eq_true rfl) (Nat.le_of_ble_eq_true rfl) dX9_grace_10
def Y_X9_quits : z_Y := (RX9, cX9_quits, 7, wsX9_quits, (some .boolean), { frames := 3, cells := 0, slots := 0, locals := 64 }, 0, 0)
theorem ok_X9_quits : z_Ok yX9_quits Y_X9_quits 1 := ⟨⟨_, rfl⟩, rfl, rfl, rfl, by decide +kernel, by decide +kernel⟩
theorem w_X9_quits_0 : Cond.fieldLink RX9 7 "BunchTimesModel" "row" "[I" ∈ wsX9_quits := by decide +kernel
theorem w_X9_quits_1 : ∀ w ∈ u_ws RX9 TX9 18, w ∈ wsX9_quits := by decide +kernel
def f_X9_quits_L38_b (o0 : Nat) (x1 : Int32) (x2 : Int32) (K : z_D → Option (Int32 × z_D)) (R : Int32 → z_D → Option (Int32 × z_D)) (x3 : Int32) (d : z_D) : Option (Int32 × z_D) := (if 12 ≤ x3 then (K d) else ((f_X9_at_ x2 x1 x3).bind fun v5 => z_ast d (o0 + 1) 2656 v5 0 (fun d6 => (R (x3 + 1) d6))))
def f_X9_quits_L38 (o0 : Nat) (x1 : Int32) (x2 : Int32) (K : z_D → Option (Int32 × z_D)) : Nat → Int32 → z_D → Option (Int32 × z_D)
  | 0 => fun _ _ => none
  | n + 1 => f_X9_quits_L38_b o0 x1 x2 K (f_X9_quits_L38 o0 x1 x2 K n)
set_option maxHeartbeats 4000000 in
set_option maxRecDepth 100000 in
theorem g_X9_quits_L38 {E : z_E} {l : Launch} {S : z_S} {o0 : Nat} {x1 : Int32} {x2 : Int32} {K : z_D → Option (Int32 × z_D)} (h0 : A_Model S o0) (hK : ∀ (d9 : z_D), z_G E l Y_X9_quits (cvX S) (K d9) 62 [(0, .ref (E.2.1 + o0)), (1, .int x1), (2, .int x2)] [] (S, d9) 0 0) : ∀ (n : Nat) (x3 : Int32) (d : z_D), z_G E l Y_X9_quits (cvX S) (f_X9_quits_L38 o0 x1 x2 K n x3 d) 38 [(0, .ref (E.2.1 + o0)), (1, .int x1), (2, .int x2), (3, .int x3)] [] (S, d) 0 0 := by
  intro n
  induction n with
  | zero => intro _ _; exact r_none
  | succ n ih =>
    intro x3 d
    show z_G E l Y_X9_quits (cvX S) (f_X9_quits_L38_b o0 x1 x2 K (f_X9_quits_L38 o0 x1 x2 K n) x3 d) 38 [(0, .ref (E.2.1 + o0)), (1, .int x1), (2, .int x2), (3, .int x3)] [] (S, d) 0 0
    unfold f_X9_quits_L38_b
    refine r_iload_n 3 3 rfl rfl 39 rfl dX9_quits_38 ?_
    refine r_bipush 12 rfl 41 rfl dX9_quits_39 ?_
    refine r_icmp_ge 62 44 rfl rfl dX9_quits_41 ?_ ?_
    · refine r_sub [0, 1, 2] rfl ?_
      exact hK d
    · refine r_aload_n 0 0 rfl rfl 45 rfl dX9_quits_44 ?_
      refine r_get (h0 0 (Nat.le_of_ble_eq_true rfl)) rfl (Nat.le_of_ble_eq_true rfl) rfl rfl w_X9_quits_1 1 (Nat.le_of_ble_eq_true rfl) rfl w_X9_quits_0 (.ref (E.2.1 + (o0 + 1))) rfl 48 rfl dX9_quits_45 ?_
      refine r_iload_n 2 2 rfl rfl 49 rfl dX9_quits_48 ?_
      refine r_iload_n 1 1 rfl rfl 50 rfl dX9_quits_49 ?_
      refine r_iload_n 3 3 rfl rfl 51 rfl dX9_quits_50 ?_
      refine r_callS_I (c_X9_at_ (E := E) (l := l) (S := S) d x2 x1 x3) ok_X9_at_ ⟨⟨(Nat.le_of_ble_eq_true rfl), (Nat.le_of_ble_eq_true rfl)⟩, (Nat.le_of_ble_eq_true rfl), (Nat.le_of_ble_eq_true rfl)⟩ rfl (Nat.le_of_ble_eq_true rfl) gX9_quits_X9_at_ rfl rfl 54 rfl dX9_quits_51 (fun v5 => ?_)
      refine r_iconst 0 rfl 55 rfl dX9_quits_54 ?_
      refine r_iast (h0 1 (Nat.le_of_ble_eq_true rfl)) rfl rfl 56 rfl dX9_quits_55 (fun d6 => ?_)
      refine r_iinc (x3 + 1) 3 rfl rfl [(3, .int (x3 + 1)), (0, .ref (E.2.1 + o0)), (1, .int x1), (2, .int x2)] (Nat.le_of_ble_eq_true rfl) rfl 59 rfl dX9_quits_56 ?_
      refine r_goto 38 rfl dX9_quits_59 ?_
      refine r_sub [1, 2, 3, 0] rfl ?_
      exact ih (x3 + 1) d6
def f_X9_quits_L96_b (o0 : Nat) (x1 : Int32) (x2 : Int32) (x3 : Int32) (K : Int32 → z_D → Option (Int32 × z_D)) (R : Int32 → Int32 → z_D → Option (Int32 × z_D)) (x4 : Int32) (x5 : Int32) (d : z_D) : Option (Int32 × z_D) := ((f_X9_mark x2 x3 2).bind fun v12 => z_ald d (o0 + 1) 2656 v12 (fun v13 => (if v13 ≤ x5 then (K x4 d) else ((f_X9_mark x2 x3 (3 + x5)).bind fun v14 => z_ald d (o0 + 1) 2656 v14 (fun v15 => ((f_X9_mark x2 x3 (3 + x4)).bind fun v16 => z_ast d (o0 + 1) 2656 v16 v15 (fun d17 => (if v15 = x1 then z_nam (x4 + 0) (fun v19 => (R v19 (x5 + 1) d17)) else z_nam (x4 + 1) (fun v18 => (R v18 (x5 + 1) d17))))))))))
def f_X9_quits_L96 (o0 : Nat) (x1 : Int32) (x2 : Int32) (x3 : Int32) (K : Int32 → z_D → Option (Int32 × z_D)) : Nat → Int32 → Int32 → z_D → Option (Int32 × z_D)
  | 0 => fun _ _ _ => none
  | n + 1 => f_X9_quits_L96_b o0 x1 x2 x3 K (f_X9_quits_L96 o0 x1 x2 x3 K n)
set_option maxHeartbeats 4000000 in
set_option maxRecDepth 100000 in
theorem g_X9_quits_L96 {E : z_E} {l : Launch} {S : z_S} {o0 : Nat} {x1 : Int32} {x2 : Int32} {x3 : Int32} {K : Int32 → z_D → Option (Int32 × z_D)} (h0 : A_Model S o0) (hK : ∀ (y4 : Int32) (d9 : z_D), z_G E l Y_X9_quits (cvX S) (K y4 d9) 166 [(0, .ref (E.2.1 + o0)), (1, .int x1), (2, .int x2), (3, .int x3), (4, .int y4)] [] (S, d9) 0 0) : ∀ (n : Nat) (x4 : Int32) (x5 : Int32) (d : z_D), z_G E l Y_X9_quits (cvX S) (f_X9_quits_L96 o0 x1 x2 x3 K n x4 x5 d) 96 [(0, .ref (E.2.1 + o0)), (1, .int x1), (2, .int x2), (3, .int x3), (4, .int x4), (5, .int x5)] [] (S, d) 0 0 := by
  intro n
  induction n with
  | zero => intro _ _ _; exact r_none
  | succ n ih =>
    intro x4 x5 d
    show z_G E l Y_X9_quits (cvX S) (f_X9_quits_L96_b o0 x1 x2 x3 K (f_X9_quits_L96 o0 x1 x2 x3 K n) x4 x5 d) 96 [(0, .ref (E.2.1 + o0)), (1, .int x1), (2, .int x2), (3, .int x3), (4, .int x4), (5, .int x5)] [] (S, d) 0 0
    unfold f_X9_quits_L96_b
    refine r_iload 5 5 rfl 98 rfl dX9_quits_96 ?_
    refine r_aload_n 0 0 rfl rfl 99 rfl dX9_quits_98 ?_
    refine r_get (h0 0 (Nat.le_of_ble_eq_true rfl)) rfl (Nat.le_of_ble_eq_true rfl) rfl rfl w_X9_quits_1 1 (Nat.le_of_ble_eq_true rfl) rfl w_X9_quits_0 (.ref (E.2.1 + (o0 + 1))) rfl 102 rfl dX9_quits_99 ?_
    refine r_iload_n 2 2 rfl rfl 103 rfl dX9_quits_102 ?_
    refine r_iload_n 3 3 rfl rfl 104 rfl dX9_quits_103 ?_
    refine r_iconst 2 rfl 105 rfl dX9_quits_104 ?_
    refine r_callS_I (c_X9_mark (E := E) (l := l) (S := S) d x2 x3 2) ok_X9_mark ⟨⟨(Nat.le_of_ble_eq_true rfl), (Nat.le_of_ble_eq_true rfl)⟩, (Nat.le_of_ble_eq_true rfl), (Nat.le_of_ble_eq_true rfl)⟩ rfl (Nat.le_of_ble_eq_true rfl) gX9_quits_X9_mark rfl rfl 108 rfl dX9_quits_105 (fun v12 => ?_)
    refine r_iald (h0 1 (Nat.le_of_ble_eq_true rfl)) rfl rfl 109 rfl dX9_quits_108 (fun v13 => ?_)
    refine r_icmp_ge 166 112 rfl rfl dX9_quits_109 ?_ ?_
    · refine r_sub [0, 1, 2, 3, 4] rfl ?_
      exact hK x4 d
    · refine r_aload_n 0 0 rfl rfl 113 rfl dX9_quits_112 ?_
      refine r_get (h0 0 (Nat.le_of_ble_eq_true rfl)) rfl (Nat.le_of_ble_eq_true rfl) rfl rfl w_X9_quits_1 1 (Nat.le_of_ble_eq_true rfl) rfl w_X9_quits_0 (.ref (E.2.1 + (o0 + 1))) rfl 116 rfl dX9_quits_113 ?_
      refine r_iload_n 2 2 rfl rfl 117 rfl dX9_quits_116 ?_
      refine r_iload_n 3 3 rfl rfl 118 rfl dX9_quits_117 ?_
      refine r_iconst 3 rfl 119 rfl dX9_quits_118 ?_
      refine r_iload 5 5 rfl 121 rfl dX9_quits_119 ?_
      refine r_iadd 122 rfl dX9_quits_121 ?_
      refine r_callS_I (c_X9_mark (E := E) (l := l) (S := S) d x2 x3 (3 + x5)) ok_X9_mark ⟨⟨(Nat.le_of_ble_eq_true rfl), (Nat.le_of_ble_eq_true rfl)⟩, (Nat.le_of_ble_eq_true rfl), (Nat.le_of_ble_eq_true rfl)⟩ rfl (Nat.le_of_ble_eq_true rfl) gX9_quits_X9_mark rfl rfl 125 rfl dX9_quits_122 (fun v14 => ?_)
      refine r_iald (h0 1 (Nat.le_of_ble_eq_true rfl)) rfl rfl 126 rfl dX9_quits_125 (fun v15 => ?_)
      refine r_istore 6 [(6, .int v15), (0, .ref (E.2.1 + o0)), (1, .int x1), (2, .int x2), (3, .int x3), (4, .int x4), (5, .int x5)] (Nat.le_of_ble_eq_true rfl) rfl 128 rfl dX9_quits_126 ?_
      refine r_aload_n 0 1 rfl rfl 129 rfl dX9_quits_128 ?_
      refine r_get (h0 0 (Nat.le_of_ble_eq_true rfl)) rfl (Nat.le_of_ble_eq_true rfl) rfl rfl w_X9_quits_1 1 (Nat.le_of_ble_eq_true rfl) rfl w_X9_quits_0 (.ref (E.2.1 + (o0 + 1))) rfl 132 rfl dX9_quits_129 ?_
      refine r_iload_n 2 3 rfl rfl 133 rfl dX9_quits_132 ?_
      refine r_iload_n 3 4 rfl rfl 134 rfl dX9_quits_133 ?_
      refine r_iconst 3 rfl 135 rfl dX9_quits_134 ?_
      refine r_iload 4 5 rfl 137 rfl dX9_quits_135 ?_
      refine r_iadd 138 rfl dX9_quits_137 ?_
      refine r_callS_I (c_X9_mark (E := E) (l := l) (S := S) d x2 x3 (3 + x4)) ok_X9_mark ⟨⟨(Nat.le_of_ble_eq_true rfl), (Nat.le_of_ble_eq_true rfl)⟩, (Nat.le_of_ble_eq_true rfl), (Nat.le_of_ble_eq_true rfl)⟩ rfl (Nat.le_of_ble_eq_true rfl) gX9_quits_X9_mark rfl rfl 141 rfl dX9_quits_138 (fun v16 => ?_)
      refine r_iload 6 0 rfl 143 rfl dX9_quits_141 ?_
      refine r_iast (h0 1 (Nat.le_of_ble_eq_true rfl)) rfl rfl 144 rfl dX9_quits_143 (fun d17 => ?_)
      refine r_iload 4 5 rfl 146 rfl dX9_quits_144 ?_
      refine r_iload 6 0 rfl 148 rfl dX9_quits_146 ?_
      refine r_iload_n 1 2 rfl rfl 149 rfl dX9_quits_148 ?_
      refine r_icmp_ne 156 152 rfl rfl dX9_quits_149 ?_ ?_
      · refine r_iconst 1 rfl 157 rfl dX9_quits_156 ?_
        refine r_iadd 158 rfl dX9_quits_157 ?_
        refine r_nami (fun v18 => ?_)
        refine r_istore 4 [(4, .int v18), (6, .int v15), (0, .ref (E.2.1 + o0)), (1, .int x1), (2, .int x2), (3, .int x3), (5, .int x5)] (Nat.le_of_ble_eq_true rfl) rfl 160 rfl dX9_quits_158 ?_
        refine r_iinc (x5 + 1) 6 rfl rfl [(5, .int (x5 + 1)), (4, .int v18), (6, .int v15), (0, .ref (E.2.1 + o0)), (1, .int x1), (2, .int x2), (3, .int x3)] (Nat.le_of_ble_eq_true rfl) rfl 163 rfl dX9_quits_160 ?_
        refine r_goto 96 rfl dX9_quits_163 ?_
        refine r_sub [3, 4, 5, 6, 1, 0] rfl ?_
        exact ih v18 (x5 + 1) d17
      · refine r_iconst 0 rfl 153 rfl dX9_quits_152 ?_
        refine r_goto 157 rfl dX9_quits_153 ?_
        refine r_iadd 158 rfl dX9_quits_157 ?_
        refine r_nami (fun v19 => ?_)
        refine r_istore 4 [(4, .int v19), (6, .int v15), (0, .ref (E.2.1 + o0)), (1, .int x1), (2, .int x2), (3, .int x3), (5, .int x5)] (Nat.le_of_ble_eq_true rfl) rfl 160 rfl dX9_quits_158 ?_
        refine r_iinc (x5 + 1) 6 rfl rfl [(5, .int (x5 + 1)), (4, .int v19), (6, .int v15), (0, .ref (E.2.1 + o0)), (1, .int x1), (2, .int x2), (3, .int x3)] (Nat.le_of_ble_eq_true rfl) rfl 163 rfl dX9_quits_160 ?_
        refine r_goto 96 rfl dX9_quits_163 ?_
        refine r_sub [3, 4, 5, 6, 1, 0] rfl ?_
        exact ih v19 (x5 + 1) d17
def f_X9_quits_L76_b (o0 : Nat) (x1 : Int32) (x2 : Int32) (K : z_D → Option (Int32 × z_D)) (R : Int32 → z_D → Option (Int32 × z_D)) (x3 : Int32) (d : z_D) : Option (Int32 × z_D) := ((f_X9_at x2 2).bind fun v10 => z_ald d (o0 + 1) 2656 v10 (fun v11 => (if v11 ≤ x3 then (K d) else (f_X9_quits_L96 o0 x1 x2 x3 (fun v21 d20 => ((f_X9_mark x2 x3 2).bind fun v22 => z_ast d20 (o0 + 1) 2656 v22 v21 (fun d23 => (R (x3 + 1) d23)))) z_N 0 0 d))))
def f_X9_quits_L76 (o0 : Nat) (x1 : Int32) (x2 : Int32) (K : z_D → Option (Int32 × z_D)) : Nat → Int32 → z_D → Option (Int32 × z_D)
  | 0 => fun _ _ => none
  | n + 1 => f_X9_quits_L76_b o0 x1 x2 K (f_X9_quits_L76 o0 x1 x2 K n)
set_option maxHeartbeats 4000000 in
set_option maxRecDepth 100000 in
theorem g_X9_quits_L76 {E : z_E} {l : Launch} {S : z_S} {o0 : Nat} {x1 : Int32} {x2 : Int32} {K : z_D → Option (Int32 × z_D)} (h0 : A_Model S o0) (hK : ∀ (d9 : z_D), z_G E l Y_X9_quits (cvX S) (K d9) 185 [] [] (S, d9) 0 0) : ∀ (n : Nat) (x3 : Int32) (d : z_D), z_G E l Y_X9_quits (cvX S) (f_X9_quits_L76 o0 x1 x2 K n x3 d) 76 [(0, .ref (E.2.1 + o0)), (1, .int x1), (2, .int x2), (3, .int x3)] [] (S, d) 0 0 := by
  intro n
  induction n with
  | zero => intro _ _; exact r_none
  | succ n ih =>
    intro x3 d
    show z_G E l Y_X9_quits (cvX S) (f_X9_quits_L76_b o0 x1 x2 K (f_X9_quits_L76 o0 x1 x2 K n) x3 d) 76 [(0, .ref (E.2.1 + o0)), (1, .int x1), (2, .int x2), (3, .int x3)] [] (S, d) 0 0
    unfold f_X9_quits_L76_b
    refine r_iload_n 3 3 rfl rfl 77 rfl dX9_quits_76 ?_
    refine r_aload_n 0 0 rfl rfl 78 rfl dX9_quits_77 ?_
    refine r_get (h0 0 (Nat.le_of_ble_eq_true rfl)) rfl (Nat.le_of_ble_eq_true rfl) rfl rfl w_X9_quits_1 1 (Nat.le_of_ble_eq_true rfl) rfl w_X9_quits_0 (.ref (E.2.1 + (o0 + 1))) rfl 81 rfl dX9_quits_78 ?_
    refine r_iload_n 2 2 rfl rfl 82 rfl dX9_quits_81 ?_
    refine r_iconst 2 rfl 83 rfl dX9_quits_82 ?_
    refine r_callS_I (c_X9_at (E := E) (l := l) (S := S) d x2 2) ok_X9_at ⟨⟨(Nat.le_of_ble_eq_true rfl), (Nat.le_of_ble_eq_true rfl)⟩, (Nat.le_of_ble_eq_true rfl), (Nat.le_of_ble_eq_true rfl)⟩ rfl (Nat.le_of_ble_eq_true rfl) gX9_quits_X9_at rfl rfl 86 rfl dX9_quits_83 (fun v10 => ?_)
    refine r_iald (h0 1 (Nat.le_of_ble_eq_true rfl)) rfl rfl 87 rfl dX9_quits_86 (fun v11 => ?_)
    refine r_icmp_ge 185 90 rfl rfl dX9_quits_87 ?_ ?_
    · refine r_sub [] rfl ?_
      exact hK d
    · refine r_iconst 0 rfl 91 rfl dX9_quits_90 ?_
      refine r_istore 4 [(4, .int 0), (0, .ref (E.2.1 + o0)), (1, .int x1), (2, .int x2), (3, .int x3)] (Nat.le_of_ble_eq_true rfl) rfl 93 rfl dX9_quits_91 ?_
      refine r_iconst 0 rfl 94 rfl dX9_quits_93 ?_
      refine r_istore 5 [(5, .int 0), (4, .int 0), (0, .ref (E.2.1 + o0)), (1, .int x1), (2, .int x2), (3, .int x3)] (Nat.le_of_ble_eq_true rfl) rfl 96 rfl dX9_quits_94 ?_
      refine r_sub [2, 3, 4, 5, 1, 0] rfl ?_
      refine g_X9_quits_L96 h0 (fun v21 d20 => ?_) z_N 0 0 d
      refine r_aload_n 0 0 rfl rfl 167 rfl dX9_quits_166 ?_
      refine r_get (h0 0 (Nat.le_of_ble_eq_true rfl)) rfl (Nat.le_of_ble_eq_true rfl) rfl rfl w_X9_quits_1 1 (Nat.le_of_ble_eq_true rfl) rfl w_X9_quits_0 (.ref (E.2.1 + (o0 + 1))) rfl 170 rfl dX9_quits_167 ?_
      refine r_iload_n 2 2 rfl rfl 171 rfl dX9_quits_170 ?_
      refine r_iload_n 3 3 rfl rfl 172 rfl dX9_quits_171 ?_
      refine r_iconst 2 rfl 173 rfl dX9_quits_172 ?_
      refine r_callS_I (c_X9_mark (E := E) (l := l) (S := S) d20 x2 x3 2) ok_X9_mark ⟨⟨(Nat.le_of_ble_eq_true rfl), (Nat.le_of_ble_eq_true rfl)⟩, (Nat.le_of_ble_eq_true rfl), (Nat.le_of_ble_eq_true rfl)⟩ rfl (Nat.le_of_ble_eq_true rfl) gX9_quits_X9_mark rfl rfl 176 rfl dX9_quits_173 (fun v22 => ?_)
      refine r_iload 4 4 rfl 178 rfl dX9_quits_176 ?_
      refine r_iast (h0 1 (Nat.le_of_ble_eq_true rfl)) rfl rfl 179 rfl dX9_quits_178 (fun d23 => ?_)
      refine r_iinc (x3 + 1) 3 rfl rfl [(3, .int (x3 + 1)), (0, .ref (E.2.1 + o0)), (1, .int x1), (2, .int x2), (4, .int v21)] (Nat.le_of_ble_eq_true rfl) rfl 182 rfl dX9_quits_179 ?_
      refine r_goto 76 rfl dX9_quits_182 ?_
      refine r_sub [1, 2, 3, 0] rfl ?_
      exact ih (x3 + 1) d23
def f_X9_quits (d : z_D) (o0 : Nat) (x1 : Int32) : Option (Int32 × z_D) := ((f_X9_isOpen d o0).bind fun v1 => (if v1 = 0 then (some (0, d)) else ((f_X9_isThere d o0 x1).bind fun v2 => (if v2 = 0 then (some (0, d)) else ((f_X9_latest d o0).bind fun v3 => z_ast d (o0 + 1) 2656 ((8 + (3 * x1)) + 2) 0 (fun d4 => (f_X9_quits_L38 o0 x1 v3 (fun d7 => ((f_X9_at_ v3 x1 1).bind fun v8 => z_ast d7 (o0 + 1) 2656 v8 (-1) (fun d9 => (f_X9_quits_L76 o0 x1 v3 (fun d24 => (some (1, d24))) z_N 0 d9)))) z_N 0 d4)))))))
set_option maxHeartbeats 4000000 in
set_option maxRecDepth 100000 in
theorem c_X9_quits {E : z_E} {l : Launch} {S : z_S} (d : z_D) (o0 : Nat) (h0 : A_Model S o0) (x1 : Int32) : z_Sp E l yX9_quits Y_X9_quits (cvX S) [.ref (E.2.1 + o0), .int x1] (S, d) (f_X9_quits d o0 x1) := by
  refine z_entry (lv := [(0, .ref (E.2.1 + o0)), (1, .int x1)]) (by decide) rfl rfl (Nat.le_of_ble_eq_true rfl) rfl ?_
  unfold f_X9_quits
  refine r_aload_n 0 0 rfl rfl 1 rfl dX9_quits_0 ?_
  refine r_callV_I (c_X9_isOpen (E := E) (l := l) (S := S) d o0 h0) ok_X9_isOpen ⟨⟨(Nat.le_of_ble_eq_true rfl), (Nat.le_of_ble_eq_true rfl)⟩, (Nat.le_of_ble_eq_true rfl), (Nat.le_of_ble_eq_true rfl)⟩ (h0 0 (Nat.le_of_ble_eq_true rfl)) (Nat.le_of_ble_eq_true rfl) rfl rfl rfl (Nat.le_of_ble_eq_true rfl) gX9_quits_X9_isOpen rfl rfl 4 rfl dX9_quits_1 (fun v1 => ?_)
  refine r_if_eq 15 7 rfl rfl dX9_quits_4 ?_ ?_
  · refine r_iconst 0 rfl 16 rfl dX9_quits_15 ?_
    exact r_zreturnc (by decide) rfl rfl (Nat.le_of_ble_eq_true rfl) (Nat.le_of_ble_eq_true rfl) dX9_quits_16
  · refine r_aload_n 0 0 rfl rfl 8 rfl dX9_quits_7 ?_
    refine r_iload_n 1 1 rfl rfl 9 rfl dX9_quits_8 ?_
    refine r_callV_I (c_X9_isThere (E := E) (l := l) (S := S) d o0 h0 x1) ok_X9_isThere ⟨⟨(Nat.le_of_ble_eq_true rfl), (Nat.le_of_ble_eq_true rfl)⟩, (Nat.le_of_ble_eq_true rfl), (Nat.le_of_ble_eq_true rfl)⟩ (h0 0 (Nat.le_of_ble_eq_true rfl)) (Nat.le_of_ble_eq_true rfl) rfl rfl rfl (Nat.le_of_ble_eq_true rfl) gX9_quits_X9_isThere rfl rfl 12 rfl dX9_quits_9 (fun v2 => ?_)
    refine r_if_ne 17 15 rfl rfl dX9_quits_12 ?_ ?_
    · refine r_aload_n 0 0 rfl rfl 18 rfl dX9_quits_17 ?_
      refine r_callV_I (c_X9_latest (E := E) (l := l) (S := S) d o0 h0) ok_X9_latest ⟨⟨(Nat.le_of_ble_eq_true rfl), (Nat.le_of_ble_eq_true rfl)⟩, (Nat.le_of_ble_eq_true rfl), (Nat.le_of_ble_eq_true rfl)⟩ (h0 0 (Nat.le_of_ble_eq_true rfl)) (Nat.le_of_ble_eq_true rfl) rfl rfl rfl (Nat.le_of_ble_eq_true rfl) gX9_quits_X9_latest rfl rfl 21 rfl dX9_quits_18 (fun v3 => ?_)
      refine r_istore_n 2 rfl [(2, .int v3), (0, .ref (E.2.1 + o0)), (1, .int x1)] (Nat.le_of_ble_eq_true rfl) rfl 22 rfl dX9_quits_21 ?_
      refine r_aload_n 0 1 rfl rfl 23 rfl dX9_quits_22 ?_
      refine r_get (h0 0 (Nat.le_of_ble_eq_true rfl)) rfl (Nat.le_of_ble_eq_true rfl) rfl rfl w_X9_quits_1 1 (Nat.le_of_ble_eq_true rfl) rfl w_X9_quits_0 (.ref (E.2.1 + (o0 + 1))) rfl 26 rfl dX9_quits_23 ?_
      refine r_bipush 8 rfl 28 rfl dX9_quits_26 ?_
      refine r_iconst 3 rfl 29 rfl dX9_quits_28 ?_
      refine r_iload_n 1 2 rfl rfl 30 rfl dX9_quits_29 ?_
      refine r_imul 31 rfl dX9_quits_30 ?_
      refine r_iadd 32 rfl dX9_quits_31 ?_
      refine r_iconst 2 rfl 33 rfl dX9_quits_32 ?_
      refine r_iadd 34 rfl dX9_quits_33 ?_
      refine r_iconst 0 rfl 35 rfl dX9_quits_34 ?_
      refine r_iast (h0 1 (Nat.le_of_ble_eq_true rfl)) rfl rfl 36 rfl dX9_quits_35 (fun d4 => ?_)
      refine r_iconst 0 rfl 37 rfl dX9_quits_36 ?_
      refine r_istore_n 3 rfl [(3, .int 0), (2, .int v3), (0, .ref (E.2.1 + o0)), (1, .int x1)] (Nat.le_of_ble_eq_true rfl) rfl 38 rfl dX9_quits_37 ?_
      refine r_sub [2, 3, 1, 0] rfl ?_
      refine g_X9_quits_L38 h0 (fun d7 => ?_) z_N 0 d4
      refine r_aload_n 0 0 rfl rfl 63 rfl dX9_quits_62 ?_
      refine r_get (h0 0 (Nat.le_of_ble_eq_true rfl)) rfl (Nat.le_of_ble_eq_true rfl) rfl rfl w_X9_quits_1 1 (Nat.le_of_ble_eq_true rfl) rfl w_X9_quits_0 (.ref (E.2.1 + (o0 + 1))) rfl 66 rfl dX9_quits_63 ?_
      refine r_iload_n 2 2 rfl rfl 67 rfl dX9_quits_66 ?_
      refine r_iload_n 1 1 rfl rfl 68 rfl dX9_quits_67 ?_
      refine r_iconst 1 rfl 69 rfl dX9_quits_68 ?_
      refine r_callS_I (c_X9_at_ (E := E) (l := l) (S := S) d7 v3 x1 1) ok_X9_at_ ⟨⟨(Nat.le_of_ble_eq_true rfl), (Nat.le_of_ble_eq_true rfl)⟩, (Nat.le_of_ble_eq_true rfl), (Nat.le_of_ble_eq_true rfl)⟩ rfl (Nat.le_of_ble_eq_true rfl) gX9_quits_X9_at_ rfl rfl 72 rfl dX9_quits_69 (fun v8 => ?_)
      refine r_iconst (-1) rfl 73 rfl dX9_quits_72 ?_
      refine r_iast (h0 1 (Nat.le_of_ble_eq_true rfl)) rfl rfl 74 rfl dX9_quits_73 (fun d9 => ?_)
      refine r_iconst 0 rfl 75 rfl dX9_quits_74 ?_
      refine r_istore_n 3 rfl [(3, .int 0), (0, .ref (E.2.1 + o0)), (1, .int x1), (2, .int v3)] (Nat.le_of_ble_eq_true rfl) rfl 76 rfl dX9_quits_75 ?_
      refine r_sub [1, 2, 3, 0] rfl ?_
      refine g_X9_quits_L76 h0 (fun d24 => ?_) z_N 0 d9
      refine r_iconst 1 rfl 186 rfl dX9_quits_185 ?_
      exact r_zreturnc (by decide) rfl rfl (Nat.le_of_ble_eq_true rfl) (Nat.le_of_ble_eq_true rfl) dX9_quits_186
    · refine r_iconst 0 rfl 16 rfl dX9_quits_15 ?_
      exact r_zreturnc (by decide) rfl rfl (Nat.le_of_ble_eq_true rfl) (Nat.le_of_ble_eq_true rfl) dX9_quits_16
def Y_X9_quit : z_Y := (RX9, cX9_quit, 2, wsX9_quit, (some .boolean), { frames := 4, cells := 0, slots := 0, locals := 90 }, 0, 0)
theorem ok_X9_quit : z_Ok yX9_quit Y_X9_quit 1 := ⟨⟨_, rfl⟩, rfl, rfl, rfl, by decide +kernel, by decide +kernel⟩
theorem w_X9_quit_0 : Cond.fieldLink RX9 39 "BunchTimesModel" "thrown" "I" ∈ wsX9_quit := by decide +kernel
theorem w_X9_quit_1 : ∀ w ∈ u_ws RX9 TX9 18, w ∈ wsX9_quit := by decide +kernel
def f_X9_quit (d : z_D) (o0 : Nat) (x1 : Int32) : Option (Int32 × z_D) := z_put d o0 0 0 (fun d1 => z_bX (f_X9_quits d1 o0 x1) (fun v2 d3 => (z_bool v2 (some (v2, d3)))))
set_option maxHeartbeats 4000000 in
set_option maxRecDepth 100000 in
theorem c_X9_quit {E : z_E} {l : Launch} {S : z_S} (d : z_D) (o0 : Nat) (h0 : A_Model S o0) (x1 : Int32) : z_Sp E l yX9_quit Y_X9_quit (cvX S) [.ref (E.2.1 + o0), .int x1] (S, d) (f_X9_quit d o0 x1) := by
  refine z_entry (lv := [(0, .ref (E.2.1 + o0)), (1, .int x1)]) (by decide) rfl rfl (Nat.le_of_ble_eq_true rfl) rfl ?_
  unfold f_X9_quit
  refine r_aload_n 0 0 rfl rfl 1 rfl dX9_quit_0 ?_
  refine r_iconst 0 rfl 2 rfl dX9_quit_1 ?_
  refine r_put (h0 0 (Nat.le_of_ble_eq_true rfl)) rfl (Nat.le_of_ble_eq_true rfl) rfl rfl w_X9_quit_1 tyX9 tyX9_ok nmX9 (Nat.le_of_ble_eq_true rfl) rfl w_X9_quit_0 rfl rfl rfl rfl rfl 5 rfl dX9_quit_2 (fun d1 => ?_)
  refine r_aload_n 0 0 rfl rfl 6 rfl dX9_quit_5 ?_
  refine r_iload_n 1 1 rfl rfl 7 rfl dX9_quit_6 ?_
  refine r_callV_X (c_X9_quits (E := E) (l := l) (S := S) d1 o0 h0 x1) ok_X9_quits ⟨⟨(Nat.le_of_ble_eq_true rfl), (Nat.le_of_ble_eq_true rfl)⟩, (Nat.le_of_ble_eq_true rfl), (Nat.le_of_ble_eq_true rfl)⟩ (h0 0 (Nat.le_of_ble_eq_true rfl)) (Nat.le_of_ble_eq_true rfl) rfl rfl rfl (Nat.le_of_ble_eq_true rfl) gX9_quit_X9_quits rfl rfl 10 rfl dX9_quit_7 (fun v2 d3 => ?_)
  exact r_zreturn rfl rfl (Nat.le_of_ble_eq_true rfl) (Nat.le_of_ble_eq_true rfl) dX9_quit_10
def Y_X9_rule : z_Y := (RX9, cX9_rule, 3, wsX9_rule, (some .boolean), { frames := 1, cells := 0, slots := 0, locals := 22 }, 0, 0)
theorem ok_X9_rule : z_Ok yX9_rule Y_X9_rule 2 := ⟨⟨_, rfl⟩, rfl, rfl, rfl, by decide +kernel, by decide +kernel⟩
theorem w_X9_rule_0 : Cond.fieldLink RX9 39 "BunchTimesModel" "thrown" "I" ∈ wsX9_rule := by decide +kernel
theorem w_X9_rule_1 : ∀ w ∈ u_ws RX9 TX9 18, w ∈ wsX9_rule := by decide +kernel
theorem w_X9_rule_2 : Cond.fieldLink RX9 7 "BunchTimesModel" "row" "[I" ∈ wsX9_rule := by decide +kernel
def f_X9_rule (d : z_D) (o0 : Nat) (x1 : Int32) (x2 : Int32) : Option (Int32 × z_D) := z_put d o0 0 0 (fun d1 => z_let (fun x_39 : Unit => z_ald d1 (o0 + 1) 2656 (4 + x1) (fun v2 => (if v2 = x2 then (some (0, d1)) else z_ast d1 (o0 + 1) 2656 (4 + x1) x2 (fun d3 => (some (1, d3)))))) (fun J39 => (if x1 = 0 then ((f_X9_isIn x2 1 99).bind fun v5 => (if v5 = 0 then (some (0, d1)) else (J39 ()))) else (if x1 = 1 then ((f_X9_isIn x2 0 9).bind fun v4 => (if v4 = 0 then (some (0, d1)) else (J39 ()))) else (some (0, d1))))))
set_option maxHeartbeats 4000000 in
set_option maxRecDepth 100000 in
theorem c_X9_rule {E : z_E} {l : Launch} {S : z_S} (d : z_D) (o0 : Nat) (h0 : A_Model S o0) (x1 : Int32) (x2 : Int32) : z_Sp E l yX9_rule Y_X9_rule (cvX S) [.ref (E.2.1 + o0), .int x1, .int x2] (S, d) (f_X9_rule d o0 x1 x2) := by
  refine z_entry (lv := [(0, .ref (E.2.1 + o0)), (1, .int x1), (2, .int x2)]) (by decide) rfl rfl (Nat.le_of_ble_eq_true rfl) rfl ?_
  unfold f_X9_rule
  refine r_aload_n 0 0 rfl rfl 1 rfl dX9_rule_0 ?_
  refine r_iconst 0 rfl 2 rfl dX9_rule_1 ?_
  refine r_put (h0 0 (Nat.le_of_ble_eq_true rfl)) rfl (Nat.le_of_ble_eq_true rfl) rfl rfl w_X9_rule_1 tyX9 tyX9_ok nmX9 (Nat.le_of_ble_eq_true rfl) rfl w_X9_rule_0 rfl rfl rfl rfl rfl 5 rfl dX9_rule_2 (fun d1 => ?_)
  refine r_iload_n 1 1 rfl rfl 6 rfl dX9_rule_5 ?_
  refine r_let 39 (f := fun x_39 : Unit => [(0, .ref (E.2.1 + o0)), (1, .int x1), (2, .int x2)]) (g := fun x_39 : Unit => []) (ww := fun x_39 : Unit => (S, d1)) (fun x_39 => ?_) (fun J39 hJ39 => ?_)
  · refine r_aload_n 0 0 rfl rfl 40 rfl dX9_rule_39 ?_
    refine r_get (h0 0 (Nat.le_of_ble_eq_true rfl)) rfl (Nat.le_of_ble_eq_true rfl) rfl rfl w_X9_rule_1 1 (Nat.le_of_ble_eq_true rfl) rfl w_X9_rule_2 (.ref (E.2.1 + (o0 + 1))) rfl 43 rfl dX9_rule_40 ?_
    refine r_iconst 4 rfl 44 rfl dX9_rule_43 ?_
    refine r_iload_n 1 1 rfl rfl 45 rfl dX9_rule_44 ?_
    refine r_iadd 46 rfl dX9_rule_45 ?_
    refine r_iald (h0 1 (Nat.le_of_ble_eq_true rfl)) rfl rfl 47 rfl dX9_rule_46 (fun v2 => ?_)
    refine r_iload_n 2 2 rfl rfl 48 rfl dX9_rule_47 ?_
    refine r_icmp_ne 53 51 rfl rfl dX9_rule_48 ?_ ?_
    · refine r_aload_n 0 0 rfl rfl 54 rfl dX9_rule_53 ?_
      refine r_get (h0 0 (Nat.le_of_ble_eq_true rfl)) rfl (Nat.le_of_ble_eq_true rfl) rfl rfl w_X9_rule_1 1 (Nat.le_of_ble_eq_true rfl) rfl w_X9_rule_2 (.ref (E.2.1 + (o0 + 1))) rfl 57 rfl dX9_rule_54 ?_
      refine r_iconst 4 rfl 58 rfl dX9_rule_57 ?_
      refine r_iload_n 1 1 rfl rfl 59 rfl dX9_rule_58 ?_
      refine r_iadd 60 rfl dX9_rule_59 ?_
      refine r_iload_n 2 2 rfl rfl 61 rfl dX9_rule_60 ?_
      refine r_iast (h0 1 (Nat.le_of_ble_eq_true rfl)) rfl rfl 62 rfl dX9_rule_61 (fun d3 => ?_)
      refine r_iconst 1 rfl 63 rfl dX9_rule_62 ?_
      exact r_zreturnc (by decide) rfl rfl (Nat.le_of_ble_eq_true rfl) (Nat.le_of_ble_eq_true rfl) dX9_rule_63
    · refine r_iconst 0 rfl 52 rfl dX9_rule_51 ?_
      exact r_zreturnc (by decide) rfl rfl (Nat.le_of_ble_eq_true rfl) (Nat.le_of_ble_eq_true rfl) dX9_rule_52
  refine r_if_ne 22 9 rfl rfl dX9_rule_6 ?_ ?_
  · refine r_iload_n 1 1 rfl rfl 23 rfl dX9_rule_22 ?_
    refine r_iconst 1 rfl 24 rfl dX9_rule_23 ?_
    refine r_icmp_ne 37 27 rfl rfl dX9_rule_24 ?_ ?_
    · refine r_iconst 0 rfl 38 rfl dX9_rule_37 ?_
      exact r_zreturnc (by decide) rfl rfl (Nat.le_of_ble_eq_true rfl) (Nat.le_of_ble_eq_true rfl) dX9_rule_38
    · refine r_iload_n 2 2 rfl rfl 28 rfl dX9_rule_27 ?_
      refine r_iconst 0 rfl 29 rfl dX9_rule_28 ?_
      refine r_bipush 9 rfl 31 rfl dX9_rule_29 ?_
      refine r_callS_I (c_X9_isIn (E := E) (l := l) (S := S) d1 x2 0 9) ok_X9_isIn ⟨⟨(Nat.le_of_ble_eq_true rfl), (Nat.le_of_ble_eq_true rfl)⟩, (Nat.le_of_ble_eq_true rfl), (Nat.le_of_ble_eq_true rfl)⟩ rfl (Nat.le_of_ble_eq_true rfl) gX9_rule_X9_isIn rfl rfl 34 rfl dX9_rule_31 (fun v4 => ?_)
      refine r_if_ne 39 37 rfl rfl dX9_rule_34 ?_ ?_
      · refine r_sub [0, 1, 2] rfl ?_
        exact hJ39 ()
      · refine r_iconst 0 rfl 38 rfl dX9_rule_37 ?_
        exact r_zreturnc (by decide) rfl rfl (Nat.le_of_ble_eq_true rfl) (Nat.le_of_ble_eq_true rfl) dX9_rule_38
  · refine r_iload_n 2 2 rfl rfl 10 rfl dX9_rule_9 ?_
    refine r_iconst 1 rfl 11 rfl dX9_rule_10 ?_
    refine r_bipush 99 rfl 13 rfl dX9_rule_11 ?_
    refine r_callS_I (c_X9_isIn (E := E) (l := l) (S := S) d1 x2 1 99) ok_X9_isIn ⟨⟨(Nat.le_of_ble_eq_true rfl), (Nat.le_of_ble_eq_true rfl)⟩, (Nat.le_of_ble_eq_true rfl), (Nat.le_of_ble_eq_true rfl)⟩ rfl (Nat.le_of_ble_eq_true rfl) gX9_rule_X9_isIn rfl rfl 16 rfl dX9_rule_13 (fun v5 => ?_)
    refine r_if_ne 39 19 rfl rfl dX9_rule_16 ?_ ?_
    · refine r_sub [0, 1, 2] rfl ?_
      exact hJ39 ()
    · refine r_goto 37 rfl dX9_rule_19 ?_
      refine r_iconst 0 rfl 38 rfl dX9_rule_37 ?_
      exact r_zreturnc (by decide) rfl rfl (Nat.le_of_ble_eq_true rfl) (Nat.le_of_ble_eq_true rfl) dX9_rule_38
def Y_X9_laysOrder : z_Y := (RX9, cX9_laysOrder, 4, wsX9_laysOrder, none, { frames := 2, cells := 0, slots := 0, locals := 44 }, 0, 0)
theorem ok_X9_laysOrder : z_Ok yX9_laysOrder Y_X9_laysOrder 1 := ⟨⟨_, rfl⟩, rfl, rfl, rfl, by decide +kernel, by decide +kernel⟩
theorem w_X9_laysOrder_0 : Cond.fieldLink RX9 114 "BunchTimesModel" "orderMany" "I" ∈ wsX9_laysOrder := by decide +kernel
theorem w_X9_laysOrder_1 : ∀ w ∈ u_ws RX9 TX9 18, w ∈ wsX9_laysOrder := by decide +kernel
theorem w_X9_laysOrder_2 : Cond.fieldLink RX9 7 "BunchTimesModel" "row" "[I" ∈ wsX9_laysOrder := by decide +kernel
theorem w_X9_laysOrder_3 : Cond.fieldLink RX9 23 "BunchTimesModel" "order" "[I" ∈ wsX9_laysOrder := by decide +kernel
def f_X9_laysOrder_L34_b (o0 : Nat) (x1 : Int32) (x2 : Int32) (K : Int32 → z_D → Option z_D) (R : Int32 → z_D → Option z_D) (x3 : Int32) (d : z_D) : Option z_D := (if x3 ≤ 0 then (K x3 d) else z_ald d (o0 + 5) 16 (x3 - 1) (fun v5 => ((f_X9_at_ x1 v5 0).bind fun v6 => z_ald d (o0 + 1) 2656 v6 (fun v7 => ((f_X9_at_ x1 x2 0).bind fun v8 => z_ald d (o0 + 1) 2656 v8 (fun v9 => (if v7 ≤ v9 then (K x3 d) else z_ald d (o0 + 5) 16 (x3 - 1) (fun v10 => z_ast d (o0 + 5) 16 x3 v10 (fun d11 => (R (x3 + (-1)) d11))))))))))
def f_X9_laysOrder_L34 (o0 : Nat) (x1 : Int32) (x2 : Int32) (K : Int32 → z_D → Option z_D) : Nat → Int32 → z_D → Option z_D
  | 0 => fun _ _ => none
  | n + 1 => f_X9_laysOrder_L34_b o0 x1 x2 K (f_X9_laysOrder_L34 o0 x1 x2 K n)
set_option maxHeartbeats 4000000 in
set_option maxRecDepth 100000 in
theorem g_X9_laysOrder_L34 {E : z_E} {l : Launch} {S : z_S} {o0 : Nat} {x1 : Int32} {x2 : Int32} {K : Int32 → z_D → Option z_D} (h0 : A_Model S o0) (hK : ∀ (y3 : Int32) (d9 : z_D), z_G E l Y_X9_laysOrder (cvV S) (K y3 d9) 90 [(0, .ref (E.2.1 + o0)), (1, .int x1), (2, .int x2), (3, .int y3)] [] (S, d9) 0 0) : ∀ (n : Nat) (x3 : Int32) (d : z_D), z_G E l Y_X9_laysOrder (cvV S) (f_X9_laysOrder_L34 o0 x1 x2 K n x3 d) 34 [(0, .ref (E.2.1 + o0)), (1, .int x1), (2, .int x2), (3, .int x3)] [] (S, d) 0 0 := by
  intro n
  induction n with
  | zero => intro _ _; exact r_none
  | succ n ih =>
    intro x3 d
    show z_G E l Y_X9_laysOrder (cvV S) (f_X9_laysOrder_L34_b o0 x1 x2 K (f_X9_laysOrder_L34 o0 x1 x2 K n) x3 d) 34 [(0, .ref (E.2.1 + o0)), (1, .int x1), (2, .int x2), (3, .int x3)] [] (S, d) 0 0
    unfold f_X9_laysOrder_L34_b
    refine r_iload_n 3 3 rfl rfl 35 rfl dX9_laysOrder_34 ?_
    refine r_if_le 90 38 rfl rfl dX9_laysOrder_35 ?_ ?_
    · refine r_sub [0, 1, 2, 3] rfl ?_
      exact hK x3 d
    · refine r_aload_n 0 0 rfl rfl 39 rfl dX9_laysOrder_38 ?_
      refine r_get (h0 0 (Nat.le_of_ble_eq_true rfl)) rfl (Nat.le_of_ble_eq_true rfl) rfl rfl w_X9_laysOrder_1 1 (Nat.le_of_ble_eq_true rfl) rfl w_X9_laysOrder_2 (.ref (E.2.1 + (o0 + 1))) rfl 42 rfl dX9_laysOrder_39 ?_
      refine r_iload_n 1 1 rfl rfl 43 rfl dX9_laysOrder_42 ?_
      refine r_aload_n 0 0 rfl rfl 44 rfl dX9_laysOrder_43 ?_
      refine r_get (h0 0 (Nat.le_of_ble_eq_true rfl)) rfl (Nat.le_of_ble_eq_true rfl) rfl rfl w_X9_laysOrder_1 5 (Nat.le_of_ble_eq_true rfl) rfl w_X9_laysOrder_3 (.ref (E.2.1 + (o0 + 5))) rfl 47 rfl dX9_laysOrder_44 ?_
      refine r_iload_n 3 3 rfl rfl 48 rfl dX9_laysOrder_47 ?_
      refine r_iconst 1 rfl 49 rfl dX9_laysOrder_48 ?_
      refine r_isub 50 rfl dX9_laysOrder_49 ?_
      refine r_iald (h0 5 (Nat.le_of_ble_eq_true rfl)) rfl rfl 51 rfl dX9_laysOrder_50 (fun v5 => ?_)
      refine r_iconst 0 rfl 52 rfl dX9_laysOrder_51 ?_
      refine r_callS_I (c_X9_at_ (E := E) (l := l) (S := S) d x1 v5 0) ok_X9_at_ ⟨⟨(Nat.le_of_ble_eq_true rfl), (Nat.le_of_ble_eq_true rfl)⟩, (Nat.le_of_ble_eq_true rfl), (Nat.le_of_ble_eq_true rfl)⟩ rfl (Nat.le_of_ble_eq_true rfl) gX9_laysOrder_X9_at_ rfl rfl 55 rfl dX9_laysOrder_52 (fun v6 => ?_)
      refine r_iald (h0 1 (Nat.le_of_ble_eq_true rfl)) rfl rfl 56 rfl dX9_laysOrder_55 (fun v7 => ?_)
      refine r_aload_n 0 0 rfl rfl 57 rfl dX9_laysOrder_56 ?_
      refine r_get (h0 0 (Nat.le_of_ble_eq_true rfl)) rfl (Nat.le_of_ble_eq_true rfl) rfl rfl w_X9_laysOrder_1 1 (Nat.le_of_ble_eq_true rfl) rfl w_X9_laysOrder_2 (.ref (E.2.1 + (o0 + 1))) rfl 60 rfl dX9_laysOrder_57 ?_
      refine r_iload_n 1 1 rfl rfl 61 rfl dX9_laysOrder_60 ?_
      refine r_iload_n 2 2 rfl rfl 62 rfl dX9_laysOrder_61 ?_
      refine r_iconst 0 rfl 63 rfl dX9_laysOrder_62 ?_
      refine r_callS_I (c_X9_at_ (E := E) (l := l) (S := S) d x1 x2 0) ok_X9_at_ ⟨⟨(Nat.le_of_ble_eq_true rfl), (Nat.le_of_ble_eq_true rfl)⟩, (Nat.le_of_ble_eq_true rfl), (Nat.le_of_ble_eq_true rfl)⟩ rfl (Nat.le_of_ble_eq_true rfl) gX9_laysOrder_X9_at_ rfl rfl 66 rfl dX9_laysOrder_63 (fun v8 => ?_)
      refine r_iald (h0 1 (Nat.le_of_ble_eq_true rfl)) rfl rfl 67 rfl dX9_laysOrder_66 (fun v9 => ?_)
      refine r_icmp_le 90 70 rfl rfl dX9_laysOrder_67 ?_ ?_
      · refine r_sub [0, 1, 2, 3] rfl ?_
        exact hK x3 d
      · refine r_aload_n 0 0 rfl rfl 71 rfl dX9_laysOrder_70 ?_
        refine r_get (h0 0 (Nat.le_of_ble_eq_true rfl)) rfl (Nat.le_of_ble_eq_true rfl) rfl rfl w_X9_laysOrder_1 5 (Nat.le_of_ble_eq_true rfl) rfl w_X9_laysOrder_3 (.ref (E.2.1 + (o0 + 5))) rfl 74 rfl dX9_laysOrder_71 ?_
        refine r_iload_n 3 3 rfl rfl 75 rfl dX9_laysOrder_74 ?_
        refine r_aload_n 0 0 rfl rfl 76 rfl dX9_laysOrder_75 ?_
        refine r_get (h0 0 (Nat.le_of_ble_eq_true rfl)) rfl (Nat.le_of_ble_eq_true rfl) rfl rfl w_X9_laysOrder_1 5 (Nat.le_of_ble_eq_true rfl) rfl w_X9_laysOrder_3 (.ref (E.2.1 + (o0 + 5))) rfl 79 rfl dX9_laysOrder_76 ?_
        refine r_iload_n 3 3 rfl rfl 80 rfl dX9_laysOrder_79 ?_
        refine r_iconst 1 rfl 81 rfl dX9_laysOrder_80 ?_
        refine r_isub 82 rfl dX9_laysOrder_81 ?_
        refine r_iald (h0 5 (Nat.le_of_ble_eq_true rfl)) rfl rfl 83 rfl dX9_laysOrder_82 (fun v10 => ?_)
        refine r_iast (h0 5 (Nat.le_of_ble_eq_true rfl)) rfl rfl 84 rfl dX9_laysOrder_83 (fun d11 => ?_)
        refine r_iinc (x3 + (-1)) 3 rfl (congrArg (fun y => x3 + y) (by decide)) [(3, .int (x3 + (-1))), (0, .ref (E.2.1 + o0)), (1, .int x1), (2, .int x2)] (Nat.le_of_ble_eq_true rfl) rfl 87 rfl dX9_laysOrder_84 ?_
        refine r_goto 34 rfl dX9_laysOrder_87 ?_
        refine r_sub [1, 2, 3, 0] rfl ?_
        exact ih (x3 + (-1)) d11
def f_X9_laysOrder_L7_b (o0 : Nat) (x1 : Int32) (K : z_D → Option z_D) (R : Int32 → z_D → Option z_D) (x2 : Int32) (d : z_D) : Option z_D := z_ald d (o0 + 1) 2656 1 (fun v2 => (if v2 ≤ x2 then (K d) else ((f_X9_hasFinish d o0 x1 x2).bind fun v3 => (if v3 = 0 then (R (x2 + 1) d) else z_nam (d o0 6) (fun v4 => (f_X9_laysOrder_L34 o0 x1 x2 (fun v13 d12 => z_ast d12 (o0 + 5) 16 v13 x2 (fun d14 => z_put d14 o0 6 ((d14 o0 6) + 1) (fun d15 => (R (x2 + 1) d15)))) z_N v4 d))))))
def f_X9_laysOrder_L7 (o0 : Nat) (x1 : Int32) (K : z_D → Option z_D) : Nat → Int32 → z_D → Option z_D
  | 0 => fun _ _ => none
  | n + 1 => f_X9_laysOrder_L7_b o0 x1 K (f_X9_laysOrder_L7 o0 x1 K n)
set_option maxHeartbeats 4000000 in
set_option maxRecDepth 100000 in
theorem g_X9_laysOrder_L7 {E : z_E} {l : Launch} {S : z_S} {o0 : Nat} {x1 : Int32} {K : z_D → Option z_D} (h0 : A_Model S o0) (hK : ∀ (d9 : z_D), z_G E l Y_X9_laysOrder (cvV S) (K d9) 113 [] [] (S, d9) 0 0) : ∀ (n : Nat) (x2 : Int32) (d : z_D), z_G E l Y_X9_laysOrder (cvV S) (f_X9_laysOrder_L7 o0 x1 K n x2 d) 7 [(0, .ref (E.2.1 + o0)), (1, .int x1), (2, .int x2)] [] (S, d) 0 0 := by
  intro n
  induction n with
  | zero => intro _ _; exact r_none
  | succ n ih =>
    intro x2 d
    show z_G E l Y_X9_laysOrder (cvV S) (f_X9_laysOrder_L7_b o0 x1 K (f_X9_laysOrder_L7 o0 x1 K n) x2 d) 7 [(0, .ref (E.2.1 + o0)), (1, .int x1), (2, .int x2)] [] (S, d) 0 0
    unfold f_X9_laysOrder_L7_b
    refine r_iload_n 2 2 rfl rfl 8 rfl dX9_laysOrder_7 ?_
    refine r_aload_n 0 0 rfl rfl 9 rfl dX9_laysOrder_8 ?_
    refine r_get (h0 0 (Nat.le_of_ble_eq_true rfl)) rfl (Nat.le_of_ble_eq_true rfl) rfl rfl w_X9_laysOrder_1 1 (Nat.le_of_ble_eq_true rfl) rfl w_X9_laysOrder_2 (.ref (E.2.1 + (o0 + 1))) rfl 12 rfl dX9_laysOrder_9 ?_
    refine r_iconst 1 rfl 13 rfl dX9_laysOrder_12 ?_
    refine r_iald (h0 1 (Nat.le_of_ble_eq_true rfl)) rfl rfl 14 rfl dX9_laysOrder_13 (fun v2 => ?_)
    refine r_icmp_ge 113 17 rfl rfl dX9_laysOrder_14 ?_ ?_
    · refine r_sub [] rfl ?_
      exact hK d
    · refine r_aload_n 0 0 rfl rfl 18 rfl dX9_laysOrder_17 ?_
      refine r_iload_n 1 1 rfl rfl 19 rfl dX9_laysOrder_18 ?_
      refine r_iload_n 2 2 rfl rfl 20 rfl dX9_laysOrder_19 ?_
      refine r_callV_I (c_X9_hasFinish (E := E) (l := l) (S := S) d o0 h0 x1 x2) ok_X9_hasFinish ⟨⟨(Nat.le_of_ble_eq_true rfl), (Nat.le_of_ble_eq_true rfl)⟩, (Nat.le_of_ble_eq_true rfl), (Nat.le_of_ble_eq_true rfl)⟩ (h0 0 (Nat.le_of_ble_eq_true rfl)) (Nat.le_of_ble_eq_true rfl) rfl rfl rfl (Nat.le_of_ble_eq_true rfl) gX9_laysOrder_X9_hasFinish rfl rfl 23 rfl dX9_laysOrder_20 (fun v3 => ?_)
      refine r_if_ne 29 26 rfl rfl dX9_laysOrder_23 ?_ ?_
      · refine r_aload_n 0 0 rfl rfl 30 rfl dX9_laysOrder_29 ?_
        refine r_get (h0 0 (Nat.le_of_ble_eq_true rfl)) rfl (Nat.le_of_ble_eq_true rfl) rfl rfl w_X9_laysOrder_1 6 (Nat.le_of_ble_eq_true rfl) rfl w_X9_laysOrder_0 (.int (d o0 6)) rfl 33 rfl dX9_laysOrder_30 ?_
        refine r_nami (fun v4 => ?_)
        refine r_istore_n 3 rfl [(3, .int v4), (0, .ref (E.2.1 + o0)), (1, .int x1), (2, .int x2)] (Nat.le_of_ble_eq_true rfl) rfl 34 rfl dX9_laysOrder_33 ?_
        refine r_sub [1, 2, 3, 0] rfl ?_
        refine g_X9_laysOrder_L34 h0 (fun v13 d12 => ?_) z_N v4 d
        refine r_aload_n 0 0 rfl rfl 91 rfl dX9_laysOrder_90 ?_
        refine r_get (h0 0 (Nat.le_of_ble_eq_true rfl)) rfl (Nat.le_of_ble_eq_true rfl) rfl rfl w_X9_laysOrder_1 5 (Nat.le_of_ble_eq_true rfl) rfl w_X9_laysOrder_3 (.ref (E.2.1 + (o0 + 5))) rfl 94 rfl dX9_laysOrder_91 ?_
        refine r_iload_n 3 3 rfl rfl 95 rfl dX9_laysOrder_94 ?_
        refine r_iload_n 2 2 rfl rfl 96 rfl dX9_laysOrder_95 ?_
        refine r_iast (h0 5 (Nat.le_of_ble_eq_true rfl)) rfl rfl 97 rfl dX9_laysOrder_96 (fun d14 => ?_)
        refine r_aload_n 0 0 rfl rfl 98 rfl dX9_laysOrder_97 ?_
        refine r_dup rfl 99 rfl dX9_laysOrder_98 ?_
        refine r_get (h0 0 (Nat.le_of_ble_eq_true rfl)) rfl (Nat.le_of_ble_eq_true rfl) rfl rfl w_X9_laysOrder_1 6 (Nat.le_of_ble_eq_true rfl) rfl w_X9_laysOrder_0 (.int (d14 o0 6)) rfl 102 rfl dX9_laysOrder_99 ?_
        refine r_iconst 1 rfl 103 rfl dX9_laysOrder_102 ?_
        refine r_iadd 104 rfl dX9_laysOrder_103 ?_
        refine r_put (h0 0 (Nat.le_of_ble_eq_true rfl)) rfl (Nat.le_of_ble_eq_true rfl) rfl rfl w_X9_laysOrder_1 tyX9 tyX9_ok nmX9 (Nat.le_of_ble_eq_true rfl) rfl w_X9_laysOrder_0 rfl rfl rfl rfl rfl 107 rfl dX9_laysOrder_104 (fun d15 => ?_)
        refine r_iinc (x2 + 1) 2 rfl rfl [(2, .int (x2 + 1)), (0, .ref (E.2.1 + o0)), (1, .int x1), (3, .int v13)] (Nat.le_of_ble_eq_true rfl) rfl 110 rfl dX9_laysOrder_107 ?_
        refine r_goto 7 rfl dX9_laysOrder_110 ?_
        refine r_sub [1, 2, 0] rfl ?_
        exact ih (x2 + 1) d15
      · refine r_goto 107 rfl dX9_laysOrder_26 ?_
        refine r_iinc (x2 + 1) 2 rfl rfl [(2, .int (x2 + 1)), (0, .ref (E.2.1 + o0)), (1, .int x1)] (Nat.le_of_ble_eq_true rfl) rfl 110 rfl dX9_laysOrder_107 ?_
        refine r_goto 7 rfl dX9_laysOrder_110 ?_
        refine r_sub [1, 2, 0] rfl ?_
        exact ih (x2 + 1) d
def f_X9_laysOrder (d : z_D) (o0 : Nat) (x1 : Int32) : Option z_D := z_put d o0 6 0 (fun d1 => (f_X9_laysOrder_L7 o0 x1 (fun d16 => (some d16)) z_N 0 d1))
set_option maxHeartbeats 4000000 in
set_option maxRecDepth 100000 in
theorem c_X9_laysOrder {E : z_E} {l : Launch} {S : z_S} (d : z_D) (o0 : Nat) (h0 : A_Model S o0) (x1 : Int32) : z_Sp E l yX9_laysOrder Y_X9_laysOrder (cvV S) [.ref (E.2.1 + o0), .int x1] (S, d) (f_X9_laysOrder d o0 x1) := by
  refine z_entry (lv := [(0, .ref (E.2.1 + o0)), (1, .int x1)]) (by decide) rfl rfl (Nat.le_of_ble_eq_true rfl) rfl ?_
  unfold f_X9_laysOrder
  refine r_aload_n 0 0 rfl rfl 1 rfl dX9_laysOrder_0 ?_
  refine r_iconst 0 rfl 2 rfl dX9_laysOrder_1 ?_
  refine r_put (h0 0 (Nat.le_of_ble_eq_true rfl)) rfl (Nat.le_of_ble_eq_true rfl) rfl rfl w_X9_laysOrder_1 tyX9 tyX9_ok nmX9 (Nat.le_of_ble_eq_true rfl) rfl w_X9_laysOrder_0 rfl rfl rfl rfl rfl 5 rfl dX9_laysOrder_2 (fun d1 => ?_)
  refine r_iconst 0 rfl 6 rfl dX9_laysOrder_5 ?_
  refine r_istore_n 2 rfl [(2, .int 0), (0, .ref (E.2.1 + o0)), (1, .int x1)] (Nat.le_of_ble_eq_true rfl) rfl 7 rfl dX9_laysOrder_6 ?_
  refine r_sub [1, 2, 0] rfl ?_
  refine g_X9_laysOrder_L7 h0 (fun d16 => ?_) z_N 0 d1
  exact r_return rfl rfl (Nat.le_of_ble_eq_true rfl) (Nat.le_of_ble_eq_true rfl) dX9_laysOrder_113
def Y_X9_space : z_Y := (RX9, cX9_space, 3, wsX9_space, (some .int), { frames := 1, cells := 0, slots := 0, locals := 22 }, 0, 0)
theorem ok_X9_space : z_Ok yX9_space Y_X9_space 2 := ⟨⟨_, rfl⟩, rfl, rfl, rfl, by decide +kernel, by decide +kernel⟩
theorem w_X9_space_0 : Cond.fieldLink RX9 7 "BunchTimesModel" "row" "[I" ∈ wsX9_space := by decide +kernel
theorem w_X9_space_1 : ∀ w ∈ u_ws RX9 TX9 18, w ∈ wsX9_space := by decide +kernel
theorem w_X9_space_2 : Cond.fieldLink RX9 23 "BunchTimesModel" "order" "[I" ∈ wsX9_space := by decide +kernel
def f_X9_space (d : z_D) (o0 : Nat) (x1 : Int32) (x2 : Int32) : Option Int32 := z_ald d (o0 + 5) 16 x2 (fun v1 => ((f_X9_at_ x1 v1 0).bind fun v2 => z_ald d (o0 + 1) 2656 v2 (fun v3 => z_ald d (o0 + 5) 16 (x2 - 1) (fun v4 => ((f_X9_at_ x1 v4 0).bind fun v5 => z_ald d (o0 + 1) 2656 v5 (fun v6 => (some (v3 - v6))))))))
set_option maxHeartbeats 4000000 in
set_option maxRecDepth 100000 in
theorem c_X9_space {E : z_E} {l : Launch} {S : z_S} (d : z_D) (o0 : Nat) (h0 : A_Model S o0) (x1 : Int32) (x2 : Int32) : z_Sp E l yX9_space Y_X9_space (cvI S d) [.ref (E.2.1 + o0), .int x1, .int x2] (S, d) (f_X9_space d o0 x1 x2) := by
  refine z_entry (lv := [(0, .ref (E.2.1 + o0)), (1, .int x1), (2, .int x2)]) (by decide) rfl rfl (Nat.le_of_ble_eq_true rfl) rfl ?_
  unfold f_X9_space
  refine r_aload_n 0 0 rfl rfl 1 rfl dX9_space_0 ?_
  refine r_get (h0 0 (Nat.le_of_ble_eq_true rfl)) rfl (Nat.le_of_ble_eq_true rfl) rfl rfl w_X9_space_1 1 (Nat.le_of_ble_eq_true rfl) rfl w_X9_space_0 (.ref (E.2.1 + (o0 + 1))) rfl 4 rfl dX9_space_1 ?_
  refine r_iload_n 1 1 rfl rfl 5 rfl dX9_space_4 ?_
  refine r_aload_n 0 0 rfl rfl 6 rfl dX9_space_5 ?_
  refine r_get (h0 0 (Nat.le_of_ble_eq_true rfl)) rfl (Nat.le_of_ble_eq_true rfl) rfl rfl w_X9_space_1 5 (Nat.le_of_ble_eq_true rfl) rfl w_X9_space_2 (.ref (E.2.1 + (o0 + 5))) rfl 9 rfl dX9_space_6 ?_
  refine r_iload_n 2 2 rfl rfl 10 rfl dX9_space_9 ?_
  refine r_iald (h0 5 (Nat.le_of_ble_eq_true rfl)) rfl rfl 11 rfl dX9_space_10 (fun v1 => ?_)
  refine r_iconst 0 rfl 12 rfl dX9_space_11 ?_
  refine r_callS_I (c_X9_at_ (E := E) (l := l) (S := S) d x1 v1 0) ok_X9_at_ ⟨⟨(Nat.le_of_ble_eq_true rfl), (Nat.le_of_ble_eq_true rfl)⟩, (Nat.le_of_ble_eq_true rfl), (Nat.le_of_ble_eq_true rfl)⟩ rfl (Nat.le_of_ble_eq_true rfl) gX9_space_X9_at_ rfl rfl 15 rfl dX9_space_12 (fun v2 => ?_)
  refine r_iald (h0 1 (Nat.le_of_ble_eq_true rfl)) rfl rfl 16 rfl dX9_space_15 (fun v3 => ?_)
  refine r_aload_n 0 0 rfl rfl 17 rfl dX9_space_16 ?_
  refine r_get (h0 0 (Nat.le_of_ble_eq_true rfl)) rfl (Nat.le_of_ble_eq_true rfl) rfl rfl w_X9_space_1 1 (Nat.le_of_ble_eq_true rfl) rfl w_X9_space_0 (.ref (E.2.1 + (o0 + 1))) rfl 20 rfl dX9_space_17 ?_
  refine r_iload_n 1 1 rfl rfl 21 rfl dX9_space_20 ?_
  refine r_aload_n 0 0 rfl rfl 22 rfl dX9_space_21 ?_
  refine r_get (h0 0 (Nat.le_of_ble_eq_true rfl)) rfl (Nat.le_of_ble_eq_true rfl) rfl rfl w_X9_space_1 5 (Nat.le_of_ble_eq_true rfl) rfl w_X9_space_2 (.ref (E.2.1 + (o0 + 5))) rfl 25 rfl dX9_space_22 ?_
  refine r_iload_n 2 2 rfl rfl 26 rfl dX9_space_25 ?_
  refine r_iconst 1 rfl 27 rfl dX9_space_26 ?_
  refine r_isub 28 rfl dX9_space_27 ?_
  refine r_iald (h0 5 (Nat.le_of_ble_eq_true rfl)) rfl rfl 29 rfl dX9_space_28 (fun v4 => ?_)
  refine r_iconst 0 rfl 30 rfl dX9_space_29 ?_
  refine r_callS_I (c_X9_at_ (E := E) (l := l) (S := S) d x1 v4 0) ok_X9_at_ ⟨⟨(Nat.le_of_ble_eq_true rfl), (Nat.le_of_ble_eq_true rfl)⟩, (Nat.le_of_ble_eq_true rfl), (Nat.le_of_ble_eq_true rfl)⟩ rfl (Nat.le_of_ble_eq_true rfl) gX9_space_X9_at_ rfl rfl 33 rfl dX9_space_30 (fun v5 => ?_)
  refine r_iald (h0 1 (Nat.le_of_ble_eq_true rfl)) rfl rfl 34 rfl dX9_space_33 (fun v6 => ?_)
  refine r_isub 35 rfl dX9_space_34 ?_
  exact r_ireturn rfl rfl (Nat.le_of_ble_eq_true rfl) (Nat.le_of_ble_eq_true rfl) dX9_space_35
