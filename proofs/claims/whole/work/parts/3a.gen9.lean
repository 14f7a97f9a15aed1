/-! 3a.gen9: by gen/mk.py -/
def Y_X9_thrown : z_Y := (RX9, cX9_thrown, 1, wsX9_thrown, (some .int), { frames := 0, cells := 0, slots := 0, locals := 0 }, 0, 0)
theorem ok_X9_thrown : z_Ok yX9_thrown Y_X9_thrown 0 := ⟨⟨_, rfl⟩, rfl, rfl, rfl, by decide +kernel, by decide +kernel⟩
theorem w_X9_thrown_0 : Cond.fieldLink RX9 39 "BunchTimesModel" "thrown" "I" ∈ wsX9_thrown := by decide +kernel
theorem w_X9_thrown_1 : ∀ w ∈ u_ws RX9 TX9 18, w ∈ wsX9_thrown := by decide +kernel
def f_X9_thrown (d : z_D) (o0 : Nat) : Option Int32 := (some (d o0 0))
set_option maxHeartbeats 4000000 in
set_option maxRecDepth 100000 in
theorem c_X9_thrown {E : z_E} {l : Launch} {S : z_S} (d : z_D) (o0 : Nat) (h0 : A_Model S o0) : z_Sp E l yX9_thrown Y_X9_thrown (cvI S d) [.ref (E.2.1 + o0)] (S, d) (f_X9_thrown d o0) := by
  refine z_entry (lv := [(0, .ref (E.2.1 + o0))]) (by decide) rfl rfl (Nat.le_of_ble_eq_true rfl) rfl ?_
  unfold f_X9_thrown
  refine r_aload_n 0 0 rfl rfl 1 rfl dX9_thrown_0 ?_
  refine r_get (h0 0 (Nat.le_of_ble_eq_true rfl)) rfl (Nat.le_of_ble_eq_true rfl) rfl rfl w_X9_thrown_1 0 (Nat.le_of_ble_eq_true rfl) rfl w_X9_thrown_0 (.int (d o0 0)) rfl 4 rfl dX9_thrown_1 ?_
  exact r_ireturn rfl rfl (Nat.le_of_ble_eq_true rfl) (Nat.le_of_ble_eq_true rfl) dX9_thrown_4
def Y_X9_isIn : z_Y := (RX9, cX9_isIn, 3, wsX9_isIn, (some .boolean), { frames := 0, cells := 0, slots := 0, locals := 0 }, 0, 0)
theorem ok_X9_isIn : z_Ok yX9_isIn Y_X9_isIn 3 := ⟨⟨_, rfl⟩, rfl, rfl, rfl, by decide +kernel, by decide +kernel⟩
def f_X9_isIn (x0 : Int32) (x1 : Int32) (x2 : Int32) : Option Int32 := (if x0 < x1 then (some 0) else (if x2 < x0 then (some 0) else (some 1)))
set_option maxHeartbeats 4000000 in
set_option maxRecDepth 100000 in
theorem c_X9_isIn {E : z_E} {l : Launch} {S : z_S} (d : z_D) (x0 : Int32) (x1 : Int32) (x2 : Int32) : z_Sp E l yX9_isIn Y_X9_isIn (cvI S d) [.int x0, .int x1, .int x2] (S, d) (f_X9_isIn x0 x1 x2) := by
  refine z_entry (lv := [(0, .int x0), (1, .int x1), (2, .int x2)]) (by decide) rfl rfl (Nat.le_of_ble_eq_true rfl) rfl ?_
  unfold f_X9_isIn
  refine r_iload_n 0 0 rfl rfl 1 rfl dX9_isIn_0 ?_
  refine r_iload_n 1 1 rfl rfl 2 rfl dX9_isIn_1 ?_
  refine r_icmp_lt 14 5 rfl rfl dX9_isIn_2 ?_ ?_
  · refine r_iconst 0 rfl 15 rfl dX9_isIn_14 ?_
    exact r_zreturnc (by decide) rfl rfl (Nat.le_of_ble_eq_true rfl) (Nat.le_of_ble_eq_true rfl) dX9_isIn_15
  · refine r_iload_n 0 0 rfl rfl 6 rfl dX9_isIn_5 ?_
    refine r_iload_n 2 2 rfl rfl 7 rfl dX9_isIn_6 ?_
    refine r_icmp_gt 14 10 rfl rfl dX9_isIn_7 ?_ ?_
    · refine r_iconst 0 rfl 15 rfl dX9_isIn_14 ?_
      exact r_zreturnc (by decide) rfl rfl (Nat.le_of_ble_eq_true rfl) (Nat.le_of_ble_eq_true rfl) dX9_isIn_15
    · refine r_iconst 1 rfl 11 rfl dX9_isIn_10 ?_
      refine r_goto 15 rfl dX9_isIn_11 ?_
      exact r_zreturnc (by decide) rfl rfl (Nat.le_of_ble_eq_true rfl) (Nat.le_of_ble_eq_true rfl) dX9_isIn_15
def Y_X9_isRider : z_Y := (RX9, cX9_isRider, 2, wsX9_isRider, (some .boolean), { frames := 1, cells := 0, slots := 0, locals := 22 }, 0, 0)
theorem ok_X9_isRider : z_Ok yX9_isRider Y_X9_isRider 1 := ⟨⟨_, rfl⟩, rfl, rfl, rfl, by decide +kernel, by decide +kernel⟩
theorem w_X9_isRider_0 : Cond.fieldLink RX9 7 "BunchTimesModel" "row" "[I" ∈ wsX9_isRider := by decide +kernel
theorem w_X9_isRider_1 : ∀ w ∈ u_ws RX9 TX9 18, w ∈ wsX9_isRider := by decide +kernel
def f_X9_isRider (d : z_D) (o0 : Nat) (x1 : Int32) : Option Int32 := z_ald d (o0 + 1) 2656 1 (fun v1 => ((f_X9_isIn x1 0 (v1 - 1)).bind fun v2 => (z_bool v2 (some v2))))
set_option maxHeartbeats 4000000 in
set_option maxRecDepth 100000 in
theorem c_X9_isRider {E : z_E} {l : Launch} {S : z_S} (d : z_D) (o0 : Nat) (h0 : A_Model S o0) (x1 : Int32) : z_Sp E l yX9_isRider Y_X9_isRider (cvI S d) [.ref (E.2.1 + o0), .int x1] (S, d) (f_X9_isRider d o0 x1) := by
  refine z_entry (lv := [(0, .ref (E.2.1 + o0)), (1, .int x1)]) (by decide) rfl rfl (Nat.le_of_ble_eq_true rfl) rfl ?_
  unfold f_X9_isRider
  refine r_iload_n 1 1 rfl rfl 1 rfl dX9_isRider_0 ?_
  refine r_iconst 0 rfl 2 rfl dX9_isRider_1 ?_
  refine r_aload_n 0 0 rfl rfl 3 rfl dX9_isRider_2 ?_
  refine r_get (h0 0 (Nat.le_of_ble_eq_true rfl)) rfl (Nat.le_of_ble_eq_true rfl) rfl rfl w_X9_isRider_1 1 (Nat.le_of_ble_eq_true rfl) rfl w_X9_isRider_0 (.ref (E.2.1 + (o0 + 1))) rfl 6 rfl dX9_isRider_3 ?_
  refine r_iconst 1 rfl 7 rfl dX9_isRider_6 ?_
  refine r_iald (h0 1 (Nat.le_of_ble_eq_true rfl)) rfl rfl 8 rfl dX9_isRider_7 (fun v1 => ?_)
  refine r_iconst 1 rfl 9 rfl dX9_isRider_8 ?_
  refine r_isub 10 rfl dX9_isRider_9 ?_
  refine r_callS_I (c_X9_isIn (E := E) (l := l) (S := S) d x1 0 (v1 - 1)) ok_X9_isIn ⟨⟨(Nat.le_of_ble_eq_true rfl), (Nat.le_of_ble_eq_true rfl)⟩, (Nat.le_of_ble_eq_true rfl), (Nat.le_of_ble_eq_true rfl)⟩ rfl (Nat.le_of_ble_eq_true rfl) gX9_isRider_X9_isIn rfl rfl 13 rfl dX9_isRider_10 (fun v2 => ?_)
  exact r_zreturn rfl rfl (Nat.le_of_ble_eq_true rfl) (Nat.le_of_ble_eq_true rfl) dX9_isRider_13
def Y_X9_isThere : z_Y := (RX9, cX9_isThere, 2, wsX9_isThere, (some .boolean), { frames := 2, cells := 0, slots := 0, locals := 43 }, 0, 0)
theorem ok_X9_isThere : z_Ok yX9_isThere Y_X9_isThere 1 := ⟨⟨_, rfl⟩, rfl, rfl, rfl, by decide +kernel, by decide +kernel⟩
theorem w_X9_isThere_0 : Cond.fieldLink RX9 7 "BunchTimesModel" "row" "[I" ∈ wsX9_isThere := by decide +kernel
theorem w_X9_isThere_1 : ∀ w ∈ u_ws RX9 TX9 18, w ∈ wsX9_isThere := by decide +kernel
def f_X9_isThere (d : z_D) (o0 : Nat) (x1 : Int32) : Option Int32 := ((f_X9_isRider d o0 x1).bind fun v1 => (if v1 = 0 then (some 0) else z_ald d (o0 + 1) 2656 ((8 + (3 * x1)) + 2) (fun v2 => (if v2 = 1 then (some 1) else (some 0)))))
set_option maxHeartbeats 4000000 in
set_option maxRecDepth 100000 in
theorem c_X9_isThere {E : z_E} {l : Launch} {S : z_S} (d : z_D) (o0 : Nat) (h0 : A_Model S o0) (x1 : Int32) : z_Sp E l yX9_isThere Y_X9_isThere (cvI S d) [.ref (E.2.1 + o0), .int x1] (S, d) (f_X9_isThere d o0 x1) := by
  refine z_entry (lv := [(0, .ref (E.2.1 + o0)), (1, .int x1)]) (by decide) rfl rfl (Nat.le_of_ble_eq_true rfl) rfl ?_
  unfold f_X9_isThere
  refine r_aload_n 0 0 rfl rfl 1 rfl dX9_isThere_0 ?_
  refine r_iload_n 1 1 rfl rfl 2 rfl dX9_isThere_1 ?_
  refine r_callV_I (c_X9_isRider (E := E) (l := l) (S := S) d o0 h0 x1) ok_X9_isRider ⟨⟨(Nat.le_of_ble_eq_true rfl), (Nat.le_of_ble_eq_true rfl)⟩, (Nat.le_of_ble_eq_true rfl), (Nat.le_of_ble_eq_true rfl)⟩ (h0 0 (Nat.le_of_ble_eq_true rfl)) (Nat.le_of_ble_eq_true rfl) rfl rfl rfl (Nat.le_of_ble_eq_true rfl) gX9_isThere_X9_isRider rfl rfl 5 rfl dX9_isThere_2 (fun v1 => ?_)
  refine r_if_eq 29 8 rfl rfl dX9_isThere_5 ?_ ?_
  · refine r_iconst 0 rfl 30 rfl dX9_isThere_29 ?_
    exact r_zreturnc (by decide) rfl rfl (Nat.le_of_ble_eq_true rfl) (Nat.le_of_ble_eq_true rfl) dX9_isThere_30
  · refine r_aload_n 0 0 rfl rfl 9 rfl dX9_isThere_8 ?_
    refine r_get (h0 0 (Nat.le_of_ble_eq_true rfl)) rfl (Nat.le_of_ble_eq_true rfl) rfl rfl w_X9_isThere_1 1 (Nat.le_of_ble_eq_true rfl) rfl w_X9_isThere_0 (.ref (E.2.1 + (o0 + 1))) rfl 12 rfl dX9_isThere_9 ?_
    refine r_bipush 8 rfl 14 rfl dX9_isThere_12 ?_
    refine r_iconst 3 rfl 15 rfl dX9_isThere_14 ?_
    refine r_iload_n 1 1 rfl rfl 16 rfl dX9_isThere_15 ?_
    refine r_imul 17 rfl dX9_isThere_16 ?_
    refine r_iadd 18 rfl dX9_isThere_17 ?_
    refine r_iconst 2 rfl 19 rfl dX9_isThere_18 ?_
    refine r_iadd 20 rfl dX9_isThere_19 ?_
    refine r_iald (h0 1 (Nat.le_of_ble_eq_true rfl)) rfl rfl 21 rfl dX9_isThere_20 (fun v2 => ?_)
    refine r_iconst 1 rfl 22 rfl dX9_isThere_21 ?_
    refine r_icmp_ne 29 25 rfl rfl dX9_isThere_22 ?_ ?_
    · refine r_iconst 0 rfl 30 rfl dX9_isThere_29 ?_
      exact r_zreturnc (by decide) rfl rfl (Nat.le_of_ble_eq_true rfl) (Nat.le_of_ble_eq_true rfl) dX9_isThere_30
    · refine r_iconst 1 rfl 26 rfl dX9_isThere_25 ?_
      refine r_goto 30 rfl dX9_isThere_26 ?_
      exact r_zreturnc (by decide) rfl rfl (Nat.le_of_ble_eq_true rfl) (Nat.le_of_ble_eq_true rfl) dX9_isThere_30
def Y_X9_isOpen : z_Y := (RX9, cX9_isOpen, 1, wsX9_isOpen, (some .boolean), { frames := 0, cells := 0, slots := 0, locals := 0 }, 0, 0)
theorem ok_X9_isOpen : z_Ok yX9_isOpen Y_X9_isOpen 0 := ⟨⟨_, rfl⟩, rfl, rfl, rfl, by decide +kernel, by decide +kernel⟩
theorem w_X9_isOpen_0 : Cond.fieldLink RX9 7 "BunchTimesModel" "row" "[I" ∈ wsX9_isOpen := by decide +kernel
theorem w_X9_isOpen_1 : ∀ w ∈ u_ws RX9 TX9 18, w ∈ wsX9_isOpen := by decide +kernel
def f_X9_isOpen (d : z_D) (o0 : Nat) : Option Int32 := z_ald d (o0 + 1) 2656 3 (fun v1 => (if v1 = 1 then (some 1) else (some 0)))
set_option maxHeartbeats 4000000 in
set_option maxRecDepth 100000 in
theorem c_X9_isOpen {E : z_E} {l : Launch} {S : z_S} (d : z_D) (o0 : Nat) (h0 : A_Model S o0) : z_Sp E l yX9_isOpen Y_X9_isOpen (cvI S d) [.ref (E.2.1 + o0)] (S, d) (f_X9_isOpen d o0) := by
  refine z_entry (lv := [(0, .ref (E.2.1 + o0))]) (by decide) rfl rfl (Nat.le_of_ble_eq_true rfl) rfl ?_
  unfold f_X9_isOpen
  refine r_aload_n 0 0 rfl rfl 1 rfl dX9_isOpen_0 ?_
  refine r_get (h0 0 (Nat.le_of_ble_eq_true rfl)) rfl (Nat.le_of_ble_eq_true rfl) rfl rfl w_X9_isOpen_1 1 (Nat.le_of_ble_eq_true rfl) rfl w_X9_isOpen_0 (.ref (E.2.1 + (o0 + 1))) rfl 4 rfl dX9_isOpen_1 ?_
  refine r_iconst 3 rfl 5 rfl dX9_isOpen_4 ?_
  refine r_iald (h0 1 (Nat.le_of_ble_eq_true rfl)) rfl rfl 6 rfl dX9_isOpen_5 (fun v1 => ?_)
  refine r_iconst 1 rfl 7 rfl dX9_isOpen_6 ?_
  refine r_icmp_ne 14 10 rfl rfl dX9_isOpen_7 ?_ ?_
  · refine r_iconst 0 rfl 15 rfl dX9_isOpen_14 ?_
    exact r_zreturnc (by decide) rfl rfl (Nat.le_of_ble_eq_true rfl) (Nat.le_of_ble_eq_true rfl) dX9_isOpen_15
  · refine r_iconst 1 rfl 11 rfl dX9_isOpen_10 ?_
    refine r_goto 15 rfl dX9_isOpen_11 ?_
    exact r_zreturnc (by decide) rfl rfl (Nat.le_of_ble_eq_true rfl) (Nat.le_of_ble_eq_true rfl) dX9_isOpen_15
def Y_X9_closedMany : z_Y := (RX9, cX9_closedMany, 1, wsX9_closedMany, (some .int), { frames := 0, cells := 0, slots := 0, locals := 0 }, 0, 0)
theorem ok_X9_closedMany : z_Ok yX9_closedMany Y_X9_closedMany 0 := ⟨⟨_, rfl⟩, rfl, rfl, rfl, by decide +kernel, by decide +kernel⟩
theorem w_X9_closedMany_0 : Cond.fieldLink RX9 7 "BunchTimesModel" "row" "[I" ∈ wsX9_closedMany := by decide +kernel
theorem w_X9_closedMany_1 : ∀ w ∈ u_ws RX9 TX9 18, w ∈ wsX9_closedMany := by decide +kernel
def f_X9_closedMany (d : z_D) (o0 : Nat) : Option Int32 := z_ald d (o0 + 1) 2656 2 (fun v1 => z_ald d (o0 + 1) 2656 3 (fun v2 => (some (v1 - v2))))
set_option maxHeartbeats 4000000 in
set_option maxRecDepth 100000 in
theorem c_X9_closedMany {E : z_E} {l : Launch} {S : z_S} (d : z_D) (o0 : Nat) (h0 : A_Model S o0) : z_Sp E l yX9_closedMany Y_X9_closedMany (cvI S d) [.ref (E.2.1 + o0)] (S, d) (f_X9_closedMany d o0) := by
  refine z_entry (lv := [(0, .ref (E.2.1 + o0))]) (by decide) rfl rfl (Nat.le_of_ble_eq_true rfl) rfl ?_
  unfold f_X9_closedMany
  refine r_aload_n 0 0 rfl rfl 1 rfl dX9_closedMany_0 ?_
  refine r_get (h0 0 (Nat.le_of_ble_eq_true rfl)) rfl (Nat.le_of_ble_eq_true rfl) rfl rfl w_X9_closedMany_1 1 (Nat.le_of_ble_eq_true rfl) rfl w_X9_closedMany_0 (.ref (E.2.1 + (o0 + 1))) rfl 4 rfl dX9_closedMany_1 ?_
  refine r_iconst 2 rfl 5 rfl dX9_closedMany_4 ?_
  refine r_iald (h0 1 (Nat.le_of_ble_eq_true rfl)) rfl rfl 6 rfl dX9_closedMany_5 (fun v1 => ?_)
  refine r_aload_n 0 0 rfl rfl 7 rfl dX9_closedMany_6 ?_
  refine r_get (h0 0 (Nat.le_of_ble_eq_true rfl)) rfl (Nat.le_of_ble_eq_true rfl) rfl rfl w_X9_closedMany_1 1 (Nat.le_of_ble_eq_true rfl) rfl w_X9_closedMany_0 (.ref (E.2.1 + (o0 + 1))) rfl 10 rfl dX9_closedMany_7 ?_
  refine r_iconst 3 rfl 11 rfl dX9_closedMany_10 ?_
  refine r_iald (h0 1 (Nat.le_of_ble_eq_true rfl)) rfl rfl 12 rfl dX9_closedMany_11 (fun v2 => ?_)
  refine r_isub 13 rfl dX9_closedMany_12 ?_
  exact r_ireturn rfl rfl (Nat.le_of_ble_eq_true rfl) (Nat.le_of_ble_eq_true rfl) dX9_closedMany_13
def Y_X9_latest : z_Y := (RX9, cX9_latest, 1, wsX9_latest, (some .int), { frames := 0, cells := 0, slots := 0, locals := 0 }, 0, 0)
theorem ok_X9_latest : z_Ok yX9_latest Y_X9_latest 0 := ⟨⟨_, rfl⟩, rfl, rfl, rfl, by decide +kernel, by decide +kernel⟩
theorem w_X9_latest_0 : Cond.fieldLink RX9 7 "BunchTimesModel" "row" "[I" ∈ wsX9_latest := by decide +kernel
theorem w_X9_latest_1 : ∀ w ∈ u_ws RX9 TX9 18, w ∈ wsX9_latest := by decide +kernel
def f_X9_latest (d : z_D) (o0 : Nat) : Option Int32 := z_ald d (o0 + 1) 2656 2 (fun v1 => (some (v1 - 1)))
set_option maxHeartbeats 4000000 in
set_option maxRecDepth 100000 in
theorem c_X9_latest {E : z_E} {l : Launch} {S : z_S} (d : z_D) (o0 : Nat) (h0 : A_Model S o0) : z_Sp E l yX9_latest Y_X9_latest (cvI S d) [.ref (E.2.1 + o0)] (S, d) (f_X9_latest d o0) := by
  refine z_entry (lv := [(0, .ref (E.2.1 + o0))]) (by decide) rfl rfl (Nat.le_of_ble_eq_true rfl) rfl ?_
  unfold f_X9_latest
  refine r_aload_n 0 0 rfl rfl 1 rfl dX9_latest_0 ?_
  refine r_get (h0 0 (Nat.le_of_ble_eq_true rfl)) rfl (Nat.le_of_ble_eq_true rfl) rfl rfl w_X9_latest_1 1 (Nat.le_of_ble_eq_true rfl) rfl w_X9_latest_0 (.ref (E.2.1 + (o0 + 1))) rfl 4 rfl dX9_latest_1 ?_
  refine r_iconst 2 rfl 5 rfl dX9_latest_4 ?_
  refine r_iald (h0 1 (Nat.le_of_ble_eq_true rfl)) rfl rfl 6 rfl dX9_latest_5 (fun v1 => ?_)
  refine r_iconst 1 rfl 7 rfl dX9_latest_6 ?_
  refine r_isub 8 rfl dX9_latest_7 ?_
  exact r_ireturn rfl rfl (Nat.le_of_ble_eq_true rfl) (Nat.le_of_ble_eq_true rfl) dX9_latest_8
def Y_X9_at : z_Y := (RX9, cX9_at, 2, wsX9_at, (some .int), { frames := 0, cells := 0, slots := 0, locals := 0 }, 0, 0)
theorem ok_X9_at : z_Ok yX9_at Y_X9_at 2 := ⟨⟨_, rfl⟩, rfl, rfl, rfl, by decide +kernel, by decide +kernel⟩
def f_X9_at (x0 : Int32) (x1 : Int32) : Option Int32 := (some ((56 + (325 * x0)) + x1))
set_option maxHeartbeats 4000000 in
set_option maxRecDepth 100000 in
theorem c_X9_at {E : z_E} {l : Launch} {S : z_S} (d : z_D) (x0 : Int32) (x1 : Int32) : z_Sp E l yX9_at Y_X9_at (cvI S d) [.int x0, .int x1] (S, d) (f_X9_at x0 x1) := by
  refine z_entry (lv := [(0, .int x0), (1, .int x1)]) (by decide) rfl rfl (Nat.le_of_ble_eq_true rfl) rfl ?_
  unfold f_X9_at
  refine r_bipush 56 rfl 2 rfl dX9_at_0 ?_
  refine r_sipush 325 rfl 5 rfl dX9_at_2 ?_
  refine r_iload_n 0 0 rfl rfl 6 rfl dX9_at_5 ?_
  refine r_imul 7 rfl dX9_at_6 ?_
  refine r_iadd 8 rfl dX9_at_7 ?_
  refine r_iload_n 1 1 rfl rfl 9 rfl dX9_at_8 ?_
  refine r_iadd 10 rfl dX9_at_9 ?_
  exact r_ireturn rfl rfl (Nat.le_of_ble_eq_true rfl) (Nat.le_of_ble_eq_true rfl) dX9_at_10
def Y_X9_at_ : z_Y := (RX9, cX9_at_, 3, wsX9_at_, (some .int), { frames := 0, cells := 0, slots := 0, locals := 0 }, 0, 0)
theorem ok_X9_at_ : z_Ok yX9_at_ Y_X9_at_ 3 := ⟨⟨_, rfl⟩, rfl, rfl, rfl, by decide +kernel, by decide +kernel⟩
def f_X9_at_ (x0 : Int32) (x1 : Int32) (x2 : Int32) : Option Int32 := (some ((((56 + (325 * x0)) + 127) + (12 * x1)) + x2))
set_option maxHeartbeats 4000000 in
set_option maxRecDepth 100000 in
theorem c_X9_at_ {E : z_E} {l : Launch} {S : z_S} (d : z_D) (x0 : Int32) (x1 : Int32) (x2 : Int32) : z_Sp E l yX9_at_ Y_X9_at_ (cvI S d) [.int x0, .int x1, .int x2] (S, d) (f_X9_at_ x0 x1 x2) := by
  refine z_entry (lv := [(0, .int x0), (1, .int x1), (2, .int x2)]) (by decide) rfl rfl (Nat.le_of_ble_eq_true rfl) rfl ?_
  unfold f_X9_at_
  refine r_bipush 56 rfl 2 rfl dX9_at__0 ?_
  refine r_sipush 325 rfl 5 rfl dX9_at__2 ?_
  refine r_iload_n 0 0 rfl rfl 6 rfl dX9_at__5 ?_
  refine r_imul 7 rfl dX9_at__6 ?_
  refine r_iadd 8 rfl dX9_at__7 ?_
  refine r_bipush 127 rfl 10 rfl dX9_at__8 ?_
  refine r_iadd 11 rfl dX9_at__10 ?_
  refine r_bipush 12 rfl 13 rfl dX9_at__11 ?_
  refine r_iload_n 1 1 rfl rfl 14 rfl dX9_at__13 ?_
  refine r_imul 15 rfl dX9_at__14 ?_
  refine r_iadd 16 rfl dX9_at__15 ?_
  refine r_iload_n 2 2 rfl rfl 17 rfl dX9_at__16 ?_
  refine r_iadd 18 rfl dX9_at__17 ?_
  exact r_ireturn rfl rfl (Nat.le_of_ble_eq_true rfl) (Nat.le_of_ble_eq_true rfl) dX9_at__18
def Y_X9_mark : z_Y := (RX9, cX9_mark, 3, wsX9_mark, (some .int), { frames := 0, cells := 0, slots := 0, locals := 0 }, 0, 0)
theorem ok_X9_mark : z_Ok yX9_mark Y_X9_mark 3 := ⟨⟨_, rfl⟩, rfl, rfl, rfl, by decide +kernel, by decide +kernel⟩
def f_X9_mark (x0 : Int32) (x1 : Int32) (x2 : Int32) : Option Int32 := (some ((((56 + (325 * x0)) + 13) + (19 * x1)) + x2))
set_option maxHeartbeats 4000000 in
set_option maxRecDepth 100000 in
theorem c_X9_mark {E : z_E} {l : Launch} {S : z_S} (d : z_D) (x0 : Int32) (x1 : Int32) (x2 : Int32) : z_Sp E l yX9_mark Y_X9_mark (cvI S d) [.int x0, .int x1, .int x2] (S, d) (f_X9_mark x0 x1 x2) := by
  refine z_entry (lv := [(0, .int x0), (1, .int x1), (2, .int x2)]) (by decide) rfl rfl (Nat.le_of_ble_eq_true rfl) rfl ?_
  unfold f_X9_mark
  refine r_bipush 56 rfl 2 rfl dX9_mark_0 ?_
  refine r_sipush 325 rfl 5 rfl dX9_mark_2 ?_
  refine r_iload_n 0 0 rfl rfl 6 rfl dX9_mark_5 ?_
  refine r_imul 7 rfl dX9_mark_6 ?_
  refine r_iadd 8 rfl dX9_mark_7 ?_
  refine r_bipush 13 rfl 10 rfl dX9_mark_8 ?_
  refine r_iadd 11 rfl dX9_mark_10 ?_
  refine r_bipush 19 rfl 13 rfl dX9_mark_11 ?_
  refine r_iload_n 1 1 rfl rfl 14 rfl dX9_mark_13 ?_
  refine r_imul 15 rfl dX9_mark_14 ?_
  refine r_iadd 16 rfl dX9_mark_15 ?_
  refine r_iload_n 2 2 rfl rfl 17 rfl dX9_mark_16 ?_
  refine r_iadd 18 rfl dX9_mark_17 ?_
  exact r_ireturn rfl rfl (Nat.le_of_ble_eq_true rfl) (Nat.le_of_ble_eq_true rfl) dX9_mark_18
def Y_X9_hasFinish : z_Y := (RX9, cX9_hasFinish, 3, wsX9_hasFinish, (some .boolean), { frames := 1, cells := 0, slots := 0, locals := 22 }, 0, 0)
theorem ok_X9_hasFinish : z_Ok yX9_hasFinish Y_X9_hasFinish 2 := ⟨⟨_, rfl⟩, rfl, rfl, rfl, by decide +kernel, by decide +kernel⟩
theorem w_X9_hasFinish_0 : Cond.fieldLink RX9 7 "BunchTimesModel" "row" "[I" ∈ wsX9_hasFinish := by decide +kernel
theorem w_X9_hasFinish_1 : ∀ w ∈ u_ws RX9 TX9 18, w ∈ wsX9_hasFinish := by decide +kernel
def f_X9_hasFinish (d : z_D) (o0 : Nat) (x1 : Int32) (x2 : Int32) : Option Int32 := ((f_X9_at_ x1 x2 0).bind fun v1 => z_ald d (o0 + 1) 2656 v1 (fun v2 => (if v2 ≤ 0 then (some 0) else (some 1))))
set_option maxHeartbeats 4000000 in
set_option maxRecDepth 100000 in
theorem c_X9_hasFinish {E : z_E} {l : Launch} {S : z_S} (d : z_D) (o0 : Nat) (h0 : A_Model S o0) (x1 : Int32) (x2 : Int32) : z_Sp E l yX9_hasFinish Y_X9_hasFinish (cvI S d) [.ref (E.2.1 + o0), .int x1, .int x2] (S, d) (f_X9_hasFinish d o0 x1 x2) := by
  refine z_entry (lv := [(0, .ref (E.2.1 + o0)), (1, .int x1), (2, .int x2)]) (by decide) rfl rfl (Nat.le_of_ble_eq_true rfl) rfl ?_
  unfold f_X9_hasFinish
  refine r_aload_n 0 0 rfl rfl 1 rfl dX9_hasFinish_0 ?_
  refine r_get (h0 0 (Nat.le_of_ble_eq_true rfl)) rfl (Nat.le_of_ble_eq_true rfl) rfl rfl w_X9_hasFinish_1 1 (Nat.le_of_ble_eq_true rfl) rfl w_X9_hasFinish_0 (.ref (E.2.1 + (o0 + 1))) rfl 4 rfl dX9_hasFinish_1 ?_
  refine r_iload_n 1 1 rfl rfl 5 rfl dX9_hasFinish_4 ?_
  refine r_iload_n 2 2 rfl rfl 6 rfl dX9_hasFinish_5 ?_
  refine r_iconst 0 rfl 7 rfl dX9_hasFinish_6 ?_
  refine r_callS_I (c_X9_at_ (E := E) (l := l) (S := S) d x1 x2 0) ok_X9_at_ ⟨⟨(Nat.le_of_ble_eq_true rfl), (Nat.le_of_ble_eq_true rfl)⟩, (Nat.le_of_ble_eq_true rfl), (Nat.le_of_ble_eq_true rfl)⟩ rfl (Nat.le_of_ble_eq_true rfl) gX9_hasFinish_X9_at_ rfl rfl 10 rfl dX9_hasFinish_7 (fun v1 => ?_)
  refine r_iald (h0 1 (Nat.le_of_ble_eq_true rfl)) rfl rfl 11 rfl dX9_hasFinish_10 (fun v2 => ?_)
  refine r_if_le 18 14 rfl rfl dX9_hasFinish_11 ?_ ?_
  · refine r_iconst 0 rfl 19 rfl dX9_hasFinish_18 ?_
    exact r_zreturnc (by decide) rfl rfl (Nat.le_of_ble_eq_true rfl) (Nat.le_of_ble_eq_true rfl) dX9_hasFinish_19
  · refine r_iconst 1 rfl 15 rfl dX9_hasFinish_14 ?_
    refine r_goto 19 rfl dX9_hasFinish_15 ?_
    exact r_zreturnc (by decide) rfl rfl (Nat.le_of_ble_eq_true rfl) (Nat.le_of_ble_eq_true rfl) dX9_hasFinish_19
def Y_X9_finishes : z_Y := (RX9, cX9_finishes, 4, wsX9_finishes, (some .int), { frames := 2, cells := 0, slots := 0, locals := 44 }, 0, 0)
theorem ok_X9_finishes : z_Ok yX9_finishes Y_X9_finishes 1 := ⟨⟨_, rfl⟩, rfl, rfl, rfl, by decide +kernel, by decide +kernel⟩
theorem w_X9_finishes_0 : Cond.fieldLink RX9 7 "BunchTimesModel" "row" "[I" ∈ wsX9_finishes := by decide +kernel
theorem w_X9_finishes_1 : ∀ w ∈ u_ws RX9 TX9 18, w ∈ wsX9_finishes := by decide +kernel
def f_X9_finishes_L4_b (d : z_D) (o0 : Nat) (x1 : Int32) (K : Int32 → Option Int32) (R : Int32 → Int32 → Option Int32) (x2 : Int32) (x3 : Int32) : Option Int32 := z_ald d (o0 + 1) 2656 1 (fun v1 => (if v1 ≤ x3 then (K x2) else ((f_X9_hasFinish d o0 x1 x3).bind fun v2 => (if v2 = 0 then z_nam (x2 + 0) (fun v3 => (R v3 (x3 + 1))) else z_nam (x2 + 1) (fun v4 => (R v4 (x3 + 1)))))))
def f_X9_finishes_L4 (d : z_D) (o0 : Nat) (x1 : Int32) (K : Int32 → Option Int32) : Nat → Int32 → Int32 → Option Int32
  | 0 => fun _ _ => none
  | n + 1 => f_X9_finishes_L4_b d o0 x1 K (f_X9_finishes_L4 d o0 x1 K n)
set_option maxHeartbeats 4000000 in
set_option maxRecDepth 100000 in
theorem g_X9_finishes_L4 {E : z_E} {l : Launch} {S : z_S} {d : z_D} {o0 : Nat} {x1 : Int32} {K : Int32 → Option Int32} (h0 : A_Model S o0) (hK : ∀ (y2 : Int32), z_G E l Y_X9_finishes (cvI S d) (K y2) 37 [(2, .int y2)] [] (S, d) 0 0) : ∀ (n : Nat) (x2 : Int32) (x3 : Int32), z_G E l Y_X9_finishes (cvI S d) (f_X9_finishes_L4 d o0 x1 K n x2 x3) 4 [(0, .ref (E.2.1 + o0)), (1, .int x1), (2, .int x2), (3, .int x3)] [] (S, d) 0 0 := by
  intro n
  induction n with
  | zero => intro _ _; exact r_none
  | succ n ih =>
    intro x2 x3
    show z_G E l Y_X9_finishes (cvI S d) (f_X9_finishes_L4_b d o0 x1 K (f_X9_finishes_L4 d o0 x1 K n) x2 x3) 4 [(0, .ref (E.2.1 + o0)), (1, .int x1), (2, .int x2), (3, .int x3)] [] (S, d) 0 0
    unfold f_X9_finishes_L4_b
    refine r_iload_n 3 3 rfl rfl 5 rfl dX9_finishes_4 ?_
    refine r_aload_n 0 0 rfl rfl 6 rfl dX9_finishes_5 ?_
    refine r_get (h0 0 (Nat.le_of_ble_eq_true rfl)) rfl (Nat.le_of_ble_eq_true rfl) rfl rfl w_X9_finishes_1 1 (Nat.le_of_ble_eq_true rfl) rfl w_X9_finishes_0 (.ref (E.2.1 + (o0 + 1))) rfl 9 rfl dX9_finishes_6 ?_
    refine r_iconst 1 rfl 10 rfl dX9_finishes_9 ?_
    refine r_iald (h0 1 (Nat.le_of_ble_eq_true rfl)) rfl rfl 11 rfl dX9_finishes_10 (fun v1 => ?_)
    refine r_icmp_ge 37 14 rfl rfl dX9_finishes_11 ?_ ?_
    · refine r_sub [2] rfl ?_
      exact hK x2
    · refine r_iload_n 2 2 rfl rfl 15 rfl dX9_finishes_14 ?_
      refine r_aload_n 0 0 rfl rfl 16 rfl dX9_finishes_15 ?_
      refine r_iload_n 1 1 rfl rfl 17 rfl dX9_finishes_16 ?_
      refine r_iload_n 3 3 rfl rfl 18 rfl dX9_finishes_17 ?_
      refine r_callV_I (c_X9_hasFinish (E := E) (l := l) (S := S) d o0 h0 x1 x3) ok_X9_hasFinish ⟨⟨(Nat.le_of_ble_eq_true rfl), (Nat.le_of_ble_eq_true rfl)⟩, (Nat.le_of_ble_eq_true rfl), (Nat.le_of_ble_eq_true rfl)⟩ (h0 0 (Nat.le_of_ble_eq_true rfl)) (Nat.le_of_ble_eq_true rfl) rfl rfl rfl (Nat.le_of_ble_eq_true rfl) gX9_finishes_X9_hasFinish rfl rfl 21 rfl dX9_finishes_18 (fun v2 => ?_)
      refine r_if_eq 28 24 rfl rfl dX9_finishes_21 ?_ ?_
      · refine r_iconst 0 rfl 29 rfl dX9_finishes_28 ?_
        refine r_iadd 30 rfl dX9_finishes_29 ?_
        refine r_nami (fun v3 => ?_)
        refine r_istore_n 2 rfl [(2, .int v3), (0, .ref (E.2.1 + o0)), (1, .int x1), (3, .int x3)] (Nat.le_of_ble_eq_true rfl) rfl 31 rfl dX9_finishes_30 ?_
        refine r_iinc (x3 + 1) 3 rfl rfl [(3, .int (x3 + 1)), (2, .int v3), (0, .ref (E.2.1 + o0)), (1, .int x1)] (Nat.le_of_ble_eq_true rfl) rfl 34 rfl dX9_finishes_31 ?_
        refine r_goto 4 rfl dX9_finishes_34 ?_
        refine r_sub [2, 3, 1, 0] rfl ?_
        exact ih v3 (x3 + 1)
      · refine r_iconst 1 rfl 25 rfl dX9_finishes_24 ?_
        refine r_goto 29 rfl dX9_finishes_25 ?_
        refine r_iadd 30 rfl dX9_finishes_29 ?_
        refine r_nami (fun v4 => ?_)
        refine r_istore_n 2 rfl [(2, .int v4), (0, .ref (E.2.1 + o0)), (1, .int x1), (3, .int x3)] (Nat.le_of_ble_eq_true rfl) rfl 31 rfl dX9_finishes_30 ?_
        refine r_iinc (x3 + 1) 3 rfl rfl [(3, .int (x3 + 1)), (2, .int v4), (0, .ref (E.2.1 + o0)), (1, .int x1)] (Nat.le_of_ble_eq_true rfl) rfl 34 rfl dX9_finishes_31 ?_
        refine r_goto 4 rfl dX9_finishes_34 ?_
        refine r_sub [2, 3, 1, 0] rfl ?_
        exact ih v4 (x3 + 1)
def f_X9_finishes (d : z_D) (o0 : Nat) (x1 : Int32) : Option Int32 := (f_X9_finishes_L4 d o0 x1 (fun v5 => (some v5)) z_N 0 0)
set_option maxHeartbeats 4000000 in
set_option maxRecDepth 100000 in
theorem c_X9_finishes {E : z_E} {l : Launch} {S : z_S} (d : z_D) (o0 : Nat) (h0 : A_Model S o0) (x1 : Int32) : z_Sp E l yX9_finishes Y_X9_finishes (cvI S d) [.ref (E.2.1 + o0), .int x1] (S, d) (f_X9_finishes d o0 x1) := by
  refine z_entry (lv := [(0, .ref (E.2.1 + o0)), (1, .int x1)]) (by decide) rfl rfl (Nat.le_of_ble_eq_true rfl) rfl ?_
  unfold f_X9_finishes
  refine r_iconst 0 rfl 1 rfl dX9_finishes_0 ?_
  refine r_istore_n 2 rfl [(2, .int 0), (0, .ref (E.2.1 + o0)), (1, .int x1)] (Nat.le_of_ble_eq_true rfl) rfl 2 rfl dX9_finishes_1 ?_
  refine r_iconst 0 rfl 3 rfl dX9_finishes_2 ?_
  refine r_istore_n 3 rfl [(3, .int 0), (2, .int 0), (0, .ref (E.2.1 + o0)), (1, .int x1)] (Nat.le_of_ble_eq_true rfl) rfl 4 rfl dX9_finishes_3 ?_
  refine r_sub [2, 3, 1, 0] rfl ?_
  refine g_X9_finishes_L4 h0 (fun v5 => ?_) z_N 0 0
  refine r_iload_n 2 0 rfl rfl 38 rfl dX9_finishes_37 ?_
  exact r_ireturn rfl rfl (Nat.le_of_ble_eq_true rfl) (Nat.le_of_ble_eq_true rfl) dX9_finishes_38
