/-! 27.gen7: by gen/mk.py -/
def Y_X7_tellRider : z_Y := (RX7, cX7_tellRider, 4, wsX7_tellRider, (some .boolean), { frames := 3, cells := 0, slots := 0, locals := 66 }, 0, 0)
theorem ok_X7_tellRider : z_Ok yX7_tellRider Y_X7_tellRider 2 := ⟨⟨_, rfl⟩, rfl, rfl, rfl, by decide +kernel, by decide +kernel⟩
theorem w_X7_tellRider_0 : ∀ w ∈ u_ws RX3 TX3 10, w ∈ wsX7_tellRider := by decide +kernel
theorem w_X7_tellRider_1 : Cond.initialized RX6 ∈ wsX7_tellRider := by decide +kernel
theorem w_X7_tellRider_2 : Cond.instanceMethod yX6_takeInt ∈ wsX7_tellRider := by decide +kernel
theorem w_X7_tellRider_3 : Cond.selects RX6 yX6_takeInt yX6_takeInt ∈ wsX7_tellRider := by decide +kernel
theorem w_X7_tellRider_4 : Cond.initialized RX3 ∈ wsX7_tellRider := by decide +kernel
theorem w_X7_tellRider_5 : Cond.instanceMethod yX3_addRider ∈ wsX7_tellRider := by decide +kernel
theorem w_X7_tellRider_6 : Cond.selects RX3 yX3_addRider yX3_addRider ∈ wsX7_tellRider := by decide +kernel
def f_X7_tellRider (d : z_D) (o0 : Nat) (o1 : Nat) : Option (Int32 × z_D) := z_bX (f_X6_takeInt d o1 0 ((d o0 0) - 1)) (fun v1 d2 => z_bX (f_X6_takeInt d2 o1 16 50) (fun v3 d4 => z_bX (f_X3_addRider d4 o0 v1 v3) (fun v5 d6 => (if v5 = (-1) then (some (0, d6)) else (some (1, d6))))))
set_option maxHeartbeats 4000000 in
set_option maxRecDepth 100000 in
theorem c_X7_tellRider {E : z_E} {l : Launch} {S : z_S} (d : z_D) (o0 : Nat) (h0 : A_Race S o0) (o1 : Nat) (h1 : A_Tape S o1) : z_Sp E l yX7_tellRider Y_X7_tellRider (cvX S) [.ref (E.2.1 + o0), .ref (E.2.1 + o1)] (S, d) (f_X7_tellRider d o0 o1) := by
  refine z_entry (lv := [(0, .ref (E.2.1 + o0)), (1, .ref (E.2.1 + o1))]) (by decide) rfl rfl (Nat.le_of_ble_eq_true rfl) rfl ?_
  unfold f_X7_tellRider
  refine r_aload_n 1 1 rfl rfl 1 rfl dX7_tellRider_0 ?_
  refine r_iconst 0 rfl 2 rfl dX7_tellRider_1 ?_
  refine r_aload_n 0 0 rfl rfl 3 rfl dX7_tellRider_2 ?_
  refine r_getN 0 23 rfl (h0.1 0 (Nat.le_of_ble_eq_true rfl)) rfl (Nat.le_of_ble_eq_true rfl) rfl rfl w_X7_tellRider_0 (Nat.le_of_ble_eq_true rfl) rfl (.int (d o0 0)) rfl 6 rfl dX7_tellRider_3 ?_
  refine r_iconst 1 rfl 7 rfl dX7_tellRider_6 ?_
  refine r_isub 8 rfl dX7_tellRider_7 ?_
  refine r_callVN_X (c_X6_takeInt (E := E) (l := l) (S := S) d o1 h1 0 ((d o0 0) - 1)) ok_X6_takeInt ⟨⟨(Nat.le_of_ble_eq_true rfl), (Nat.le_of_ble_eq_true rfl)⟩, (Nat.le_of_ble_eq_true rfl), (Nat.le_of_ble_eq_true rfl)⟩ (h1 0 (Nat.le_of_ble_eq_true rfl)) (Nat.le_of_ble_eq_true rfl) rfl rfl rfl (Nat.le_of_ble_eq_true rfl) 16 rfl gX7_tellRider_X6_takeInt_n73 w_X7_tellRider_1 w_X7_tellRider_2 w_X7_tellRider_3 rfl rfl 11 rfl dX7_tellRider_8 (fun v1 d2 => ?_)
  refine r_istore_n 2 rfl [(2, .int v1), (0, .ref (E.2.1 + o0)), (1, .ref (E.2.1 + o1))] (Nat.le_of_ble_eq_true rfl) rfl 12 rfl dX7_tellRider_11 ?_
  refine r_aload_n 1 2 rfl rfl 13 rfl dX7_tellRider_12 ?_
  refine r_bipush 16 rfl 15 rfl dX7_tellRider_13 ?_
  refine r_bipush 50 rfl 17 rfl dX7_tellRider_15 ?_
  refine r_callVN_X (c_X6_takeInt (E := E) (l := l) (S := S) d2 o1 h1 16 50) ok_X6_takeInt ⟨⟨(Nat.le_of_ble_eq_true rfl), (Nat.le_of_ble_eq_true rfl)⟩, (Nat.le_of_ble_eq_true rfl), (Nat.le_of_ble_eq_true rfl)⟩ (h1 0 (Nat.le_of_ble_eq_true rfl)) (Nat.le_of_ble_eq_true rfl) rfl rfl rfl (Nat.le_of_ble_eq_true rfl) 16 rfl gX7_tellRider_X6_takeInt_n73 w_X7_tellRider_1 w_X7_tellRider_2 w_X7_tellRider_3 rfl rfl 20 rfl dX7_tellRider_17 (fun v3 d4 => ?_)
  refine r_istore_n 3 rfl [(3, .int v3), (2, .int v1), (0, .ref (E.2.1 + o0)), (1, .ref (E.2.1 + o1))] (Nat.le_of_ble_eq_true rfl) rfl 21 rfl dX7_tellRider_20 ?_
  refine r_aload_n 0 2 rfl rfl 22 rfl dX7_tellRider_21 ?_
  refine r_iload_n 2 1 rfl rfl 23 rfl dX7_tellRider_22 ?_
  refine r_iload_n 3 0 rfl rfl 24 rfl dX7_tellRider_23 ?_
  refine r_callVN_X (c_X3_addRider (E := E) (l := l) (S := S) d4 o0 h0 v1 v3) ok_X3_addRider ⟨⟨(Nat.le_of_ble_eq_true rfl), (Nat.le_of_ble_eq_true rfl)⟩, (Nat.le_of_ble_eq_true rfl), (Nat.le_of_ble_eq_true rfl)⟩ (h0.1 0 (Nat.le_of_ble_eq_true rfl)) (Nat.le_of_ble_eq_true rfl) rfl rfl rfl (Nat.le_of_ble_eq_true rfl) 18 rfl gX7_tellRider_X3_addRider_n97 w_X7_tellRider_4 w_X7_tellRider_5 w_X7_tellRider_6 rfl rfl 27 rfl dX7_tellRider_24 (fun v5 d6 => ?_)
  refine r_iconst (-1) rfl 28 rfl dX7_tellRider_27 ?_
  refine r_icmp_eq 35 31 rfl rfl dX7_tellRider_28 ?_ ?_
  · refine r_iconst 0 rfl 36 rfl dX7_tellRider_35 ?_
    exact r_zreturnc (by decide) rfl rfl (Nat.le_of_ble_eq_true rfl) (Nat.le_of_ble_eq_true rfl) dX7_tellRider_36
  · refine r_iconst 1 rfl 32 rfl dX7_tellRider_31 ?_
    refine r_goto 36 rfl dX7_tellRider_32 ?_
    exact r_zreturnc (by decide) rfl rfl (Nat.le_of_ble_eq_true rfl) (Nat.le_of_ble_eq_true rfl) dX7_tellRider_36
def Y_X7_takeKind : z_Y := (RX7, cX7_takeKind, 1, wsX7_takeKind, (some .int), { frames := 6, cells := 0, slots := 0, locals := 172 }, 0, 0)
theorem ok_X7_takeKind : z_Ok yX7_takeKind Y_X7_takeKind 1 := ⟨⟨_, rfl⟩, rfl, rfl, rfl, by decide +kernel, by decide +kernel⟩
theorem w_X7_takeKind_0 : Cond.initialized RX6 ∈ wsX7_takeKind := by decide +kernel
theorem w_X7_takeKind_1 : Cond.instanceMethod yX6_takes ∈ wsX7_takeKind := by decide +kernel
theorem w_X7_takeKind_2 : Cond.selects RX6 yX6_takes yX6_takes ∈ wsX7_takeKind := by decide +kernel
theorem w_X7_takeKind_3 : Cond.instanceMethod yX6_cannotStand ∈ wsX7_takeKind := by decide +kernel
theorem w_X7_takeKind_4 : Cond.selects RX6 yX6_cannotStand yX6_cannotStand ∈ wsX7_takeKind := by decide +kernel
def f_X7_takeKind (d : z_D) (o0 : Nat) : Option (Int32 × z_D) := z_bX (f_X6_takes d o0 3) (fun v1 d2 => (if v1 = 0 then z_bX (f_X6_takes d2 o0 4) (fun v3 d4 => (if v3 = 0 then z_bX (f_X6_takes d4 o0 5) (fun v5 d6 => (if v5 = 0 then z_bX (f_X6_takes d6 o0 6) (fun v7 d8 => (if v7 = 0 then z_bX (f_X6_cannotStand d8 o0) (fun v9 d10 => (some (v9, d10))) else (some (3, d8)))) else (some (2, d6)))) else (some (1, d4)))) else (some (0, d2))))
set_option maxHeartbeats 4000000 in
set_option maxRecDepth 100000 in
theorem c_X7_takeKind {E : z_E} {l : Launch} {S : z_S} (d : z_D) (o0 : Nat) (h0 : A_Tape S o0) : z_Sp E l yX7_takeKind Y_X7_takeKind (cvX S) [.ref (E.2.1 + o0)] (S, d) (f_X7_takeKind d o0) := by
  refine z_entry (lv := [(0, .ref (E.2.1 + o0))]) (by decide) rfl rfl (Nat.le_of_ble_eq_true rfl) rfl ?_
  unfold f_X7_takeKind
  refine r_aload_n 0 0 rfl rfl 1 rfl dX7_takeKind_0 ?_
  refine r_ldcS 3 rfl rfl rfl 3 rfl dX7_takeKind_1 ?_
  refine r_callVN_X (c_X6_takes (E := E) (l := l) (S := S) d o0 h0 3 (Nat.le_of_ble_eq_true rfl)) ok_X6_takes ⟨⟨(Nat.le_of_ble_eq_true rfl), (Nat.le_of_ble_eq_true rfl)⟩, (Nat.le_of_ble_eq_true rfl), (Nat.le_of_ble_eq_true rfl)⟩ (h0 0 (Nat.le_of_ble_eq_true rfl)) (Nat.le_of_ble_eq_true rfl) rfl rfl rfl (Nat.le_of_ble_eq_true rfl) 14 rfl gX7_takeKind_X6_takes_n11 w_X7_takeKind_0 w_X7_takeKind_1 w_X7_takeKind_2 rfl rfl 6 rfl dX7_takeKind_3 (fun v1 d2 => ?_)
  refine r_if_eq 11 9 rfl rfl dX7_takeKind_6 ?_ ?_
  · refine r_aload_n 0 0 rfl rfl 12 rfl dX7_takeKind_11 ?_
    refine r_ldcS 4 rfl rfl rfl 14 rfl dX7_takeKind_12 ?_
    refine r_callVN_X (c_X6_takes (E := E) (l := l) (S := S) d2 o0 h0 4 (Nat.le_of_ble_eq_true rfl)) ok_X6_takes ⟨⟨(Nat.le_of_ble_eq_true rfl), (Nat.le_of_ble_eq_true rfl)⟩, (Nat.le_of_ble_eq_true rfl), (Nat.le_of_ble_eq_true rfl)⟩ (h0 0 (Nat.le_of_ble_eq_true rfl)) (Nat.le_of_ble_eq_true rfl) rfl rfl rfl (Nat.le_of_ble_eq_true rfl) 14 rfl gX7_takeKind_X6_takes_n11 w_X7_takeKind_0 w_X7_takeKind_1 w_X7_takeKind_2 rfl rfl 17 rfl dX7_takeKind_14 (fun v3 d4 => ?_)
    refine r_if_eq 22 20 rfl rfl dX7_takeKind_17 ?_ ?_
    · refine r_aload_n 0 0 rfl rfl 23 rfl dX7_takeKind_22 ?_
      refine r_ldcS 5 rfl rfl rfl 25 rfl dX7_takeKind_23 ?_
      refine r_callVN_X (c_X6_takes (E := E) (l := l) (S := S) d4 o0 h0 5 (Nat.le_of_ble_eq_true rfl)) ok_X6_takes ⟨⟨(Nat.le_of_ble_eq_true rfl), (Nat.le_of_ble_eq_true rfl)⟩, (Nat.le_of_ble_eq_true rfl), (Nat.le_of_ble_eq_true rfl)⟩ (h0 0 (Nat.le_of_ble_eq_true rfl)) (Nat.le_of_ble_eq_true rfl) rfl rfl rfl (Nat.le_of_ble_eq_true rfl) 14 rfl gX7_takeKind_X6_takes_n11 w_X7_takeKind_0 w_X7_takeKind_1 w_X7_takeKind_2 rfl rfl 28 rfl dX7_takeKind_25 (fun v5 d6 => ?_)
      refine r_if_eq 33 31 rfl rfl dX7_takeKind_28 ?_ ?_
      · refine r_aload_n 0 0 rfl rfl 34 rfl dX7_takeKind_33 ?_
        refine r_ldcS 6 rfl rfl rfl 36 rfl dX7_takeKind_34 ?_
        refine r_callVN_X (c_X6_takes (E := E) (l := l) (S := S) d6 o0 h0 6 (Nat.le_of_ble_eq_true rfl)) ok_X6_takes ⟨⟨(Nat.le_of_ble_eq_true rfl), (Nat.le_of_ble_eq_true rfl)⟩, (Nat.le_of_ble_eq_true rfl), (Nat.le_of_ble_eq_true rfl)⟩ (h0 0 (Nat.le_of_ble_eq_true rfl)) (Nat.le_of_ble_eq_true rfl) rfl rfl rfl (Nat.le_of_ble_eq_true rfl) 14 rfl gX7_takeKind_X6_takes_n11 w_X7_takeKind_0 w_X7_takeKind_1 w_X7_takeKind_2 rfl rfl 39 rfl dX7_takeKind_36 (fun v7 d8 => ?_)
        refine r_if_eq 46 42 rfl rfl dX7_takeKind_39 ?_ ?_
        · refine r_aload_n 0 0 rfl rfl 47 rfl dX7_takeKind_46 ?_
          refine r_callVN_X (c_X6_cannotStand (E := E) (l := l) (S := S) d8 o0 h0) ok_X6_cannotStand ⟨⟨(Nat.le_of_ble_eq_true rfl), (Nat.le_of_ble_eq_true rfl)⟩, (Nat.le_of_ble_eq_true rfl), (Nat.le_of_ble_eq_true rfl)⟩ (h0 0 (Nat.le_of_ble_eq_true rfl)) (Nat.le_of_ble_eq_true rfl) rfl rfl rfl (Nat.le_of_ble_eq_true rfl) 20 rfl gX7_takeKind_X6_cannotStand_n90 w_X7_takeKind_0 w_X7_takeKind_3 w_X7_takeKind_4 rfl rfl 50 rfl dX7_takeKind_47 (fun v9 d10 => ?_)
          exact r_ireturn rfl rfl (Nat.le_of_ble_eq_true rfl) (Nat.le_of_ble_eq_true rfl) dX7_takeKind_50
        · refine r_iconst 3 rfl 43 rfl dX7_takeKind_42 ?_
          refine r_goto 50 rfl dX7_takeKind_43 ?_
          exact r_ireturn rfl rfl (Nat.le_of_ble_eq_true rfl) (Nat.le_of_ble_eq_true rfl) dX7_takeKind_50
      · refine r_iconst 2 rfl 32 rfl dX7_takeKind_31 ?_
        exact r_ireturn rfl rfl (Nat.le_of_ble_eq_true rfl) (Nat.le_of_ble_eq_true rfl) dX7_takeKind_32
    · refine r_iconst 1 rfl 21 rfl dX7_takeKind_20 ?_
      exact r_ireturn rfl rfl (Nat.le_of_ble_eq_true rfl) (Nat.le_of_ble_eq_true rfl) dX7_takeKind_21
  · refine r_iconst 0 rfl 10 rfl dX7_takeKind_9 ?_
    exact r_ireturn rfl rfl (Nat.le_of_ble_eq_true rfl) (Nat.le_of_ble_eq_true rfl) dX7_takeKind_10
def Y_X7_takeHow : z_Y := (RX7, cX7_takeHow, 1, wsX7_takeHow, (some .int), { frames := 6, cells := 0, slots := 0, locals := 172 }, 0, 0)
theorem ok_X7_takeHow : z_Ok yX7_takeHow Y_X7_takeHow 1 := ⟨⟨_, rfl⟩, rfl, rfl, rfl, by decide +kernel, by decide +kernel⟩
theorem w_X7_takeHow_0 : Cond.initialized RX6 ∈ wsX7_takeHow := by decide +kernel
theorem w_X7_takeHow_1 : Cond.instanceMethod yX6_takes ∈ wsX7_takeHow := by decide +kernel
theorem w_X7_takeHow_2 : Cond.selects RX6 yX6_takes yX6_takes ∈ wsX7_takeHow := by decide +kernel
theorem w_X7_takeHow_3 : Cond.instanceMethod yX6_cannotStand ∈ wsX7_takeHow := by decide +kernel
theorem w_X7_takeHow_4 : Cond.selects RX6 yX6_cannotStand yX6_cannotStand ∈ wsX7_takeHow := by decide +kernel
theorem w_X7_takeHow_5 : Cond.instanceMethod yX6_takeInt ∈ wsX7_takeHow := by decide +kernel
theorem w_X7_takeHow_6 : Cond.selects RX6 yX6_takeInt yX6_takeInt ∈ wsX7_takeHow := by decide +kernel
def f_X7_takeHow (d : z_D) (o0 : Nat) : Option (Int32 × z_D) := z_bX (f_X6_takes d o0 8) (fun v1 d2 => (if v1 = 0 then z_bX (f_X6_takes d2 o0 9) (fun v3 d4 => (if v3 = 0 then z_bX (f_X6_cannotStand d4 o0) (fun v5 d6 => (some (v5, d6))) else z_bX (f_X6_takeInt d4 o0 1 4) (fun v7 d8 => (some (v7, d8))))) else (some (0, d2))))
set_option maxHeartbeats 4000000 in
set_option maxRecDepth 100000 in
theorem c_X7_takeHow {E : z_E} {l : Launch} {S : z_S} (d : z_D) (o0 : Nat) (h0 : A_Tape S o0) : z_Sp E l yX7_takeHow Y_X7_takeHow (cvX S) [.ref (E.2.1 + o0)] (S, d) (f_X7_takeHow d o0) := by
  refine z_entry (lv := [(0, .ref (E.2.1 + o0))]) (by decide) rfl rfl (Nat.le_of_ble_eq_true rfl) rfl ?_
  unfold f_X7_takeHow
  refine r_aload_n 0 0 rfl rfl 1 rfl dX7_takeHow_0 ?_
  refine r_ldcS 8 rfl rfl rfl 3 rfl dX7_takeHow_1 ?_
  refine r_callVN_X (c_X6_takes (E := E) (l := l) (S := S) d o0 h0 8 (Nat.le_of_ble_eq_true rfl)) ok_X6_takes ⟨⟨(Nat.le_of_ble_eq_true rfl), (Nat.le_of_ble_eq_true rfl)⟩, (Nat.le_of_ble_eq_true rfl), (Nat.le_of_ble_eq_true rfl)⟩ (h0 0 (Nat.le_of_ble_eq_true rfl)) (Nat.le_of_ble_eq_true rfl) rfl rfl rfl (Nat.le_of_ble_eq_true rfl) 14 rfl gX7_takeHow_X6_takes_n11 w_X7_takeHow_0 w_X7_takeHow_1 w_X7_takeHow_2 rfl rfl 6 rfl dX7_takeHow_3 (fun v1 d2 => ?_)
  refine r_if_eq 11 9 rfl rfl dX7_takeHow_6 ?_ ?_
  · refine r_aload_n 0 0 rfl rfl 12 rfl dX7_takeHow_11 ?_
    refine r_ldcS 9 rfl rfl rfl 14 rfl dX7_takeHow_12 ?_
    refine r_callVN_X (c_X6_takes (E := E) (l := l) (S := S) d2 o0 h0 9 (Nat.le_of_ble_eq_true rfl)) ok_X6_takes ⟨⟨(Nat.le_of_ble_eq_true rfl), (Nat.le_of_ble_eq_true rfl)⟩, (Nat.le_of_ble_eq_true rfl), (Nat.le_of_ble_eq_true rfl)⟩ (h0 0 (Nat.le_of_ble_eq_true rfl)) (Nat.le_of_ble_eq_true rfl) rfl rfl rfl (Nat.le_of_ble_eq_true rfl) 14 rfl gX7_takeHow_X6_takes_n11 w_X7_takeHow_0 w_X7_takeHow_1 w_X7_takeHow_2 rfl rfl 17 rfl dX7_takeHow_14 (fun v3 d4 => ?_)
    refine r_if_eq 29 20 rfl rfl dX7_takeHow_17 ?_ ?_
    · refine r_aload_n 0 0 rfl rfl 30 rfl dX7_takeHow_29 ?_
      refine r_callVN_X (c_X6_cannotStand (E := E) (l := l) (S := S) d4 o0 h0) ok_X6_cannotStand ⟨⟨(Nat.le_of_ble_eq_true rfl), (Nat.le_of_ble_eq_true rfl)⟩, (Nat.le_of_ble_eq_true rfl), (Nat.le_of_ble_eq_true rfl)⟩ (h0 0 (Nat.le_of_ble_eq_true rfl)) (Nat.le_of_ble_eq_true rfl) rfl rfl rfl (Nat.le_of_ble_eq_true rfl) 20 rfl gX7_takeHow_X6_cannotStand_n90 w_X7_takeHow_0 w_X7_takeHow_3 w_X7_takeHow_4 rfl rfl 33 rfl dX7_takeHow_30 (fun v5 d6 => ?_)
      exact r_ireturn rfl rfl (Nat.le_of_ble_eq_true rfl) (Nat.le_of_ble_eq_true rfl) dX7_takeHow_33
    · refine r_aload_n 0 0 rfl rfl 21 rfl dX7_takeHow_20 ?_
      refine r_iconst 1 rfl 22 rfl dX7_takeHow_21 ?_
      refine r_iconst 4 rfl 23 rfl dX7_takeHow_22 ?_
      refine r_callVN_X (c_X6_takeInt (E := E) (l := l) (S := S) d4 o0 h0 1 4) ok_X6_takeInt ⟨⟨(Nat.le_of_ble_eq_true rfl), (Nat.le_of_ble_eq_true rfl)⟩, (Nat.le_of_ble_eq_true rfl), (Nat.le_of_ble_eq_true rfl)⟩ (h0 0 (Nat.le_of_ble_eq_true rfl)) (Nat.le_of_ble_eq_true rfl) rfl rfl rfl (Nat.le_of_ble_eq_true rfl) 16 rfl gX7_takeHow_X6_takeInt_n73 w_X7_takeHow_0 w_X7_takeHow_5 w_X7_takeHow_6 rfl rfl 26 rfl dX7_takeHow_23 (fun v7 d8 => ?_)
      refine r_goto 33 rfl dX7_takeHow_26 ?_
      exact r_ireturn rfl rfl (Nat.le_of_ble_eq_true rfl) (Nat.le_of_ble_eq_true rfl) dX7_takeHow_33
  · refine r_iconst 0 rfl 10 rfl dX7_takeHow_9 ?_
    exact r_ireturn rfl rfl (Nat.le_of_ble_eq_true rfl) (Nat.le_of_ble_eq_true rfl) dX7_takeHow_10
def Y_X7_tellStage : z_Y := (RX7, cX7_tellStage, 9, wsX7_tellStage, (some .boolean), { frames := 7, cells := 0, slots := 0, locals := 192 }, 0, 0)
theorem ok_X7_tellStage : z_Ok yX7_tellStage Y_X7_tellStage 2 := ⟨⟨_, rfl⟩, rfl, rfl, rfl, by decide +kernel, by decide +kernel⟩
theorem w_X7_tellStage_0 : Cond.initialized RX6 ∈ wsX7_tellStage := by decide +kernel
theorem w_X7_tellStage_1 : Cond.instanceMethod yX6_takeInt ∈ wsX7_tellStage := by decide +kernel
theorem w_X7_tellStage_2 : Cond.selects RX6 yX6_takeInt yX6_takeInt ∈ wsX7_tellStage := by decide +kernel
theorem w_X7_tellStage_3 : Cond.initialized RX3 ∈ wsX7_tellStage := by decide +kernel
theorem w_X7_tellStage_4 : Cond.instanceMethod yX3_openStage ∈ wsX7_tellStage := by decide +kernel
theorem w_X7_tellStage_5 : Cond.selects RX3 yX3_openStage yX3_openStage ∈ wsX7_tellStage := by decide +kernel
theorem w_X7_tellStage_6 : Cond.instanceMethod yX6_takes ∈ wsX7_tellStage := by decide +kernel
theorem w_X7_tellStage_7 : Cond.selects RX6 yX6_takes yX6_takes ∈ wsX7_tellStage := by decide +kernel
theorem w_X7_tellStage_8 : Cond.instanceMethod yX3_addMark ∈ wsX7_tellStage := by decide +kernel
theorem w_X7_tellStage_9 : Cond.selects RX3 yX3_addMark yX3_addMark ∈ wsX7_tellStage := by decide +kernel
def f_X7_tellStage_L37_b (o0 : Nat) (o1 : Nat) (x3 : Int32) (K : Int32 → z_D → Option (Int32 × z_D)) (R : Int32 → Int32 → Int32 → z_D → Option (Int32 × z_D)) (x4 : Int32) (x5 : Int32) (x6 : Int32) (d : z_D) : Option (Int32 × z_D) := (if 600 ≤ x6 then (K x4 d) else z_bX (f_X6_takes d o1 7) (fun v7 d8 => (if v7 = 0 then (K x4 d8) else z_bX (f_X6_takeInt d8 o1 x5 (x3 - 1)) (fun v9 d10 => z_bX (f_X7_takeHow d10 o1) (fun v11 d12 => z_bX (f_X3_addMark d12 o0 v9 v11) (fun v13 d14 => z_let (fun x_93 : Int32 => z_nam (v9 + 1) (fun v15 => (R x_93 v15 (x6 + 1) d14))) (fun J93 => z_let (fun x_92 : Unit => (J93 0)) (fun J92 => (if v13 = (-1) then (J92 ()) else (if x4 = 0 then (J92 ()) else (J93 1)))))))))))
def f_X7_tellStage_L37 (o0 : Nat) (o1 : Nat) (x3 : Int32) (K : Int32 → z_D → Option (Int32 × z_D)) : Nat → Int32 → Int32 → Int32 → z_D → Option (Int32 × z_D)
  | 0 => fun _ _ _ _ => none
  | n + 1 => f_X7_tellStage_L37_b o0 o1 x3 K (f_X7_tellStage_L37 o0 o1 x3 K n)
set_option maxHeartbeats 4000000 in
set_option maxRecDepth 100000 in
theorem g_X7_tellStage_L37 {E : z_E} {l : Launch} {S : z_S} {o0 : Nat} {o1 : Nat} {x3 : Int32} {K : Int32 → z_D → Option (Int32 × z_D)} (h0 : A_Race S o0) (h1 : A_Tape S o1) (hK : ∀ (y4 : Int32) (d9 : z_D), z_G E l Y_X7_tellStage (cvX S) (K y4 d9) 107 [(4, .int y4)] [] (S, d9) 0 0) : ∀ (n : Nat) (x4 : Int32) (x5 : Int32) (x6 : Int32) (d : z_D), z_G E l Y_X7_tellStage (cvX S) (f_X7_tellStage_L37 o0 o1 x3 K n x4 x5 x6 d) 37 [(0, .ref (E.2.1 + o0)), (1, .ref (E.2.1 + o1)), (3, .int x3), (4, .int x4), (5, .int x5), (6, .int x6)] [] (S, d) 0 0 := by
  intro n
  induction n with
  | zero => intro _ _ _ _; exact r_none
  | succ n ih =>
    intro x4 x5 x6 d
    show z_G E l Y_X7_tellStage (cvX S) (f_X7_tellStage_L37_b o0 o1 x3 K (f_X7_tellStage_L37 o0 o1 x3 K n) x4 x5 x6 d) 37 [(0, .ref (E.2.1 + o0)), (1, .ref (E.2.1 + o1)), (3, .int x3), (4, .int x4), (5, .int x5), (6, .int x6)] [] (S, d) 0 0
    unfold f_X7_tellStage_L37_b
    refine r_iload 6 5 rfl 39 rfl dX7_tellStage_37 ?_
    refine r_sipush 600 rfl 42 rfl dX7_tellStage_39 ?_
    refine r_icmp_ge 107 45 rfl rfl dX7_tellStage_42 ?_ ?_
    · refine r_sub [3] rfl ?_
      exact hK x4 d
    · refine r_aload_n 1 1 rfl rfl 46 rfl dX7_tellStage_45 ?_
      refine r_ldcS 7 rfl rfl rfl 48 rfl dX7_tellStage_46 ?_
      refine r_callVN_X (c_X6_takes (E := E) (l := l) (S := S) d o1 h1 7 (Nat.le_of_ble_eq_true rfl)) ok_X6_takes ⟨⟨(Nat.le_of_ble_eq_true rfl), (Nat.le_of_ble_eq_true rfl)⟩, (Nat.le_of_ble_eq_true rfl), (Nat.le_of_ble_eq_true rfl)⟩ (h1 0 (Nat.le_of_ble_eq_true rfl)) (Nat.le_of_ble_eq_true rfl) rfl rfl rfl (Nat.le_of_ble_eq_true rfl) 14 rfl gX7_tellStage_X6_takes_n11 w_X7_tellStage_0 w_X7_tellStage_6 w_X7_tellStage_7 rfl rfl 51 rfl dX7_tellStage_48 (fun v7 d8 => ?_)
      refine r_if_eq 107 54 rfl rfl dX7_tellStage_51 ?_ ?_
      · refine r_sub [3] rfl ?_
        exact hK x4 d8
      · refine r_aload_n 1 1 rfl rfl 55 rfl dX7_tellStage_54 ?_
        refine r_iload 5 4 rfl 57 rfl dX7_tellStage_55 ?_
        refine r_iload_n 3 2 rfl rfl 58 rfl dX7_tellStage_57 ?_
        refine r_iconst 1 rfl 59 rfl dX7_tellStage_58 ?_
        refine r_isub 60 rfl dX7_tellStage_59 ?_
        refine r_callVN_X (c_X6_takeInt (E := E) (l := l) (S := S) d8 o1 h1 x5 (x3 - 1)) ok_X6_takeInt ⟨⟨(Nat.le_of_ble_eq_true rfl), (Nat.le_of_ble_eq_true rfl)⟩, (Nat.le_of_ble_eq_true rfl), (Nat.le_of_ble_eq_true rfl)⟩ (h1 0 (Nat.le_of_ble_eq_true rfl)) (Nat.le_of_ble_eq_true rfl) rfl rfl rfl (Nat.le_of_ble_eq_true rfl) 16 rfl gX7_tellStage_X6_takeInt_n73 w_X7_tellStage_0 w_X7_tellStage_1 w_X7_tellStage_2 rfl rfl 63 rfl dX7_tellStage_60 (fun v9 d10 => ?_)
        refine r_istore 7 [(7, .int v9), (0, .ref (E.2.1 + o0)), (1, .ref (E.2.1 + o1)), (3, .int x3), (4, .int x4), (5, .int x5), (6, .int x6)] (Nat.le_of_ble_eq_true rfl) rfl 65 rfl dX7_tellStage_63 ?_
        refine r_aload_n 1 2 rfl rfl 66 rfl dX7_tellStage_65 ?_
        refine r_callS_X (c_X7_takeHow (E := E) (l := l) (S := S) d10 o1 h1) ok_X7_takeHow ⟨⟨(Nat.le_of_ble_eq_true rfl), (Nat.le_of_ble_eq_true rfl)⟩, (Nat.le_of_ble_eq_true rfl), (Nat.le_of_ble_eq_true rfl)⟩ rfl (Nat.le_of_ble_eq_true rfl) gX7_tellStage_X7_takeHow rfl rfl 69 rfl dX7_tellStage_66 (fun v11 d12 => ?_)
        refine r_istore 8 [(8, .int v11), (7, .int v9), (0, .ref (E.2.1 + o0)), (1, .ref (E.2.1 + o1)), (3, .int x3), (4, .int x4), (5, .int x5), (6, .int x6)] (Nat.le_of_ble_eq_true rfl) rfl 71 rfl dX7_tellStage_69 ?_
        refine r_aload_n 0 2 rfl rfl 72 rfl dX7_tellStage_71 ?_
        refine r_iload 7 1 rfl 74 rfl dX7_tellStage_72 ?_
        refine r_iload 8 0 rfl 76 rfl dX7_tellStage_74 ?_
        refine r_callVN_X (c_X3_addMark (E := E) (l := l) (S := S) d12 o0 h0 v9 v11) ok_X3_addMark ⟨⟨(Nat.le_of_ble_eq_true rfl), (Nat.le_of_ble_eq_true rfl)⟩, (Nat.le_of_ble_eq_true rfl), (Nat.le_of_ble_eq_true rfl)⟩ (h0.1 0 (Nat.le_of_ble_eq_true rfl)) (Nat.le_of_ble_eq_true rfl) rfl rfl rfl (Nat.le_of_ble_eq_true rfl) 25 rfl gX7_tellStage_X3_addMark_n112 w_X7_tellStage_3 w_X7_tellStage_8 w_X7_tellStage_9 rfl rfl 79 rfl dX7_tellStage_76 (fun v13 d14 => ?_)
        refine r_iconst (-1) rfl 80 rfl dX7_tellStage_79 ?_
        refine r_let 93 (f := fun x_93 : Int32 => [(0, .ref (E.2.1 + o0)), (1, .ref (E.2.1 + o1)), (3, .int x3), (6, .int x6), (7, .int v9)]) (g := fun x_93 : Int32 => [.int x_93]) (ww := fun x_93 : Int32 => (S, d14)) (fun x_93 => ?_) (fun J93 hJ93 => ?_)
        · refine r_istore 4 [(4, .int x_93), (0, .ref (E.2.1 + o0)), (1, .ref (E.2.1 + o1)), (3, .int x3), (6, .int x6), (7, .int v9)] (Nat.le_of_ble_eq_true rfl) rfl 95 rfl dX7_tellStage_93 ?_
          refine r_iload 7 5 rfl 97 rfl dX7_tellStage_95 ?_
          refine r_iconst 1 rfl 98 rfl dX7_tellStage_97 ?_
          refine r_iadd 99 rfl dX7_tellStage_98 ?_
          refine r_nami (fun v15 => ?_)
          refine r_istore 5 [(5, .int v15), (4, .int x_93), (0, .ref (E.2.1 + o0)), (1, .ref (E.2.1 + o1)), (3, .int x3), (6, .int x6), (7, .int v9)] (Nat.le_of_ble_eq_true rfl) rfl 101 rfl dX7_tellStage_99 ?_
          refine r_iinc (x6 + 1) 5 rfl rfl [(6, .int (x6 + 1)), (5, .int v15), (4, .int x_93), (0, .ref (E.2.1 + o0)), (1, .ref (E.2.1 + o1)), (3, .int x3), (7, .int v9)] (Nat.le_of_ble_eq_true rfl) rfl 104 rfl dX7_tellStage_101 ?_
          refine r_goto 37 rfl dX7_tellStage_104 ?_
          refine r_sub [3, 4, 5, 2, 1, 0] rfl ?_
          exact ih x_93 v15 (x6 + 1) d14
        refine r_let 92 (f := fun x_92 : Unit => [(0, .ref (E.2.1 + o0)), (1, .ref (E.2.1 + o1)), (3, .int x3), (6, .int x6), (7, .int v9)]) (g := fun x_92 : Unit => []) (ww := fun x_92 : Unit => (S, d14)) (fun x_92 => ?_) (fun J92 hJ92 => ?_)
        · refine r_iconst 0 rfl 93 rfl dX7_tellStage_92 ?_
          refine r_sub [0, 1, 2, 3, 4] rfl ?_
          exact hJ93 0
        refine r_icmp_eq 92 83 rfl rfl dX7_tellStage_80 ?_ ?_
        · refine r_sub [2, 3, 4, 7, 1] rfl ?_
          exact hJ92 ()
        · refine r_iload 4 5 rfl 85 rfl dX7_tellStage_83 ?_
          refine r_if_eq 92 88 rfl rfl dX7_tellStage_85 ?_ ?_
          · refine r_sub [2, 3, 4, 7, 1] rfl ?_
            exact hJ92 ()
          · refine r_iconst 1 rfl 89 rfl dX7_tellStage_88 ?_
            refine r_goto 93 rfl dX7_tellStage_89 ?_
            refine r_sub [2, 3, 4, 7, 1] rfl ?_
            exact hJ93 1
def f_X7_tellStage (d : z_D) (o0 : Nat) (o1 : Nat) : Option (Int32 × z_D) := z_bX (f_X7_takeKind d o1) (fun v1 d2 => z_bX (f_X6_takeInt d2 o1 1 300) (fun v3 d4 => z_bX (f_X3_openStage d4 o0 v1 v3) (fun v5 d6 => z_let (fun x_29 : Int32 => (f_X7_tellStage_L37 o0 o1 v3 (fun v17 d16 => (z_bool v17 (some (v17, d16)))) z_N x_29 1 0 d6)) (fun J29 => (if v5 = (-1) then (J29 0) else (J29 1))))))
set_option maxHeartbeats 4000000 in
set_option maxRecDepth 100000 in
theorem c_X7_tellStage {E : z_E} {l : Launch} {S : z_S} (d : z_D) (o0 : Nat) (h0 : A_Race S o0) (o1 : Nat) (h1 : A_Tape S o1) : z_Sp E l yX7_tellStage Y_X7_tellStage (cvX S) [.ref (E.2.1 + o0), .ref (E.2.1 + o1)] (S, d) (f_X7_tellStage d o0 o1) := by
  refine z_entry (lv := [(0, .ref (E.2.1 + o0)), (1, .ref (E.2.1 + o1))]) (by decide) rfl rfl (Nat.le_of_ble_eq_true rfl) rfl ?_
  unfold f_X7_tellStage
  refine r_aload_n 1 1 rfl rfl 1 rfl dX7_tellStage_0 ?_
  refine r_callS_X (c_X7_takeKind (E := E) (l := l) (S := S) d o1 h1) ok_X7_takeKind ⟨⟨(Nat.le_of_ble_eq_true rfl), (Nat.le_of_ble_eq_true rfl)⟩, (Nat.le_of_ble_eq_true rfl), (Nat.le_of_ble_eq_true rfl)⟩ rfl (Nat.le_of_ble_eq_true rfl) gX7_tellStage_X7_takeKind rfl rfl 4 rfl dX7_tellStage_1 (fun v1 d2 => ?_)
  refine r_istore_n 2 rfl [(2, .int v1), (0, .ref (E.2.1 + o0)), (1, .ref (E.2.1 + o1))] (Nat.le_of_ble_eq_true rfl) rfl 5 rfl dX7_tellStage_4 ?_
  refine r_aload_n 1 2 rfl rfl 6 rfl dX7_tellStage_5 ?_
  refine r_iconst 1 rfl 7 rfl dX7_tellStage_6 ?_
  refine r_sipush 300 rfl 10 rfl dX7_tellStage_7 ?_
  refine r_callVN_X (c_X6_takeInt (E := E) (l := l) (S := S) d2 o1 h1 1 300) ok_X6_takeInt ⟨⟨(Nat.le_of_ble_eq_true rfl), (Nat.le_of_ble_eq_true rfl)⟩, (Nat.le_of_ble_eq_true rfl), (Nat.le_of_ble_eq_true rfl)⟩ (h1 0 (Nat.le_of_ble_eq_true rfl)) (Nat.le_of_ble_eq_true rfl) rfl rfl rfl (Nat.le_of_ble_eq_true rfl) 16 rfl gX7_tellStage_X6_takeInt_n73 w_X7_tellStage_0 w_X7_tellStage_1 w_X7_tellStage_2 rfl rfl 13 rfl dX7_tellStage_10 (fun v3 d4 => ?_)
  refine r_istore_n 3 rfl [(3, .int v3), (2, .int v1), (0, .ref (E.2.1 + o0)), (1, .ref (E.2.1 + o1))] (Nat.le_of_ble_eq_true rfl) rfl 14 rfl dX7_tellStage_13 ?_
  refine r_aload_n 0 2 rfl rfl 15 rfl dX7_tellStage_14 ?_
  refine r_iload_n 2 1 rfl rfl 16 rfl dX7_tellStage_15 ?_
  refine r_iload_n 3 0 rfl rfl 17 rfl dX7_tellStage_16 ?_
  refine r_callVN_X (c_X3_openStage (E := E) (l := l) (S := S) d4 o0 h0 v1 v3) ok_X3_openStage ⟨⟨(Nat.le_of_ble_eq_true rfl), (Nat.le_of_ble_eq_true rfl)⟩, (Nat.le_of_ble_eq_true rfl), (Nat.le_of_ble_eq_true rfl)⟩ (h0.1 0 (Nat.le_of_ble_eq_true rfl)) (Nat.le_of_ble_eq_true rfl) rfl rfl rfl (Nat.le_of_ble_eq_true rfl) 21 rfl gX7_tellStage_X3_openStage_n104 w_X7_tellStage_3 w_X7_tellStage_4 w_X7_tellStage_5 rfl rfl 20 rfl dX7_tellStage_17 (fun v5 d6 => ?_)
  refine r_iconst (-1) rfl 21 rfl dX7_tellStage_20 ?_
  refine r_let 29 (f := fun x_29 : Int32 => [(0, .ref (E.2.1 + o0)), (1, .ref (E.2.1 + o1)), (3, .int v3)]) (g := fun x_29 : Int32 => [.int x_29]) (ww := fun x_29 : Int32 => (S, d6)) (fun x_29 => ?_) (fun J29 hJ29 => ?_)
  · refine r_istore 4 [(4, .int x_29), (0, .ref (E.2.1 + o0)), (1, .ref (E.2.1 + o1)), (3, .int v3)] (Nat.le_of_ble_eq_true rfl) rfl 31 rfl dX7_tellStage_29 ?_
    refine r_iconst 1 rfl 32 rfl dX7_tellStage_31 ?_
    refine r_istore 5 [(5, .int 1), (4, .int x_29), (0, .ref (E.2.1 + o0)), (1, .ref (E.2.1 + o1)), (3, .int v3)] (Nat.le_of_ble_eq_true rfl) rfl 34 rfl dX7_tellStage_32 ?_
    refine r_iconst 0 rfl 35 rfl dX7_tellStage_34 ?_
    refine r_istore 6 [(6, .int 0), (5, .int 1), (4, .int x_29), (0, .ref (E.2.1 + o0)), (1, .ref (E.2.1 + o1)), (3, .int v3)] (Nat.le_of_ble_eq_true rfl) rfl 37 rfl dX7_tellStage_35 ?_
    refine r_sub [3, 4, 5, 2, 1, 0] rfl ?_
    refine g_X7_tellStage_L37 h0 h1 (fun v17 d16 => ?_) z_N x_29 1 0 d6
    refine r_iload 4 0 rfl 109 rfl dX7_tellStage_107 ?_
    exact r_zreturn rfl rfl (Nat.le_of_ble_eq_true rfl) (Nat.le_of_ble_eq_true rfl) dX7_tellStage_109
  refine r_icmp_eq 28 24 rfl rfl dX7_tellStage_21 ?_ ?_
  · refine r_iconst 0 rfl 29 rfl dX7_tellStage_28 ?_
    refine r_sub [2, 3, 0] rfl ?_
    exact hJ29 0
  · refine r_iconst 1 rfl 25 rfl dX7_tellStage_24 ?_
    refine r_goto 29 rfl dX7_tellStage_25 ?_
    refine r_sub [2, 3, 0] rfl ?_
    exact hJ29 1
def Y_X7_takeRider : z_Y := (RX7, cX7_takeRider, 2, wsX7_takeRider, (some .int), { frames := 3, cells := 0, slots := 0, locals := 66 }, 0, 0)
theorem ok_X7_takeRider : z_Ok yX7_takeRider Y_X7_takeRider 2 := ⟨⟨_, rfl⟩, rfl, rfl, rfl, by decide +kernel, by decide +kernel⟩
theorem w_X7_takeRider_0 : ∀ w ∈ u_ws RX3 TX3 10, w ∈ wsX7_takeRider := by decide +kernel
theorem w_X7_takeRider_1 : Cond.initialized RX6 ∈ wsX7_takeRider := by decide +kernel
theorem w_X7_takeRider_2 : Cond.instanceMethod yX6_takeInt ∈ wsX7_takeRider := by decide +kernel
theorem w_X7_takeRider_3 : Cond.selects RX6 yX6_takeInt yX6_takeInt ∈ wsX7_takeRider := by decide +kernel
def f_X7_takeRider (d : z_D) (o0 : Nat) (o1 : Nat) : Option (Int32 × z_D) := z_bX (f_X6_takeInt d o1 0 ((d o0 1) - 1)) (fun v1 d2 => (some (v1, d2)))
set_option maxHeartbeats 4000000 in
set_option maxRecDepth 100000 in
theorem c_X7_takeRider {E : z_E} {l : Launch} {S : z_S} (d : z_D) (o0 : Nat) (h0 : A_Race S o0) (o1 : Nat) (h1 : A_Tape S o1) : z_Sp E l yX7_takeRider Y_X7_takeRider (cvX S) [.ref (E.2.1 + o0), .ref (E.2.1 + o1)] (S, d) (f_X7_takeRider d o0 o1) := by
  refine z_entry (lv := [(0, .ref (E.2.1 + o0)), (1, .ref (E.2.1 + o1))]) (by decide) rfl rfl (Nat.le_of_ble_eq_true rfl) rfl ?_
  unfold f_X7_takeRider
  refine r_aload_n 1 1 rfl rfl 1 rfl dX7_takeRider_0 ?_
  refine r_iconst 0 rfl 2 rfl dX7_takeRider_1 ?_
  refine r_aload_n 0 0 rfl rfl 3 rfl dX7_takeRider_2 ?_
  refine r_getN 1 27 rfl (h0.1 0 (Nat.le_of_ble_eq_true rfl)) rfl (Nat.le_of_ble_eq_true rfl) rfl rfl w_X7_takeRider_0 (Nat.le_of_ble_eq_true rfl) rfl (.int (d o0 1)) rfl 6 rfl dX7_takeRider_3 ?_
  refine r_iconst 1 rfl 7 rfl dX7_takeRider_6 ?_
  refine r_isub 8 rfl dX7_takeRider_7 ?_
  refine r_callVN_X (c_X6_takeInt (E := E) (l := l) (S := S) d o1 h1 0 ((d o0 1) - 1)) ok_X6_takeInt ⟨⟨(Nat.le_of_ble_eq_true rfl), (Nat.le_of_ble_eq_true rfl)⟩, (Nat.le_of_ble_eq_true rfl), (Nat.le_of_ble_eq_true rfl)⟩ (h1 0 (Nat.le_of_ble_eq_true rfl)) (Nat.le_of_ble_eq_true rfl) rfl rfl rfl (Nat.le_of_ble_eq_true rfl) 16 rfl gX7_takeRider_X6_takeInt_n73 w_X7_takeRider_1 w_X7_takeRider_2 w_X7_takeRider_3 rfl rfl 11 rfl dX7_takeRider_8 (fun v1 d2 => ?_)
  exact r_ireturn rfl rfl (Nat.le_of_ble_eq_true rfl) (Nat.le_of_ble_eq_true rfl) dX7_takeRider_11
def Y_X7_tellFinishes : z_Y := (RX7, cX7_tellFinishes, 6, wsX7_tellFinishes, (some .boolean), { frames := 4, cells := 0, slots := 0, locals := 87 }, 0, 0)
theorem ok_X7_tellFinishes : z_Ok yX7_tellFinishes Y_X7_tellFinishes 2 := ⟨⟨_, rfl⟩, rfl, rfl, rfl, by decide +kernel, by decide +kernel⟩
theorem w_X7_tellFinishes_0 : Cond.initialized RX6 ∈ wsX7_tellFinishes := by decide +kernel
theorem w_X7_tellFinishes_1 : Cond.instanceMethod yX6_hasInt ∈ wsX7_tellFinishes := by decide +kernel
theorem w_X7_tellFinishes_2 : Cond.selects RX6 yX6_hasInt yX6_hasInt ∈ wsX7_tellFinishes := by decide +kernel
theorem w_X7_tellFinishes_3 : Cond.constant RX7 131 999999 ∈ wsX7_tellFinishes := by decide +kernel
theorem w_X7_tellFinishes_4 : Cond.instanceMethod yX6_takeInt ∈ wsX7_tellFinishes := by decide +kernel
theorem w_X7_tellFinishes_5 : Cond.selects RX6 yX6_takeInt yX6_takeInt ∈ wsX7_tellFinishes := by decide +kernel
theorem w_X7_tellFinishes_6 : Cond.initialized RX3 ∈ wsX7_tellFinishes := by decide +kernel
theorem w_X7_tellFinishes_7 : Cond.instanceMethod yX3_addFinish ∈ wsX7_tellFinishes := by decide +kernel
theorem w_X7_tellFinishes_8 : Cond.selects RX3 yX3_addFinish yX3_addFinish ∈ wsX7_tellFinishes := by decide +kernel
def f_X7_tellFinishes_L4_b (o0 : Nat) (o1 : Nat) (K : Int32 → z_D → Option (Int32 × z_D)) (R : Int32 → Int32 → z_D → Option (Int32 × z_D)) (x2 : Int32) (x3 : Int32) (d : z_D) : Option (Int32 × z_D) := (if 600 ≤ x3 then (K x2 d) else ((f_X6_hasInt d o1).bind fun v1 => (if v1 = 0 then (K x2 d) else z_bX (f_X7_takeRider d o0 o1) (fun v2 d3 => z_bX (f_X6_takeInt d3 o1 1 999999) (fun v4 d5 => z_bX (f_X3_addFinish d5 o0 v2 v4) (fun v6 d7 => (if v6 = 0 then (R 0 (x3 + 1) d7) else (if x2 = 0 then (R 0 (x3 + 1) d7) else (R 1 (x3 + 1) d7)))))))))
def f_X7_tellFinishes_L4 (o0 : Nat) (o1 : Nat) (K : Int32 → z_D → Option (Int32 × z_D)) : Nat → Int32 → Int32 → z_D → Option (Int32 × z_D)
  | 0 => fun _ _ _ => none
  | n + 1 => f_X7_tellFinishes_L4_b o0 o1 K (f_X7_tellFinishes_L4 o0 o1 K n)
set_option maxHeartbeats 4000000 in
set_option maxRecDepth 100000 in
theorem g_X7_tellFinishes_L4 {E : z_E} {l : Launch} {S : z_S} {o0 : Nat} {o1 : Nat} {K : Int32 → z_D → Option (Int32 × z_D)} (h0 : A_Race S o0) (h1 : A_Tape S o1) (hK : ∀ (y2 : Int32) (d9 : z_D), z_G E l Y_X7_tellFinishes (cvX S) (K y2 d9) 61 [(2, .int y2)] [] (S, d9) 0 0) : ∀ (n : Nat) (x2 : Int32) (x3 : Int32) (d : z_D), z_G E l Y_X7_tellFinishes (cvX S) (f_X7_tellFinishes_L4 o0 o1 K n x2 x3 d) 4 [(0, .ref (E.2.1 + o0)), (1, .ref (E.2.1 + o1)), (2, .int x2), (3, .int x3)] [] (S, d) 0 0 := by
  intro n
  induction n with
  | zero => intro _ _ _; exact r_none
  | succ n ih =>
    intro x2 x3 d
    show z_G E l Y_X7_tellFinishes (cvX S) (f_X7_tellFinishes_L4_b o0 o1 K (f_X7_tellFinishes_L4 o0 o1 K n) x2 x3 d) 4 [(0, .ref (E.2.1 + o0)), (1, .ref (E.2.1 + o1)), (2, .int x2), (3, .int x3)] [] (S, d) 0 0
    unfold f_X7_tellFinishes_L4_b
    refine r_iload_n 3 3 rfl rfl 5 rfl dX7_tellFinishes_4 ?_
    refine r_sipush 600 rfl 8 rfl dX7_tellFinishes_5 ?_
    refine r_icmp_ge 61 11 rfl rfl dX7_tellFinishes_8 ?_ ?_
    · refine r_sub [2] rfl ?_
      exact hK x2 d
    · refine r_aload_n 1 1 rfl rfl 12 rfl dX7_tellFinishes_11 ?_
      refine r_callVN_I (c_X6_hasInt (E := E) (l := l) (S := S) d o1 h1) ok_X6_hasInt ⟨⟨(Nat.le_of_ble_eq_true rfl), (Nat.le_of_ble_eq_true rfl)⟩, (Nat.le_of_ble_eq_true rfl), (Nat.le_of_ble_eq_true rfl)⟩ (h1 0 (Nat.le_of_ble_eq_true rfl)) (Nat.le_of_ble_eq_true rfl) rfl rfl rfl (Nat.le_of_ble_eq_true rfl) 28 rfl gX7_tellFinishes_X6_hasInt_n127 w_X7_tellFinishes_0 w_X7_tellFinishes_1 w_X7_tellFinishes_2 rfl rfl 15 rfl dX7_tellFinishes_12 (fun v1 => ?_)
      refine r_if_eq 61 18 rfl rfl dX7_tellFinishes_15 ?_ ?_
      · refine r_sub [2] rfl ?_
        exact hK x2 d
      · refine r_aload_n 0 0 rfl rfl 19 rfl dX7_tellFinishes_18 ?_
        refine r_aload_n 1 1 rfl rfl 20 rfl dX7_tellFinishes_19 ?_
        refine r_callS_X (c_X7_takeRider (E := E) (l := l) (S := S) d o0 h0 o1 h1) ok_X7_takeRider ⟨⟨(Nat.le_of_ble_eq_true rfl), (Nat.le_of_ble_eq_true rfl)⟩, (Nat.le_of_ble_eq_true rfl), (Nat.le_of_ble_eq_true rfl)⟩ rfl (Nat.le_of_ble_eq_true rfl) gX7_tellFinishes_X7_takeRider rfl rfl 23 rfl dX7_tellFinishes_20 (fun v2 d3 => ?_)
        refine r_istore 4 [(4, .int v2), (0, .ref (E.2.1 + o0)), (1, .ref (E.2.1 + o1)), (2, .int x2), (3, .int x3)] (Nat.le_of_ble_eq_true rfl) rfl 25 rfl dX7_tellFinishes_23 ?_
        refine r_aload_n 1 2 rfl rfl 26 rfl dX7_tellFinishes_25 ?_
        refine r_iconst 1 rfl 27 rfl dX7_tellFinishes_26 ?_
        refine r_ldc (v := 999999) w_X7_tellFinishes_3 29 rfl dX7_tellFinishes_27 ?_
        refine r_callVN_X (c_X6_takeInt (E := E) (l := l) (S := S) d3 o1 h1 1 999999) ok_X6_takeInt ⟨⟨(Nat.le_of_ble_eq_true rfl), (Nat.le_of_ble_eq_true rfl)⟩, (Nat.le_of_ble_eq_true rfl), (Nat.le_of_ble_eq_true rfl)⟩ (h1 0 (Nat.le_of_ble_eq_true rfl)) (Nat.le_of_ble_eq_true rfl) rfl rfl rfl (Nat.le_of_ble_eq_true rfl) 16 rfl gX7_tellFinishes_X6_takeInt_n73 w_X7_tellFinishes_0 w_X7_tellFinishes_4 w_X7_tellFinishes_5 rfl rfl 32 rfl dX7_tellFinishes_29 (fun v4 d5 => ?_)
        refine r_istore 5 [(5, .int v4), (4, .int v2), (0, .ref (E.2.1 + o0)), (1, .ref (E.2.1 + o1)), (2, .int x2), (3, .int x3)] (Nat.le_of_ble_eq_true rfl) rfl 34 rfl dX7_tellFinishes_32 ?_
        refine r_aload_n 0 2 rfl rfl 35 rfl dX7_tellFinishes_34 ?_
        refine r_iload 4 1 rfl 37 rfl dX7_tellFinishes_35 ?_
        refine r_iload 5 0 rfl 39 rfl dX7_tellFinishes_37 ?_
        refine r_callVN_X (c_X3_addFinish (E := E) (l := l) (S := S) d5 o0 h0 v2 v4) ok_X3_addFinish ⟨⟨(Nat.le_of_ble_eq_true rfl), (Nat.le_of_ble_eq_true rfl)⟩, (Nat.le_of_ble_eq_true rfl), (Nat.le_of_ble_eq_true rfl)⟩ (h0.1 0 (Nat.le_of_ble_eq_true rfl)) (Nat.le_of_ble_eq_true rfl) rfl rfl rfl (Nat.le_of_ble_eq_true rfl) 29 rfl gX7_tellFinishes_X3_addFinish_n132 w_X7_tellFinishes_6 w_X7_tellFinishes_7 w_X7_tellFinishes_8 rfl rfl 42 rfl dX7_tellFinishes_39 (fun v6 d7 => ?_)
        refine r_if_eq 53 45 rfl rfl dX7_tellFinishes_42 ?_ ?_
        · refine r_iconst 0 rfl 54 rfl dX7_tellFinishes_53 ?_
          refine r_istore_n 2 rfl [(2, .int 0), (5, .int v4), (4, .int v2), (0, .ref (E.2.1 + o0)), (1, .ref (E.2.1 + o1)), (3, .int x3)] (Nat.le_of_ble_eq_true rfl) rfl 55 rfl dX7_tellFinishes_54 ?_
          refine r_iinc (x3 + 1) 5 rfl rfl [(3, .int (x3 + 1)), (2, .int 0), (5, .int v4), (4, .int v2), (0, .ref (E.2.1 + o0)), (1, .ref (E.2.1 + o1))] (Nat.le_of_ble_eq_true rfl) rfl 58 rfl dX7_tellFinishes_55 ?_
          refine r_goto 4 rfl dX7_tellFinishes_58 ?_
          refine r_sub [4, 5, 1, 0] rfl ?_
          exact ih 0 (x3 + 1) d7
        · refine r_iload_n 2 4 rfl rfl 46 rfl dX7_tellFinishes_45 ?_
          refine r_if_eq 53 49 rfl rfl dX7_tellFinishes_46 ?_ ?_
          · refine r_iconst 0 rfl 54 rfl dX7_tellFinishes_53 ?_
            refine r_istore_n 2 rfl [(2, .int 0), (5, .int v4), (4, .int v2), (0, .ref (E.2.1 + o0)), (1, .ref (E.2.1 + o1)), (3, .int x3)] (Nat.le_of_ble_eq_true rfl) rfl 55 rfl dX7_tellFinishes_54 ?_
            refine r_iinc (x3 + 1) 5 rfl rfl [(3, .int (x3 + 1)), (2, .int 0), (5, .int v4), (4, .int v2), (0, .ref (E.2.1 + o0)), (1, .ref (E.2.1 + o1))] (Nat.le_of_ble_eq_true rfl) rfl 58 rfl dX7_tellFinishes_55 ?_
            refine r_goto 4 rfl dX7_tellFinishes_58 ?_
            refine r_sub [4, 5, 1, 0] rfl ?_
            exact ih 0 (x3 + 1) d7
          · refine r_iconst 1 rfl 50 rfl dX7_tellFinishes_49 ?_
            refine r_goto 54 rfl dX7_tellFinishes_50 ?_
            refine r_istore_n 2 rfl [(2, .int 1), (5, .int v4), (4, .int v2), (0, .ref (E.2.1 + o0)), (1, .ref (E.2.1 + o1)), (3, .int x3)] (Nat.le_of_ble_eq_true rfl) rfl 55 rfl dX7_tellFinishes_54 ?_
            refine r_iinc (x3 + 1) 5 rfl rfl [(3, .int (x3 + 1)), (2, .int 1), (5, .int v4), (4, .int v2), (0, .ref (E.2.1 + o0)), (1, .ref (E.2.1 + o1))] (Nat.le_of_ble_eq_true rfl) rfl 58 rfl dX7_tellFinishes_55 ?_
            refine r_goto 4 rfl dX7_tellFinishes_58 ?_
            refine r_sub [4, 5, 1, 0] rfl ?_
            exact ih 1 (x3 + 1) d7
def f_X7_tellFinishes (d : z_D) (o0 : Nat) (o1 : Nat) : Option (Int32 × z_D) := (f_X7_tellFinishes_L4 o0 o1 (fun v9 d8 => (z_bool v9 (some (v9, d8)))) z_N 1 0 d)
set_option maxHeartbeats 4000000 in
set_option maxRecDepth 100000 in
theorem c_X7_tellFinishes {E : z_E} {l : Launch} {S : z_S} (d : z_D) (o0 : Nat) (h0 : A_Race S o0) (o1 : Nat) (h1 : A_Tape S o1) : z_Sp E l yX7_tellFinishes Y_X7_tellFinishes (cvX S) [.ref (E.2.1 + o0), .ref (E.2.1 + o1)] (S, d) (f_X7_tellFinishes d o0 o1) := by
  refine z_entry (lv := [(0, .ref (E.2.1 + o0)), (1, .ref (E.2.1 + o1))]) (by decide) rfl rfl (Nat.le_of_ble_eq_true rfl) rfl ?_
  unfold f_X7_tellFinishes
  refine r_iconst 1 rfl 1 rfl dX7_tellFinishes_0 ?_
  refine r_istore_n 2 rfl [(2, .int 1), (0, .ref (E.2.1 + o0)), (1, .ref (E.2.1 + o1))] (Nat.le_of_ble_eq_true rfl) rfl 2 rfl dX7_tellFinishes_1 ?_
  refine r_iconst 0 rfl 3 rfl dX7_tellFinishes_2 ?_
  refine r_istore_n 3 rfl [(3, .int 0), (2, .int 1), (0, .ref (E.2.1 + o0)), (1, .ref (E.2.1 + o1))] (Nat.le_of_ble_eq_true rfl) rfl 4 rfl dX7_tellFinishes_3 ?_
  refine r_sub [2, 3, 1, 0] rfl ?_
  refine g_X7_tellFinishes_L4 h0 h1 (fun v9 d8 => ?_) z_N 1 0 d
  refine r_iload_n 2 0 rfl rfl 62 rfl dX7_tellFinishes_61 ?_
  exact r_zreturn rfl rfl (Nat.le_of_ble_eq_true rfl) (Nat.le_of_ble_eq_true rfl) dX7_tellFinishes_62
def Y_X7_tellCrossings : z_Y := (RX7, cX7_tellCrossings, 5, wsX7_tellCrossings, (some .boolean), { frames := 4, cells := 0, slots := 0, locals := 87 }, 0, 0)
theorem ok_X7_tellCrossings : z_Ok yX7_tellCrossings Y_X7_tellCrossings 2 := ⟨⟨_, rfl⟩, rfl, rfl, rfl, by decide +kernel, by decide +kernel⟩
theorem w_X7_tellCrossings_0 : Cond.initialized RX3 ∈ wsX7_tellCrossings := by decide +kernel
theorem w_X7_tellCrossings_1 : Cond.instanceMethod yX3_latestMarks ∈ wsX7_tellCrossings := by decide +kernel
theorem w_X7_tellCrossings_2 : Cond.selects RX3 yX3_latestMarks yX3_latestMarks ∈ wsX7_tellCrossings := by decide +kernel
theorem w_X7_tellCrossings_3 : Cond.initialized RX6 ∈ wsX7_tellCrossings := by decide +kernel
theorem w_X7_tellCrossings_4 : Cond.instanceMethod yX6_takeInt ∈ wsX7_tellCrossings := by decide +kernel
theorem w_X7_tellCrossings_5 : Cond.selects RX6 yX6_takeInt yX6_takeInt ∈ wsX7_tellCrossings := by decide +kernel
theorem w_X7_tellCrossings_6 : Cond.instanceMethod yX6_hasInt ∈ wsX7_tellCrossings := by decide +kernel
theorem w_X7_tellCrossings_7 : Cond.selects RX6 yX6_hasInt yX6_hasInt ∈ wsX7_tellCrossings := by decide +kernel
theorem w_X7_tellCrossings_8 : Cond.instanceMethod yX3_addCrossing ∈ wsX7_tellCrossings := by decide +kernel
theorem w_X7_tellCrossings_9 : Cond.selects RX3 yX3_addCrossing yX3_addCrossing ∈ wsX7_tellCrossings := by decide +kernel
def f_X7_tellCrossings_L17_b (o0 : Nat) (o1 : Nat) (x2 : Int32) (K : Int32 → z_D → Option (Int32 × z_D)) (R : Int32 → Int32 → z_D → Option (Int32 × z_D)) (x3 : Int32) (x4 : Int32) (d : z_D) : Option (Int32 × z_D) := (if 600 ≤ x4 then (K x3 d) else ((f_X6_hasInt d o1).bind fun v4 => (if v4 = 0 then (K x3 d) else z_bX (f_X7_takeRider d o0 o1) (fun v5 d6 => z_bX (f_X3_addCrossing d6 o0 x2 v5) (fun v7 d8 => (if v7 = (-1) then (R 0 (x4 + 1) d8) else (if x3 = 0 then (R 0 (x4 + 1) d8) else (R 1 (x4 + 1) d8))))))))
def f_X7_tellCrossings_L17 (o0 : Nat) (o1 : Nat) (x2 : Int32) (K : Int32 → z_D → Option (Int32 × z_D)) : Nat → Int32 → Int32 → z_D → Option (Int32 × z_D)
  | 0 => fun _ _ _ => none
  | n + 1 => f_X7_tellCrossings_L17_b o0 o1 x2 K (f_X7_tellCrossings_L17 o0 o1 x2 K n)
set_option maxHeartbeats 4000000 in
set_option maxRecDepth 100000 in
theorem g_X7_tellCrossings_L17 {E : z_E} {l : Launch} {S : z_S} {o0 : Nat} {o1 : Nat} {x2 : Int32} {K : Int32 → z_D → Option (Int32 × z_D)} (h0 : A_Race S o0) (h1 : A_Tape S o1) (hK : ∀ (y3 : Int32) (d9 : z_D), z_G E l Y_X7_tellCrossings (cvX S) (K y3 d9) 62 [(3, .int y3)] [] (S, d9) 0 0) : ∀ (n : Nat) (x3 : Int32) (x4 : Int32) (d : z_D), z_G E l Y_X7_tellCrossings (cvX S) (f_X7_tellCrossings_L17 o0 o1 x2 K n x3 x4 d) 17 [(0, .ref (E.2.1 + o0)), (1, .ref (E.2.1 + o1)), (2, .int x2), (3, .int x3), (4, .int x4)] [] (S, d) 0 0 := by
  intro n
  induction n with
  | zero => intro _ _ _; exact r_none
  | succ n ih =>
    intro x3 x4 d
    show z_G E l Y_X7_tellCrossings (cvX S) (f_X7_tellCrossings_L17_b o0 o1 x2 K (f_X7_tellCrossings_L17 o0 o1 x2 K n) x3 x4 d) 17 [(0, .ref (E.2.1 + o0)), (1, .ref (E.2.1 + o1)), (2, .int x2), (3, .int x3), (4, .int x4)] [] (S, d) 0 0
    unfold f_X7_tellCrossings_L17_b
    refine r_iload 4 4 rfl 19 rfl dX7_tellCrossings_17 ?_
    refine r_sipush 600 rfl 22 rfl dX7_tellCrossings_19 ?_
    refine r_icmp_ge 62 25 rfl rfl dX7_tellCrossings_22 ?_ ?_
    · refine r_sub [3] rfl ?_
      exact hK x3 d
    · refine r_aload_n 1 1 rfl rfl 26 rfl dX7_tellCrossings_25 ?_
      refine r_callVN_I (c_X6_hasInt (E := E) (l := l) (S := S) d o1 h1) ok_X6_hasInt ⟨⟨(Nat.le_of_ble_eq_true rfl), (Nat.le_of_ble_eq_true rfl)⟩, (Nat.le_of_ble_eq_true rfl), (Nat.le_of_ble_eq_true rfl)⟩ (h1 0 (Nat.le_of_ble_eq_true rfl)) (Nat.le_of_ble_eq_true rfl) rfl rfl rfl (Nat.le_of_ble_eq_true rfl) 28 rfl gX7_tellCrossings_X6_hasInt_n127 w_X7_tellCrossings_3 w_X7_tellCrossings_6 w_X7_tellCrossings_7 rfl rfl 29 rfl dX7_tellCrossings_26 (fun v4 => ?_)
      refine r_if_eq 62 32 rfl rfl dX7_tellCrossings_29 ?_ ?_
      · refine r_sub [3] rfl ?_
        exact hK x3 d
      · refine r_aload_n 0 0 rfl rfl 33 rfl dX7_tellCrossings_32 ?_
        refine r_iload_n 2 2 rfl rfl 34 rfl dX7_tellCrossings_33 ?_
        refine r_aload_n 0 0 rfl rfl 35 rfl dX7_tellCrossings_34 ?_
        refine r_aload_n 1 1 rfl rfl 36 rfl dX7_tellCrossings_35 ?_
        refine r_callS_X (c_X7_takeRider (E := E) (l := l) (S := S) d o0 h0 o1 h1) ok_X7_takeRider ⟨⟨(Nat.le_of_ble_eq_true rfl), (Nat.le_of_ble_eq_true rfl)⟩, (Nat.le_of_ble_eq_true rfl), (Nat.le_of_ble_eq_true rfl)⟩ rfl (Nat.le_of_ble_eq_true rfl) gX7_tellCrossings_X7_takeRider rfl rfl 39 rfl dX7_tellCrossings_36 (fun v5 d6 => ?_)
        refine r_callVN_X (c_X3_addCrossing (E := E) (l := l) (S := S) d6 o0 h0 x2 v5) ok_X3_addCrossing ⟨⟨(Nat.le_of_ble_eq_true rfl), (Nat.le_of_ble_eq_true rfl)⟩, (Nat.le_of_ble_eq_true rfl), (Nat.le_of_ble_eq_true rfl)⟩ (h0.1 0 (Nat.le_of_ble_eq_true rfl)) (Nat.le_of_ble_eq_true rfl) rfl rfl rfl (Nat.le_of_ble_eq_true rfl) 33 rfl gX7_tellCrossings_X3_addCrossing_n139 w_X7_tellCrossings_0 w_X7_tellCrossings_8 w_X7_tellCrossings_9 rfl rfl 42 rfl dX7_tellCrossings_39 (fun v7 d8 => ?_)
        refine r_iconst (-1) rfl 43 rfl dX7_tellCrossings_42 ?_
        refine r_icmp_eq 54 46 rfl rfl dX7_tellCrossings_43 ?_ ?_
        · refine r_iconst 0 rfl 55 rfl dX7_tellCrossings_54 ?_
          refine r_istore_n 3 rfl [(3, .int 0), (0, .ref (E.2.1 + o0)), (1, .ref (E.2.1 + o1)), (2, .int x2), (4, .int x4)] (Nat.le_of_ble_eq_true rfl) rfl 56 rfl dX7_tellCrossings_55 ?_
          refine r_iinc (x4 + 1) 4 rfl rfl [(4, .int (x4 + 1)), (3, .int 0), (0, .ref (E.2.1 + o0)), (1, .ref (E.2.1 + o1)), (2, .int x2)] (Nat.le_of_ble_eq_true rfl) rfl 59 rfl dX7_tellCrossings_56 ?_
          refine r_goto 17 rfl dX7_tellCrossings_59 ?_
          refine r_sub [2, 3, 4, 1, 0] rfl ?_
          exact ih 0 (x4 + 1) d8
        · refine r_iload_n 3 3 rfl rfl 47 rfl dX7_tellCrossings_46 ?_
          refine r_if_eq 54 50 rfl rfl dX7_tellCrossings_47 ?_ ?_
          · refine r_iconst 0 rfl 55 rfl dX7_tellCrossings_54 ?_
            refine r_istore_n 3 rfl [(3, .int 0), (0, .ref (E.2.1 + o0)), (1, .ref (E.2.1 + o1)), (2, .int x2), (4, .int x4)] (Nat.le_of_ble_eq_true rfl) rfl 56 rfl dX7_tellCrossings_55 ?_
            refine r_iinc (x4 + 1) 4 rfl rfl [(4, .int (x4 + 1)), (3, .int 0), (0, .ref (E.2.1 + o0)), (1, .ref (E.2.1 + o1)), (2, .int x2)] (Nat.le_of_ble_eq_true rfl) rfl 59 rfl dX7_tellCrossings_56 ?_
            refine r_goto 17 rfl dX7_tellCrossings_59 ?_
            refine r_sub [2, 3, 4, 1, 0] rfl ?_
            exact ih 0 (x4 + 1) d8
          · refine r_iconst 1 rfl 51 rfl dX7_tellCrossings_50 ?_
            refine r_goto 55 rfl dX7_tellCrossings_51 ?_
            refine r_istore_n 3 rfl [(3, .int 1), (0, .ref (E.2.1 + o0)), (1, .ref (E.2.1 + o1)), (2, .int x2), (4, .int x4)] (Nat.le_of_ble_eq_true rfl) rfl 56 rfl dX7_tellCrossings_55 ?_
            refine r_iinc (x4 + 1) 4 rfl rfl [(4, .int (x4 + 1)), (3, .int 1), (0, .ref (E.2.1 + o0)), (1, .ref (E.2.1 + o1)), (2, .int x2)] (Nat.le_of_ble_eq_true rfl) rfl 59 rfl dX7_tellCrossings_56 ?_
            refine r_goto 17 rfl dX7_tellCrossings_59 ?_
            refine r_sub [2, 3, 4, 1, 0] rfl ?_
            exact ih 1 (x4 + 1) d8
def f_X7_tellCrossings (d : z_D) (o0 : Nat) (o1 : Nat) : Option (Int32 × z_D) := ((f_X3_latestMarks d o0).bind fun v1 => z_bX (f_X6_takeInt d o1 0 (v1 - 1)) (fun v2 d3 => (f_X7_tellCrossings_L17 o0 o1 v2 (fun v10 d9 => (z_bool v10 (some (v10, d9)))) z_N 1 0 d3)))
set_option maxHeartbeats 4000000 in
set_option maxRecDepth 100000 in
theorem c_X7_tellCrossings {E : z_E} {l : Launch} {S : z_S} (d : z_D) (o0 : Nat) (h0 : A_Race S o0) (o1 : Nat) (h1 : A_Tape S o1) : z_Sp E l yX7_tellCrossings Y_X7_tellCrossings (cvX S) [.ref (E.2.1 + o0), .ref (E.2.1 + o1)] (S, d) (f_X7_tellCrossings d o0 o1) := by
  refine z_entry (lv := [(0, .ref (E.2.1 + o0)), (1, .ref (E.2.1 + o1))]) (by decide) rfl rfl (Nat.le_of_ble_eq_true rfl) rfl ?_
  unfold f_X7_tellCrossings
  refine r_aload_n 1 1 rfl rfl 1 rfl dX7_tellCrossings_0 ?_
  refine r_iconst 0 rfl 2 rfl dX7_tellCrossings_1 ?_
  refine r_aload_n 0 0 rfl rfl 3 rfl dX7_tellCrossings_2 ?_
  refine r_callVN_I (c_X3_latestMarks (E := E) (l := l) (S := S) d o0 h0) ok_X3_latestMarks ⟨⟨(Nat.le_of_ble_eq_true rfl), (Nat.le_of_ble_eq_true rfl)⟩, (Nat.le_of_ble_eq_true rfl), (Nat.le_of_ble_eq_true rfl)⟩ (h0.1 0 (Nat.le_of_ble_eq_true rfl)) (Nat.le_of_ble_eq_true rfl) rfl rfl rfl (Nat.le_of_ble_eq_true rfl) 32 rfl gX7_tellCrossings_X3_latestMarks_n136 w_X7_tellCrossings_0 w_X7_tellCrossings_1 w_X7_tellCrossings_2 rfl rfl 6 rfl dX7_tellCrossings_3 (fun v1 => ?_)
  refine r_iconst 1 rfl 7 rfl dX7_tellCrossings_6 ?_
  refine r_isub 8 rfl dX7_tellCrossings_7 ?_
  refine r_callVN_X (c_X6_takeInt (E := E) (l := l) (S := S) d o1 h1 0 (v1 - 1)) ok_X6_takeInt ⟨⟨(Nat.le_of_ble_eq_true rfl), (Nat.le_of_ble_eq_true rfl)⟩, (Nat.le_of_ble_eq_true rfl), (Nat.le_of_ble_eq_true rfl)⟩ (h1 0 (Nat.le_of_ble_eq_true rfl)) (Nat.le_of_ble_eq_true rfl) rfl rfl rfl (Nat.le_of_ble_eq_true rfl) 16 rfl gX7_tellCrossings_X6_takeInt_n73 w_X7_tellCrossings_3 w_X7_tellCrossings_4 w_X7_tellCrossings_5 rfl rfl 11 rfl dX7_tellCrossings_8 (fun v2 d3 => ?_)
  refine r_istore_n 2 rfl [(2, .int v2), (0, .ref (E.2.1 + o0)), (1, .ref (E.2.1 + o1))] (Nat.le_of_ble_eq_true rfl) rfl 12 rfl dX7_tellCrossings_11 ?_
  refine r_iconst 1 rfl 13 rfl dX7_tellCrossings_12 ?_
  refine r_istore_n 3 rfl [(3, .int 1), (2, .int v2), (0, .ref (E.2.1 + o0)), (1, .ref (E.2.1 + o1))] (Nat.le_of_ble_eq_true rfl) rfl 14 rfl dX7_tellCrossings_13 ?_
  refine r_iconst 0 rfl 15 rfl dX7_tellCrossings_14 ?_
  refine r_istore 4 [(4, .int 0), (3, .int 1), (2, .int v2), (0, .ref (E.2.1 + o0)), (1, .ref (E.2.1 + o1))] (Nat.le_of_ble_eq_true rfl) rfl 17 rfl dX7_tellCrossings_15 ?_
  refine r_sub [3, 4, 2, 1, 0] rfl ?_
  refine g_X7_tellCrossings_L17 h0 h1 (fun v10 d9 => ?_) z_N 1 0 d3
  refine r_iload_n 3 0 rfl rfl 63 rfl dX7_tellCrossings_62 ?_
  exact r_zreturn rfl rfl (Nat.le_of_ble_eq_true rfl) (Nat.le_of_ble_eq_true rfl) dX7_tellCrossings_63
def Y_X7_tellFall : z_Y := (RX7, cX7_tellFall, 5, wsX7_tellFall, (some .boolean), { frames := 6, cells := 0, slots := 0, locals := 172 }, 0, 0)
theorem ok_X7_tellFall : z_Ok yX7_tellFall Y_X7_tellFall 2 := ⟨⟨_, rfl⟩, rfl, rfl, rfl, by decide +kernel, by decide +kernel⟩
theorem w_X7_tellFall_0 : Cond.initialized RX3 ∈ wsX7_tellFall := by decide +kernel
theorem w_X7_tellFall_1 : Cond.instanceMethod yX3_latestLength ∈ wsX7_tellFall := by decide +kernel
theorem w_X7_tellFall_2 : Cond.selects RX3 yX3_latestLength yX3_latestLength ∈ wsX7_tellFall := by decide +kernel
theorem w_X7_tellFall_3 : Cond.initialized RX6 ∈ wsX7_tellFall := by decide +kernel
theorem w_X7_tellFall_4 : Cond.instanceMethod yX6_takeInt ∈ wsX7_tellFall := by decide +kernel
theorem w_X7_tellFall_5 : Cond.selects RX6 yX6_takeInt yX6_takeInt ∈ wsX7_tellFall := by decide +kernel
theorem w_X7_tellFall_6 : Cond.instanceMethod yX6_takes ∈ wsX7_tellFall := by decide +kernel
theorem w_X7_tellFall_7 : Cond.selects RX6 yX6_takes yX6_takes ∈ wsX7_tellFall := by decide +kernel
theorem w_X7_tellFall_8 : Cond.instanceMethod yX3_addFall ∈ wsX7_tellFall := by decide +kernel
theorem w_X7_tellFall_9 : Cond.selects RX3 yX3_addFall yX3_addFall ∈ wsX7_tellFall := by decide +kernel
def f_X7_tellFall (d : z_D) (o0 : Nat) (o1 : Nat) : Option (Int32 × z_D) := z_bX (f_X7_takeRider d o0 o1) (fun v1 d2 => ((f_X3_latestLength d2 o0).bind fun v3 => z_bX (f_X6_takeInt d2 o1 0 v3) (fun v4 d5 => z_bX (f_X6_takes d5 o1 13) (fun v6 d7 => z_let (fun x_34 : Int32 × z_D => z_nam (x_34.1) (fun v8 => z_bX (f_X3_addFall x_34.2 o0 v1 v4 v8) (fun v9 d10 => (z_bool v9 (some (v9, d10)))))) (fun J34 => (if v6 = 0 then (J34 ((-1), d7)) else z_bX (f_X7_takeRider d7 o0 o1) (fun v11 d12 => (J34 (v11, d12)))))))))
set_option maxHeartbeats 4000000 in
set_option maxRecDepth 100000 in
theorem c_X7_tellFall {E : z_E} {l : Launch} {S : z_S} (d : z_D) (o0 : Nat) (h0 : A_Race S o0) (o1 : Nat) (h1 : A_Tape S o1) : z_Sp E l yX7_tellFall Y_X7_tellFall (cvX S) [.ref (E.2.1 + o0), .ref (E.2.1 + o1)] (S, d) (f_X7_tellFall d o0 o1) := by
  refine z_entry (lv := [(0, .ref (E.2.1 + o0)), (1, .ref (E.2.1 + o1))]) (by decide) rfl rfl (Nat.le_of_ble_eq_true rfl) rfl ?_
  unfold f_X7_tellFall
  refine r_aload_n 0 0 rfl rfl 1 rfl dX7_tellFall_0 ?_
  refine r_aload_n 1 1 rfl rfl 2 rfl dX7_tellFall_1 ?_
  refine r_callS_X (c_X7_takeRider (E := E) (l := l) (S := S) d o0 h0 o1 h1) ok_X7_takeRider ⟨⟨(Nat.le_of_ble_eq_true rfl), (Nat.le_of_ble_eq_true rfl)⟩, (Nat.le_of_ble_eq_true rfl), (Nat.le_of_ble_eq_true rfl)⟩ rfl (Nat.le_of_ble_eq_true rfl) gX7_tellFall_X7_takeRider rfl rfl 5 rfl dX7_tellFall_2 (fun v1 d2 => ?_)
  refine r_istore_n 2 rfl [(2, .int v1), (0, .ref (E.2.1 + o0)), (1, .ref (E.2.1 + o1))] (Nat.le_of_ble_eq_true rfl) rfl 6 rfl dX7_tellFall_5 ?_
  refine r_aload_n 1 2 rfl rfl 7 rfl dX7_tellFall_6 ?_
  refine r_iconst 0 rfl 8 rfl dX7_tellFall_7 ?_
  refine r_aload_n 0 1 rfl rfl 9 rfl dX7_tellFall_8 ?_
  refine r_callVN_I (c_X3_latestLength (E := E) (l := l) (S := S) d2 o0 h0) ok_X3_latestLength ⟨⟨(Nat.le_of_ble_eq_true rfl), (Nat.le_of_ble_eq_true rfl)⟩, (Nat.le_of_ble_eq_true rfl), (Nat.le_of_ble_eq_true rfl)⟩ (h0.1 0 (Nat.le_of_ble_eq_true rfl)) (Nat.le_of_ble_eq_true rfl) rfl rfl rfl (Nat.le_of_ble_eq_true rfl) 35 rfl gX7_tellFall_X3_latestLength_n142 w_X7_tellFall_0 w_X7_tellFall_1 w_X7_tellFall_2 rfl rfl 12 rfl dX7_tellFall_9 (fun v3 => ?_)
  refine r_callVN_X (c_X6_takeInt (E := E) (l := l) (S := S) d2 o1 h1 0 v3) ok_X6_takeInt ⟨⟨(Nat.le_of_ble_eq_true rfl), (Nat.le_of_ble_eq_true rfl)⟩, (Nat.le_of_ble_eq_true rfl), (Nat.le_of_ble_eq_true rfl)⟩ (h1 0 (Nat.le_of_ble_eq_true rfl)) (Nat.le_of_ble_eq_true rfl) rfl rfl rfl (Nat.le_of_ble_eq_true rfl) 16 rfl gX7_tellFall_X6_takeInt_n73 w_X7_tellFall_3 w_X7_tellFall_4 w_X7_tellFall_5 rfl rfl 15 rfl dX7_tellFall_12 (fun v4 d5 => ?_)
  refine r_istore_n 3 rfl [(3, .int v4), (2, .int v1), (0, .ref (E.2.1 + o0)), (1, .ref (E.2.1 + o1))] (Nat.le_of_ble_eq_true rfl) rfl 16 rfl dX7_tellFall_15 ?_
  refine r_aload_n 1 3 rfl rfl 17 rfl dX7_tellFall_16 ?_
  refine r_ldcS 13 rfl rfl rfl 19 rfl dX7_tellFall_17 ?_
  refine r_callVN_X (c_X6_takes (E := E) (l := l) (S := S) d5 o1 h1 13 (Nat.le_of_ble_eq_true rfl)) ok_X6_takes ⟨⟨(Nat.le_of_ble_eq_true rfl), (Nat.le_of_ble_eq_true rfl)⟩, (Nat.le_of_ble_eq_true rfl), (Nat.le_of_ble_eq_true rfl)⟩ (h1 0 (Nat.le_of_ble_eq_true rfl)) (Nat.le_of_ble_eq_true rfl) rfl rfl rfl (Nat.le_of_ble_eq_true rfl) 14 rfl gX7_tellFall_X6_takes_n11 w_X7_tellFall_3 w_X7_tellFall_6 w_X7_tellFall_7 rfl rfl 22 rfl dX7_tellFall_19 (fun v6 d7 => ?_)
  refine r_let 34 (f := fun x_34 : Int32 × z_D => [(0, .ref (E.2.1 + o0)), (2, .int v1), (3, .int v4)]) (g := fun x_34 : Int32 × z_D => [.int (x_34.1)]) (ww := fun x_34 : Int32 × z_D => (S, x_34.2)) (fun x_34 => ?_) (fun J34 hJ34 => ?_)
  · refine r_nami (fun v8 => ?_)
    refine r_istore 4 [(4, .int v8), (0, .ref (E.2.1 + o0)), (2, .int v1), (3, .int v4)] (Nat.le_of_ble_eq_true rfl) rfl 36 rfl dX7_tellFall_34 ?_
    refine r_aload_n 0 1 rfl rfl 37 rfl dX7_tellFall_36 ?_
    refine r_iload_n 2 2 rfl rfl 38 rfl dX7_tellFall_37 ?_
    refine r_iload_n 3 3 rfl rfl 39 rfl dX7_tellFall_38 ?_
    refine r_iload 4 0 rfl 41 rfl dX7_tellFall_39 ?_
    refine r_callVN_X (c_X3_addFall (E := E) (l := l) (S := S) x_34.2 o0 h0 v1 v4 v8) ok_X3_addFall ⟨⟨(Nat.le_of_ble_eq_true rfl), (Nat.le_of_ble_eq_true rfl)⟩, (Nat.le_of_ble_eq_true rfl), (Nat.le_of_ble_eq_true rfl)⟩ (h0.1 0 (Nat.le_of_ble_eq_true rfl)) (Nat.le_of_ble_eq_true rfl) rfl rfl rfl (Nat.le_of_ble_eq_true rfl) 36 rfl gX7_tellFall_X3_addFall_n147 w_X7_tellFall_0 w_X7_tellFall_8 w_X7_tellFall_9 rfl rfl 44 rfl dX7_tellFall_41 (fun v9 d10 => ?_)
    exact r_zreturn rfl rfl (Nat.le_of_ble_eq_true rfl) (Nat.le_of_ble_eq_true rfl) dX7_tellFall_44
  refine r_if_eq 33 25 rfl rfl dX7_tellFall_22 ?_ ?_
  · refine r_iconst (-1) rfl 34 rfl dX7_tellFall_33 ?_
    refine r_sub [2, 1, 0] rfl ?_
    exact hJ34 ((-1), d7)
  · refine r_aload_n 0 2 rfl rfl 26 rfl dX7_tellFall_25 ?_
    refine r_aload_n 1 3 rfl rfl 27 rfl dX7_tellFall_26 ?_
    refine r_callS_X (c_X7_takeRider (E := E) (l := l) (S := S) d7 o0 h0 o1 h1) ok_X7_takeRider ⟨⟨(Nat.le_of_ble_eq_true rfl), (Nat.le_of_ble_eq_true rfl)⟩, (Nat.le_of_ble_eq_true rfl), (Nat.le_of_ble_eq_true rfl)⟩ rfl (Nat.le_of_ble_eq_true rfl) gX7_tellFall_X7_takeRider rfl rfl 30 rfl dX7_tellFall_27 (fun v11 d12 => ?_)
    refine r_goto 34 rfl dX7_tellFall_30 ?_
    refine r_sub [2, 1, 0] rfl ?_
    exact hJ34 (v11, d12)
def Y_X7_tellJury : z_Y := (RX7, cX7_tellJury, 4, wsX7_tellJury, (some .boolean), { frames := 4, cells := 0, slots := 0, locals := 87 }, 0, 0)
theorem ok_X7_tellJury : z_Ok yX7_tellJury Y_X7_tellJury 2 := ⟨⟨_, rfl⟩, rfl, rfl, rfl, by decide +kernel, by decide +kernel⟩
theorem w_X7_tellJury_0 : Cond.initialized RX6 ∈ wsX7_tellJury := by decide +kernel
theorem w_X7_tellJury_1 : Cond.instanceMethod yX6_takeInt ∈ wsX7_tellJury := by decide +kernel
theorem w_X7_tellJury_2 : Cond.selects RX6 yX6_takeInt yX6_takeInt ∈ wsX7_tellJury := by decide +kernel
theorem w_X7_tellJury_3 : Cond.initialized RX3 ∈ wsX7_tellJury := by decide +kernel
theorem w_X7_tellJury_4 : Cond.instanceMethod yX3_addJury ∈ wsX7_tellJury := by decide +kernel
theorem w_X7_tellJury_5 : Cond.selects RX3 yX3_addJury yX3_addJury ∈ wsX7_tellJury := by decide +kernel
def f_X7_tellJury (d : z_D) (o0 : Nat) (o1 : Nat) : Option (Int32 × z_D) := z_bX (f_X7_takeRider d o0 o1) (fun v1 d2 => z_bX (f_X6_takeInt d2 o1 1 3600) (fun v3 d4 => z_bX (f_X3_addJury d4 o0 v1 v3) (fun v5 d6 => (if v5 = (-1) then (some (0, d6)) else (some (1, d6))))))
set_option maxHeartbeats 4000000 in
set_option maxRecDepth 100000 in
theorem c_X7_tellJury {E : z_E} {l : Launch} {S : z_S} (d : z_D) (o0 : Nat) (h0 : A_Race S o0) (o1 : Nat) (h1 : A_Tape S o1) : z_Sp E l yX7_tellJury Y_X7_tellJury (cvX S) [.ref (E.2.1 + o0), .ref (E.2.1 + o1)] (S, d) (f_X7_tellJury d o0 o1) := by
  refine z_entry (lv := [(0, .ref (E.2.1 + o0)), (1, .ref (E.2.1 + o1))]) (by decide) rfl rfl (Nat.le_of_ble_eq_true rfl) rfl ?_
  unfold f_X7_tellJury
  refine r_aload_n 0 0 rfl rfl 1 rfl dX7_tellJury_0 ?_
  refine r_aload_n 1 1 rfl rfl 2 rfl dX7_tellJury_1 ?_
  refine r_callS_X (c_X7_takeRider (E := E) (l := l) (S := S) d o0 h0 o1 h1) ok_X7_takeRider ⟨⟨(Nat.le_of_ble_eq_true rfl), (Nat.le_of_ble_eq_true rfl)⟩, (Nat.le_of_ble_eq_true rfl), (Nat.le_of_ble_eq_true rfl)⟩ rfl (Nat.le_of_ble_eq_true rfl) gX7_tellJury_X7_takeRider rfl rfl 5 rfl dX7_tellJury_2 (fun v1 d2 => ?_)
  refine r_istore_n 2 rfl [(2, .int v1), (0, .ref (E.2.1 + o0)), (1, .ref (E.2.1 + o1))] (Nat.le_of_ble_eq_true rfl) rfl 6 rfl dX7_tellJury_5 ?_
  refine r_aload_n 1 2 rfl rfl 7 rfl dX7_tellJury_6 ?_
  refine r_iconst 1 rfl 8 rfl dX7_tellJury_7 ?_
  refine r_sipush 3600 rfl 11 rfl dX7_tellJury_8 ?_
  refine r_callVN_X (c_X6_takeInt (E := E) (l := l) (S := S) d2 o1 h1 1 3600) ok_X6_takeInt ⟨⟨(Nat.le_of_ble_eq_true rfl), (Nat.le_of_ble_eq_true rfl)⟩, (Nat.le_of_ble_eq_true rfl), (Nat.le_of_ble_eq_true rfl)⟩ (h1 0 (Nat.le_of_ble_eq_true rfl)) (Nat.le_of_ble_eq_true rfl) rfl rfl rfl (Nat.le_of_ble_eq_true rfl) 16 rfl gX7_tellJury_X6_takeInt_n73 w_X7_tellJury_0 w_X7_tellJury_1 w_X7_tellJury_2 rfl rfl 14 rfl dX7_tellJury_11 (fun v3 d4 => ?_)
  refine r_istore_n 3 rfl [(3, .int v3), (2, .int v1), (0, .ref (E.2.1 + o0)), (1, .ref (E.2.1 + o1))] (Nat.le_of_ble_eq_true rfl) rfl 15 rfl dX7_tellJury_14 ?_
  refine r_aload_n 0 2 rfl rfl 16 rfl dX7_tellJury_15 ?_
  refine r_iload_n 2 1 rfl rfl 17 rfl dX7_tellJury_16 ?_
  refine r_iload_n 3 0 rfl rfl 18 rfl dX7_tellJury_17 ?_
  refine r_callVN_X (c_X3_addJury (E := E) (l := l) (S := S) d4 o0 h0 v1 v3) ok_X3_addJury ⟨⟨(Nat.le_of_ble_eq_true rfl), (Nat.le_of_ble_eq_true rfl)⟩, (Nat.le_of_ble_eq_true rfl), (Nat.le_of_ble_eq_true rfl)⟩ (h0.1 0 (Nat.le_of_ble_eq_true rfl)) (Nat.le_of_ble_eq_true rfl) rfl rfl rfl (Nat.le_of_ble_eq_true rfl) 38 rfl gX7_tellJury_X3_addJury_n151 w_X7_tellJury_3 w_X7_tellJury_4 w_X7_tellJury_5 rfl rfl 21 rfl dX7_tellJury_18 (fun v5 d6 => ?_)
  refine r_iconst (-1) rfl 22 rfl dX7_tellJury_21 ?_
  refine r_icmp_eq 29 25 rfl rfl dX7_tellJury_22 ?_ ?_
  · refine r_iconst 0 rfl 30 rfl dX7_tellJury_29 ?_
    exact r_zreturnc (by decide) rfl rfl (Nat.le_of_ble_eq_true rfl) (Nat.le_of_ble_eq_true rfl) dX7_tellJury_30
  · refine r_iconst 1 rfl 26 rfl dX7_tellJury_25 ?_
    refine r_goto 30 rfl dX7_tellJury_26 ?_
    exact r_zreturnc (by decide) rfl rfl (Nat.le_of_ble_eq_true rfl) (Nat.le_of_ble_eq_true rfl) dX7_tellJury_30
def Y_X7_tellStatement : z_Y := (RX7, cX7_tellStatement, 2, wsX7_tellStatement, (some .boolean), { frames := 8, cells := 0, slots := 0, locals := 220 }, 0, 0)
theorem ok_X7_tellStatement : z_Ok yX7_tellStatement Y_X7_tellStatement 2 := ⟨⟨_, rfl⟩, rfl, rfl, rfl, by decide +kernel, by decide +kernel⟩
theorem w_X7_tellStatement_0 : Cond.initialized RX6 ∈ wsX7_tellStatement := by decide +kernel
theorem w_X7_tellStatement_1 : Cond.instanceMethod yX6_takes ∈ wsX7_tellStatement := by decide +kernel
theorem w_X7_tellStatement_2 : Cond.selects RX6 yX6_takes yX6_takes ∈ wsX7_tellStatement := by decide +kernel
theorem w_X7_tellStatement_3 : Cond.instanceMethod yX6_cannotStand ∈ wsX7_tellStatement := by decide +kernel
theorem w_X7_tellStatement_4 : Cond.selects RX6 yX6_cannotStand yX6_cannotStand ∈ wsX7_tellStatement := by decide +kernel
theorem w_X7_tellStatement_5 : Cond.initialized RX3 ∈ wsX7_tellStatement := by decide +kernel
theorem w_X7_tellStatement_6 : Cond.instanceMethod yX3_closeStage ∈ wsX7_tellStatement := by decide +kernel
theorem w_X7_tellStatement_7 : Cond.selects RX3 yX3_closeStage yX3_closeStage ∈ wsX7_tellStatement := by decide +kernel
theorem w_X7_tellStatement_8 : Cond.instanceMethod yX6_takeInt ∈ wsX7_tellStatement := by decide +kernel
theorem w_X7_tellStatement_9 : Cond.selects RX6 yX6_takeInt yX6_takeInt ∈ wsX7_tellStatement := by decide +kernel
theorem w_X7_tellStatement_10 : Cond.instanceMethod yX3_setZone ∈ wsX7_tellStatement := by decide +kernel
theorem w_X7_tellStatement_11 : Cond.selects RX3 yX3_setZone yX3_setZone ∈ wsX7_tellStatement := by decide +kernel
theorem w_X7_tellStatement_12 : Cond.instanceMethod yX3_setGap ∈ wsX7_tellStatement := by decide +kernel
theorem w_X7_tellStatement_13 : Cond.selects RX3 yX3_setGap yX3_setGap ∈ wsX7_tellStatement := by decide +kernel
theorem w_X7_tellStatement_14 : Cond.instanceMethod yX3_dropRider ∈ wsX7_tellStatement := by decide +kernel
theorem w_X7_tellStatement_15 : Cond.selects RX3 yX3_dropRider yX3_dropRider ∈ wsX7_tellStatement := by decide +kernel
theorem w_X7_tellStatement_16 : Cond.instanceMethod yX3_addGrace ∈ wsX7_tellStatement := by decide +kernel
theorem w_X7_tellStatement_17 : Cond.selects RX3 yX3_addGrace yX3_addGrace ∈ wsX7_tellStatement := by decide +kernel
theorem w_X7_tellStatement_18 : Cond.instanceMethod yX3_addTeam ∈ wsX7_tellStatement := by decide +kernel
theorem w_X7_tellStatement_19 : Cond.selects RX3 yX3_addTeam yX3_addTeam ∈ wsX7_tellStatement := by decide +kernel
def f_X7_tellStatement (d : z_D) (o0 : Nat) (o1 : Nat) : Option (Int32 × z_D) := z_bX (f_X6_takes d o1 0) (fun v1 d2 => (if v1 = 0 then z_bX (f_X6_takes d2 o1 1) (fun v3 d4 => (if v3 = 0 then z_bX (f_X6_takes d4 o1 2) (fun v5 d6 => (if v5 = 0 then z_bX (f_X6_takes d6 o1 10) (fun v7 d8 => (if v7 = 0 then z_bX (f_X6_takes d8 o1 11) (fun v9 d10 => (if v9 = 0 then z_bX (f_X6_takes d10 o1 12) (fun v11 d12 => (if v11 = 0 then z_bX (f_X6_takes d12 o1 14) (fun v13 d14 => (if v13 = 0 then z_bX (f_X6_takes d14 o1 15) (fun v15 d16 => (if v15 = 0 then z_bX (f_X6_takes d16 o1 16) (fun v17 d18 => (if v17 = 0 then z_bX (f_X6_takes d18 o1 17) (fun v19 d20 => (if v19 = 0 then z_bX (f_X6_takes d20 o1 18) (fun v21 d22 => (if v21 = 0 then z_bX (f_X6_takes d22 o1 19) (fun v23 d24 => (if v23 = 0 then z_bX (f_X6_cannotStand d24 o1) (fun v25 d26 => (some (0, d26))) else z_bX (f_X3_closeStage d24 o0) (fun v27 d28 => (if v27 = (-1) then (some (0, d28)) else (some (1, d28)))))) else z_bX (f_X6_takeInt d22 o1 0 9) (fun v29 d30 => z_bX (f_X3_setZone d30 o0 v29) (fun v31 d32 => (z_bool v31 (some (v31, d32))))))) else z_bX (f_X6_takeInt d20 o1 1 99) (fun v33 d34 => z_bX (f_X3_setGap d34 o0 v33) (fun v35 d36 => (z_bool v35 (some (v35, d36))))))) else z_bX (f_X7_takeRider d18 o0 o1) (fun v37 d38 => z_bX (f_X3_dropRider d38 o0 v37) (fun v39 d40 => (z_bool v39 (some (v39, d40))))))) else z_bX (f_X7_takeRider d16 o0 o1) (fun v41 d42 => z_bX (f_X3_addGrace d42 o0 v41) (fun v43 d44 => (z_bool v43 (some (v43, d44))))))) else z_bX (f_X7_tellJury d14 o0 o1) (fun v45 d46 => (z_bool v45 (some (v45, d46)))))) else z_bX (f_X7_tellFall d12 o0 o1) (fun v47 d48 => (z_bool v47 (some (v47, d48)))))) else z_bX (f_X7_tellCrossings d10 o0 o1) (fun v49 d50 => (z_bool v49 (some (v49, d50)))))) else z_bX (f_X7_tellFinishes d8 o0 o1) (fun v51 d52 => (z_bool v51 (some (v51, d52)))))) else z_bX (f_X7_tellStage d6 o0 o1) (fun v53 d54 => (z_bool v53 (some (v53, d54)))))) else z_bX (f_X7_tellRider d4 o0 o1) (fun v55 d56 => (z_bool v55 (some (v55, d56)))))) else z_bX (f_X3_addTeam d2 o0) (fun v57 d58 => (if v57 = (-1) then (some (0, d58)) else (some (1, d58))))))
set_option maxHeartbeats 4000000 in
set_option maxRecDepth 100000 in
theorem c_X7_tellStatement {E : z_E} {l : Launch} {S : z_S} (d : z_D) (o0 : Nat) (h0 : A_Race S o0) (o1 : Nat) (h1 : A_Tape S o1) : z_Sp E l yX7_tellStatement Y_X7_tellStatement (cvX S) [.ref (E.2.1 + o0), .ref (E.2.1 + o1)] (S, d) (f_X7_tellStatement d o0 o1) := by
  refine z_entry (lv := [(0, .ref (E.2.1 + o0)), (1, .ref (E.2.1 + o1))]) (by decide) rfl rfl (Nat.le_of_ble_eq_true rfl) rfl ?_
  unfold f_X7_tellStatement
  refine r_aload_n 1 1 rfl rfl 1 rfl dX7_tellStatement_0 ?_
  refine r_ldcS 0 rfl rfl rfl 3 rfl dX7_tellStatement_1 ?_
  refine r_callVN_X (c_X6_takes (E := E) (l := l) (S := S) d o1 h1 0 (Nat.le_of_ble_eq_true rfl)) ok_X6_takes ⟨⟨(Nat.le_of_ble_eq_true rfl), (Nat.le_of_ble_eq_true rfl)⟩, (Nat.le_of_ble_eq_true rfl), (Nat.le_of_ble_eq_true rfl)⟩ (h1 0 (Nat.le_of_ble_eq_true rfl)) (Nat.le_of_ble_eq_true rfl) rfl rfl rfl (Nat.le_of_ble_eq_true rfl) 14 rfl gX7_tellStatement_X6_takes_n11 w_X7_tellStatement_0 w_X7_tellStatement_1 w_X7_tellStatement_2 rfl rfl 6 rfl dX7_tellStatement_3 (fun v1 d2 => ?_)
  refine r_if_eq 23 9 rfl rfl dX7_tellStatement_6 ?_ ?_
  · refine r_aload_n 1 1 rfl rfl 24 rfl dX7_tellStatement_23 ?_
    refine r_ldcS 1 rfl rfl rfl 26 rfl dX7_tellStatement_24 ?_
    refine r_callVN_X (c_X6_takes (E := E) (l := l) (S := S) d2 o1 h1 1 (Nat.le_of_ble_eq_true rfl)) ok_X6_takes ⟨⟨(Nat.le_of_ble_eq_true rfl), (Nat.le_of_ble_eq_true rfl)⟩, (Nat.le_of_ble_eq_true rfl), (Nat.le_of_ble_eq_true rfl)⟩ (h1 0 (Nat.le_of_ble_eq_true rfl)) (Nat.le_of_ble_eq_true rfl) rfl rfl rfl (Nat.le_of_ble_eq_true rfl) 14 rfl gX7_tellStatement_X6_takes_n11 w_X7_tellStatement_0 w_X7_tellStatement_1 w_X7_tellStatement_2 rfl rfl 29 rfl dX7_tellStatement_26 (fun v3 d4 => ?_)
    refine r_if_eq 38 32 rfl rfl dX7_tellStatement_29 ?_ ?_
    · refine r_aload_n 1 1 rfl rfl 39 rfl dX7_tellStatement_38 ?_
      refine r_ldcS 2 rfl rfl rfl 41 rfl dX7_tellStatement_39 ?_
      refine r_callVN_X (c_X6_takes (E := E) (l := l) (S := S) d4 o1 h1 2 (Nat.le_of_ble_eq_true rfl)) ok_X6_takes ⟨⟨(Nat.le_of_ble_eq_true rfl), (Nat.le_of_ble_eq_true rfl)⟩, (Nat.le_of_ble_eq_true rfl), (Nat.le_of_ble_eq_true rfl)⟩ (h1 0 (Nat.le_of_ble_eq_true rfl)) (Nat.le_of_ble_eq_true rfl) rfl rfl rfl (Nat.le_of_ble_eq_true rfl) 14 rfl gX7_tellStatement_X6_takes_n11 w_X7_tellStatement_0 w_X7_tellStatement_1 w_X7_tellStatement_2 rfl rfl 44 rfl dX7_tellStatement_41 (fun v5 d6 => ?_)
      refine r_if_eq 53 47 rfl rfl dX7_tellStatement_44 ?_ ?_
      · refine r_aload_n 1 1 rfl rfl 54 rfl dX7_tellStatement_53 ?_
        refine r_ldcS 10 rfl rfl rfl 56 rfl dX7_tellStatement_54 ?_
        refine r_callVN_X (c_X6_takes (E := E) (l := l) (S := S) d6 o1 h1 10 (Nat.le_of_ble_eq_true rfl)) ok_X6_takes ⟨⟨(Nat.le_of_ble_eq_true rfl), (Nat.le_of_ble_eq_true rfl)⟩, (Nat.le_of_ble_eq_true rfl), (Nat.le_of_ble_eq_true rfl)⟩ (h1 0 (Nat.le_of_ble_eq_true rfl)) (Nat.le_of_ble_eq_true rfl) rfl rfl rfl (Nat.le_of_ble_eq_true rfl) 14 rfl gX7_tellStatement_X6_takes_n11 w_X7_tellStatement_0 w_X7_tellStatement_1 w_X7_tellStatement_2 rfl rfl 59 rfl dX7_tellStatement_56 (fun v7 d8 => ?_)
        refine r_if_eq 68 62 rfl rfl dX7_tellStatement_59 ?_ ?_
        · refine r_aload_n 1 1 rfl rfl 69 rfl dX7_tellStatement_68 ?_
          refine r_ldcS 11 rfl rfl rfl 71 rfl dX7_tellStatement_69 ?_
          refine r_callVN_X (c_X6_takes (E := E) (l := l) (S := S) d8 o1 h1 11 (Nat.le_of_ble_eq_true rfl)) ok_X6_takes ⟨⟨(Nat.le_of_ble_eq_true rfl), (Nat.le_of_ble_eq_true rfl)⟩, (Nat.le_of_ble_eq_true rfl), (Nat.le_of_ble_eq_true rfl)⟩ (h1 0 (Nat.le_of_ble_eq_true rfl)) (Nat.le_of_ble_eq_true rfl) rfl rfl rfl (Nat.le_of_ble_eq_true rfl) 14 rfl gX7_tellStatement_X6_takes_n11 w_X7_tellStatement_0 w_X7_tellStatement_1 w_X7_tellStatement_2 rfl rfl 74 rfl dX7_tellStatement_71 (fun v9 d10 => ?_)
          refine r_if_eq 83 77 rfl rfl dX7_tellStatement_74 ?_ ?_
          · refine r_aload_n 1 1 rfl rfl 84 rfl dX7_tellStatement_83 ?_
            refine r_ldcS 12 rfl rfl rfl 86 rfl dX7_tellStatement_84 ?_
            refine r_callVN_X (c_X6_takes (E := E) (l := l) (S := S) d10 o1 h1 12 (Nat.le_of_ble_eq_true rfl)) ok_X6_takes ⟨⟨(Nat.le_of_ble_eq_true rfl), (Nat.le_of_ble_eq_true rfl)⟩, (Nat.le_of_ble_eq_true rfl), (Nat.le_of_ble_eq_true rfl)⟩ (h1 0 (Nat.le_of_ble_eq_true rfl)) (Nat.le_of_ble_eq_true rfl) rfl rfl rfl (Nat.le_of_ble_eq_true rfl) 14 rfl gX7_tellStatement_X6_takes_n11 w_X7_tellStatement_0 w_X7_tellStatement_1 w_X7_tellStatement_2 rfl rfl 89 rfl dX7_tellStatement_86 (fun v11 d12 => ?_)
            refine r_if_eq 98 92 rfl rfl dX7_tellStatement_89 ?_ ?_
            · refine r_aload_n 1 1 rfl rfl 99 rfl dX7_tellStatement_98 ?_
              refine r_ldcS 14 rfl rfl rfl 101 rfl dX7_tellStatement_99 ?_
              refine r_callVN_X (c_X6_takes (E := E) (l := l) (S := S) d12 o1 h1 14 (Nat.le_of_ble_eq_true rfl)) ok_X6_takes ⟨⟨(Nat.le_of_ble_eq_true rfl), (Nat.le_of_ble_eq_true rfl)⟩, (Nat.le_of_ble_eq_true rfl), (Nat.le_of_ble_eq_true rfl)⟩ (h1 0 (Nat.le_of_ble_eq_true rfl)) (Nat.le_of_ble_eq_true rfl) rfl rfl rfl (Nat.le_of_ble_eq_true rfl) 14 rfl gX7_tellStatement_X6_takes_n11 w_X7_tellStatement_0 w_X7_tellStatement_1 w_X7_tellStatement_2 rfl rfl 104 rfl dX7_tellStatement_101 (fun v13 d14 => ?_)
              refine r_if_eq 113 107 rfl rfl dX7_tellStatement_104 ?_ ?_
              · refine r_aload_n 1 1 rfl rfl 114 rfl dX7_tellStatement_113 ?_
                refine r_ldcS 15 rfl rfl rfl 116 rfl dX7_tellStatement_114 ?_
                refine r_callVN_X (c_X6_takes (E := E) (l := l) (S := S) d14 o1 h1 15 (Nat.le_of_ble_eq_true rfl)) ok_X6_takes ⟨⟨(Nat.le_of_ble_eq_true rfl), (Nat.le_of_ble_eq_true rfl)⟩, (Nat.le_of_ble_eq_true rfl), (Nat.le_of_ble_eq_true rfl)⟩ (h1 0 (Nat.le_of_ble_eq_true rfl)) (Nat.le_of_ble_eq_true rfl) rfl rfl rfl (Nat.le_of_ble_eq_true rfl) 14 rfl gX7_tellStatement_X6_takes_n11 w_X7_tellStatement_0 w_X7_tellStatement_1 w_X7_tellStatement_2 rfl rfl 119 rfl dX7_tellStatement_116 (fun v15 d16 => ?_)
                refine r_if_eq 132 122 rfl rfl dX7_tellStatement_119 ?_ ?_
                · refine r_aload_n 1 1 rfl rfl 133 rfl dX7_tellStatement_132 ?_
                  refine r_ldcS 16 rfl rfl rfl 135 rfl dX7_tellStatement_133 ?_
                  refine r_callVN_X (c_X6_takes (E := E) (l := l) (S := S) d16 o1 h1 16 (Nat.le_of_ble_eq_true rfl)) ok_X6_takes ⟨⟨(Nat.le_of_ble_eq_true rfl), (Nat.le_of_ble_eq_true rfl)⟩, (Nat.le_of_ble_eq_true rfl), (Nat.le_of_ble_eq_true rfl)⟩ (h1 0 (Nat.le_of_ble_eq_true rfl)) (Nat.le_of_ble_eq_true rfl) rfl rfl rfl (Nat.le_of_ble_eq_true rfl) 14 rfl gX7_tellStatement_X6_takes_n11 w_X7_tellStatement_0 w_X7_tellStatement_1 w_X7_tellStatement_2 rfl rfl 138 rfl dX7_tellStatement_135 (fun v17 d18 => ?_)
                  refine r_if_eq 151 141 rfl rfl dX7_tellStatement_138 ?_ ?_
                  · refine r_aload_n 1 1 rfl rfl 152 rfl dX7_tellStatement_151 ?_
                    refine r_ldcS 17 rfl rfl rfl 154 rfl dX7_tellStatement_152 ?_
                    refine r_callVN_X (c_X6_takes (E := E) (l := l) (S := S) d18 o1 h1 17 (Nat.le_of_ble_eq_true rfl)) ok_X6_takes ⟨⟨(Nat.le_of_ble_eq_true rfl), (Nat.le_of_ble_eq_true rfl)⟩, (Nat.le_of_ble_eq_true rfl), (Nat.le_of_ble_eq_true rfl)⟩ (h1 0 (Nat.le_of_ble_eq_true rfl)) (Nat.le_of_ble_eq_true rfl) rfl rfl rfl (Nat.le_of_ble_eq_true rfl) 14 rfl gX7_tellStatement_X6_takes_n11 w_X7_tellStatement_0 w_X7_tellStatement_1 w_X7_tellStatement_2 rfl rfl 157 rfl dX7_tellStatement_154 (fun v19 d20 => ?_)
                    refine r_if_eq 172 160 rfl rfl dX7_tellStatement_157 ?_ ?_
                    · refine r_aload_n 1 1 rfl rfl 173 rfl dX7_tellStatement_172 ?_
                      refine r_ldcS 18 rfl rfl rfl 175 rfl dX7_tellStatement_173 ?_
                      refine r_callVN_X (c_X6_takes (E := E) (l := l) (S := S) d20 o1 h1 18 (Nat.le_of_ble_eq_true rfl)) ok_X6_takes ⟨⟨(Nat.le_of_ble_eq_true rfl), (Nat.le_of_ble_eq_true rfl)⟩, (Nat.le_of_ble_eq_true rfl), (Nat.le_of_ble_eq_true rfl)⟩ (h1 0 (Nat.le_of_ble_eq_true rfl)) (Nat.le_of_ble_eq_true rfl) rfl rfl rfl (Nat.le_of_ble_eq_true rfl) 14 rfl gX7_tellStatement_X6_takes_n11 w_X7_tellStatement_0 w_X7_tellStatement_1 w_X7_tellStatement_2 rfl rfl 178 rfl dX7_tellStatement_175 (fun v21 d22 => ?_)
                      refine r_if_eq 193 181 rfl rfl dX7_tellStatement_178 ?_ ?_
                      · refine r_aload_n 1 1 rfl rfl 194 rfl dX7_tellStatement_193 ?_
                        refine r_ldcS 19 rfl rfl rfl 196 rfl dX7_tellStatement_194 ?_
                        refine r_callVN_X (c_X6_takes (E := E) (l := l) (S := S) d22 o1 h1 19 (Nat.le_of_ble_eq_true rfl)) ok_X6_takes ⟨⟨(Nat.le_of_ble_eq_true rfl), (Nat.le_of_ble_eq_true rfl)⟩, (Nat.le_of_ble_eq_true rfl), (Nat.le_of_ble_eq_true rfl)⟩ (h1 0 (Nat.le_of_ble_eq_true rfl)) (Nat.le_of_ble_eq_true rfl) rfl rfl rfl (Nat.le_of_ble_eq_true rfl) 14 rfl gX7_tellStatement_X6_takes_n11 w_X7_tellStatement_0 w_X7_tellStatement_1 w_X7_tellStatement_2 rfl rfl 199 rfl dX7_tellStatement_196 (fun v23 d24 => ?_)
                        refine r_if_eq 216 202 rfl rfl dX7_tellStatement_199 ?_ ?_
                        · refine r_aload_n 1 1 rfl rfl 217 rfl dX7_tellStatement_216 ?_
                          refine r_callVN_X (c_X6_cannotStand (E := E) (l := l) (S := S) d24 o1 h1) ok_X6_cannotStand ⟨⟨(Nat.le_of_ble_eq_true rfl), (Nat.le_of_ble_eq_true rfl)⟩, (Nat.le_of_ble_eq_true rfl), (Nat.le_of_ble_eq_true rfl)⟩ (h1 0 (Nat.le_of_ble_eq_true rfl)) (Nat.le_of_ble_eq_true rfl) rfl rfl rfl (Nat.le_of_ble_eq_true rfl) 20 rfl gX7_tellStatement_X6_cannotStand_n90 w_X7_tellStatement_0 w_X7_tellStatement_3 w_X7_tellStatement_4 rfl rfl 220 rfl dX7_tellStatement_217 (fun v25 d26 => ?_)
                          refine r_pop rfl 221 rfl dX7_tellStatement_220 ?_
                          refine r_iconst 0 rfl 222 rfl dX7_tellStatement_221 ?_
                          exact r_zreturnc (by decide) rfl rfl (Nat.le_of_ble_eq_true rfl) (Nat.le_of_ble_eq_true rfl) dX7_tellStatement_222
                        · refine r_aload_n 0 0 rfl rfl 203 rfl dX7_tellStatement_202 ?_
                          refine r_callVN_X (c_X3_closeStage (E := E) (l := l) (S := S) d24 o0 h0) ok_X3_closeStage ⟨⟨(Nat.le_of_ble_eq_true rfl), (Nat.le_of_ble_eq_true rfl)⟩, (Nat.le_of_ble_eq_true rfl), (Nat.le_of_ble_eq_true rfl)⟩ (h0.1 0 (Nat.le_of_ble_eq_true rfl)) (Nat.le_of_ble_eq_true rfl) rfl rfl rfl (Nat.le_of_ble_eq_true rfl) 46 rfl gX7_tellStatement_X3_closeStage_n87 w_X7_tellStatement_5 w_X7_tellStatement_6 w_X7_tellStatement_7 rfl rfl 206 rfl dX7_tellStatement_203 (fun v27 d28 => ?_)
                          refine r_iconst (-1) rfl 207 rfl dX7_tellStatement_206 ?_
                          refine r_icmp_eq 214 210 rfl rfl dX7_tellStatement_207 ?_ ?_
                          · refine r_iconst 0 rfl 215 rfl dX7_tellStatement_214 ?_
                            exact r_zreturnc (by decide) rfl rfl (Nat.le_of_ble_eq_true rfl) (Nat.le_of_ble_eq_true rfl) dX7_tellStatement_215
                          · refine r_iconst 1 rfl 211 rfl dX7_tellStatement_210 ?_
                            refine r_goto 215 rfl dX7_tellStatement_211 ?_
                            exact r_zreturnc (by decide) rfl rfl (Nat.le_of_ble_eq_true rfl) (Nat.le_of_ble_eq_true rfl) dX7_tellStatement_215
                      · refine r_aload_n 0 0 rfl rfl 182 rfl dX7_tellStatement_181 ?_
                        refine r_aload_n 1 1 rfl rfl 183 rfl dX7_tellStatement_182 ?_
                        refine r_iconst 0 rfl 184 rfl dX7_tellStatement_183 ?_
                        refine r_bipush 9 rfl 186 rfl dX7_tellStatement_184 ?_
                        refine r_callVN_X (c_X6_takeInt (E := E) (l := l) (S := S) d22 o1 h1 0 9) ok_X6_takeInt ⟨⟨(Nat.le_of_ble_eq_true rfl), (Nat.le_of_ble_eq_true rfl)⟩, (Nat.le_of_ble_eq_true rfl), (Nat.le_of_ble_eq_true rfl)⟩ (h1 0 (Nat.le_of_ble_eq_true rfl)) (Nat.le_of_ble_eq_true rfl) rfl rfl rfl (Nat.le_of_ble_eq_true rfl) 16 rfl gX7_tellStatement_X6_takeInt_n73 w_X7_tellStatement_0 w_X7_tellStatement_8 w_X7_tellStatement_9 rfl rfl 189 rfl dX7_tellStatement_186 (fun v29 d30 => ?_)
                        refine r_callVN_X (c_X3_setZone (E := E) (l := l) (S := S) d30 o0 h0 v29) ok_X3_setZone ⟨⟨(Nat.le_of_ble_eq_true rfl), (Nat.le_of_ble_eq_true rfl)⟩, (Nat.le_of_ble_eq_true rfl), (Nat.le_of_ble_eq_true rfl)⟩ (h0.1 0 (Nat.le_of_ble_eq_true rfl)) (Nat.le_of_ble_eq_true rfl) rfl rfl rfl (Nat.le_of_ble_eq_true rfl) 45 rfl gX7_tellStatement_X3_setZone_n82 w_X7_tellStatement_5 w_X7_tellStatement_10 w_X7_tellStatement_11 rfl rfl 192 rfl dX7_tellStatement_189 (fun v31 d32 => ?_)
                        exact r_zreturn rfl rfl (Nat.le_of_ble_eq_true rfl) (Nat.le_of_ble_eq_true rfl) dX7_tellStatement_192
                    · refine r_aload_n 0 0 rfl rfl 161 rfl dX7_tellStatement_160 ?_
                      refine r_aload_n 1 1 rfl rfl 162 rfl dX7_tellStatement_161 ?_
                      refine r_iconst 1 rfl 163 rfl dX7_tellStatement_162 ?_
                      refine r_bipush 99 rfl 165 rfl dX7_tellStatement_163 ?_
                      refine r_callVN_X (c_X6_takeInt (E := E) (l := l) (S := S) d20 o1 h1 1 99) ok_X6_takeInt ⟨⟨(Nat.le_of_ble_eq_true rfl), (Nat.le_of_ble_eq_true rfl)⟩, (Nat.le_of_ble_eq_true rfl), (Nat.le_of_ble_eq_true rfl)⟩ (h1 0 (Nat.le_of_ble_eq_true rfl)) (Nat.le_of_ble_eq_true rfl) rfl rfl rfl (Nat.le_of_ble_eq_true rfl) 16 rfl gX7_tellStatement_X6_takeInt_n73 w_X7_tellStatement_0 w_X7_tellStatement_8 w_X7_tellStatement_9 rfl rfl 168 rfl dX7_tellStatement_165 (fun v33 d34 => ?_)
                      refine r_callVN_X (c_X3_setGap (E := E) (l := l) (S := S) d34 o0 h0 v33) ok_X3_setGap ⟨⟨(Nat.le_of_ble_eq_true rfl), (Nat.le_of_ble_eq_true rfl)⟩, (Nat.le_of_ble_eq_true rfl), (Nat.le_of_ble_eq_true rfl)⟩ (h0.1 0 (Nat.le_of_ble_eq_true rfl)) (Nat.le_of_ble_eq_true rfl) rfl rfl rfl (Nat.le_of_ble_eq_true rfl) 44 rfl gX7_tellStatement_X3_setGap_n77 w_X7_tellStatement_5 w_X7_tellStatement_12 w_X7_tellStatement_13 rfl rfl 171 rfl dX7_tellStatement_168 (fun v35 d36 => ?_)
                      exact r_zreturn rfl rfl (Nat.le_of_ble_eq_true rfl) (Nat.le_of_ble_eq_true rfl) dX7_tellStatement_171
                  · refine r_aload_n 0 0 rfl rfl 142 rfl dX7_tellStatement_141 ?_
                    refine r_aload_n 0 0 rfl rfl 143 rfl dX7_tellStatement_142 ?_
                    refine r_aload_n 1 1 rfl rfl 144 rfl dX7_tellStatement_143 ?_
                    refine r_callS_X (c_X7_takeRider (E := E) (l := l) (S := S) d18 o0 h0 o1 h1) ok_X7_takeRider ⟨⟨(Nat.le_of_ble_eq_true rfl), (Nat.le_of_ble_eq_true rfl)⟩, (Nat.le_of_ble_eq_true rfl), (Nat.le_of_ble_eq_true rfl)⟩ rfl (Nat.le_of_ble_eq_true rfl) gX7_tellStatement_X7_takeRider rfl rfl 147 rfl dX7_tellStatement_144 (fun v37 d38 => ?_)
                    refine r_callVN_X (c_X3_dropRider (E := E) (l := l) (S := S) d38 o0 h0 v37) ok_X3_dropRider ⟨⟨(Nat.le_of_ble_eq_true rfl), (Nat.le_of_ble_eq_true rfl)⟩, (Nat.le_of_ble_eq_true rfl), (Nat.le_of_ble_eq_true rfl)⟩ (h0.1 0 (Nat.le_of_ble_eq_true rfl)) (Nat.le_of_ble_eq_true rfl) rfl rfl rfl (Nat.le_of_ble_eq_true rfl) 42 rfl gX7_tellStatement_X3_dropRider_n68 w_X7_tellStatement_5 w_X7_tellStatement_14 w_X7_tellStatement_15 rfl rfl 150 rfl dX7_tellStatement_147 (fun v39 d40 => ?_)
                    exact r_zreturn rfl rfl (Nat.le_of_ble_eq_true rfl) (Nat.le_of_ble_eq_true rfl) dX7_tellStatement_150
                · refine r_aload_n 0 0 rfl rfl 123 rfl dX7_tellStatement_122 ?_
                  refine r_aload_n 0 0 rfl rfl 124 rfl dX7_tellStatement_123 ?_
                  refine r_aload_n 1 1 rfl rfl 125 rfl dX7_tellStatement_124 ?_
                  refine r_callS_X (c_X7_takeRider (E := E) (l := l) (S := S) d16 o0 h0 o1 h1) ok_X7_takeRider ⟨⟨(Nat.le_of_ble_eq_true rfl), (Nat.le_of_ble_eq_true rfl)⟩, (Nat.le_of_ble_eq_true rfl), (Nat.le_of_ble_eq_true rfl)⟩ rfl (Nat.le_of_ble_eq_true rfl) gX7_tellStatement_X7_takeRider rfl rfl 128 rfl dX7_tellStatement_125 (fun v41 d42 => ?_)
                  refine r_callVN_X (c_X3_addGrace (E := E) (l := l) (S := S) d42 o0 h0 v41) ok_X3_addGrace ⟨⟨(Nat.le_of_ble_eq_true rfl), (Nat.le_of_ble_eq_true rfl)⟩, (Nat.le_of_ble_eq_true rfl), (Nat.le_of_ble_eq_true rfl)⟩ (h0.1 0 (Nat.le_of_ble_eq_true rfl)) (Nat.le_of_ble_eq_true rfl) rfl rfl rfl (Nat.le_of_ble_eq_true rfl) 40 rfl gX7_tellStatement_X3_addGrace_n62 w_X7_tellStatement_5 w_X7_tellStatement_16 w_X7_tellStatement_17 rfl rfl 131 rfl dX7_tellStatement_128 (fun v43 d44 => ?_)
                  exact r_zreturn rfl rfl (Nat.le_of_ble_eq_true rfl) (Nat.le_of_ble_eq_true rfl) dX7_tellStatement_131
              · refine r_aload_n 0 0 rfl rfl 108 rfl dX7_tellStatement_107 ?_
                refine r_aload_n 1 1 rfl rfl 109 rfl dX7_tellStatement_108 ?_
                refine r_callS_X (c_X7_tellJury (E := E) (l := l) (S := S) d14 o0 h0 o1 h1) ok_X7_tellJury ⟨⟨(Nat.le_of_ble_eq_true rfl), (Nat.le_of_ble_eq_true rfl)⟩, (Nat.le_of_ble_eq_true rfl), (Nat.le_of_ble_eq_true rfl)⟩ rfl (Nat.le_of_ble_eq_true rfl) gX7_tellStatement_X7_tellJury rfl rfl 112 rfl dX7_tellStatement_109 (fun v45 d46 => ?_)
                exact r_zreturn rfl rfl (Nat.le_of_ble_eq_true rfl) (Nat.le_of_ble_eq_true rfl) dX7_tellStatement_112
            · refine r_aload_n 0 0 rfl rfl 93 rfl dX7_tellStatement_92 ?_
              refine r_aload_n 1 1 rfl rfl 94 rfl dX7_tellStatement_93 ?_
              refine r_callS_X (c_X7_tellFall (E := E) (l := l) (S := S) d12 o0 h0 o1 h1) ok_X7_tellFall ⟨⟨(Nat.le_of_ble_eq_true rfl), (Nat.le_of_ble_eq_true rfl)⟩, (Nat.le_of_ble_eq_true rfl), (Nat.le_of_ble_eq_true rfl)⟩ rfl (Nat.le_of_ble_eq_true rfl) gX7_tellStatement_X7_tellFall rfl rfl 97 rfl dX7_tellStatement_94 (fun v47 d48 => ?_)
              exact r_zreturn rfl rfl (Nat.le_of_ble_eq_true rfl) (Nat.le_of_ble_eq_true rfl) dX7_tellStatement_97
          · refine r_aload_n 0 0 rfl rfl 78 rfl dX7_tellStatement_77 ?_
            refine r_aload_n 1 1 rfl rfl 79 rfl dX7_tellStatement_78 ?_
            refine r_callS_X (c_X7_tellCrossings (E := E) (l := l) (S := S) d10 o0 h0 o1 h1) ok_X7_tellCrossings ⟨⟨(Nat.le_of_ble_eq_true rfl), (Nat.le_of_ble_eq_true rfl)⟩, (Nat.le_of_ble_eq_true rfl), (Nat.le_of_ble_eq_true rfl)⟩ rfl (Nat.le_of_ble_eq_true rfl) gX7_tellStatement_X7_tellCrossings rfl rfl 82 rfl dX7_tellStatement_79 (fun v49 d50 => ?_)
            exact r_zreturn rfl rfl (Nat.le_of_ble_eq_true rfl) (Nat.le_of_ble_eq_true rfl) dX7_tellStatement_82
        · refine r_aload_n 0 0 rfl rfl 63 rfl dX7_tellStatement_62 ?_
          refine r_aload_n 1 1 rfl rfl 64 rfl dX7_tellStatement_63 ?_
          refine r_callS_X (c_X7_tellFinishes (E := E) (l := l) (S := S) d8 o0 h0 o1 h1) ok_X7_tellFinishes ⟨⟨(Nat.le_of_ble_eq_true rfl), (Nat.le_of_ble_eq_true rfl)⟩, (Nat.le_of_ble_eq_true rfl), (Nat.le_of_ble_eq_true rfl)⟩ rfl (Nat.le_of_ble_eq_true rfl) gX7_tellStatement_X7_tellFinishes rfl rfl 67 rfl dX7_tellStatement_64 (fun v51 d52 => ?_)
          exact r_zreturn rfl rfl (Nat.le_of_ble_eq_true rfl) (Nat.le_of_ble_eq_true rfl) dX7_tellStatement_67
      · refine r_aload_n 0 0 rfl rfl 48 rfl dX7_tellStatement_47 ?_
        refine r_aload_n 1 1 rfl rfl 49 rfl dX7_tellStatement_48 ?_
        refine r_callS_X (c_X7_tellStage (E := E) (l := l) (S := S) d6 o0 h0 o1 h1) ok_X7_tellStage ⟨⟨(Nat.le_of_ble_eq_true rfl), (Nat.le_of_ble_eq_true rfl)⟩, (Nat.le_of_ble_eq_true rfl), (Nat.le_of_ble_eq_true rfl)⟩ rfl (Nat.le_of_ble_eq_true rfl) gX7_tellStatement_X7_tellStage rfl rfl 52 rfl dX7_tellStatement_49 (fun v53 d54 => ?_)
        exact r_zreturn rfl rfl (Nat.le_of_ble_eq_true rfl) (Nat.le_of_ble_eq_true rfl) dX7_tellStatement_52
    · refine r_aload_n 0 0 rfl rfl 33 rfl dX7_tellStatement_32 ?_
      refine r_aload_n 1 1 rfl rfl 34 rfl dX7_tellStatement_33 ?_
      refine r_callS_X (c_X7_tellRider (E := E) (l := l) (S := S) d4 o0 h0 o1 h1) ok_X7_tellRider ⟨⟨(Nat.le_of_ble_eq_true rfl), (Nat.le_of_ble_eq_true rfl)⟩, (Nat.le_of_ble_eq_true rfl), (Nat.le_of_ble_eq_true rfl)⟩ rfl (Nat.le_of_ble_eq_true rfl) gX7_tellStatement_X7_tellRider rfl rfl 37 rfl dX7_tellStatement_34 (fun v55 d56 => ?_)
      exact r_zreturn rfl rfl (Nat.le_of_ble_eq_true rfl) (Nat.le_of_ble_eq_true rfl) dX7_tellStatement_37
  · refine r_aload_n 0 0 rfl rfl 10 rfl dX7_tellStatement_9 ?_
    refine r_callVN_X (c_X3_addTeam (E := E) (l := l) (S := S) d2 o0 h0) ok_X3_addTeam ⟨⟨(Nat.le_of_ble_eq_true rfl), (Nat.le_of_ble_eq_true rfl)⟩, (Nat.le_of_ble_eq_true rfl), (Nat.le_of_ble_eq_true rfl)⟩ (h0.1 0 (Nat.le_of_ble_eq_true rfl)) (Nat.le_of_ble_eq_true rfl) rfl rfl rfl (Nat.le_of_ble_eq_true rfl) 15 rfl gX7_tellStatement_X3_addTeam_n17 w_X7_tellStatement_5 w_X7_tellStatement_18 w_X7_tellStatement_19 rfl rfl 13 rfl dX7_tellStatement_10 (fun v57 d58 => ?_)
    refine r_iconst (-1) rfl 14 rfl dX7_tellStatement_13 ?_
    refine r_icmp_eq 21 17 rfl rfl dX7_tellStatement_14 ?_ ?_
    · refine r_iconst 0 rfl 22 rfl dX7_tellStatement_21 ?_
      exact r_zreturnc (by decide) rfl rfl (Nat.le_of_ble_eq_true rfl) (Nat.le_of_ble_eq_true rfl) dX7_tellStatement_22
    · refine r_iconst 1 rfl 18 rfl dX7_tellStatement_17 ?_
      refine r_goto 22 rfl dX7_tellStatement_18 ?_
      exact r_zreturnc (by decide) rfl rfl (Nat.le_of_ble_eq_true rfl) (Nat.le_of_ble_eq_true rfl) dX7_tellStatement_22
