/-! 97.ofm: BunchTimes.of -/
def Y_X8_of : z_Y := (RX8, cX8_of, 3, wsX8_of, (some .int), { frames := 5, cells := 0, slots := 0, locals := 140 }, 0, 0)
theorem ok_X8_of : z_Ok yX8_of Y_X8_of 2 := ⟨⟨_, rfl⟩, rfl, rfl, rfl, by decide +kernel, by decide +kernel⟩
theorem w_of_0 : Cond.fieldLink RX8 10 "BunchTimes" "race" "LBunchTimes$Race;" ∈ wsX8_of := by decide +kernel
theorem w_of_1 : ∀ w ∈ u_ws RX8 TX8 5, w ∈ wsX8_of := by decide +kernel
theorem w_of_2 : Cond.initialized RX3 ∈ wsX8_of := by decide +kernel
theorem w_of_3 : Cond.instanceMethod yX3_hasRider ∈ wsX8_of := by decide +kernel
theorem w_of_4 : Cond.selects RX3 yX3_hasRider yX3_hasRider ∈ wsX8_of := by decide +kernel
theorem w_of_5 : ∀ w ∈ u_ws RX3 TX3 10, w ∈ wsX8_of := by decide +kernel
theorem w_of_6 : Cond.instanceMethod yX3_gained ∈ wsX8_of := by decide +kernel
theorem w_of_7 : Cond.selects RX3 yX3_gained yX3_gained ∈ wsX8_of := by decide +kernel
theorem w_of_8 : Cond.classLink RX8 149 "java/util/NoSuchElementException" ∈ wsX8_of := by decide +kernel
theorem w_of_9 : Cond.initialized "java/util/NoSuchElementException" ∈ wsX8_of := by decide +kernel
theorem o_bs (p : Option Int32) : p = p.bind (fun v => some v) := by cases p <;> rfl
theorem c_of_ok {E : z_E} {l : Launch} {S : z_S} (d : z_D) (o0 : Nat) (h0 : A_BT S o0) (x1 x2 : Int32) (hh : f_X3_hasRider d (o0 + 1) x1 = some 1) (hw : f_X8_within x2 0 6 = some 1) : z_Sp E l yX8_of Y_X8_of (cvI S d) [.ref (E.2.1 + o0), .int x1, .int x2] (S, d) (f_of d (o0 + 1) x1 x2) := by
  refine z_entry (lv := [(0, .ref (E.2.1 + o0)), (1, .int x1), (2, .int x2)]) (by decide) rfl rfl (Nat.le_of_ble_eq_true rfl) rfl ?_
  refine r_aload_n 0 0 rfl rfl 1 rfl dX8_of_0 ?_
  refine r_get (h0.1 0 (Nat.le_of_ble_eq_true rfl)) rfl (Nat.le_of_ble_eq_true rfl) rfl rfl w_of_1 0 (Nat.le_of_ble_eq_true rfl) rfl w_of_0 (.ref (E.2.1 + (o0 + 1))) rfl 4 rfl dX8_of_1 ?_
  refine r_iload_n 1 1 rfl rfl 5 rfl dX8_of_4 ?_
  refine r_eq (show f_of d (o0 + 1) x1 x2 = (f_X3_hasRider d (o0 + 1) x1).bind (fun h => if h = 0 then none else (f_X8_within x2 0 6).bind (fun g => if g = 0 then none else f_of d (o0 + 1) x1 x2)) by rw [hh, hw]; simp only [Option.bind_some, i_10, if_false]) ?_
  refine r_callVN_I (c_X3_hasRider (E := E) (l := l) (S := S) d (o0 + 1) (A_BT.race h0) x1) ok_X3_hasRider ⟨⟨(Nat.le_of_ble_eq_true rfl), (Nat.le_of_ble_eq_true rfl)⟩, (Nat.le_of_ble_eq_true rfl), (Nat.le_of_ble_eq_true rfl)⟩ ((A_BT.race h0).1 0 (Nat.le_of_ble_eq_true rfl)) (Nat.le_of_ble_eq_true rfl) rfl rfl rfl (Nat.le_of_ble_eq_true rfl) 74 rfl gX8_of_X3_hasRider_n146 w_of_2 w_of_3 w_of_4 rfl rfl 8 rfl dX8_of_5 (fun v1 => ?_)
  refine r_if_eq 21 11 rfl rfl dX8_of_8 r_none ?_
  refine r_iload_n 2 2 rfl rfl 12 rfl dX8_of_11 ?_
  refine r_iconst 0 rfl 13 rfl dX8_of_12 ?_
  refine r_bipush 6 rfl 15 rfl dX8_of_13 ?_
  refine r_callS_I (c_X8_within (E := E) (l := l) (S := S) d x2 0 6) ok_X8_within ⟨⟨Nat.le_of_ble_eq_true rfl, Nat.le_of_ble_eq_true rfl⟩, Nat.le_of_ble_eq_true rfl, Nat.le_of_ble_eq_true rfl⟩ rfl (Nat.le_of_ble_eq_true rfl) gX8_of_X8_within rfl rfl 18 rfl dX8_of_15 (fun v2 => ?_)
  refine r_if_ne 29 21 rfl rfl dX8_of_18 ?_ r_none
  refine r_iload_n 2 2 rfl rfl 30 rfl dX8_of_29 ?_
  unfold f_of
  refine r_tsw 56 rfl rfl rfl rfl dX8_of_30 ?_ (fun hs0 => ?_)
  · refine r_aload_n 0 0 rfl rfl 57 rfl dX8_of_56 ?_
    refine r_get (h0.1 0 (Nat.le_of_ble_eq_true rfl)) rfl (Nat.le_of_ble_eq_true rfl) rfl rfl w_of_1 0 (Nat.le_of_ble_eq_true rfl) rfl w_of_0 (.ref (E.2.1 + (o0 + 1))) rfl 60 rfl dX8_of_57 ?_
    refine r_getN 6 32 rfl ((A_BT.race h0).1 0 (Nat.le_of_ble_eq_true rfl)) rfl (Nat.le_of_ble_eq_true rfl) rfl rfl w_of_5 (Nat.le_of_ble_eq_true rfl) rfl (.ref (E.2.1 + (o0 + 1 + 1))) rfl 63 rfl dX8_of_60 ?_
    refine r_iload_n 1 1 rfl rfl 64 rfl dX8_of_63 ?_
    refine r_iald ((A_BT.race h0).1 1 (Nat.le_of_ble_eq_true rfl)) rfl rfl 65 rfl dX8_of_64 (fun v => ?_)
    exact r_ireturn rfl rfl (Nat.le_of_ble_eq_true rfl) (Nat.le_of_ble_eq_true rfl) dX8_of_65
  refine r_tsw 66 rfl rfl rfl rfl dX8_of_30 ?_ (fun hs1 => ?_)
  · refine r_aload_n 0 0 rfl rfl 67 rfl dX8_of_66 ?_
    refine r_get (h0.1 0 (Nat.le_of_ble_eq_true rfl)) rfl (Nat.le_of_ble_eq_true rfl) rfl rfl w_of_1 0 (Nat.le_of_ble_eq_true rfl) rfl w_of_0 (.ref (E.2.1 + (o0 + 1))) rfl 70 rfl dX8_of_67 ?_
    refine r_getN 7 34 rfl ((A_BT.race h0).1 0 (Nat.le_of_ble_eq_true rfl)) rfl (Nat.le_of_ble_eq_true rfl) rfl rfl w_of_5 (Nat.le_of_ble_eq_true rfl) rfl (.ref (E.2.1 + (o0 + 1 + 2))) rfl 73 rfl dX8_of_70 ?_
    refine r_iload_n 1 1 rfl rfl 74 rfl dX8_of_73 ?_
    refine r_iald ((A_BT.race h0).1 2 (Nat.le_of_ble_eq_true rfl)) rfl rfl 75 rfl dX8_of_74 (fun v => ?_)
    exact r_ireturn rfl rfl (Nat.le_of_ble_eq_true rfl) (Nat.le_of_ble_eq_true rfl) dX8_of_75
  refine r_tsw 76 rfl rfl rfl rfl dX8_of_30 ?_ (fun hs2 => ?_)
  · refine r_aload_n 0 0 rfl rfl 77 rfl dX8_of_76 ?_
    refine r_get (h0.1 0 (Nat.le_of_ble_eq_true rfl)) rfl (Nat.le_of_ble_eq_true rfl) rfl rfl w_of_1 0 (Nat.le_of_ble_eq_true rfl) rfl w_of_0 (.ref (E.2.1 + (o0 + 1))) rfl 80 rfl dX8_of_77 ?_
    refine r_getN 8 36 rfl ((A_BT.race h0).1 0 (Nat.le_of_ble_eq_true rfl)) rfl (Nat.le_of_ble_eq_true rfl) rfl rfl w_of_5 (Nat.le_of_ble_eq_true rfl) rfl (.ref (E.2.1 + (o0 + 1 + 3))) rfl 83 rfl dX8_of_80 ?_
    refine r_iload_n 1 1 rfl rfl 84 rfl dX8_of_83 ?_
    refine r_zald ((A_BT.race h0).1 3 (Nat.le_of_ble_eq_true rfl)) rfl rfl 85 rfl dX8_of_84 (fun v => ?_)
    refine r_if_eq 92 88 rfl rfl dX8_of_85 ?_ ?_
    · refine r_iconst 0 rfl 93 rfl dX8_of_92 ?_
      exact r_ireturn rfl rfl (Nat.le_of_ble_eq_true rfl) (Nat.le_of_ble_eq_true rfl) dX8_of_93
    · refine r_iconst 1 rfl 89 rfl dX8_of_88 ?_
      refine r_goto 93 rfl dX8_of_89 ?_
      exact r_ireturn rfl rfl (Nat.le_of_ble_eq_true rfl) (Nat.le_of_ble_eq_true rfl) dX8_of_93
  refine r_tswD (lo := 0) (hi := 2) 94 3 rfl (fun j hj => match j, hj with | 0, _ => hs0 | 1, _ => hs1 | 2, _ => hs2) rfl dX8_of_30 ?_
  refine r_aload_n 0 0 rfl rfl 95 rfl dX8_of_94 ?_
  refine r_get (h0.1 0 (Nat.le_of_ble_eq_true rfl)) rfl (Nat.le_of_ble_eq_true rfl) rfl rfl w_of_1 0 (Nat.le_of_ble_eq_true rfl) rfl w_of_0 (.ref (E.2.1 + (o0 + 1))) rfl 98 rfl dX8_of_95 ?_
  refine r_iload_n 1 1 rfl rfl 99 rfl dX8_of_98 ?_
  refine r_iload_n 2 2 rfl rfl 100 rfl dX8_of_99 ?_
  refine r_eq (o_bs _) ?_
  refine r_callVN_I (c_X3_gained (E := E) (l := l) (S := S) d (o0 + 1) (A_BT.race h0) x1 x2) ok_X3_gained ⟨⟨(Nat.le_of_ble_eq_true rfl), (Nat.le_of_ble_eq_true rfl)⟩, (Nat.le_of_ble_eq_true rfl), (Nat.le_of_ble_eq_true rfl)⟩ ((A_BT.race h0).1 0 (Nat.le_of_ble_eq_true rfl)) (Nat.le_of_ble_eq_true rfl) rfl rfl rfl (Nat.le_of_ble_eq_true rfl) 103 rfl gX8_of_X3_gained_n163 w_of_2 w_of_6 w_of_7 rfl rfl 103 rfl dX8_of_100 (fun v1 => ?_)
  exact r_ireturn rfl rfl (Nat.le_of_ble_eq_true rfl) (Nat.le_of_ble_eq_true rfl) dX8_of_103
/-! what a throw needs beside -/
def of_B : List Cond := (vx_at0 RX8 151 "java/util/NoSuchElementException" ["java/lang/RuntimeException", "java/lang/Exception"]).filter (fun w => !goodWord w)
theorem of_B1 : of_B.all (fun w => match w with | .castable .. => true | .declares .. => true | _ => false) = true := by decide +kernel
theorem of_B2 {w : Cond} (h : w ∈ of_B) : (∃ C T, w = .castable C T) ∨ ∃ x, w = .declares x := by
  have h1 := List.all_eq_true.mp of_B1 w h
  cases w
  case castable C T => exact Or.inl ⟨C, T, rfl⟩
  case declares x => exact Or.inr ⟨x, rfl⟩
  all_goals (exact absurd h1 (by simp))
theorem of_ot : ∀ w ∈ Cond.classLink RX8 149 "java/util/NoSuchElementException" :: Cond.initialized "java/util/NoSuchElementException" :: vx_at0 RX8 151 "java/util/NoSuchElementException" ["java/lang/RuntimeException", "java/lang/Exception"], vx_ot w = true := by decide +kernel
def z_X (E : z_E) (U : State) (H : Heap) : Prop := vx_Zq Bundle.tN "UNASSIGNED_STACK" Bundle.steD (z_A E) U H ∧ vx_Zq Bundle.tN "SUPPRESSED_SENTINEL" Bundle.listD (z_A E) U H ∧ ∀ w ∈ of_B, va_Nw w U
theorem z_X.to {E : z_E} {s U : State} {H H1 : Heap} (h : z_X E s H) (hW : s.WarmedH U.vm) (hk : ∀ a : Nat, a < H.size → ¬ z_A E a → H1[a]? = H[a]?) : z_X E U H1 :=
  ⟨(h.1.moved hW.alike).kept hk, (h.2.1.moved hW.alike).kept hk, fun w hw => by
    rcases of_B2 hw with ⟨C, T, rfl⟩ | ⟨x, rfl⟩
    · exact (h.2.2 _ hw).warmC hW
    · exact (h.2.2 _ hw).warmD hW⟩
def z_Wx (E : z_E) (w : z_W) (U : State) : Prop := z_Wd E w U ∧ z_X E U U.heap
theorem z_blindx (E : z_E) (w : z_W) (av : List Value) : FrameBlind (va_Pc av (z_Wx E w)) := by
  intro a U g mk ⟨h1, h2, h3⟩
  have hb := z_blind E w av a U g mk ⟨h1, h2⟩
  exact ⟨hb.1, hb.2, z_X.to (s := U) (U := U.calling g mk a) h3 (State.WarmedH.refl U) (fun _ _ _ => rfl)⟩
/-- a call in the walk of a method, with any end -/
theorem z_coreQ {β : Type} {E : z_E} {l : Launch} {Y Yc : z_Y} {cvc : β → Option Value × z_W} {x : β} {pc : Nat} {lv : List (Nat × Value)} {st stk : List Value} {w : z_W} {k n : Nat} {p : Program} {e : Env} {s : State} {m : MethodId} {args : Array Value} {below : List Frame} {meth : Method} {c : Code} {H : Heap} {locs : List Loc} {ls : Array Slot} {a : Array Value} {Q : State → Prop} {R : Room} (C : z_C E Y p s m args meth c lv w H locs ls k)
    (hrun : va_Run p l e R s m args below meth c H locs k n Yc.2.2.2.2.2.2.1 Yc.2.2.2.2.2.2.2 (F0 m pc ls stk) st (z_Q E (cvc x).1 (cvc x).2 a) (z_A E)) (hmc : (cvc x).2.1.1 = w.1.1 + Yc.2.2.2.2.2.2.1)
    (K : ∀ (H1 : Heap) (locs1 : List Loc), z_C E Y p s m args meth c lv (cvc x).2 H1 locs1 ls (k + Yc.2.2.2.2.2.2.1) → W p l e R s m args below meth c H1 locs1 (k + Yc.2.2.2.2.2.2.1) (n + Yc.2.2.2.2.2.2.2) Q (F0 m (pc + 3) ls ((cvc x).1.toList ++ st))) :
    W p l e R s m args below meth c H locs k n Q (F0 m pc ls stk) := by
  intro T hT X
  obtain ⟨v, st₀, t, T', L, h0, X', hL, e1, e2, ⟨⟨hv, hH⟩, hz1, hk1⟩, stp⟩ := hrun T hT X
  cases hv
  rw [h0] at hz1 hk1
  obtain ⟨c1, c2, c3, c4, ⟨c5, c6⟩, c7, c8, c9⟩ := C
  have hS : va_S (z_A E) s.heap T'.heap (locs ++ L) := by
    refine z_Str c8 ⟨by rw [e1]; exact hz1, fun q h1 h2 => by rw [e1]; exact hk1 q h1 h2, fun q hq => ?_⟩
    rcases List.mem_append.mp hq with h | h
    · exact c8.2.2 q h
    · exact hL q h
  obtain ⟨t2, a1, b1⟩ := K T'.heap (locs ++ L) ⟨c1, c2, c3, c4, ⟨c5, by rw [hmc]; omega⟩, by rw [e1]; exact hH, hS, c9⟩ T' rfl X'
  exact ⟨t2, stp t2 a1, b1⟩

theorem va_Nw_warm {E : z_E} {s : State} {H : Heap} (h : z_X E s H) {args : Array Value} : ∀ w ∈ of_B, w.before args s = true := fun w hw => by
  rcases of_B2 hw with ⟨C, T, rfl⟩ | ⟨x, rfl⟩
  · exact (h.2.2 _ hw).use rfl
  · exact (h.2.2 _ hw).use rfl
theorem of_in : ∀ w ∈ (vx_at0 RX8 151 "java/util/NoSuchElementException" ["java/lang/RuntimeException", "java/lang/Exception"]).filter goodWord, w ∈ wsX8_of := fun w h => List.mem_cons_of_mem _ (List.mem_append_right _ h)
def of_rm : Room := { frames := 6, cells := 1, slots := 6, locals := 140 }
def z_ext (S : z_S) (g : Nat) : z_S := (S.1 + g, (fun a => if a < S.1 then S.2.1 a else (15, 0, z_nn)), S.2.2)
theorem z_extL (S : z_S) (g : Nat) : z_L (z_ext S g) = z_L S := by
  unfold z_L z_ext
  dsimp only
  induction g with
  | zero =>
    refine List.filter_congr (fun a ha => ?_)
    have h1 : a < S.1 := List.mem_range.mp ha
    rw [if_pos h1]
  | succ g ih =>
    rw [show S.1 + (g + 1) = S.1 + g + 1 by omega, List.range_succ, List.filter_append, ih]
    rw [show List.filter (fun a => !((if a < S.1 then S.2.1 a else ((15, 0, z_nn) : z_K)).1 == 15)) [S.1 + g] = [] by
      rw [List.filter_cons, if_neg (by rw [if_neg (by omega)]; decide)]
      rfl]
    exact List.append_nil _
theorem z_extW (E : z_E) (S : z_S) (d : z_D) (g : Nat) : z_ws E (z_ext S g, d) = z_ws E (S, d) := by
  unfold z_ws va_pl
  dsimp only
  rw [z_extL]
  rw [List.map_map, List.map_map]
  apply List.map_congr_left
  intro a ha
  show (E.2.1 + a, z_f E (z_ext S g, d) (E.2.1 + a)) = (E.2.1 + a, z_f E (S, d) (E.2.1 + a))
  rw [z_fat, z_fat]
  have h1 : a < S.1 := z_inL ha
  show (E.2.1 + a, z_cell E (if a < S.1 then S.2.1 a else (15, 0, z_nn)) (S.2.2 a) (d a)) = _
  rw [if_pos h1]
theorem z_grow {E : z_E} {S : z_S} {d : z_D} {H H1 : Heap} (h : z_H E (S, d) H) (hz : H.size ≤ H1.size) (hq : ∀ q : Nat, q < H.size → H1[q]? = H[q]?) : z_H E (z_ext S (H1.size - H.size), d) H1 := by
  refine ⟨?_, ?_⟩
  · rw [z_extW]
    exact h.1.kept (fun j x hx => hq x.1 ((h.1 j x hx).lt))
  · have h2 : H.size = E.2.1 + S.1 := h.2
    show H1.size = E.2.1 + (S.1 + (H1.size - H.size))
    omega
def of_XC (E : z_E) (S : z_S) (d : z_D) : String → State → State → Prop := fun cls st t => cls = "java/util/NoSuchElementException" ∧ (∃ g, z_H E (z_ext S g, d) t.heap) ∧ va_F (z_A E) st t
def Y_X8_ofx : z_Y := (RX8, cX8_of, 3, wsX8_of, (some .int), of_rm, 1, 6)
section
variable {E : z_E} {l : Launch} {Y : z_Y} {p : Program} {e : Env} {s : State} {m : MethodId} {args : Array Value} {below : List Frame} {meth : Method} {c : Code} {H : Heap} {locs : List Loc} {ls : Array Slot} {lv : List (Nat × Value)} {st : List Value} {S : z_S} {d : z_D} {R : Room} {Q : State → Prop} {pc k n : Nat}
theorem wq_get {a : Nat} {kd : z_K} {ci N : Nat} {C9 : String} {T : u_T} {idx k0 : Nat} (C : z_C E Y p s m args meth c lv (S, d) H locs ls k0) (ha : z_at S a kd) (hci : kd.1 = ci) (h8 : ci < 8) (hN : kd.2.1 = N) (hc : vwCl[ci]? = some (C9, T, N)) (hin : ∀ w ∈ u_ws C9 T N, w ∈ Y.2.2.2.1) (kf : Nat) (hkf : kf < N) (hT : (T kf).1 = C9) (hlink : Cond.fieldLink Y.1 idx C9 (T kf).2.1 (T kf).2.2.1 ∈ Y.2.2.2.1) (v : Value) (hv : z_fv E.2.1 ci kd.2.2 (d a) kf = v) (pc' : Nat) (hp : pc + 3 = pc') (hd : decode Y.2.1 pc = .ok (.getfield idx, 3)) (K : W p l e R s m args below meth c H locs k n Q (F0 m pc' ls (v :: st))) : W p l e R s m args below meth c H locs k n Q (F0 m pc ls (.ref (E.2.1 + a) :: st)) := by
  subst hp
  subst hci
  subst hN
  obtain ⟨q, hq⟩ := z_get E (S, d) ha.1 ha.2 (by omega)
  rw [z_cell, if_pos h8] at hq
  exact va_get C.1.1 C.1.2.1 C.1.2.2.2.2 hin C.1.2.2.2.1 C.2.2.1 C.2.2.2.2.2.1.1 q hq hc kf hkf (C.1.2.2.2.2 _ hlink) (by rw [hT]; exact fun _ h9 => h9) (by rw [List.getElem?_map, List.getElem?_range hkf]; exact congrArg some hv) hd K
theorem wq_callVN {β : Type} {Yc : z_Y} {cvc : β → Option Value × z_W} {resc : Option β} {x : β} {w : z_W} {y : MethodName} {idx : Nat} {As stk : List Value} {b : Nat} {kd : z_K} {q9 : vw_C} (C : z_C E Y p s m args meth c lv w H locs ls k) (hM : z_Sp E l y Yc cvc (.ref (E.2.1 + b) :: As) w resc) (hx : resc = some x) (hO : z_Ok y Yc As.length) (hF : z_Fit Y Yc k n) (ha : z_at w.1 b kd) (h8 : kd.1 < 8) (hcl : vwCl[kd.1]? = some q9) (hq9 : q9.1 = Yc.1) (hst : stk = As.reverse ++ .ref (E.2.1 + b) :: st) (hcat : (st.map fun v => v.category).sum ≤ 8) (j : Nat) (hj : z_nm[j]? = some (Y.1, idx, y)) (hG : GoodIn Y.2.2.2.1 Yc.2.2.2.1) (h1 : Cond.initialized y.cls ∈ Y.2.2.2.1) (h2 : Cond.instanceMethod y ∈ Y.2.2.2.1) (h3 : Cond.selects Yc.1 y y ∈ Y.2.2.2.1) (hmc : (cvc x).2.1.1 = w.1.1 + Yc.2.2.2.2.2.2.1) (hd : decode Y.2.1 pc = .ok (.invokevirtual idx, 3)) (K : ∀ (H1 : Heap) (locs1 : List Loc), z_C E Y p s m args meth c lv (cvc x).2 H1 locs1 ls (k + Yc.2.2.2.2.2.2.1) → W p l e Y.2.2.2.2.2.1 s m args below meth c H1 locs1 (k + Yc.2.2.2.2.2.2.1) (n + Yc.2.2.2.2.2.2.2) Q (F0 m (pc + 3) ls ((cvc x).1.toList ++ st))) : W p l e Y.2.2.2.2.2.1 s m args below meth c H locs k n Q (F0 m pc ls stk) := by
  subst hst
  obtain ⟨q, hq⟩ := z_get E w ha.1 ha.2 (by omega)
  rw [z_cell, if_pos h8] at hq
  have hrv := va_recv C.2.2.1 C.2.2.2.2.2.1.1 hcl hq
  rw [hq9] at hrv
  obtain ⟨⟨ws', o1⟩, o2, o3, o4, o5, o6⟩ := hO
  have ht := C.1.2.2.2.2
  exact z_coreQ (a := (Value.ref (E.2.1 + b) :: As).toArray) C (va_runVN ⟨C.1.1, C.1.2.1, C.1.2.2.1, C.1.2.2.2.1, C.1.2.2.2.2⟩ (hM x hx) ⟨va_cnB As.length ht hG o1 o2 o3 (C.2.2.2.1.2.2.2.2.2.2.1 j _ hj) (ht _ h1) ⟨o5.1, o5.2, o6⟩ hF.1, ht _ h2, ht _ h3⟩ ⟨(z_pre C).1, hrv, (z_pre C).2⟩ rfl rfl C.2.2.2.2.2.2.2.1 rfl (lv_room hcat) hd hF.2) hmc K
theorem wq_callV {β : Type} {Yc : z_Y} {cvc : β → Option Value × z_W} {resc : Option β} {x : β} {w : z_W} {y : MethodName} {idx : Nat} {As stk : List Value} {b : Nat} {kd : z_K} {q9 : vw_C} (C : z_C E Y p s m args meth c lv w H locs ls k) (hM : z_Sp E l y Yc cvc (.ref (E.2.1 + b) :: As) w resc) (hx : resc = some x) (hO : z_Ok y Yc As.length) (hF : z_Fit Y Yc k n) (ha : z_at w.1 b kd) (h8 : kd.1 < 8) (hcl : vwCl[kd.1]? = some q9) (hq9 : q9.1 = Yc.1) (hst : stk = As.reverse ++ .ref (E.2.1 + b) :: st) (hcat : (st.map fun v => v.category).sum ≤ 8) (hG : GoodIn Y.2.2.2.1 (wsV Y.1 idx Yc.1 y Yc.2.2.2.1)) (hmc : (cvc x).2.1.1 = w.1.1 + Yc.2.2.2.2.2.2.1) (hd : decode Y.2.1 pc = .ok (.invokevirtual idx, 3)) (K : ∀ (H1 : Heap) (locs1 : List Loc), z_C E Y p s m args meth c lv (cvc x).2 H1 locs1 ls (k + Yc.2.2.2.2.2.2.1) → W p l e Y.2.2.2.2.2.1 s m args below meth c H1 locs1 (k + Yc.2.2.2.2.2.2.1) (n + Yc.2.2.2.2.2.2.2) Q (F0 m (pc + 3) ls ((cvc x).1.toList ++ st))) : W p l e Y.2.2.2.2.2.1 s m args below meth c H locs k n Q (F0 m pc ls stk) := by
  subst hst
  obtain ⟨q, hq⟩ := z_get E w ha.1 ha.2 (by omega)
  rw [z_cell, if_pos h8] at hq
  have hrv := va_recv C.2.2.1 C.2.2.2.2.2.1.1 hcl hq
  rw [hq9] at hrv
  obtain ⟨⟨ws', o1⟩, o2, o3, o4, o5, o6⟩ := hO
  exact z_coreQ (a := (Value.ref (E.2.1 + b) :: As).toArray) C (va_runV ⟨C.1.1, C.1.2.1, C.1.2.2.1, C.1.2.2.2.1, C.1.2.2.2.2⟩ (hM x hx) (cwV As.length C.1.2.2.2.2 hG o1 o2 o3 ⟨o4, o5.1, o5.2, o6⟩ hF.1) ⟨(z_pre C).1, hrv, (z_pre C).2⟩ rfl rfl C.2.2.2.2.2.2.2.1 rfl (lv_room hcat) hd hF.2) hmc K
theorem wq_callS {β : Type} {Yc : z_Y} {cvc : β → Option Value × z_W} {resc : Option β} {x : β} {w : z_W} {y : MethodName} {idx : Nat} {As stk : List Value} (C : z_C E Y p s m args meth c lv w H locs ls k) (hM : z_Sp E l y Yc cvc As w resc) (hx : resc = some x) (hO : z_Ok y Yc As.length) (hF : z_Fit Y Yc k n) (hst : stk = As.reverse ++ st) (hcat : (st.map fun v => v.category).sum ≤ 8) (hG : GoodIn Y.2.2.2.1 (va_wsS Y.1 idx y Yc.2.2.2.1)) (hmc : (cvc x).2.1.1 = w.1.1 + Yc.2.2.2.2.2.2.1) (hd : decode Y.2.1 pc = .ok (.invokestatic idx, 3)) (K : ∀ (H1 : Heap) (locs1 : List Loc), z_C E Y p s m args meth c lv (cvc x).2 H1 locs1 ls (k + Yc.2.2.2.2.2.2.1) → W p l e Y.2.2.2.2.2.1 s m args below meth c H1 locs1 (k + Yc.2.2.2.2.2.2.1) (n + Yc.2.2.2.2.2.2.2) Q (F0 m (pc + 3) ls ((cvc x).1.toList ++ st))) : W p l e Y.2.2.2.2.2.1 s m args below meth c H locs k n Q (F0 m pc ls stk) := by
  subst hst
  obtain ⟨⟨ws', o1⟩, o2, o3, o4, o5, o6⟩ := hO
  exact z_coreQ (a := As.toArray) C (va_runS ⟨C.1.1, C.1.2.1, C.1.2.2.1, C.1.2.2.2.1, C.1.2.2.2.2⟩ (hM x hx) (va_cwS As.length C.1.2.2.2.2 hG o1 o2 o3 ⟨o5.1, o5.2, o6⟩ hF.1) (z_pre C) rfl rfl C.2.2.2.2.2.2.2.1 rfl (lv_room hcat) hd hF.2) hmc K
end
theorem c_of_bad {E : z_E} {l : Launch} {S : z_S} (hlf : l.stackTraces = false) (d : z_D) (o0 : Nat) (h0 : A_BT S o0) (x1 x2 : Int32) {h g : Int32} (hh : f_X3_hasRider d (o0 + 1) x1 = some h) (hw : f_X8_within x2 0 6 = some g) (hbad : h = 0 ∨ g = 0) : vx_Met l yX8_of wsX8_of of_rm (va_Pc [.ref (E.2.1 + o0), .int x1, .int x2] (z_Wx E (S, d))) (fun _ _ _ _ => False) (of_XC E S d) 1 6 (z_A E) := by
  refine vx_ofW (cc := cX8_of) (maxL := 3) (ret := some .int) (by decide) rfl ?_
  intro p e s m args below meth c s₁ B hml htab hv
  obtain ⟨rfl, ⟨hP, hK, hSt⟩, hX⟩ := hv
  have hown : s.vm.findClass RX8 = some m.cls := findClass_of_methodNamed B.named
  have hl := lv_entry [Value.ref (E.2.1 + o0), .int x1, .int x2] (n := 3) (Nat.le_of_ble_eq_true rfl)
  rw [lg_entry_eq]
  generalize (lg_sl [Value.ref (E.2.1 + o0), .int x1, .int x2] ++ List.replicate (3 - (lg_sl [Value.ref (E.2.1 + o0), .int x1, .int x2]).length) Slot.unset).toArray = ls at hl ⊢
  have hl : lv_has ls 3 [(0, .ref (E.2.1 + o0)), (1, .int x1), (2, .int x2)] := hl
  have hts := atoms_spec (ws := wsX8_of) B.pre
  have C : z_C E Y_X8_ofx p s m _ meth c [(0, .ref (E.2.1 + o0)), (1, .int x1), (2, .int x2)] (S, d) s.heap [] ls 0 := ⟨⟨B.exec, B.bytes, hml, hown, hts⟩, ⟨B.returns, B.notSynchronized, fun y9 b9 n9 r9 h9 => by cases h9; exact (name_of_methodNamed B.named B.method).1⟩, hK, hSt, ⟨by rw [hP.2]; exact Nat.le_add_right _ _, hP.2⟩, hP, va_S.rf, hl⟩
  have thr : ∀ (H : Heap) (locs : List Loc), z_C E Y_X8_ofx p s m [Value.ref (E.2.1 + o0), .int x1, .int x2].toArray meth c [(0, .ref (E.2.1 + o0)), (1, .int x1), (2, .int x2)] (S, d) H locs ls 0 → W p l e Y_X8_ofx.2.2.2.2.2.1 s m [Value.ref (E.2.1 + o0), .int x1, .int x2].toArray below meth c H locs 0 0 (vx_MQ below (fun _ _ _ _ => False) (of_XC E S d) [Value.ref (E.2.1 + o0), .int x1, .int x2].toArray s 1 6 (z_A E)) (F0 m 21 ls []) := by
    intro H locs C1
    have hS := C1.2.2.2.2.2.2.1
    refine vx_throw0 (cc := cX8_of) (A := z_A E) (own := RX8) (cls := "java/util/NoSuchElementException") (names := ["java/lang/RuntimeException", "java/lang/Exception"]) (ik := 149) (ic := 151) C1.1.1 C1.1.2.1 hlf hown (by decide) (by decide) (hts _ w_of_8) (hts _ w_of_9) (vx_hat (B := of_B) (fun w hw9 => hts w (of_in w hw9)) (fun w hw9 => hw9) (va_Nw_warm hX)) of_ot hX.1 hX.2.1 hS (hl.1.trans hml.symm) dX8_of_21 dX8_of_24 dX8_of_25 dX8_of_28 (fun x hx => (htab x hx).elim) (Nat.le_of_ble_eq_true rfl) (Nat.le_of_ble_eq_true rfl) (Nat.le_of_ble_eq_true rfl) (Nat.le_of_ble_eq_true rfl) B.notSynchronized (fun t _ hz hq => ?_) hS.2.2 (Nat.le_of_ble_eq_true rfl) (Nat.le_of_ble_eq_true rfl)
    exact ⟨rfl, ⟨_, z_grow C1.2.2.2.2.2.1 hz hq⟩, Nat.le_trans hS.1 hz, fun q q1 q2 => (hq q (Nat.lt_of_lt_of_le q1 hS.1)).trans (hS.2.1 q q1 q2)⟩
  refine lv_aload_n C.1.1 C.1.2.1 dX8_of_0 rfl (lv_at hl 0 rfl) ?_
  refine wq_get C (h0.1 0 (Nat.le_of_ble_eq_true rfl)) rfl (Nat.le_of_ble_eq_true rfl) rfl rfl w_of_1 0 (Nat.le_of_ble_eq_true rfl) rfl w_of_0 (.ref (E.2.1 + (o0 + 1))) rfl 4 rfl dX8_of_1 ?_
  refine lv_iload_n C.1.1 C.1.2.1 dX8_of_4 rfl (lv_at hl 1 rfl) ?_
  refine wq_callVN C (c_X3_hasRider (E := E) (l := l) (S := S) d (o0 + 1) (A_BT.race h0) x1) hh ok_X3_hasRider ⟨⟨(Nat.le_of_ble_eq_true rfl), (Nat.le_of_ble_eq_true rfl)⟩, (Nat.le_of_ble_eq_true rfl), (Nat.le_of_ble_eq_true rfl)⟩ ((A_BT.race h0).1 0 (Nat.le_of_ble_eq_true rfl)) (Nat.le_of_ble_eq_true rfl) rfl rfl rfl (Nat.le_of_ble_eq_true rfl) 74 rfl gX8_of_X3_hasRider_n146 w_of_2 w_of_3 w_of_4 rfl dX8_of_5 (fun H1 locs1 C1 => ?_)
  refine lv_if_eq (tgt := 21) C1.1.1 C1.1.2.1 dX8_of_8 (by decide) (fun _ => thr H1 locs1 C1) (fun hne => ?_)
  refine lv_iload_n C1.1.1 C1.1.2.1 dX8_of_11 rfl (lv_at hl 2 rfl) ?_
  refine lv_iconst (v := 0) C1.1.1 C1.1.2.1 dX8_of_12 rfl ?_
  refine lv_bipush (v := 6) C1.1.1 C1.1.2.1 dX8_of_13 rfl ?_
  refine wq_callS C1 (c_X8_within (E := E) (l := l) (S := S) d x2 0 6) hw ok_X8_within ⟨⟨Nat.le_of_ble_eq_true rfl, Nat.le_of_ble_eq_true rfl⟩, Nat.le_of_ble_eq_true rfl, Nat.le_of_ble_eq_true rfl⟩ rfl (Nat.le_of_ble_eq_true rfl) gX8_of_X8_within rfl dX8_of_15 (fun H2 locs2 C2 => ?_)
  refine lv_if_ne (tgt := 29) C2.1.1 C2.1.2.1 dX8_of_18 (by decide) (fun hne2 => ?_) (fun _ => thr H2 locs2 C2)
  rcases hbad with h9 | h9
  · exact absurd h9 hne
  · exact absurd h9 hne2
