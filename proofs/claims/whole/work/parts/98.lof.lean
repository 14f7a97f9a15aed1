/-! 98.lof: the law's own of -/
def lof_rm : Room := { frames := 6, cells := 0, slots := 0, locals := 170 }
def lof_rx : Room := { frames := 7, cells := 1, slots := 6, locals := 170 }
def Y_L_of : z_Y := (RL, cL_of, 5, wsL_of, (some .int), lof_rm, 0, 0)
def z_lg (S : z_S) (a : Nat) (x : Int64) : z_S := (S.1, S.2.1, fun q => if q = a then x else S.2.2 q)
theorem lg_cell (cA : ClassId) (f : Nat → Int64) (x : Int64) : vp_cell cA (1, .inr (.inl (vp_updL f 0 x))) = vp_cell cA (1, .inr (.inl (fun _ => x))) := by
  rw [vp_cell_l, vp_cell_l]
  unfold arrV
  have h : (fun j : Fin 1 => Value.long (vp_updL f 0 x j.val)) = fun _ => Value.long x := funext fun j => by
    have hj : j.val = 0 := by omega
    rw [hj]
    simp [vp_updL]
  rw [h]
theorem lg_set {D : va_G} {cl : List vw_C} {ws : va_W} {H : Heap} {k a : Nat} {c1 : ClassId} {u u' : vp_A} (h : va_P D cl (ws.set k (a, .inl (c1, u))) H) (e : vp_cell c1 u = vp_cell c1 u') : va_P D cl (ws.set k (a, .inl (c1, u'))) H := by
  intro j q hq
  by_cases hj : k = j
  · subst hj
    have hlt : k < ws.length := by
      have := (List.getElem?_eq_some_iff.mp hq).1
      rw [List.length_set] at this
      exact this
    rw [List.getElem?_set_self hlt] at hq
    cases hq
    have h1 : H[a]? = some (vp_cell c1 u) := h k _ (List.getElem?_set_self hlt)
    show H[a]? = some (vp_cell c1 u')
    rw [← e]
    exact h1
  · rw [List.getElem?_set_ne hj] at hq
    exact h j q (by rw [List.getElem?_set_ne hj]; exact hq)
theorem z_setL (E : z_E) (S : z_S) (d : z_D) {a : Nat} (x : Int64) {kd : z_K} (h : a < S.1) (hk : S.2.1 a = kd) (h15 : kd.1 ≠ 15) {p : Nat} (hp : (z_ws E (S, d))[p]? = some (E.2.1 + a, z_cell E kd (S.2.2 a) (d a))) :
    (z_ws E (S, d)).set p (E.2.1 + a, z_cell E kd x (d a)) = z_ws E (z_lg S a x, d) := by
  have hm := z_addr (E := E) (z_live (S := S) h (by rw [hk]; exact h15))
  have hp2 : ([] ++ va_pl ((z_L S).map (fun a => E.2.1 + a)) (z_f E (S, d)))[p]? = some (E.2.1 + a, z_f E (S, d) (E.2.1 + a)) := by
    rw [z_fat]; exact hp.trans (by rw [← hk])
  have h1 := va_pl_set (X := []) (A := z_A E) (e := z_cell E kd x (d a)) (z_dd E (S, d)) hm hp2
  refine h1.trans ?_
  show va_pl _ _ = va_pl _ _
  refine List.map_congr_left (fun q hq => ?_)
  obtain ⟨b, -, rfl⟩ := List.mem_map.mp hq
  rw [z_fat]
  by_cases hab : b = a
  · subst hab
    rw [va_up_self]
    refine congrArg (fun z => (E.2.1 + b, z)) ?_
    show _ = z_cell E (S.2.1 b) (if b = b then x else S.2.2 b) (d b)
    rw [if_pos rfl, hk]
  · rw [va_up_ne _ _ (fun h => hab (Nat.add_left_cancel h)), z_fat]
    refine congrArg (fun z => (E.2.1 + b, z)) ?_
    show _ = z_cell E (S.2.1 b) (if b = a then x else S.2.2 b) (d b)
    rw [if_neg hab]
theorem w_lof_0 : Cond.classLink RL 13 "java/util/NoSuchElementException" ∈ wsL_of := by decide +kernel
theorem w_lof_1 : Cond.castable "java/util/NoSuchElementException" "java/util/NoSuchElementException" ∈ of_B := by decide +kernel
theorem c_Lof_ok {E : z_E} {l : Launch} {S : z_S} (d : z_D) (o0 o9 : Nat) (h0 : A_BT S o0) (h9 : z_at S o9 (13, 1, z_nn)) (x1 x2 : Int32) {v : Int32} (hh : f_X3_hasRider d (o0 + 1) x1 = some 1) (hw : f_X8_within x2 0 6 = some 1) (hfv : f_of d (o0 + 1) x1 x2 = some v) : Met l yL_of wsL_of lof_rm (va_Pc [.ref (E.2.1 + o0), .int x1, .int x2, .ref (E.2.1 + o9)] (z_Wd E (S, d))) (z_Q E (some (.int 0)) (z_lg S o9 v.toInt64, d)) 0 0 (z_A E) := by
  refine va_MetW (cc := cL_of) (maxL := 5) (ret := some .int) (hh := [(0, 10, 13, 13)]) (by decide) rfl ?_
  intro p e s m args below meth c s₁ B hml hv
  obtain ⟨rfl, hP, hK, hSt⟩ := hv
  have hown : s.vm.findClass RL = some m.cls := findClass_of_methodNamed B.named
  have hl := lv_entry [Value.ref (E.2.1 + o0), .int x1, .int x2, .ref (E.2.1 + o9)] (n := 5) (Nat.le_of_ble_eq_true rfl)
  rw [lg_entry_eq]
  generalize (lg_sl [Value.ref (E.2.1 + o0), .int x1, .int x2, .ref (E.2.1 + o9)] ++ List.replicate (5 - (lg_sl [Value.ref (E.2.1 + o0), .int x1, .int x2, .ref (E.2.1 + o9)]).length) Slot.unset).toArray = ls at hl ⊢
  have hl : lv_has ls 5 [(0, .ref (E.2.1 + o0)), (1, .int x1), (2, .int x2), (3, .ref (E.2.1 + o9))] := hl
  have hts := atoms_spec (ws := wsL_of) B.pre
  have C : z_C E Y_L_of p s m _ meth c [(0, .ref (E.2.1 + o0)), (1, .int x1), (2, .int x2), (3, .ref (E.2.1 + o9))] (S, d) s.heap [] ls 0 := ⟨⟨B.exec, B.bytes, hml, hown, hts⟩, ⟨B.returns, B.notSynchronized, fun y9 b9 n9 r9 h9 => by cases h9⟩, hK, hSt, ⟨by rw [hP.2]; exact Nat.le_add_right _ _, hP.2⟩, hP, va_S.rf, hl⟩
  show W p l e Y_L_of.2.2.2.2.2.1 s m _ below meth c s.heap [] 0 0 _ _
  refine lv_aload_n C.1.1 C.1.2.1 dL_of_0 rfl (lv_at hl 3 rfl) ?_
  refine lv_iconst (v := 0) C.1.1 C.1.2.1 dL_of_1 rfl ?_
  refine lv_aload_n C.1.1 C.1.2.1 dL_of_2 rfl (lv_at hl 0 rfl) ?_
  refine lv_iload_n C.1.1 C.1.2.1 dL_of_3 rfl (lv_at hl 1 rfl) ?_
  refine lv_iload_n C.1.1 C.1.2.1 dL_of_4 rfl (lv_at hl 2 rfl) ?_
  refine wq_callV (Yc := Y_X8_of) (n := 0) C (c_of_ok (E := E) (l := l) d o0 h0 x1 x2 hh hw) hfv ok_X8_of ⟨⟨(Nat.le_of_ble_eq_true rfl), (Nat.le_of_ble_eq_true rfl)⟩, (Nat.le_of_ble_eq_true rfl), (Nat.le_of_ble_eq_true rfl)⟩ (h0.1 0 (Nat.le_of_ble_eq_true rfl)) (Nat.le_of_ble_eq_true rfl) rfl rfl rfl (Nat.le_of_ble_eq_true rfl) gL_of_X8_of rfl dL_of_5 (fun H1 locs1 C1 => ?_)
  show W p l e Y_L_of.2.2.2.2.2.1 s m _ below meth c H1 locs1 0 0 _ (F0 m 8 ls (.int v :: .int 0 :: .ref (E.2.1 + o9) :: []))
  have C1 : z_C E Y_L_of p s m _ meth c [(0, .ref (E.2.1 + o0)), (1, .int x1), (2, .int x2), (3, .ref (E.2.1 + o9))] (S, d) H1 locs1 ls 0 := C1
  refine lv_i2l C1.1.1 C1.1.2.1 dL_of_8 rfl ?_
  obtain ⟨q, hq⟩ := z_get E (S, d) h9.1 h9.2 (by decide)
  have hs := z_setL E S d (a := o9) v.toInt64 h9.1 h9.2 (by decide) hq
  rw [z_cell, if_neg (by decide), if_neg (by decide), if_neg (by decide)] at hq hs
  refine va_last C1.1.1 C1.1.2.1 C1.2.2.1 C1.2.2.2.2.2.1.1 (z_dd E (S, d)) (z_own C1) q 5 hq rfl (show ¬ ((0 : Int32) < 0 ∨ (1 : Nat) ≤ (0 : Int32).toNatClampNeg) by decide) dL_of_9 (fun H2 locs2 hP2 _ hS2 => ?_)
  have hP3 : va_P E.1 vwCl (z_ws E (z_lg S o9 v.toInt64, d)) H2 := by
    rw [← hs]
    exact lg_set hP2 (lg_cell _ _ _)
  refine z_mv C1 (w' := (z_lg S o9 v.toInt64, d)) rfl hP3 hS2 (fun C2 => ?_)
  refine lv_goto (tgt := 17) C2.1.1 C2.1.2.1 dL_of_10 (by decide) ?_
  refine lv_iconst (v := 0) C2.1.1 C2.1.2.1 dL_of_17 rfl ?_
  have hlk := C2.2.1.2.1
  exact W.iret C2.1.1 C2.1.2.1 C2.2.1.1 (z_ret _ C2) (z_retL C2) dL_of_18 hlk
def lof_Q (E : z_E) (S : z_S) (d : z_D) : Array Value → State → Outcome → State → Prop := fun _ st oc t => (oc = .returned (some (.int 1)) ∧ ∃ g, z_H E (z_ext S g, d) t.heap) ∧ va_F (z_A E) st t
theorem c_Lof_bad {E : z_E} {l : Launch} {S : z_S} (hlf : l.stackTraces = false) (d : z_D) (o0 o9 : Nat) (h0 : A_BT S o0) (x1 x2 : Int32) {h g : Int32} (hh : f_X3_hasRider d (o0 + 1) x1 = some h) (hw : f_X8_within x2 0 6 = some g) (hbad : h = 0 ∨ g = 0) : Met l yL_of wsL_of lof_rx (va_Pc [.ref (E.2.1 + o0), .int x1, .int x2, .ref (E.2.1 + o9)] (z_Wx E (S, d))) (lof_Q E S d) 1 6 (z_A E) := by
  refine va_MetW (cc := cL_of) (maxL := 5) (ret := some .int) (hh := [(0, 10, 13, 13)]) (by decide) rfl ?_
  intro p e s m args below meth c s₁ B hml hv
  obtain ⟨rfl, ⟨hP, hK, hSt⟩, hX⟩ := hv
  have hown : s.vm.findClass RL = some m.cls := findClass_of_methodNamed B.named
  have hl := lv_entry [Value.ref (E.2.1 + o0), .int x1, .int x2, .ref (E.2.1 + o9)] (n := 5) (Nat.le_of_ble_eq_true rfl)
  rw [lg_entry_eq]
  generalize (lg_sl [Value.ref (E.2.1 + o0), .int x1, .int x2, .ref (E.2.1 + o9)] ++ List.replicate (5 - (lg_sl [Value.ref (E.2.1 + o0), .int x1, .int x2, .ref (E.2.1 + o9)]).length) Slot.unset).toArray = ls at hl ⊢
  have hl : lv_has ls 5 [(0, .ref (E.2.1 + o0)), (1, .int x1), (2, .int x2), (3, .ref (E.2.1 + o9))] := hl
  have hts := atoms_spec (ws := wsL_of) B.pre
  have hcw : (Cond.codeWith yL_of cL_of 5 (some .int) [(0, 10, 13, 13)]).before _ s = true := hts _ List.mem_cons_self
  have htab := vx_table (x := yL_of) B hcw
  have F : CallFix p m c cL_of 5 s [Value.ref (E.2.1 + o0), .int x1, .int x2, .ref (E.2.1 + o9)].toArray wsL_of RL := ⟨B.exec, B.bytes, hml, hown, hts⟩
  have hr := B.returns
  have hlk := B.notSynchronized
  show W p l e lof_rx s m _ below meth c s.heap [] 0 0 _ _
  refine lv_aload_n F.1 F.2.1 dL_of_0 rfl (lv_at hl 3 rfl) ?_
  refine lv_iconst (v := 0) F.1 F.2.1 dL_of_1 rfl ?_
  refine lv_aload_n F.1 F.2.1 dL_of_2 rfl (lv_at hl 0 rfl) ?_
  refine lv_iload_n F.1 F.2.1 dL_of_3 rfl (lv_at hl 1 rfl) ?_
  refine lv_iload_n F.1 F.2.1 dL_of_4 rfl (lv_at hl 2 rfl) ?_
  obtain ⟨q0, hq0⟩ := z_get E (S, d) (h0.1 0 (Nat.le_of_ble_eq_true rfl)).1 (h0.1 0 (Nat.le_of_ble_eq_true rfl)).2 (show (6 : Nat) ≠ 15 by decide)
  rw [z_cell, if_pos (show (L_BT o0).1 < 8 from (show (6 : Nat) < 8 by decide))] at hq0
  have hrv : ∃ cell : Cell, s.heap[E.2.1 + o0]? = some cell ∧ cell.vm.isStatics = false ∧ s.vm.findClass RX8 = some cell.cls := va_recv (q := (RX8, TX8, 5)) hK hP.1 (ci := 6) rfl hq0
  have hrun : vx_Run p l e lof_rx s m [Value.ref (E.2.1 + o0), .int x1, .int x2, .ref (E.2.1 + o9)].toArray below meth c s.heap [] 0 0 1 6 (F0 m 5 ls ([Value.int x1, .int x2].reverse ++ .ref (E.2.1 + o0) :: [.int 0, .ref (E.2.1 + o9)])) [.int 0, .ref (E.2.1 + o9)] (fun _ _ _ => False) (of_XC E S d) (z_A E) :=
    vx_runV (ret := some .int) (bytes := cX8_of) (maxL := 3) F (c_of_bad (E := E) (l := l) (S := S) hlf d o0 h0 x1 x2 hh hw hbad) (cwV 2 hts gL_of_X8_of rfl rfl rfl ⟨rfl, by decide +kernel, by decide +kernel, by decide +kernel⟩ ⟨Nat.le_of_ble_eq_true rfl, Nat.le_of_ble_eq_true rfl⟩) ⟨z_blindx E (S, d) _, hrv, fun U hU hW => ⟨rfl, ⟨by rw [hU]; exact hP, va_K.moved hW.alike hK, by rw [hU]; exact hSt.to hW (fun _ _ _ => rfl)⟩, by rw [hU]; exact hX.to hW (fun _ _ _ => rfl)⟩⟩ rfl rfl hl.1 rfl (lv_room (Nat.le_of_ble_eq_true rfl)) dL_of_5 ⟨Nat.le_of_ble_eq_true rfl, Nat.le_of_ble_eq_true rfl⟩
  intro T hT X
  rcases hrun T hT X with ⟨v, st₀, t, T', L, h0', X', hL, e1, e2, hF, st⟩ | ⟨q, st₀, t, T', L, E9, ce, h0', X', hL, e1, e2, ⟨hE9, ⟨g9, hg⟩, hF⟩, hce, hcv, hcl, st⟩
  · exact hF.elim
  · subst hE9
    have hS' : va_S (z_A E) s.heap T'.heap ([] ++ L) := by
      obtain ⟨hz1, hk1⟩ := hF
      rw [h0'] at hz1 hk1
      refine ⟨by rw [e1]; exact hz1, fun q h1 h2 => by rw [e1]; exact hk1 q h1 h2, fun q hq => ?_⟩
      rcases List.mem_append.mp hq with h | h
      · cases h
      · exact hL q h
    have hg' : z_H E (z_ext S g9, d) T'.heap := by rw [e1]; exact hg
    have hkk : vx_W p l e lof_rx s m [Value.ref (E.2.1 + o0), .int x1, .int x2, .ref (E.2.1 + o9)].toArray below meth c T'.heap ([] ++ L) (0 + 1) (0 + 6) (MQ below (lof_Q E S d) [Value.ref (E.2.1 + o0), .int x1, .int x2, .ref (E.2.1 + o9)].toArray s 1 6 (z_A E)) (F0 m 5 ls [.int 0, .ref (E.2.1 + o9)]) q := by
      refine vx_catch (own := RL) (name := "java/util/NoSuchElementException") (E := "java/util/NoSuchElementException") (ce := ce) hown [] ⟨0, 10, 13, 13⟩ [] htab (fun z hz => by cases hz) rfl (by decide) (hts _ w_lof_0) (va_Nw_warm hX _ w_lof_1) (by rw [e1]; exact hce) hcv hcl ?_
      show W p l e lof_rx s m _ below meth c T'.heap ([] ++ L) (0 + 1) (0 + 6) _ (F0 m 13 ls [.ref q])
      refine lv_astore (lv' := [(4, .ref q), (0, .ref (E.2.1 + o0)), (1, .int x1), (2, .int x2), (3, .ref (E.2.1 + o9))]) F.1 F.2.1 dL_of_13 hl (by decide) rfl (fun ls2 hl2 => ?_)
      refine lv_iconst (v := 1) F.1 F.2.1 dL_of_15 rfl ?_
      exact W.iret F.1 F.2.1 hr (fun t ht _ => ⟨⟨rfl, g9, by rw [ht]; exact hg'⟩, hS'.F ht⟩) hS'.2.2 dL_of_16 hlk
    obtain ⟨t2, a1, b1⟩ := hkk T' rfl X'
    exact ⟨t2, st.trans a1, b1⟩
