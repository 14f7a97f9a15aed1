/-! 99.ofc: the law's case of of -/
theorem z_at_ext {S : z_S} {a g : Nat} {kd : z_K} (h : z_at S a kd) : z_at (z_ext S g) a kd := ⟨Nat.lt_of_lt_of_le h.1 (Nat.le_add_right _ _), by
  show (if a < S.1 then S.2.1 a else (15, 0, z_nn)) = kd
  rw [if_pos h.1]
  exact h.2⟩
theorem z_kp_ext (S : z_S) (d : z_D) (g o : Nat) : z_kp (S, d) (z_ext S g, d) o := ⟨Nat.le_add_right _ _, rfl, fun a ha _ => ⟨by
  show (if a < S.1 then S.2.1 a else (15, 0, z_nn)) = S.2.1 a
  rw [if_pos ha], rfl⟩⟩
theorem z_I.ext {S : z_S} {d : z_D} {rf : Nat → Option Nat} {g : Nat} (hI : z_I S d rf) : z_I (z_ext S g) d rf := by
  obtain ⟨hBT, hrf, hMd, hou, hRc, hz⟩ := hI
  have a2 := z_kp_ext S d g S.1
  have h366 : 366 ≤ S.1 := hou.1
  refine ⟨?_, z_at_ext hrf, A_Model.kp a2 hMd (by omega), z_at_ext hou, fun j r hj hr => A_Race.kp a2 (hRc j r hj hr) (Or.inr (lk_end (hRc j r hj hr))), hz⟩
  obtain ⟨b1, ⟨b2, b3, b4, b5⟩, rf9, b6⟩ := hBT
  exact ⟨fun o9 ho9 => z_at_ext (b1 o9 ho9), ⟨A_Race.kp a2 b2 (by omega), A_Race.kp a2 b3 (by omega), A_Standings.kp a2 b4 (by omega), A_Tape.kp a2 b5 (by omega)⟩, rf9, z_at_ext b6⟩
theorem z_I.lg {S : z_S} {d : z_D} {rf : Nat → Option Nat} {a : Nat} {x : Int64} (hI : z_I S d rf) : z_I (z_lg S a x) d rf := hI
theorem lg_cmp_self (x : Int64) : lg_cmp x x = 0 := by
  unfold lg_cmp
  rw [if_neg (fun h : x < x => Int64.lt_irrefl h), if_pos rfl]
section
variable {E : z_E} {l : Launch} {p : Program} {e : Env} {s : State} {m : MethodId} {below : List Frame} {meth : Method} {c : Code} {b L i : Nat} {xs : Nat → Int32} {Q : State → Prop} {H : Heap} {locs : List Loc} {k n : Nat} {ls : Array Slot} {S : z_S} {d : z_D} {rf : Nat → Option Nat}
theorem lo_rest {kv : Int32} {w : Int32 × z_D} (F : lw_C E p s m c b L xs) (hI : z_I S d rf) (hi : i + 6 ≤ L) (hkn : k ≤ room_1.cells ∧ n ≤ room_1.slots) (ew : f_X9_of d 355 (xs (i + 1)) (xs (i + 2)) = some w) (ht : w.2 355 0 = kv) (hk0 : kv = 0 → S.2.2 365 = w.1.toInt64) (hz2 : Z 0 355 rf w.2) (hH : z_H E (S, d) H) (hS : va_S (z_A E) s.heap H locs) (hl : lv_has ls 7 (lw_lv E b i)) (K : ∀ (d2 : z_D) (H1 : Heap) (locs1 : List Loc) (ls2 : Array Slot), z_I S d2 rf → z_H E (S, d2) H1 → va_S (z_A E) s.heap H1 locs1 → lv_has ls2 7 (lw_lv E b i) → W p l e room_1 s m #[Value.ref b] below meth c H1 locs1 k n Q (F0 m 1405 ls2 [])) : W p l e room_1 s m #[Value.ref b] below meth c H locs k n Q (F0 m 792 ls [.int kv]) := by
  obtain ⟨hBT, hrf, hMd, hou, hRc, hz⟩ := id hI
  refine lv_istore (lv' := (5, .int kv) :: lw_lv E b i) F.1.1 F.1.2.1 dL_law_792 hl (by decide) rfl (fun ls1 hl1 => ?_)
  have hl1' : lv_has ls1 7 (lw_lv E b i) := lv_sub hl1 [1, 2, 3, 4, 5] rfl
  refine lv_aload_n F.1.1 F.1.2.1 dL_law_794 rfl (lv_at hl1' 2 rfl) ?_
  refine lw_arg 1 rfl F hl1' rfl rfl (by omega) hS 801 rfl dL_law_795 dL_law_796 dL_law_798 dL_law_799 dL_law_800 ?_
  refine lw_arg 2 rfl F hl1' rfl rfl (by omega) hS 807 rfl dL_law_801 dL_law_802 dL_law_804 dL_law_805 dL_law_806 ?_
  refine lw_call0 F (c_X9_of (E := E) (l := l) (S := S) d 355 hMd (xs (i + 1)) (xs (i + 2))) ew ok_X9_of ⟨Nat.le_of_ble_eq_true rfl, Nat.le_of_ble_eq_true rfl⟩ hkn ⟨rfl, rfl⟩ (hMd 0 (Nat.le_of_ble_eq_true rfl)) (Nat.le_of_ble_eq_true rfl) rfl rfl rfl (Nat.le_of_ble_eq_true rfl) gL_law_X9_of hH hS hl1 810 rfl dL_law_807 [.int w.1] rfl (S, w.2) rfl (fun H1 locs1 hH1 hS1 => ?_)
  refine lv_istore (lv' := (6, .int w.1) :: (5, .int kv) :: lw_lv E b i) F.1.1 F.1.2.1 dL_law_810 hl1 (by decide) rfl (fun ls2 hl2 => ?_)
  have hl3 : lv_has ls2 7 (lw_lv E b i) := lv_sub hl2 [2, 3, 4, 5, 6] rfl
  refine lv_aload_n F.1.1 F.1.2.1 dL_law_812 rfl (lv_at hl3 2 rfl) ?_
  refine lw_call0 F (c_X9_thrown (E := E) (l := l) (S := S) w.2 355 hMd) (show f_X9_thrown w.2 355 = some (w.2 355 0) from rfl) ok_X9_thrown ⟨Nat.le_of_ble_eq_true rfl, Nat.le_of_ble_eq_true rfl⟩ hkn ⟨rfl, rfl⟩ (hMd 0 (Nat.le_of_ble_eq_true rfl)) (Nat.le_of_ble_eq_true rfl) rfl rfl rfl (Nat.le_of_ble_eq_true rfl) gL_law_X9_thrown hH1 hS1 hl2 816 rfl dL_law_813 [.int (w.2 355 0)] rfl (S, w.2) rfl (fun H2 locs2 hH2 hS2 => ?_)
  refine lv_iload F.1.1 F.1.2.1 dL_law_816 (lv_at hl2 1 rfl) ?_
  refine lv_icmp_eq (tgt := 823) F.1.1 F.1.2.1 dL_law_818 (by decide) (fun _ => ?_) (fun hc => absurd ht hc)
  refine lv_iload F.1.1 F.1.2.1 dL_law_823 (lv_at hl2 1 rfl) ?_
  have hend : W p l e room_1 s m #[Value.ref b] below meth c H2 locs2 k n Q (F0 m 840 ls2 []) := lv_goto (tgt := 1405) F.1.1 F.1.2.1 dL_law_840 (by decide) (K _ _ _ _ ⟨hBT, hrf, hMd, hou, hRc, hz2⟩ hH2 hS2 hl3)
  refine lv_if_ne (tgt := 840) F.1.1 F.1.2.1 dL_law_825 (by decide) (fun _ => hend) (fun hkv => ?_)
  refine lv_aload_n F.1.1 F.1.2.1 dL_law_828 rfl (lv_at hl3 3 rfl) ?_
  refine lv_iconst (v := 0) F.1.1 F.1.2.1 dL_law_829 rfl ?_
  obtain ⟨q, hq⟩ := z_get E (S, w.2) hou.1 hou.2 (by decide)
  rw [z_cell, if_neg (by decide), if_neg (by decide), if_neg (by decide)] at hq
  refine va_lald F.1.1 F.1.2.1 F.2.1 hH2.1 q 5 hq rfl (show ¬ ((0 : Int32) < 0 ∨ (1 : Nat) ≤ (0 : Int32).toNatClampNeg) by decide) dL_law_830 ?_
  refine lv_iload F.1.1 F.1.2.1 dL_law_831 (lv_at hl2 0 rfl) ?_
  refine lv_i2l F.1.1 F.1.2.1 dL_law_833 rfl ?_
  refine W.lcmp F.1.1 F.1.2.1 dL_law_834 ?_
  have hcmp : lg_cmp (S.2.2 365) w.1.toInt64 = 0 := by rw [hk0 hkv, lg_cmp_self]
  exact lv_if_eq (tgt := 840) F.1.1 F.1.2.1 dL_law_835 (by decide) (fun _ => hend) (fun hc => absurd hcmp hc)
theorem lw_runL {mc ms : Nat} {rm : Room} {Pc : Array Value → State → Prop} {Qc : Array Value → State → Outcome → State → Prop} {x1 x2 : Int32} (F : lw_C E p s m c b L xs) (hM : Met l yL_of wsL_of rm Pc Qc mc ms (z_A E)) (hrc : rm.cells = mc) (hrs : rm.slots = ms) (hR : rm.frames + 1 ≤ room_1.frames ∧ 8 + (5 + 11) + rm.locals ≤ room_1.locals) (hp : PreS s H Pc [.ref (E.2.1 + 0), .int x1, .int x2, .ref (E.2.1 + 365)]) (hkn : k + mc ≤ room_1.cells ∧ n + ms ≤ room_1.slots) {lv : List (Nat × Value)} (hl : lv_has ls 7 lv) : va_Run p l e room_1 s m #[Value.ref b] below meth c H locs k n mc ms (F0 m 789 ls [.ref (E.2.1 + 365), .int x2, .int x1, .ref (E.2.1 + 0)]) [] (Qc [Value.ref (E.2.1 + 0), .int x1, .int x2, .ref (E.2.1 + 365)].toArray) (z_A E) :=
  vx_runSW (hh := [(0, 10, 13, 13)]) (bytes := cL_of) (maxL := 5) (ret := some .int) (As := [.ref (E.2.1 + 0), .int x1, .int x2, .ref (E.2.1 + 365)]) F.1 hM (vx_cwSW 4 F.1.2.2.2.2 gL_law_L_of rfl hrc hrs ⟨by decide +kernel, by decide +kernel, by decide +kernel⟩ hR) hp rfl rfl hl.1 rfl (lv_room (Nat.le_of_ble_eq_true rfl)) dL_law_789 hkn
theorem lc_of (hlf : l.stackTraces = false) (hX : z_X E s s.heap) (F : lw_C E p s m c b L xs) (hI : z_I S d rf) (hi : i + 6 ≤ L) (hkn : k + 1 ≤ room_1.cells ∧ n + 6 ≤ room_1.slots) (hH : z_H E (S, d) H) (hS : va_S (z_A E) s.heap H locs) (hl : lv_has ls 7 (lw_lv E b i)) (K : ∀ (S2 : z_S) (d2 : z_D) (H1 : Heap) (locs1 : List Loc) (ls2 : Array Slot), z_I S2 d2 rf → z_H E (S2, d2) H1 → va_S (z_A E) s.heap H1 locs1 → lv_has ls2 7 (lw_lv E b i) → W p l e room_1 s m #[Value.ref b] below meth c H1 locs1 (k + 1) (n + 6) Q (F0 m 1405 ls2 [])) : W p l e room_1 s m #[Value.ref b] below meth c H locs k n Q (F0 m 775 ls []) := by
  obtain ⟨hBT, hrf, hMd, hou, hRc, hz⟩ := id hI
  refine lv_aload_n F.1.1 F.1.2.1 dL_law_775 rfl (lv_at hl 1 rfl) ?_
  refine lw_arg 1 rfl F hl rfl rfl (by omega) hS 782 rfl dL_law_776 dL_law_777 dL_law_779 dL_law_780 dL_law_781 ?_
  refine lw_arg 2 rfl F hl rfl rfl (by omega) hS 788 rfl dL_law_782 dL_law_783 dL_law_785 dL_law_786 dL_law_787 ?_
  refine lv_aload_n F.1.1 F.1.2.1 dL_law_788 rfl (lv_at hl 3 rfl) ?_
  have hWd : ∀ U : State, U.heap = H → s.WarmedH U.vm → z_Wd E (S, d) U := fun U hU hW => ⟨by rw [hU]; exact hH, va_K.moved hW.alike F.2.1, by rw [hU]; exact F.2.2.1.to hW hS.2.1⟩
  rcases z_of hz (Nat.le_refl _) (xs (i + 1)) (xs (i + 2)) with ⟨h, g, hh, hg, hbad, w, ew, hw1, hz2⟩ | ⟨hh, hg, v, ev, w, ew, hw0, hvw, hz2⟩
  · have hrun := lw_runL (p := p) (e := e) (below := below) (meth := meth) (H := H) (locs := locs) (k := k) (n := n) (ls := ls) (x1 := xs (i + 1)) (x2 := xs (i + 2)) F (c_Lof_bad (E := E) (l := l) (S := S) hlf d 0 365 hBT (xs (i + 1)) (xs (i + 2)) hh hg hbad) rfl rfl ⟨Nat.le_of_ble_eq_true rfl, Nat.le_of_ble_eq_true rfl⟩ ⟨z_blindx E (S, d) _, fun U hU hW => ⟨rfl, hWd U hU hW, by rw [hU]; exact hX.to hW hS.2.1⟩⟩ hkn hl
    intro T hT X
    obtain ⟨v, st₀, t, T', L', h0, X', hL, e1, e2, ⟨⟨hv, g9, hH'⟩, hz1, hk1⟩, stp⟩ := hrun T hT X
    cases hv
    rw [h0] at hz1 hk1
    have hS' : va_S (z_A E) s.heap T'.heap (locs ++ L') := by
      refine z_Str hS ⟨by rw [e1]; exact hz1, fun q h1 h2 => by rw [e1]; exact hk1 q h1 h2, fun q hq => ?_⟩
      rcases List.mem_append.mp hq with h | h
      · exact hS.2.2 q h
      · exact hL q h
    obtain ⟨t2, a1, b1⟩ := lo_rest (kv := 1) (k := k + 1) (n := n + 6) F (hI.ext (g := g9)) hi hkn ew hw1 (fun h => absurd h (by decide)) hz2 (by rw [e1]; exact hH') hS' hl (fun d2 H1 locs1 ls2 h1 h2 h3 h4 => K _ d2 H1 locs1 ls2 h1 h2 h3 h4) T' rfl X'
    exact ⟨t2, stp t2 a1, b1⟩
  · have hrun := lw_runL (p := p) (e := e) (below := below) (meth := meth) (H := H) (locs := locs) (k := k) (n := n) (ls := ls) (x1 := xs (i + 1)) (x2 := xs (i + 2)) F (c_Lof_ok (E := E) (l := l) (S := S) d 0 365 hBT hou (xs (i + 1)) (xs (i + 2)) hh hg ev) rfl rfl ⟨Nat.le_of_ble_eq_true rfl, Nat.le_of_ble_eq_true rfl⟩ ⟨z_blind E (S, d) _, fun U hU hW => ⟨rfl, hWd U hU hW⟩⟩ ⟨by omega, by omega⟩ hl
    intro T hT X
    obtain ⟨v', st₀, t, T', L', h0, X', hL, e1, e2, ⟨⟨hv, hH'⟩, hz1, hk1⟩, stp⟩ := hrun T hT X
    cases hv
    rw [h0] at hz1 hk1
    have hS' : va_S (z_A E) s.heap T'.heap (locs ++ L') := by
      refine z_Str hS ⟨by rw [e1]; exact hz1, fun q h1 h2 => by rw [e1]; exact hk1 q h1 h2, fun q hq => ?_⟩
      rcases List.mem_append.mp hq with h | h
      · exact hS.2.2 q h
      · exact hL q h
    obtain ⟨t2, a1, b1⟩ := lo_rest (kv := 0) (k := k) (n := n) F (hI.lg (a := 365) (x := v.toInt64)) hi ⟨by omega, by omega⟩ ew hw0 (fun _ => by
      show (if 365 = 365 then v.toInt64 else S.2.2 365) = w.1.toInt64
      rw [if_pos rfl, hvw]) hz2 (by rw [e1]; exact hH') hS' hl (fun d2 H1 locs1 ls2 h1 h2 h3 h4 => W.widen (Nat.le_add_right _ _) (Nat.le_add_right _ _) (K _ d2 H1 locs1 ls2 h1 h2 h3 h4)) T' rfl X'
    exact ⟨t2, stp t2 a1, b1⟩
end
