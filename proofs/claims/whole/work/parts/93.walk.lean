/-! 93.walk: the law's own rows -/
abbrev lw_lv (E : z_E) (b i : Nat) : List (Nat × Value) := [(0, .ref b), (1, .ref (E.2.1 + 0)), (2, .ref (E.2.1 + 355)), (3, .ref (E.2.1 + 365)), (4, .int (nI i))]
def lw_C (E : z_E) (p : Program) (s : State) (m : MethodId) (c : Code) (b L : Nat) (xs : Nat → Int32) : Prop :=
  CallFix p m c cL_law 7 s #[Value.ref b] wsL_law RL ∧ va_K E.1 vwCl (z_tys E) s ∧ z_St E s s.heap ∧ E.2.1 = s.heap.size ∧ va_X b L xs s s.heap ∧ b < s.heap.size ∧ L ≤ 3072
/-- what holds at the loop's head -/
def z_I (S : z_S) (d : z_D) (rf : Nat → Option Nat) : Prop :=
  A_BT S 0 ∧ z_at S 347 (11, 2, rf) ∧ A_Model S 355 ∧ z_at S 365 (13, 1, z_nn) ∧ (∀ j r, j < 2 → rf j = some r → A_Race S r) ∧ Z 0 355 rf d
section
variable {E : z_E} {l : Launch} {p : Program} {e : Env} {s : State} {m : MethodId} {below : List Frame} {meth : Method} {c : Code} {b L : Nat} {xs : Nat → Int32} {Q : State → Prop} {H : Heap} {locs : List Loc} {k n pc : Nat} {ls : Array Slot} {st : List Value} {lv : List (Nat × Value)}
theorem lw_arg {j : Int} {i : Nat} (jn : Nat) (hj : Int32.ofInt j = nI jn) (F : lw_C E p s m c b L xs) (hl : lv_has ls 7 lv) (h0 : lv[0]? = some (0, .ref b)) (h4 : lv[4]? = some (4, .int (nI i))) (hi : i + jn < L) (hS : va_S (z_A E) s.heap H locs) (pc' : Nat) (hp : pc + 6 = pc') (d0 : decode cL_law pc = .ok (.aload_n 0, 1)) (d1 : decode cL_law (pc + 1) = .ok (.iload 4, 2)) (d2 : decode cL_law (pc + 3) = .ok (.iconst j, 1)) (d3 : decode cL_law (pc + 4) = .ok (.iadd, 1)) (d4 : decode cL_law (pc + 5) = .ok (.iaload, 1)) (K : W p l e room_1 s m #[Value.ref b] below meth c H locs k n Q (F0 m pc' ls (.int (xs (i + jn)) :: st))) : W p l e room_1 s m #[Value.ref b] below meth c H locs k n Q (F0 m pc ls st) := by
  subst hp
  have hL := F.2.2.2.2.2.2
  have hbA : ¬ z_A E b := by
    show ¬ E.2.1 ≤ b
    rw [F.2.2.2.1]
    exact Nat.not_le.mpr F.2.2.2.2.2.1
  refine lv_aload_n F.1.1 F.1.2.1 d0 rfl (lv_at hl 0 h0) ?_
  refine lv_iload F.1.1 F.1.2.1 d1 (lv_at hl 4 h4) ?_
  refine lv_iconst (v := nI jn) F.1.1 F.1.2.1 d2 hj ?_
  refine lv_iadd F.1.1 F.1.2.1 d3 ?_
  rw [nI_add]
  refine va_sld F.1.1 F.1.2.1 F.2.2.2.2.1 F.2.2.2.2.2.1 hbA hS (vp_in_nI hi (by omega)) d4 ?_
  rw [nI_clamp (by omega)]
  exact K
theorem lw_call {β : Type} {y : MethodName} {Yc : z_Y} {cvc : β → Option Value × z_W} {As : List Value} {w : z_W} {resc : Option β} {x : β} {a idx : Nat} {kd : z_K} {q9 : vw_C} {stk : List Value} (F : lw_C E p s m c b L xs) (hM : z_Sp E l y Yc cvc (.ref (E.2.1 + a) :: As) w resc) (hx : resc = some x) (hO : z_Ok y Yc As.length) (hR : Yc.2.2.2.2.2.1.frames + 1 ≤ room_1.frames ∧ 8 + (Yc.2.2.1 + 11) + Yc.2.2.2.2.2.1.locals ≤ room_1.locals) (hkn : k + Yc.2.2.2.2.2.2.1 ≤ room_1.cells ∧ n + Yc.2.2.2.2.2.2.2 ≤ room_1.slots) (ha : z_at w.1 a kd) (h8 : kd.1 < 8) (hcl : vwCl[kd.1]? = some q9) (hq9 : q9.1 = Yc.1) (hst : stk = As.reverse ++ .ref (E.2.1 + a) :: st) (hcat : (st.map fun v => v.category).sum ≤ 8) (hG : GoodIn wsL_law (wsV RL idx Yc.1 y Yc.2.2.2.1)) (hH : z_H E w H) (hS : va_S (z_A E) s.heap H locs) (hl : lv_has ls 7 lv) (pc' : Nat) (hp : pc + 3 = pc') (hd : decode cL_law pc = .ok (.invokevirtual idx, 3)) (st' : List Value) (hst' : (cvc x).1.toList ++ st = st') (w' : z_W) (hw' : (cvc x).2 = w')
    (K : ∀ (H1 : Heap) (locs1 : List Loc), z_H E w' H1 → va_S (z_A E) s.heap H1 locs1 → W p l e room_1 s m #[Value.ref b] below meth c H1 locs1 (k + Yc.2.2.2.2.2.2.1) (n + Yc.2.2.2.2.2.2.2) Q (F0 m pc' ls st')) : W p l e room_1 s m #[Value.ref b] below meth c H locs k n Q (F0 m pc ls stk) := by
  subst hp
  subst hst
  subst hst'
  subst hw'
  obtain ⟨q, hq⟩ := z_get E w ha.1 ha.2 (by omega)
  rw [z_cell, if_pos h8] at hq
  have hrv := va_recv F.2.1 hH.1 hcl hq
  rw [hq9] at hrv
  obtain ⟨⟨ws', o1⟩, o2, o3, o4, o5, o6⟩ := hO
  have hrun : va_Run p l e room_1 s m #[Value.ref b] below meth c H locs k n Yc.2.2.2.2.2.2.1 Yc.2.2.2.2.2.2.2 (F0 m pc ls (As.reverse ++ .ref (E.2.1 + a) :: st)) st (z_Q E (cvc x).1 (cvc x).2 (Value.ref (E.2.1 + a) :: As).toArray) (z_A E) :=
    va_runV F.1 (hM x hx) (cwV As.length F.1.2.2.2.2 hG o1 o2 o3 ⟨o4, o5.1, o5.2, o6⟩ hR) ⟨z_blind E w _, hrv, fun U hU hW => ⟨rfl, by rw [hU]; exact hH, va_K.moved hW.alike F.2.1, by rw [hU]; exact F.2.2.1.to hW hS.2.1⟩⟩ rfl rfl hl.1 rfl (lv_room hcat) hd hkn
  intro T hT X
  obtain ⟨v, st₀, t, T', L', h0, X', hL, e1, e2, ⟨⟨hv, hH'⟩, hz1, hk1⟩, stp⟩ := hrun T hT X
  cases hv
  rw [h0] at hz1 hk1
  have hS' : va_S (z_A E) s.heap T'.heap (locs ++ L') := by
    refine z_Str hS ⟨by rw [e1]; exact hz1, fun q h1 h2 => by rw [e1]; exact hk1 q h1 h2, fun q hq => ?_⟩
    rcases List.mem_append.mp hq with h | h
    · exact hS.2.2 q h
    · exact hL q h
  obtain ⟨t2, a1, b1⟩ := K T'.heap (locs ++ L') (by rw [e1]; exact hH') hS' T' rfl X'
  exact ⟨t2, stp t2 a1, b1⟩
theorem lw_call0 {β : Type} {y : MethodName} {Yc : z_Y} {cvc : β → Option Value × z_W} {As : List Value} {w : z_W} {resc : Option β} {x : β} {a idx : Nat} {kd : z_K} {q9 : vw_C} {stk : List Value} (F : lw_C E p s m c b L xs) (hM : z_Sp E l y Yc cvc (.ref (E.2.1 + a) :: As) w resc) (hx : resc = some x) (hO : z_Ok y Yc As.length) (hR : Yc.2.2.2.2.2.1.frames + 1 ≤ room_1.frames ∧ 8 + (Yc.2.2.1 + 11) + Yc.2.2.2.2.2.1.locals ≤ room_1.locals) (hkn : k ≤ room_1.cells ∧ n ≤ room_1.slots) (h0 : Yc.2.2.2.2.2.2.1 = 0 ∧ Yc.2.2.2.2.2.2.2 = 0) (ha : z_at w.1 a kd) (h8 : kd.1 < 8) (hcl : vwCl[kd.1]? = some q9) (hq9 : q9.1 = Yc.1) (hst : stk = As.reverse ++ .ref (E.2.1 + a) :: st) (hcat : (st.map fun v => v.category).sum ≤ 8) (hG : GoodIn wsL_law (wsV RL idx Yc.1 y Yc.2.2.2.1)) (hH : z_H E w H) (hS : va_S (z_A E) s.heap H locs) (hl : lv_has ls 7 lv) (pc' : Nat) (hp : pc + 3 = pc') (hd : decode cL_law pc = .ok (.invokevirtual idx, 3)) (st' : List Value) (hst' : (cvc x).1.toList ++ st = st') (w' : z_W) (hw' : (cvc x).2 = w')
    (K : ∀ (H1 : Heap) (locs1 : List Loc), z_H E w' H1 → va_S (z_A E) s.heap H1 locs1 → W p l e room_1 s m #[Value.ref b] below meth c H1 locs1 k n Q (F0 m pc' ls st')) : W p l e room_1 s m #[Value.ref b] below meth c H locs k n Q (F0 m pc ls stk) := by
  refine lw_call F hM hx hO hR (by rw [h0.1, h0.2]; exact hkn) ha h8 hcl hq9 hst hcat hG hH hS hl pc' hp hd st' hst' w' hw' (fun H1 locs1 h1 h2 => ?_)
  rw [h0.1, h0.2]
  exact K H1 locs1 h1 h2
def lw_b (x : Int32) : Int32 := if x = 0 then 0 else 1
theorem lw_bool {x : Int32} (F : lw_C E p s m c b L xs) (pc' : Nat) (hp : pc + 8 = pc') (d0 : decode cL_law pc = .ok (.ifCond .eq 7, 3)) (d1 : decode cL_law (pc + 3) = .ok (.iconst 1, 1)) (d2 : decode cL_law (pc + 4) = .ok (.goto 4, 3)) (d3 : decode cL_law (pc + 7) = .ok (.iconst 0, 1)) (K : W p l e room_1 s m #[Value.ref b] below meth c H locs k n Q (F0 m pc' ls (.int (lw_b x) :: st))) : W p l e room_1 s m #[Value.ref b] below meth c H locs k n Q (F0 m pc ls (.int x :: st)) := by
  subst hp
  refine lv_if_eq (tgt := pc + 7) F.1.1 F.1.2.1 d0 (by omega) (fun hc => ?_) (fun hc => ?_)
  · refine lv_iconst (v := 0) F.1.1 F.1.2.1 d3 rfl ?_
    rw [show lw_b x = 0 from if_pos hc] at K
    exact K
  · refine lv_iconst (v := 1) F.1.1 F.1.2.1 d1 rfl ?_
    refine lv_goto (tgt := pc + 8) F.1.1 F.1.2.1 d2 (by omega) ?_
    rw [show lw_b x = 1 from if_neg hc] at K
    exact K
end
