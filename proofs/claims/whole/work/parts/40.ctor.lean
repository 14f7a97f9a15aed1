/-! 40.ctor: making cells: the world grows -/
def z_wadd (w : z_W) (kd : z_K) : z_W := ((w.1.1 + 1, (fun a => if a = w.1.1 then kd else w.1.2.1 a), w.1.2.2), fun a k => if a = w.1.1 then 0 else w.2 a k)
def z_wref (w : z_W) (a k x : Nat) : z_W := ((w.1.1, (fun a' => if a' = a then ((w.1.2.1 a).1, (w.1.2.1 a).2.1, va_up (w.1.2.1 a).2.2 k (some x)) else w.1.2.1 a'), w.1.2.2), w.2)
def cvW : z_W → Option Value × z_W := fun w => (none, w)
theorem z_at_new (w : z_W) (kd : z_K) : z_at (z_wadd w kd).1 w.1.1 kd := ⟨Nat.lt_succ_self _, by simp [z_wadd]⟩
theorem z_at_add {w : z_W} {kd kd' : z_K} {a : Nat} (h : z_at w.1 a kd') : z_at (z_wadd w kd).1 a kd' := ⟨Nat.lt_succ_of_lt h.1, by
  have h1 : a ≠ w.1.1 := Nat.ne_of_lt h.1
  simp only [z_wadd, if_neg h1]
  exact h.2⟩
theorem z_at_ref {w : z_W} {kd : z_K} {a : Nat} (k x : Nat) (h : z_at w.1 a kd) : z_at (z_wref w a k x).1 a (kd.1, kd.2.1, va_up kd.2.2 k (some x)) := ⟨h.1, by
  show (if a = a then ((w.1.2.1 a).1, (w.1.2.1 a).2.1, va_up (w.1.2.1 a).2.2 k (some x)) else w.1.2.1 a) = _
  rw [if_pos rfl, h.2]⟩
theorem z_at_refo {w : z_W} {kd : z_K} {a a' : Nat} (k x : Nat) (hne : a' ≠ a) (h : z_at w.1 a' kd) : z_at (z_wref w a k x).1 a' kd := ⟨h.1, by
  simp only [z_wref, if_neg hne]
  exact h.2⟩
theorem z_Ladd (w : z_W) (kd : z_K) (h : kd.1 ≠ 15) : z_L (z_wadd w kd).1 = z_L w.1 ++ [w.1.1] := by
  unfold z_L
  show (List.range (w.1.1 + 1)).filter _ = _
  rw [List.range_succ, List.filter_append]
  congr 1
  · apply List.filter_congr
    intro a ha
    have h1 : a ≠ w.1.1 := Nat.ne_of_lt (List.mem_range.mp ha)
    simp [z_wadd, h1]
  · simp [z_wadd, h]
theorem z_inL {S : z_S} {a : Nat} (h : a ∈ z_L S) : a < S.1 := List.mem_range.mp (List.mem_filter.mp h).1
theorem z_wsadd (E : z_E) (w : z_W) (kd : z_K) (h : kd.1 ≠ 15) : z_ws E (z_wadd w kd) = z_ws E w ++ [(E.2.1 + w.1.1, z_cell E kd (w.1.2.2 w.1.1) (fun _ => 0))] := by
  unfold z_ws va_pl
  rw [z_Ladd w kd h, List.map_append, List.map_append]
  congr 1
  · rw [List.map_map, List.map_map]
    apply List.map_congr_left
    intro a ha
    have h1 : a ≠ w.1.1 := Nat.ne_of_lt (z_inL ha)
    show (E.2.1 + a, z_f E (z_wadd w kd) (E.2.1 + a)) = (E.2.1 + a, z_f E w (E.2.1 + a))
    rw [z_fat, z_fat]
    simp [z_wadd, h1]
  · show [(E.2.1 + w.1.1, z_f E (z_wadd w kd) (E.2.1 + w.1.1))] = _
    rw [z_fat]
    simp [z_wadd]
theorem z_setR (E : z_E) (w : z_W) {a k x : Nat} {kd : z_K} (h : z_at w.1 a kd) (h15 : kd.1 ≠ 15) {p : Nat} (hp : (z_ws E w)[p]? = some (E.2.1 + a, z_cell E kd (w.1.2.2 a) (w.2 a))) :
    (z_ws E w).set p (E.2.1 + a, z_cell E (kd.1, kd.2.1, va_up kd.2.2 k (some x)) (w.1.2.2 a) (w.2 a)) = z_ws E (z_wref w a k x) := by
  have hm := z_addr (E := E) (z_live (S := w.1) h.1 (by rw [h.2]; exact h15))
  have hp2 : ([] ++ va_pl ((z_L w.1).map (fun a => E.2.1 + a)) (z_f E w))[p]? = some (E.2.1 + a, z_f E w (E.2.1 + a)) := by
    rw [z_fat]; exact hp.trans (by rw [← h.2])
  have h1 := va_pl_set (X := []) (A := z_A E) (e := z_cell E (kd.1, kd.2.1, va_up kd.2.2 k (some x)) (w.1.2.2 a) (w.2 a)) (z_dd E w) hm hp2
  refine h1.trans ?_
  have hL : z_L (z_wref w a k x).1 = z_L w.1 := by
    unfold z_L
    apply List.filter_congr
    intro b _
    by_cases hb : b = a
    · subst hb
      simp [z_wref]
    · simp [z_wref, hb]
  show va_pl _ _ = va_pl _ _
  rw [hL]
  refine List.map_congr_left (fun q hq => ?_)
  obtain ⟨b, -, rfl⟩ := List.mem_map.mp hq
  rw [z_fat]
  by_cases hab : b = a
  · subst hab
    rw [va_up_self]
    refine congrArg (fun z => (E.2.1 + b, z)) ?_
    have e : (z_wref w b k x).1.2.1 b = (kd.1, kd.2.1, va_up kd.2.2 k (some x)) := (z_at_ref k x h).2
    rw [e]
    rfl
  · rw [va_up_ne _ _ (fun h => hab (Nat.add_left_cancel h)), z_fat]
    simp only [z_wref, if_neg hab]
section
variable {α : Type} {E : z_E} {l : Launch} {Y : z_Y} {cv : α → Option Value × z_W} {res : Option α} {pc : Nat} {lv : List (Nat × Value)} {st : List Value} {w : z_W} {k n : Nat}
/-- the world behind a new cell -/
theorem z_born {p : Program} {s : State} {m : MethodId} {args : Array Value} {meth : Method} {c : Code} {H H1 : Heap} {locs : List Loc} {ls : Array Slot} {kd : z_K} (C : z_C E Y p s m args meth c lv w H locs ls k) (h15 : kd.1 ≠ 15) (hcell : va_at E.1 vwCl (E.2.1 + w.1.1, z_cell E kd (w.1.2.2 w.1.1) (fun _ => 0)) H1) (z1 : H1.size = H.size + 1) (o1 : ∀ q : Nat, q < H.size → H1[q]? = H[q]?) : z_C E Y p s m args meth c lv (z_wadd w kd) H1 locs ls (k + 1) := by
  obtain ⟨c1, c2, c3, c4, ⟨c5, c6⟩, c7, c8, c9⟩ := C
  refine ⟨c1, c2, c3, c4, ⟨c5, by show s.heap.size + (k + 1) = E.2.1 + (w.1.1 + 1); omega⟩, ⟨?_, by rw [z1, c7.2]; rfl⟩, ⟨Nat.le_trans c8.1 (by omega), fun x h1 h2 => (o1 x (Nat.lt_of_lt_of_le h1 c8.1)).trans (c8.2.1 x h1 h2), c8.2.2⟩, c9⟩
  rw [z_wsadd E w kd h15]
  refine (c7.1.kept (fun j x hx => o1 x.1 ((c7.1 j x hx).lt))).app (fun j x hx => ?_)
  have hz : j < 1 := (List.getElem?_eq_some_iff.mp hx).1
  rw [show j = 0 by omega] at hx
  cases hx
  exact hcell
theorem r_new {ci N : Nat} {C9 : String} {T : u_T} {idx : Nat} {KB : z_W → Option α} (hc : vwCl[ci]? = some (C9, T, N)) (h8 : ci < 8) (hin : ∀ w ∈ u_ws C9 T N, w ∈ Y.2.2.2.1) (ty0 : Nat → FieldType) (hty : ∀ k, k < N → parseFieldDescriptor (T k).2.2.1 = some (ty0 k)) (hcl : Cond.classLink Y.1 idx C9 ∈ Y.2.2.2.1) (hinst : Cond.instantiable C9 N ∈ Y.2.2.2.1) (hini : Cond.initialized C9 ∈ Y.2.2.2.1) (hdef : ∀ j, j < N → defaultValue (ty0 j) = z_fv E.2.1 ci z_nn (fun _ => 0) j) (hk : k + 1 ≤ Y.2.2.2.2.2.1.cells) (hn : n + N ≤ Y.2.2.2.2.2.1.slots) (pc' : Nat) (hp : pc + 3 = pc') (hd : decode Y.2.1 pc = .ok (.new idx, 3)) (K : ∀ w', w' = z_wadd w (ci, N, z_nn) → z_G E l Y cv (KB w') pc' lv (.ref (E.2.1 + w.1.1) :: st) w' (k + 1) (n + N)) : z_G E l Y cv (z_nam (z_wadd w (ci, N, z_nn)) KB) pc lv st w k n := by
  subst hp
  intro z hz p e s m args below meth c H locs ls C
  have ht := C.1.2.2.2.2
  have hKn := C.2.2.1.1 ci _ hc
  refine W.newcK C.1.1 C.1.2.1 C.1.2.2.2.1 (ht _ hcl) (ht _ hinst) (ht _ hini) rfl hd hk hn hKn.2.1 (h := E.2.1 + w.1.1) C.2.2.2.2.2.1.2 fun H1 kC hkC e1 z1 o1 => ?_
  refine K _ rfl z hz p e s m args below meth c H1 locs ls (z_born C (by show ci ≠ 15; omega) ?_ (by rw [z1, C.2.2.2.2.2.1.2]) (fun q hq => o1 q (by rw [← C.2.2.2.2.2.1.2]; exact hq)))
  rw [z_cell, if_pos h8]
  refine ⟨_, hc, (u_born ty0 ht hin hKn hkC e1 hty).to (fun j hj => ?_)⟩
  rw [hdef j hj]
  show _ = ((List.range N).map (z_fv E.2.1 ci z_nn (fun _ => 0))).getD j .null
  rw [List.getD_eq_getElem?_getD, List.getElem?_map, List.getElem?_range hj]
  rfl
theorem r_objInit {a idx : Nat} (h1 : Cond.methodLink Y.1 idx Lib.objectInit ∈ Y.2.2.2.1) (h2 : Cond.instanceMethod Lib.objectInit ∈ Y.2.2.2.1) (h3 : Cond.code Lib.objectInit ⟨#[0xb1]⟩ 1 none ∈ Y.2.2.2.1) (hf : 1 ≤ Y.2.2.2.2.2.1.frames) (hl : (st.map fun v => v.category).sum + 12 ≤ Y.2.2.2.2.2.1.locals) (pc' : Nat) (hp : pc + 3 = pc') (hd : decode Y.2.1 pc = .ok (.invokespecial idx, 3)) (K : z_G E l Y cv res pc' lv st w k n) : z_G E l Y cv res pc lv (.ref a :: st) w k n := by
  subst hp
  intro z hz p e s m args below meth c H locs ls C
  have ht := C.1.2.2.2.2
  exact W.objInit C.1.1 C.1.2.1 C.1.2.2.2.1 (ht _ h1) (ht _ h2) (ht _ h3) rfl (C.2.2.2.2.2.2.2.1.trans C.1.2.2.1.symm) rfl hd hf (by show 2 * 0 + _ + 12 ≤ _; omega) (K z hz p e s m args below meth c H locs ls C)
theorem r_newa8 {x : Int32} {N : Nat} {KB : z_W → Option α} (harr : Cond.arrayClass .int ∈ Y.2.2.2.1) (hx : ¬ x < 0) (hN : x.toNatClampNeg = N) (hb : N * componentBytes .int ≤ 536870912) (hk : k + 1 ≤ Y.2.2.2.2.2.1.cells) (hn : n + N ≤ Y.2.2.2.2.2.1.slots) (pc' : Nat) (hp : pc + 2 = pc') (hd : decode Y.2.1 pc = .ok (.newarray .int, 2)) (K : ∀ w', w' = z_wadd w (8, N, z_nn) → z_G E l Y cv (KB w') pc' lv (.ref (E.2.1 + w.1.1) :: st) w' (k + 1) (n + N)) : z_G E l Y cv (z_nam (z_wadd w (8, N, z_nn)) KB) pc lv (.int x :: st) w k n := by
  subst hp
  intro z hz p e s m args below meth c H locs ls C
  refine va_newaK (atype := .int) C.1.1 C.1.2.1 (C.1.2.2.2.2 _ harr) rfl hd rfl hx hN hb hk hn (h := E.2.1 + w.1.1) C.2.2.2.2.2.1.2 fun H1 cA e1 z1 o1 hAr hNm => ?_
  have hcA : cA = E.2.2.1 8 := Option.some.inj (hNm.symm.trans (C.2.2.1.2 0 (E.2.2.1 8, .int) rfl).2)
  subst hcA
  refine K _ rfl z hz p e s m args below meth c H1 locs ls (z_born C (by show 8 ≠ 15; decide) ?_ (by rw [z1, C.2.2.2.2.2.1.2]) (fun q hq => o1 q (by rw [← C.2.2.2.2.2.1.2]; exact hq)))
  exact e1
theorem r_newa9 {x : Int32} {N : Nat} {KB : z_W → Option α} (harr : Cond.arrayClass .boolean ∈ Y.2.2.2.1) (hx : ¬ x < 0) (hN : x.toNatClampNeg = N) (hb : N * componentBytes .boolean ≤ 536870912) (hk : k + 1 ≤ Y.2.2.2.2.2.1.cells) (hn : n + N ≤ Y.2.2.2.2.2.1.slots) (pc' : Nat) (hp : pc + 2 = pc') (hd : decode Y.2.1 pc = .ok (.newarray .boolean, 2)) (K : ∀ w', w' = z_wadd w (9, N, z_nn) → z_G E l Y cv (KB w') pc' lv (.ref (E.2.1 + w.1.1) :: st) w' (k + 1) (n + N)) : z_G E l Y cv (z_nam (z_wadd w (9, N, z_nn)) KB) pc lv (.int x :: st) w k n := by
  subst hp
  intro z hz p e s m args below meth c H locs ls C
  refine va_newaK (atype := .boolean) C.1.1 C.1.2.1 (C.1.2.2.2.2 _ harr) rfl hd rfl hx hN hb hk hn (h := E.2.1 + w.1.1) C.2.2.2.2.2.1.2 fun H1 cA e1 z1 o1 hAr hNm => ?_
  have hcA : cA = E.2.2.1 9 := Option.some.inj (hNm.symm.trans (C.2.2.1.2 1 (E.2.2.1 9, .boolean) rfl).2)
  subst hcA
  refine K _ rfl z hz p e s m args below meth c H1 locs ls (z_born C (by show 9 ≠ 15; decide) ?_ (by rw [z1, C.2.2.2.2.2.1.2]) (fun q hq => o1 q (by rw [← C.2.2.2.2.2.1.2]; exact hq)))
  exact e1
theorem r_newa10 {x : Int32} {N : Nat} {KB : z_W → Option α} (harr : Cond.arrayClass .byte ∈ Y.2.2.2.1) (hx : ¬ x < 0) (hN : x.toNatClampNeg = N) (hb : N * componentBytes .byte ≤ 536870912) (hk : k + 1 ≤ Y.2.2.2.2.2.1.cells) (hn : n + N ≤ Y.2.2.2.2.2.1.slots) (pc' : Nat) (hp : pc + 2 = pc') (hd : decode Y.2.1 pc = .ok (.newarray .byte, 2)) (K : ∀ w', w' = z_wadd w (10, N, z_nn) → z_G E l Y cv (KB w') pc' lv (.ref (E.2.1 + w.1.1) :: st) w' (k + 1) (n + N)) : z_G E l Y cv (z_nam (z_wadd w (10, N, z_nn)) KB) pc lv (.int x :: st) w k n := by
  subst hp
  intro z hz p e s m args below meth c H locs ls C
  refine va_newaK (atype := .byte) C.1.1 C.1.2.1 (C.1.2.2.2.2 _ harr) rfl hd rfl hx hN hb hk hn (h := E.2.1 + w.1.1) C.2.2.2.2.2.1.2 fun H1 cA e1 z1 o1 hAr hNm => ?_
  have hcA : cA = E.2.2.1 10 := Option.some.inj (hNm.symm.trans (C.2.2.1.2 2 (E.2.2.1 10, .byte) rfl).2)
  subst hcA
  refine K _ rfl z hz p e s m args below meth c H1 locs ls (z_born C (by show 10 ≠ 15; decide) ?_ (by rw [z1, C.2.2.2.2.2.1.2]) (fun q hq => o1 q (by rw [← C.2.2.2.2.2.1.2]; exact hq)))
  exact e1
theorem r_newa11 {x : Int32} {N idx : Nat} {KB : z_W → Option α} (hcl : Cond.classLink Y.1 idx RX3 ∈ Y.2.2.2.1) (hx : ¬ x < 0) (hN : x.toNatClampNeg = N) (hb : N * 4 ≤ 536870912) (hk : k + 1 ≤ Y.2.2.2.2.2.1.cells) (hn : n + N ≤ Y.2.2.2.2.2.1.slots) (pc' : Nat) (hp : pc + 3 = pc') (hd : decode Y.2.1 pc = .ok (.anewarray idx, 3)) (K : ∀ w', w' = z_wadd w (11, N, z_nn) → z_G E l Y cv (KB w') pc' lv (.ref (E.2.1 + w.1.1) :: st) w' (k + 1) (n + N)) : z_G E l Y cv (z_nam (z_wadd w (11, N, z_nn)) KB) pc lv (.int x :: st) w k n := by
  subst hp
  subst hN
  intro z hz p e s m args below meth c H locs ls C
  refine W.anew C.1.1 C.1.2.1 C.1.2.2.2.1 (C.1.2.2.2.2 _ hcl) (va_AO.use C.2.2.2.1.2.2.2.2.2.2.2.1) rfl hd rfl hx hb hk hn fun cA kA comp f1 f2 f3 f4 => ?_
  have hcA : cA = E.2.2.1 11 := by
    obtain ⟨kA2, comp2, g1, g2, g3, g4⟩ := (C.2.2.1.2 3 (E.2.2.1 11, .object RX3) rfl).2
    exact Option.some.inj (f1.symm.trans g4)
  subst hcA
  generalize hH1 : H.push ({ cls := E.2.2.1 11, slots := Array.replicate x.toNatClampNeg .null, vm := .none } : Cell) = H1
  have z1 : H1.size = H.size + 1 := by rw [← hH1, Array.size_push]
  have e1 : H1[H.size]? = some (arrV (E.2.2.1 11) x.toNatClampNeg (fun _ => .null)) := by rw [← hH1, Array.getElem?_push_size, ← arrV_new]
  have o1 : ∀ q : Nat, q < H.size → H1[q]? = H[q]? := fun q hq => by rw [← hH1, Array.getElem?_push, if_neg (Nat.ne_of_lt hq)]
  have hsz := C.2.2.2.2.2.1.2
  rw [hsz] at e1 ⊢
  refine K _ rfl z hz p e s m args below meth c H1 locs ls (z_born C (by show 11 ≠ 15; decide) ?_ z1 o1)
  exact e1
theorem r_newa12 {x : Int32} {N idx : Nat} {KB : z_W → Option α} (hcl : Cond.classLink Y.1 idx RX4 ∈ Y.2.2.2.1) (hx : ¬ x < 0) (hN : x.toNatClampNeg = N) (hb : N * 4 ≤ 536870912) (hk : k + 1 ≤ Y.2.2.2.2.2.1.cells) (hn : n + N ≤ Y.2.2.2.2.2.1.slots) (pc' : Nat) (hp : pc + 3 = pc') (hd : decode Y.2.1 pc = .ok (.anewarray idx, 3)) (K : ∀ w', w' = z_wadd w (12, N, z_nn) → z_G E l Y cv (KB w') pc' lv (.ref (E.2.1 + w.1.1) :: st) w' (k + 1) (n + N)) : z_G E l Y cv (z_nam (z_wadd w (12, N, z_nn)) KB) pc lv (.int x :: st) w k n := by
  subst hp
  subst hN
  intro z hz p e s m args below meth c H locs ls C
  refine W.anew C.1.1 C.1.2.1 C.1.2.2.2.1 (C.1.2.2.2.2 _ hcl) (va_AO.use C.2.2.2.1.2.2.2.2.2.2.2.2) rfl hd rfl hx hb hk hn fun cA kA comp f1 f2 f3 f4 => ?_
  have hcA : cA = E.2.2.1 12 := by
    obtain ⟨kA2, comp2, g1, g2, g3, g4⟩ := (C.2.2.1.2 4 (E.2.2.1 12, .object RX4) rfl).2
    exact Option.some.inj (f1.symm.trans g4)
  subst hcA
  generalize hH1 : H.push ({ cls := E.2.2.1 12, slots := Array.replicate x.toNatClampNeg .null, vm := .none } : Cell) = H1
  have z1 : H1.size = H.size + 1 := by rw [← hH1, Array.size_push]
  have e1 : H1[H.size]? = some (arrV (E.2.2.1 12) x.toNatClampNeg (fun _ => .null)) := by rw [← hH1, Array.getElem?_push_size, ← arrV_new]
  have o1 : ∀ q : Nat, q < H.size → H1[q]? = H[q]? := fun q hq => by rw [← hH1, Array.getElem?_push, if_neg (Nat.ne_of_lt hq)]
  have hsz := C.2.2.2.2.2.1.2
  rw [hsz] at e1 ⊢
  refine K _ rfl z hz p e s m args below meth c H1 locs ls (z_born C (by show 12 ≠ 15; decide) ?_ z1 o1)
  exact e1
theorem z_fvsetR {b ci N kf x : Nat} {rf : Nat → Option Nat} {da : Nat → Int32} (hr : z_ref ci kf = true) : ((List.range N).map (z_fv b ci rf da)).set kf (.ref (b + x)) = (List.range N).map (z_fv b ci (va_up rf kf (some x)) da) := by
  apply List.ext_getElem?
  intro i
  by_cases hi : i = kf
  · subst hi
    by_cases hN : i < N
    · rw [List.getElem?_set_self (by simpa using hN), List.getElem?_map, List.getElem?_range hN]
      simp [z_fv, hr, va_up, z_sh, va_rf]
    · rw [List.getElem?_eq_none (by simp; omega), List.getElem?_eq_none (by simp; omega)]
  · rw [List.getElem?_set_ne (Ne.symm hi), List.getElem?_map, List.getElem?_map]
    cases h : (List.range N)[i]? with
    | none => rfl
    | some j =>
      have hj : j = i := by
        have h1 := (List.getElem?_eq_some_iff.mp h)
        obtain ⟨h2, h3⟩ := h1
        rw [List.getElem_range] at h3
        exact h3.symm
      subst hj
      simp [z_fv, va_up, hi]
theorem r_putr {a x kf : Nat} {kd : z_K} {ci N : Nat} {C9 : String} {T : u_T} {idx : Nat} {ty : FieldType} {y9 : MethodName} {b9 : ByteArray} {n9 : Nat} {r9 : Option FieldType} {KB : z_W → Option α} (ha : z_at w.1 a kd) (hci : kd.1 = ci) (h8 : ci < 8) (hN : kd.2.1 = N) (hc : vwCl[ci]? = some (C9, T, N)) (hin : ∀ w ∈ u_ws C9 T N, w ∈ Y.2.2.2.1) (ty0 : Nat → FieldType) (hty : ∀ k, k < N → parseFieldDescriptor (T k).2.2.1 = some (ty0 k)) (hnm : ∀ a, a < N → ∀ b, b < N → a ≠ b → (T a).2.1 ≠ (T b).2.1) (hkf : kf < N) (hT : (T kf).1 = C9) (hY : C9 = Y.1) (hlink : Cond.fieldLink Y.1 idx C9 (T kf).2.1 (T kf).2.2.1 ∈ Y.2.2.2.1) (hfin : (T kf).2.2.2 = true) (hr : z_ref ci kf = true) (hpd : parseFieldDescriptor (T kf).2.2.1 = some ty) (hnar : narrow ty (.ref (E.2.1 + x)) = .ref (E.2.1 + x)) (hfit : fits ty (.ref (E.2.1 + x)) = true) (hhd : Y.2.2.2.1.head? = some (Cond.code y9 b9 n9 r9)) (hy9 : y9.name = "<init>") (pc' : Nat) (hp : pc + 3 = pc') (hd : decode Y.2.1 pc = .ok (.putfield idx, 3)) (K : ∀ w', w' = z_wref w a kf x → z_G E l Y cv (KB w') pc' lv st w' k n) : z_G E l Y cv (z_nam (z_wref w a kf x) KB) pc lv (.ref (E.2.1 + x) :: .ref (E.2.1 + a) :: st) w k n := by
  subst hp
  subst hci
  subst hN
  intro z hz p e s m args below meth c H locs ls C
  obtain ⟨q, hq⟩ := z_get E w ha.1 ha.2 (by omega)
  have hq0 := hq
  rw [z_cell, if_pos h8] at hq
  refine va_putF C.1.1 C.1.2.1 C.1.2.2.2.2 hin ty0 hty hnm C.1.2.2.2.1 C.2.2.1 C.2.2.2.2.2.1.1 (z_dd E w) (z_own C) q hq hc kf hkf (C.1.2.2.2.2 _ hlink) (by rw [hT]; exact fun _ h9 => h9) hfin ((C.2.1.2.2 _ _ _ _ hhd).trans hy9) (hT.trans hY) hpd hnar hfit (by simpa using hkf) hd (fun H1 locs1 hP1 _ hS1 => ?_)
  rw [z_fvsetR hr] at hP1
  have hs := z_setR E w (k := kf) (x := x) ha (by omega) hq0
  have hc1 : z_cell E (kd.1, kd.2.1, va_up kd.2.2 kf (some x)) (w.1.2.2 a) (w.2 a) = .inr (kd.1, (List.range kd.2.1).map (z_fv E.2.1 kd.1 (va_up kd.2.2 kf (some x)) (w.2 a))) := if_pos h8
  rw [hc1] at hs
  rw [hs] at hP1
  exact z_mv C (w' := z_wref w a kf x) rfl hP1 hS1 (fun C1 => K _ rfl z hz p e s m args below meth c H1 locs1 ls C1)
theorem r_ast11 {a x j N : Nat} {kd kx : z_K} {i : Int32} {KB : z_W → Option α} (ha : z_at w.1 a kd) (ht : kd.1 = 11) (hN : kd.2.1 = N) (hx : z_at w.1 x kx) (hcx : kx.1 = 2) (hi : ¬ (i < 0 ∨ N ≤ i.toNatClampNeg)) (hj : i.toNatClampNeg = j) (pc' : Nat) (hp : pc + 1 = pc') (hd : decode Y.2.1 pc = .ok (.aastore, 1)) (K : ∀ w', w' = z_wref w a j x → z_G E l Y cv (KB w') pc' lv st w' k n) : z_G E l Y cv (z_nam (z_wref w a j x) KB) pc lv (.ref (E.2.1 + x) :: .int i :: .ref (E.2.1 + a) :: st) w k n := by
  subst hp
  subst hN
  subst hj
  intro z hz p e s m args below meth c H locs ls C
  obtain ⟨q, hq⟩ := z_get E w ha.1 ha.2 (by omega)
  obtain ⟨qx, hqx⟩ := z_get E w hx.1 hx.2 (by omega)
  have hq0 := hq
  rw [z_cell, if_neg (by omega), if_neg (by omega), if_pos (by omega), ht] at hq
  rw [z_cell, if_pos (by omega), hcx] at hqx
  refine va_astq C.1.1 C.1.2.1 C.2.2.1 C.2.2.2.2.2.1.1 (z_dd E w) (z_own C) q 3 qx 2 hq (r := (RX3, TX3, 10)) rfl hqx rfl hi hd (fun H1 locs1 hP1 _ hS1 => ?_)
  have hs := z_setR E w (k := i.toNatClampNeg) (x := x) ha (by omega) hq0
  have hc1 : z_cell E (kd.1, kd.2.1, va_up kd.2.2 i.toNatClampNeg (some x)) (w.1.2.2 a) (w.2 a) = .inl (E.2.2.1 11, kd.2.1, .inr (.inr (.inr (.inr (va_up (fun k => z_sh E.2.1 (kd.2.2 k)) i.toNatClampNeg (some (E.2.1 + x))))))) := by
    rw [z_cell]
    show (if kd.1 < 8 then _ else if kd.1 < 11 then _ else if kd.1 < 13 then _ else _) = _
    rw [if_neg (by omega), if_neg (by omega), if_pos (by omega), ht]
    have hf : (fun k => z_sh E.2.1 (va_up kd.2.2 i.toNatClampNeg (some x) k)) = va_up (fun k => z_sh E.2.1 (kd.2.2 k)) i.toNatClampNeg (some (E.2.1 + x)) := by
      funext j9
      by_cases h9 : j9 = i.toNatClampNeg
      · simp [va_up, h9, z_sh]
      · simp [va_up, h9]
    exact congrArg (fun f => (Sum.inl (E.2.2.1 11, kd.2.1, Sum.inr (Sum.inr (Sum.inr (Sum.inr f)))) : va_E)) hf
  rw [hc1] at hs
  rw [hs] at hP1
  exact z_mv C (w' := z_wref w a i.toNatClampNeg x) rfl hP1 hS1 (fun C1 => K _ rfl z hz p e s m args below meth c H1 locs1 ls C1)
theorem r_ast12 {a x j N : Nat} {kd kx : z_K} {i : Int32} {KB : z_W → Option α} (ha : z_at w.1 a kd) (ht : kd.1 = 12) (hN : kd.2.1 = N) (hx : z_at w.1 x kx) (hcx : kx.1 = 3) (hi : ¬ (i < 0 ∨ N ≤ i.toNatClampNeg)) (hj : i.toNatClampNeg = j) (pc' : Nat) (hp : pc + 1 = pc') (hd : decode Y.2.1 pc = .ok (.aastore, 1)) (K : ∀ w', w' = z_wref w a j x → z_G E l Y cv (KB w') pc' lv st w' k n) : z_G E l Y cv (z_nam (z_wref w a j x) KB) pc lv (.ref (E.2.1 + x) :: .int i :: .ref (E.2.1 + a) :: st) w k n := by
  subst hp
  subst hN
  subst hj
  intro z hz p e s m args below meth c H locs ls C
  obtain ⟨q, hq⟩ := z_get E w ha.1 ha.2 (by omega)
  obtain ⟨qx, hqx⟩ := z_get E w hx.1 hx.2 (by omega)
  have hq0 := hq
  rw [z_cell, if_neg (by omega), if_neg (by omega), if_pos (by omega), ht] at hq
  rw [z_cell, if_pos (by omega), hcx] at hqx
  refine va_astq C.1.1 C.1.2.1 C.2.2.1 C.2.2.2.2.2.1.1 (z_dd E w) (z_own C) q 4 qx 3 hq (r := (RX4, TX4, 20)) rfl hqx rfl hi hd (fun H1 locs1 hP1 _ hS1 => ?_)
  have hs := z_setR E w (k := i.toNatClampNeg) (x := x) ha (by omega) hq0
  have hc1 : z_cell E (kd.1, kd.2.1, va_up kd.2.2 i.toNatClampNeg (some x)) (w.1.2.2 a) (w.2 a) = .inl (E.2.2.1 12, kd.2.1, .inr (.inr (.inr (.inr (va_up (fun k => z_sh E.2.1 (kd.2.2 k)) i.toNatClampNeg (some (E.2.1 + x))))))) := by
    rw [z_cell]
    show (if kd.1 < 8 then _ else if kd.1 < 11 then _ else if kd.1 < 13 then _ else _) = _
    rw [if_neg (by omega), if_neg (by omega), if_pos (by omega), ht]
    have hf : (fun k => z_sh E.2.1 (va_up kd.2.2 i.toNatClampNeg (some x) k)) = va_up (fun k => z_sh E.2.1 (kd.2.2 k)) i.toNatClampNeg (some (E.2.1 + x)) := by
      funext j9
      by_cases h9 : j9 = i.toNatClampNeg
      · simp [va_up, h9, z_sh]
      · simp [va_up, h9]
    exact congrArg (fun f => (Sum.inl (E.2.2.1 12, kd.2.1, Sum.inr (Sum.inr (Sum.inr (Sum.inr f)))) : va_E)) hf
  rw [hc1] at hs
  rw [hs] at hP1
  exact z_mv C (w' := z_wref w a i.toNatClampNeg x) rfl hP1 hS1 (fun C1 => K _ rfl z hz p e s m args below meth c H1 locs1 ls C1)
end
/-! what a constructor leaves alone, and what it makes -/
def z_kp (w w' : z_W) (o : Nat) : Prop := w.1.1 ≤ w'.1.1 ∧ w'.1.2.2 = w.1.2.2 ∧ ∀ a, a < w.1.1 → a ≠ o → w'.1.2.1 a = w.1.2.1 a ∧ w'.2 a = w.2 a
theorem z_kp.rf {w : z_W} {o : Nat} : z_kp w w o := ⟨Nat.le_refl _, rfl, fun _ _ _ => ⟨rfl, rfl⟩⟩
theorem z_kp.tr {w w1 w2 : z_W} {o o' : Nat} (h1 : z_kp w w1 o) (h2 : z_kp w1 w2 o') (ho : o' = o ∨ w.1.1 ≤ o') : z_kp w w2 o := by
  refine ⟨Nat.le_trans h1.1 h2.1, h2.2.1.trans h1.2.1, fun a ha hne => ?_⟩
  have h3 : a ≠ o' := by rcases ho with h | h <;> omega
  have h4 := h1.2.2 a ha hne
  have h5 := h2.2.2 a (Nat.lt_of_lt_of_le ha h1.1) h3
  exact ⟨h5.1.trans h4.1, h5.2.trans h4.2⟩
theorem z_kp_add (w : z_W) (kd : z_K) (o : Nat) : z_kp w (z_wadd w kd) o := ⟨Nat.le_succ _, rfl, fun a ha _ => by
  have h1 : a ≠ w.1.1 := Nat.ne_of_lt ha
  constructor
  · simp only [z_wadd, if_neg h1]
  · funext k
    simp only [z_wadd, if_neg h1]⟩
theorem z_kp_ref (w : z_W) (o k x : Nat) : z_kp w (z_wref w o k x) o := ⟨Nat.le_refl _, rfl, fun a _ hne => ⟨by simp only [z_wref, if_neg hne], rfl⟩⟩
theorem z_kp_put (w : z_W) (o k : Nat) (v : Int32) : z_kp w (w.1, z_up w.2 o k v) o := ⟨Nat.le_refl _, rfl, fun a _ hne => ⟨rfl, by funext j; simp [z_up, hne]⟩⟩
theorem z_kp.at {w w' : z_W} {o a : Nat} {kd : z_K} (h : z_kp w w' o) (ha : z_at w.1 a kd) (hne : a ≠ o) : z_at w'.1 a kd := ⟨Nat.lt_of_lt_of_le ha.1 h.1, (h.2.2 a ha.1 hne).1.trans ha.2⟩
theorem A_Course.kp {w w' : z_W} {o b : Nat} (h : z_kp w w' o) (hA : A_Course w.1 b) (hne : o < b ∨ b + 5 ≤ o) : A_Course w'.1 b := fun i hi => h.at (hA i hi) (by omega)
theorem A_Prizes.kp {w w' : z_W} {o b : Nat} (h : z_kp w w' o) (hA : A_Prizes w.1 b) (hne : o < b ∨ b + 4 ≤ o) : A_Prizes w'.1 b := fun i hi => h.at (hA i hi) (by omega)
theorem A_Stage.kp {w w' : z_W} {o b : Nat} (h : z_kp w w' o) (hA : A_Stage w.1 b) (hne : o < b ∨ b + 21 ≤ o) : A_Stage w'.1 b := fun i hi => h.at (hA i hi) (by omega)
theorem A_Standings.kp {w w' : z_W} {o b : Nat} (h : z_kp w w' o) (hA : A_Standings w.1 b) (hne : o < b ∨ b + 5 ≤ o) : A_Standings w'.1 b := fun i hi => h.at (hA i hi) (by omega)
theorem A_Tape.kp {w w' : z_W} {o b : Nat} (h : z_kp w w' o) (hA : A_Tape w.1 b) (hne : o < b ∨ b + 2 ≤ o) : A_Tape w'.1 b := fun i hi => h.at (hA i hi) (by omega)
theorem A_Model.kp {w w' : z_W} {o b : Nat} (h : z_kp w w' o) (hA : A_Model w.1 b) (hne : o < b ∨ b + 10 ≤ o) : A_Model w'.1 b := fun i hi => h.at (hA i hi) (by omega)
theorem A_Race.kp {w w' : z_W} {o b : Nat} (h : z_kp w w' o) (hA : A_Race w.1 b) (hne : o < b ∨ b + 173 ≤ o) : A_Race w'.1 b := ⟨fun i hi => h.at (hA.1 i hi) (by omega), fun j hj => (hA.2 j hj).kp h (by omega)⟩
/-- a new cell, and its address into a field -/
def z_mk (w : z_W) (o k : Nat) (kd : z_K) : z_W := z_wref (z_wadd w kd) o k w.1.1
def z_mks (o : Nat) : List (Nat × z_K) → z_W → z_W
  | [], w => w
  | p :: l, w => z_mks o l (z_mk w o p.1 p.2)
def z_rfs (b : Nat) : List (Nat × z_K) → (Nat → Option Nat) → Nat → Option Nat
  | [], f => f
  | p :: l, f => z_rfs (b + 1) l (va_up f p.1 (some b))
theorem z_mks_ok (o : Nat) : ∀ (l : List (Nat × z_K)) (w : z_W) (t N : Nat) (f : Nat → Option Nat), z_at w.1 o (t, N, f) → (z_mks o l w).1.1 = w.1.1 + l.length ∧ z_kp w (z_mks o l w) o ∧ z_at (z_mks o l w).1 o (t, N, z_rfs w.1.1 l f) ∧ (∀ i p, l[i]? = some p → z_at (z_mks o l w).1 (w.1.1 + i) p.2) ∧ (z_mks o l w).2 o = w.2 o ∧ ∀ i k, i < l.length → (z_mks o l w).2 (w.1.1 + i) k = 0
  | [], w, t, N, f, h => ⟨rfl, z_kp.rf, h, fun i p hp => by simp at hp, rfl, fun i k hi => absurd hi (Nat.not_lt_zero i)⟩
  | p :: l, w, t, N, f, h => by
    have ho : o < w.1.1 := h.1
    have h1 : z_at (z_mk w o p.1 p.2).1 o (t, N, va_up f p.1 (some w.1.1)) := z_at_ref p.1 w.1.1 (z_at_add h)
    have hk1 : z_kp w (z_mk w o p.1 p.2) o := (z_kp_add w p.2 o).tr (z_kp_ref _ o p.1 w.1.1) (Or.inl rfl)
    have hn : z_at (z_mk w o p.1 p.2).1 w.1.1 p.2 := z_at_refo p.1 w.1.1 (by omega) (z_at_new w p.2)
    have hs : (z_mk w o p.1 p.2).1.1 = w.1.1 + 1 := rfl
    obtain ⟨a1, a2, a3, a4, a5, a6⟩ := z_mks_ok o l (z_mk w o p.1 p.2) t N _ h1
    rw [hs] at a1 a3 a4 a6
    refine ⟨by show (z_mks o l (z_mk w o p.1 p.2)).1.1 = _; rw [a1, List.length_cons]; omega, hk1.tr a2 (Or.inl rfl), a3, fun i q hq => ?_, ?_, fun i k hi => ?_⟩
    · cases i with
      | zero =>
        simp at hq
        subst hq
        exact a2.at hn (by omega)
      | succ i =>
        have h2 := a4 i q (by simpa using hq)
        rw [show w.1.1 + (i + 1) = w.1.1 + 1 + i by omega]
        exact h2
    · show (z_mks o l (z_mk w o p.1 p.2)).2 o = _
      rw [a5]
      funext k
      simp [z_mk, z_wref, z_wadd, Nat.ne_of_lt ho]
    · cases i with
      | zero =>
        have h2 := (a2.2.2 w.1.1 (by rw [hs]; omega) (by omega)).2
        show (z_mks o l (z_mk w o p.1 p.2)).2 (w.1.1 + 0) k = 0
        rw [Nat.add_zero, h2]
        simp [z_mk, z_wref, z_wadd]
      | succ i =>
        have h2 := a6 i k (by simpa using hi)
        rw [show w.1.1 + (i + 1) = w.1.1 + 1 + i by omega]
        exact h2
def z_Pre (w : z_W) (o ci N : Nat) : Prop := w.1.1 = o + 1 ∧ z_at w.1 o (ci, N, z_nn) ∧ ∀ k, w.2 o k = 0
theorem z_pnew (w : z_W) (ci N : Nat) : z_Pre (z_wadd w (ci, N, z_nn)) w.1.1 ci N := ⟨rfl, z_at_new w _, fun k => by simp [z_wadd]⟩
def W_Course (w : z_W) (o : Nat) : z_W := z_mks o [(3, 8, 6, z_nn), (4, 8, 6, z_nn), (5, 8, 6, z_nn), (6, 8, 96, z_nn)] w
def W_Prizes (w : z_W) (o : Nat) : z_W := z_mks o [(0, 8, 16, z_nn), (1, 8, 16, z_nn), (2, 8, 16, z_nn)] w
def W_Standings (w : z_W) (o : Nat) : z_W := z_mks o [(0, 8, 16, z_nn), (1, 8, 16, z_nn), (2, 8, 16, z_nn), (3, 8, 16, z_nn)] w
def W_Tape (w : z_W) (o : Nat) : z_W := z_mks o [(0, 10, 600, z_nn)] w
/-- what is there behind a constructor: the size, the rest as it was, the layout, zeros -/
def z_Made (w : z_W) (o N : Nat) (w' : z_W) : Prop := w'.1.1 = o + N ∧ z_kp w w' o ∧ ∀ a k, o ≤ a → a < o + N → w'.2 a k = 0
theorem z_made {w : z_W} {o ci N : Nat} (h : z_Pre w o ci N) (l : List (Nat × z_K)) : z_Made w o (l.length + 1) (z_mks o l w) ∧ z_at (z_mks o l w).1 o (ci, N, z_rfs (o + 1) l z_nn) ∧ ∀ i p, l[i]? = some p → z_at (z_mks o l w).1 (o + 1 + i) p.2 := by
  obtain ⟨h1, h2, h3⟩ := h
  obtain ⟨a1, a2, a3, a4, a5, a6⟩ := z_mks_ok o l w ci N z_nn h2
  rw [h1] at a1 a3 a4 a6
  refine ⟨⟨by omega, a2, fun a k ha hb => ?_⟩, a3, a4⟩
  by_cases hao : a = o
  · subst hao
    rw [a5]
    exact h3 k
  · have h9 := a6 (a - (o + 1)) k (by omega)
    rw [show o + 1 + (a - (o + 1)) = a by omega] at h9
    exact h9
theorem p_Course {w : z_W} {o : Nat} (h : z_Pre w o 0 7) : z_Made w o 5 (W_Course w o) ∧ A_Course (W_Course w o).1 o := by
  obtain ⟨h1, h2, h3⟩ := z_made h [(3, 8, 6, z_nn), (4, 8, 6, z_nn), (5, 8, 6, z_nn), (6, 8, 96, z_nn)]
  refine ⟨h1, fun i hi => ?_⟩
  match i, hi with
  | 0, _ =>
    have e : z_rfs (o + 1) [(3, 8, 6, z_nn), (4, 8, 6, z_nn), (5, 8, 6, z_nn), (6, 8, 96, z_nn)] z_nn = (L_Course o 0).2.2 := by
      funext k
      rcases k with _ | _ | _ | _ | _ | _ | _ | k <;> rfl
    rw [e] at h2
    exact h2
  | 1, _ => exact h3 0 _ rfl
  | 2, _ => exact h3 1 _ rfl
  | 3, _ => exact h3 2 _ rfl
  | 4, _ => exact h3 3 _ rfl
theorem p_Prizes {w : z_W} {o : Nat} (h : z_Pre w o 1 3) : z_Made w o 4 (W_Prizes w o) ∧ A_Prizes (W_Prizes w o).1 o := by
  obtain ⟨h1, h2, h3⟩ := z_made h [(0, 8, 16, z_nn), (1, 8, 16, z_nn), (2, 8, 16, z_nn)]
  refine ⟨h1, fun i hi => ?_⟩
  match i, hi with
  | 0, _ =>
    have e : z_rfs (o + 1) [(0, 8, 16, z_nn), (1, 8, 16, z_nn), (2, 8, 16, z_nn)] z_nn = (L_Prizes o 0).2.2 := by
      funext k
      rcases k with _ | _ | _ | k <;> rfl
    rw [e] at h2
    exact h2
  | 1, _ => exact h3 0 _ rfl
  | 2, _ => exact h3 1 _ rfl
  | 3, _ => exact h3 2 _ rfl
theorem p_Standings {w : z_W} {o : Nat} (h : z_Pre w o 4 5) : z_Made w o 5 (W_Standings w o) ∧ A_Standings (W_Standings w o).1 o := by
  obtain ⟨h1, h2, h3⟩ := z_made h [(0, 8, 16, z_nn), (1, 8, 16, z_nn), (2, 8, 16, z_nn), (3, 8, 16, z_nn)]
  refine ⟨h1, fun i hi => ?_⟩
  match i, hi with
  | 0, _ =>
    have e : z_rfs (o + 1) [(0, 8, 16, z_nn), (1, 8, 16, z_nn), (2, 8, 16, z_nn), (3, 8, 16, z_nn)] z_nn = (L_Standings o 0).2.2 := by
      funext k
      rcases k with _ | _ | _ | _ | k <;> rfl
    rw [e] at h2
    exact h2
  | 1, _ => exact h3 0 _ rfl
  | 2, _ => exact h3 1 _ rfl
  | 3, _ => exact h3 2 _ rfl
  | 4, _ => exact h3 3 _ rfl
theorem p_Tape {w : z_W} {o : Nat} (h : z_Pre w o 5 6) : z_Made w o 2 (W_Tape w o) ∧ A_Tape (W_Tape w o).1 o := by
  obtain ⟨h1, h2, h3⟩ := z_made h [(0, 10, 600, z_nn)]
  refine ⟨h1, fun i hi => ?_⟩
  match i, hi with
  | 0, _ =>
    have e : z_rfs (o + 1) [(0, 10, 600, z_nn)] z_nn = (L_Tape o 0).2.2 := by
      funext k
      rcases k with _ | k <;> rfl
    rw [e] at h2
    exact h2
  | 1, _ => exact h3 0 _ rfl
/-- a child: a new object, its constructor, its address into a place of o -/
def z_chd (Wf : z_W → Nat → z_W) (w : z_W) (o k ci N : Nat) : z_W := z_wref (Wf (z_wadd w (ci, N, z_nn)) w.1.1) o k w.1.1
theorem z_chd_d (Wf : z_W → Nat → z_W) (w : z_W) (o k ci N : Nat) : (z_chd Wf w o k ci N).2 = (Wf (z_wadd w (ci, N, z_nn)) w.1.1).2 := rfl
theorem z_chd_ok {Wf : z_W → Nat → z_W} {w : z_W} {o k ci N M t NF : Nat} {f : Nat → Option Nat} (ha : z_at w.1 o (t, NF, f)) (h1 : (Wf (z_wadd w (ci, N, z_nn)) w.1.1).1.1 = w.1.1 + M) (h2 : z_kp (z_wadd w (ci, N, z_nn)) (Wf (z_wadd w (ci, N, z_nn)) w.1.1) w.1.1) :
    (z_chd Wf w o k ci N).1.1 = w.1.1 + M ∧ z_kp w (z_chd Wf w o k ci N) o ∧ z_at (z_chd Wf w o k ci N).1 o (t, NF, va_up f k (some w.1.1)) ∧ (z_chd Wf w o k ci N).2 o = w.2 o ∧ z_kp (Wf (z_wadd w (ci, N, z_nn)) w.1.1) (z_chd Wf w o k ci N) o := by
  have ho : o < w.1.1 := ha.1
  have hk : z_kp w (Wf (z_wadd w (ci, N, z_nn)) w.1.1) o := (z_kp_add w _ o).tr h2 (Or.inr (Nat.le_refl _))
  refine ⟨h1, hk.tr (z_kp_ref _ o k w.1.1) (Or.inl rfl), z_at_ref k w.1.1 (h2.at (z_at_add ha) (by omega)), ?_, z_kp_ref _ o k w.1.1⟩
  show (Wf (z_wadd w (ci, N, z_nn)) w.1.1).2 o = w.2 o
  rw [(h2.2.2 o (Nat.lt_succ_of_lt ho) (by omega)).2]
  funext j
  simp [z_wadd, Nat.ne_of_lt ho]
def z_stF : List (Nat × z_K) := [(2, 8, 16, z_nn), (3, 8, 16, z_nn), (4, 8, 16, z_nn), (5, 8, 16, z_nn), (6, 9, 16, z_nn), (8, 8, 16, z_nn), (9, 8, 16, z_nn), (10, 8, 16, z_nn), (11, 8, 16, z_nn), (12, 8, 16, z_nn), (13, 9, 16, z_nn)]
def W_Stage1 (w : z_W) (o : Nat) : z_W := z_chd W_Course w o 0 0 7
def W_Stage2 (w : z_W) (o : Nat) : z_W := z_chd W_Prizes (W_Stage1 w o) o 1 1 3
def W_Stage (w : z_W) (o : Nat) : z_W := z_mks o z_stF (W_Stage2 w o)
theorem p_Stage {w : z_W} {o : Nat} (h : z_Pre w o 3 20) : (W_Stage w o).1.1 = o + 21 ∧ z_kp w (W_Stage w o) o ∧ A_Stage (W_Stage w o).1 o ∧ ∀ a k, o ≤ a → a < o + 21 → (W_Stage w o).2 a k = 0 := by
  obtain ⟨h1, h2, h3⟩ := h
  obtain ⟨⟨q1, q2, q3⟩, qA⟩ := p_Course (z_pnew w 0 7)
  obtain ⟨a1, a2, a3, a4, a5⟩ := z_chd_ok (k := 0) h2 q1 q2
  change (W_Stage1 w o).1.1 = _ at a1
  change z_kp w (W_Stage1 w o) o at a2
  change z_at (W_Stage1 w o).1 o _ at a3
  change (W_Stage1 w o).2 o = _ at a4
  change z_kp _ (W_Stage1 w o) o at a5
  rw [h1] at a1 a3 qA q3
  have cA : A_Course (W_Stage1 w o).1 (o + 1) := by rw [h1] at a5; exact qA.kp a5 (Or.inl (by omega))
  have cZ : ∀ a k, o + 1 ≤ a → a < o + 6 → (W_Stage1 w o).2 a k = 0 := fun a k ha hb => by
    have h9 := q3 a k (by omega) (by omega)
    have h8 : (W_Stage1 w o).2 = (W_Course (z_wadd w (0, 7, z_nn)) w.1.1).2 := rfl
    rw [h8, h1]
    exact h9
  obtain ⟨⟨r1, r2, r3⟩, rA⟩ := p_Prizes (z_pnew (W_Stage1 w o) 1 3)
  obtain ⟨b1, b2, b3, b4, b5⟩ := z_chd_ok (k := 1) a3 r1 r2
  change (W_Stage2 w o).1.1 = _ at b1
  change z_kp (W_Stage1 w o) (W_Stage2 w o) o at b2
  change z_at (W_Stage2 w o).1 o _ at b3
  change (W_Stage2 w o).2 o = _ at b4
  change z_kp _ (W_Stage2 w o) o at b5
  rw [a1] at b1 b3 rA r3
  have pA : A_Prizes (W_Stage2 w o).1 (o + 6) := by rw [a1] at b5; exact rA.kp b5 (Or.inl (by omega))
  have pZ : ∀ a k, o + 6 ≤ a → a < o + 10 → (W_Stage2 w o).2 a k = 0 := fun a k ha hb => by
    have h9 := r3 a k (by omega) (by omega)
    have h8 : (W_Stage2 w o).2 = (W_Prizes (z_wadd (W_Stage1 w o) (1, 3, z_nn)) (W_Stage1 w o).1.1).2 := rfl
    rw [h8, a1]
    exact h9
  have cA2 := cA.kp b2 (Or.inl (by omega))
  obtain ⟨c1, c2, c3, c4, c5, c6⟩ := z_mks_ok o z_stF (W_Stage2 w o) 3 20 _ b3
  change (W_Stage w o).1.1 = _ at c1
  change z_kp (W_Stage2 w o) (W_Stage w o) o at c2
  change z_at (W_Stage w o).1 o _ at c3
  change (W_Stage w o).2 o = _ at c5
  change ∀ i k, i < z_stF.length → (W_Stage w o).2 _ k = 0 at c6
  rw [b1] at c1 c3 c4 c6
  refine ⟨c1, (a2.tr b2 (Or.inl rfl)).tr c2 (Or.inl rfl), ?_, ?_⟩
  · have cA3 := cA2.kp c2 (Or.inl (by omega))
    have pA3 := pA.kp c2 (Or.inl (by omega))
    intro i hi
    rcases i with _ | _ | _ | _ | _ | _ | _ | _ | _ | _ | _ | _ | _ | _ | _ | _ | _ | _ | _ | _ | _ | i
    · have e : z_rfs (o + 1 + 5 + 4) z_stF (va_up (va_up z_nn 0 (some (o + 1))) 1 (some (o + 1 + 5))) = (L_Stage o 0).2.2 := by
        funext k
        rcases k with _ | _ | _ | _ | _ | _ | _ | _ | _ | _ | _ | _ | _ | _ | k <;> rfl
      rw [e] at c3
      exact c3
    · exact cA3 0 (by decide)
    · exact cA3 1 (by decide)
    · exact cA3 2 (by decide)
    · exact cA3 3 (by decide)
    · exact cA3 4 (by decide)
    · exact pA3 0 (by decide)
    · exact pA3 1 (by decide)
    · exact pA3 2 (by decide)
    · exact pA3 3 (by decide)
    · exact c4 0 _ rfl
    · exact c4 1 _ rfl
    · exact c4 2 _ rfl
    · exact c4 3 _ rfl
    · exact c4 4 _ rfl
    · exact c4 5 _ rfl
    · exact c4 6 _ rfl
    · exact c4 7 _ rfl
    · exact c4 8 _ rfl
    · exact c4 9 _ rfl
    · exact c4 10 _ rfl
    · exact absurd hi (by omega)
  · intro a k ha hb
    by_cases e0 : a = o
    · subst e0
      rw [c5, b4, a4]
      exact h3 k
    · by_cases e1 : a < o + 6
      · rw [(c2.2.2 a (by omega) e0).2, (b2.2.2 a (by omega) e0).2]
        exact cZ a k (by omega) e1
      · by_cases e2 : a < o + 10
        · rw [(c2.2.2 a (by omega) e0).2]
          exact pZ a k (by omega) e2
        · have h9 := c6 (a - (o + 10)) k (by show a - (o + 10) < 11; omega)
          rw [show o + 1 + 5 + 4 + (a - (o + 10)) = a by omega] at h9
          exact h9
/-- the stages of a race, one behind the other -/
def z_sts (q : Nat) : Nat → Nat → z_W → z_W
  | 0, _, w => w
  | n + 1, j, w => z_sts q n (j + 1) (z_chd W_Stage w q j 3 20)
theorem z_sts_ok (o : Nat) : ∀ (n j : Nat) (w : z_W) (f : Nat → Option Nat), z_at w.1 (o + 4) (12, 8, f) → w.1.1 = o + 5 + 21 * j → (z_sts (o + 4) n j w).1.1 = o + 5 + 21 * (j + n) ∧ z_kp w (z_sts (o + 4) n j w) (o + 4) ∧ (∃ g, z_at (z_sts (o + 4) n j w).1 (o + 4) (12, 8, g) ∧ ∀ i, g i = if j ≤ i ∧ i < j + n then some (o + 5 + 21 * i) else f i) ∧ (∀ i, j ≤ i → i < j + n → A_Stage (z_sts (o + 4) n j w).1 (o + 5 + 21 * i)) ∧ (∀ a k, w.1.1 ≤ a → a < o + 5 + 21 * (j + n) → (z_sts (o + 4) n j w).2 a k = 0) ∧ (z_sts (o + 4) n j w).2 (o + 4) = w.2 (o + 4)
  | 0, j, w, f, ha, hs => ⟨hs, z_kp.rf, ⟨f, ha, fun i => by rw [if_neg (by omega)]⟩, fun i h1 h2 => absurd h2 (by omega), fun a k h1 h2 => absurd h2 (by omega), rfl⟩
  | n + 1, j, w, f, ha, hs => by
    obtain ⟨q1, q2, q3, q4⟩ := p_Stage (z_pnew w 3 20)
    obtain ⟨a1, a2, a3, a4, a5⟩ := z_chd_ok (k := j) ha q1 q2
    have hs2 : (z_chd W_Stage w (o + 4) j 3 20).1.1 = o + 5 + 21 * (j + 1) := by rw [a1, hs]; omega
    obtain ⟨b1, b2, ⟨g, b3, b4⟩, b5, b6, b7⟩ := z_sts_ok o n (j + 1) (z_chd W_Stage w (o + 4) j 3 20) _ a3 hs2
    refine ⟨by show (z_sts (o + 4) n (j + 1) _).1.1 = _; rw [b1]; omega, a2.tr b2 (Or.inl rfl), ⟨g, b3, fun i => ?_⟩, fun i h1 h2 => ?_, fun a k h1 h2 => ?_, b7.trans a4⟩
    · rw [b4 i]
      by_cases hi : i = j
      · subst hi
        rw [if_neg (by omega), if_pos (by omega), va_up_self, hs]
      · by_cases h9 : j + 1 ≤ i ∧ i < j + 1 + n
        · rw [if_pos h9, if_pos (by omega)]
        · rw [if_neg h9, if_neg (by omega), va_up_ne _ _ hi]
    · by_cases hi : i = j
      · subst hi
        have h9 : A_Stage (z_chd W_Stage w (o + 4) i 3 20).1 (o + 5 + 21 * i) := by
          rw [hs] at q3 a5
          exact q3.kp a5 (Or.inl (by omega))
        exact h9.kp b2 (Or.inl (by omega))
      · exact b5 i (by omega) (by omega)
    · by_cases hlt : a < w.1.1 + 21
      · show (z_sts (o + 4) n (j + 1) (z_chd W_Stage w (o + 4) j 3 20)).2 a k = 0
        rw [(b2.2.2 a (by rw [hs2]; omega) (by omega)).2]
        exact q4 a k h1 hlt
      · exact b6 a k (by rw [hs2]; omega) (by omega)
def W_Race0 (w : z_W) (o : Nat) : z_W := (w.1, z_up (z_up w.2 o 4 10) o 5 3)
def z_rcF : List (Nat × z_K) := [(6, 8, 16, z_nn), (7, 8, 16, z_nn), (8, 9, 16, z_nn), (9, 12, 8, z_nn)]
def W_Race1 (w : z_W) (o : Nat) : z_W := z_mks o z_rcF (W_Race0 w o)
def W_Race (w : z_W) (o : Nat) : z_W := z_sts (z_mks o [(6, 8, 16, z_nn), (7, 8, 16, z_nn), (8, 9, 16, z_nn)] (W_Race0 w o)).1.1 8 0 (W_Race1 w o)
theorem p_Race {w : z_W} {o : Nat} (h : z_Pre w o 2 10) : (W_Race w o).1.1 = o + 173 ∧ z_kp w (W_Race w o) o ∧ A_Race (W_Race w o).1 o ∧ (∀ k, (W_Race w o).2 o k = if k = 4 then 10 else if k = 5 then 3 else 0) ∧ ∀ a k, o < a → a < o + 173 → (W_Race w o).2 a k = 0 := by
  obtain ⟨h1, h2, h3⟩ := h
  have k0 : z_kp w (W_Race0 w o) o := (z_kp_put w o 4 10).tr (z_kp_put _ o 5 3) (Or.inl rfl)
  obtain ⟨a1, a2, a3, a4, a5, a6⟩ := z_mks_ok o z_rcF (W_Race0 w o) 2 10 z_nn h2
  change (W_Race1 w o).1.1 = _ at a1
  change z_kp _ (W_Race1 w o) o at a2
  change z_at (W_Race1 w o).1 o _ at a3
  change (W_Race1 w o).2 o = _ at a5
  have hs0 : (W_Race0 w o).1.1 = o + 1 := h1
  rw [hs0] at a1 a3 a4 a6
  have hall : z_at (W_Race1 w o).1 (o + 4) (12, 8, z_nn) := a4 3 _ rfl
  have eR : W_Race w o = z_sts (o + 4) 8 0 (W_Race1 w o) := by
    have h9 := (z_mks_ok o [(6, 8, 16, z_nn), (7, 8, 16, z_nn), (8, 9, 16, z_nn)] (W_Race0 w o) 2 10 z_nn h2).1
    rw [hs0] at h9
    unfold W_Race
    rw [h9]
    rfl
  obtain ⟨b1, b2, ⟨g, b3, b4⟩, b5, b6, b7⟩ := z_sts_ok o 8 0 (W_Race1 w o) z_nn hall a1
  rw [← eR] at b1 b2 b3 b5 b6 b7
  have hk : z_kp w (W_Race w o) o := (k0.tr a2 (Or.inl rfl)).tr b2 (Or.inr (by omega))
  have b1' : (W_Race w o).1.1 = o + 173 := by rw [b1]
  refine ⟨b1', hk, ⟨fun i hi => ?_, fun j hj => ?_⟩, fun k => ?_, fun a k ha hb => ?_⟩
  · match i, hi with
    | 0, _ =>
      have e : z_rfs (o + 1) z_rcF z_nn = (L_Race o 0).2.2 := by
        funext k
        rcases k with _ | _ | _ | _ | _ | _ | _ | _ | _ | _ | k <;> rfl
      rw [e] at a3
      exact b2.at a3 (by omega)
    | 1, _ => exact b2.at (a4 0 _ rfl) (by omega)
    | 2, _ => exact b2.at (a4 1 _ rfl) (by omega)
    | 3, _ => exact b2.at (a4 2 _ rfl) (by omega)
    | 4, _ =>
      have e : g = fun j => if j < 8 then some (o + 5 + 21 * j) else none := by
        funext j
        rw [b4 j]
        by_cases h9 : j < 8
        · rw [if_pos (by omega), if_pos h9]
        · rw [if_neg (by omega), if_neg h9]
          rfl
      rw [e] at b3
      exact b3
  · exact b5 j (Nat.zero_le j) (by omega)
  · rw [(b2.2.2 o (by rw [a1]; omega) (by omega)).2, a5]
    simp only [W_Race0, z_up]
    by_cases h5 : k = 5
    · subst h5
      simp
    · by_cases h4 : k = 4
      · subst h4
        simp
      · simp [h5, h4, h3 k]
  · by_cases e5 : a < o + 5
    · by_cases e4 : a = o + 4
      · subst e4
        rw [b7]
        exact a6 3 k (by show 3 < 4; decide)
      · rw [(b2.2.2 a (by rw [a1]; show a < o + 1 + 4; omega) e4).2]
        have h9 := a6 (a - (o + 1)) k (by show a - (o + 1) < 4; omega)
        rw [show o + 1 + (a - (o + 1)) = a by omega] at h9
        exact h9
    · exact b6 a k (by rw [a1]; show o + 5 ≤ a; omega) (by omega)
theorem z_mk_ok {w : z_W} {o t N : Nat} {f : Nat → Option Nat} (k : Nat) (kd : z_K) (h : z_at w.1 o (t, N, f)) : (z_mk w o k kd).1.1 = w.1.1 + 1 ∧ z_kp w (z_mk w o k kd) o ∧ z_at (z_mk w o k kd).1 o (t, N, va_up f k (some w.1.1)) ∧ z_at (z_mk w o k kd).1 w.1.1 kd ∧ (z_mk w o k kd).2 o = w.2 o ∧ ∀ j, (z_mk w o k kd).2 w.1.1 j = 0 := by
  have ho : o < w.1.1 := h.1
  refine ⟨rfl, (z_kp_add w kd o).tr (z_kp_ref _ o k w.1.1) (Or.inl rfl), z_at_ref k w.1.1 (z_at_add h), z_at_refo k w.1.1 (by omega) (z_at_new w kd), ?_, fun j => ?_⟩
  · funext j
    simp [z_mk, z_wref, z_wadd, Nat.ne_of_lt ho]
  · simp [z_mk, z_wref, z_wadd]
def W_BT1 (w : z_W) (o : Nat) : z_W := z_chd W_Race w o 0 2 10
def W_BT2 (w : z_W) (o : Nat) : z_W := z_chd W_Race (W_BT1 w o) o 1 2 10
def W_BT3 (w : z_W) (o : Nat) : z_W := z_mk (W_BT2 w o) o 2 (11, 2, z_nn)
def W_BT4 (w : z_W) (o : Nat) : z_W := z_chd W_Standings (W_BT3 w o) o 3 4 5
def W_BT (w : z_W) (o : Nat) : z_W := z_chd W_Tape (W_BT4 w o) o 4 5 6
theorem z_kp.dat {w w' : z_W} {o a : Nat} (h : z_kp w w' o) (ha : a < w.1.1) (hne : a ≠ o) (k : Nat) : w'.2 a k = w.2 a k := congrFun (h.2.2 a ha hne).2 k
theorem p_BT {w : z_W} {o : Nat} (h : z_Pre w o 6 5) : (W_BT w o).1.1 = o + 355 ∧ z_kp w (W_BT w o) o ∧ A_BT (W_BT w o).1 o ∧ z_at (W_BT w o).1 (o + 347) (11, 2, z_nn) ∧ (∀ a k, o ≤ a → a < o + 355 → (W_BT w o).2 a k = if (a = o + 1 ∨ a = o + 174) ∧ k = 4 then 10 else if (a = o + 1 ∨ a = o + 174) ∧ k = 5 then 3 else 0) := by
  obtain ⟨h1, h2, h3⟩ := h
  obtain ⟨q1, q2, q3, q4, q5⟩ := p_Race (z_pnew w 2 10)
  obtain ⟨a1, a2, a3, a4, a5⟩ := z_chd_ok (k := 0) h2 q1 q2
  change (W_BT1 w o).1.1 = _ at a1
  change z_kp w (W_BT1 w o) o at a2
  change z_at (W_BT1 w o).1 o _ at a3
  change (W_BT1 w o).2 o = _ at a4
  change z_kp _ (W_BT1 w o) o at a5
  have d1 : (W_BT1 w o).2 = (W_Race (z_wadd w (2, 10, z_nn)) w.1.1).2 := z_chd_d _ _ _ _ _ _
  rw [← d1] at q4 q5
  rw [h1] at a1 a3 q3 q4 q5 a5
  have a1 : (W_BT1 w o).1.1 = o + 174 := by omega
  have rA := q3.kp a5 (Or.inl (by omega))
  obtain ⟨r1, r2, r3, r4, r5⟩ := p_Race (z_pnew (W_BT1 w o) 2 10)
  obtain ⟨b1, b2, b3, b4, b5⟩ := z_chd_ok (k := 1) a3 r1 r2
  change (W_BT2 w o).1.1 = _ at b1
  change z_kp _ (W_BT2 w o) o at b2
  change z_at (W_BT2 w o).1 o _ at b3
  change (W_BT2 w o).2 o = _ at b4
  change z_kp _ (W_BT2 w o) o at b5
  have d2 : (W_BT2 w o).2 = (W_Race (z_wadd (W_BT1 w o) (2, 10, z_nn)) (W_BT1 w o).1.1).2 := z_chd_d _ _ _ _ _ _
  rw [← d2] at r4 r5
  rw [a1] at b1 b3 r3 r4 r5 b5
  have b1 : (W_BT2 w o).1.1 = o + 347 := by omega
  have hA := r3.kp b5 (Or.inl (by omega))
  have rA2 := rA.kp b2 (Or.inl (by omega))
  obtain ⟨c1, c2, c3, c4, c5, c6⟩ := z_mk_ok 2 (11, 2, z_nn) b3
  change (W_BT3 w o).1.1 = _ at c1
  change z_kp _ (W_BT3 w o) o at c2
  change z_at (W_BT3 w o).1 o _ at c3
  change z_at (W_BT3 w o).1 _ _ at c4
  change (W_BT3 w o).2 o = _ at c5
  change ∀ j, (W_BT3 w o).2 _ j = 0 at c6
  rw [b1] at c1 c3 c4 c6
  have c1 : (W_BT3 w o).1.1 = o + 348 := by omega
  obtain ⟨⟨s1, s2, s3⟩, sA⟩ := p_Standings (z_pnew (W_BT3 w o) 4 5)
  obtain ⟨e1, e2, e3, e4, e5⟩ := z_chd_ok (k := 3) c3 s1 s2
  change (W_BT4 w o).1.1 = _ at e1
  change z_kp _ (W_BT4 w o) o at e2
  change z_at (W_BT4 w o).1 o _ at e3
  change (W_BT4 w o).2 o = _ at e4
  change z_kp _ (W_BT4 w o) o at e5
  have d4 : (W_BT4 w o).2 = (W_Standings (z_wadd (W_BT3 w o) (4, 5, z_nn)) (W_BT3 w o).1.1).2 := z_chd_d _ _ _ _ _ _
  rw [← d4] at s3
  rw [c1] at e1 e3 sA s3 e5
  have e1 : (W_BT4 w o).1.1 = o + 353 := by omega
  have sA2 := sA.kp e5 (Or.inl (by omega))
  obtain ⟨⟨t1, t2, t3⟩, tA⟩ := p_Tape (z_pnew (W_BT4 w o) 5 6)
  obtain ⟨f1, f2, f3, f4, f5⟩ := z_chd_ok (k := 4) e3 t1 t2
  change (W_BT w o).1.1 = _ at f1
  change z_kp _ (W_BT w o) o at f2
  change z_at (W_BT w o).1 o _ at f3
  change (W_BT w o).2 o = _ at f4
  change z_kp _ (W_BT w o) o at f5
  have d5 : (W_BT w o).2 = (W_Tape (z_wadd (W_BT4 w o) (5, 6, z_nn)) (W_BT4 w o).1.1).2 := z_chd_d _ _ _ _ _ _
  rw [← d5] at t3
  rw [e1] at f1 f3 tA t3 f5
  have tA2 := tA.kp f5 (Or.inl (by omega))
  have k24 : z_kp (W_BT2 w o) (W_BT w o) o := (c2.tr e2 (Or.inl rfl)).tr f2 (Or.inl rfl)
  have hz : z_at (W_BT w o).1 (o + 347) (11, 2, z_nn) := f2.at (e2.at c4 (by omega)) (by omega)
  refine ⟨by rw [f1], (a2.tr b2 (Or.inl rfl)).tr k24 (Or.inl rfl), ⟨fun i hi => ?_, ⟨rA2.kp k24 (Or.inl (by omega)), hA.kp k24 (Or.inl (by omega)), sA2.kp f2 (Or.inl (by omega)), tA2⟩, ⟨z_nn, hz⟩⟩, hz, fun a k ha hb => ?_⟩
  · match i, hi with
    | 0, _ =>
      have e : va_up (va_up (va_up (va_up (va_up z_nn 0 (some (o + 1))) 1 (some (o + 174))) 2 (some (o + 347))) 3 (some (o + 348))) 4 (some (o + 353)) = (L_BT o).2.2 := by
        funext k
        rcases k with _ | _ | _ | _ | _ | k <;> rfl
      rw [e] at f3
      exact f3
  · by_cases e0 : a = o
    · subst e0
      rw [if_neg (by omega), if_neg (by omega), f4, e4, c5, b4, a4]
      exact h3 k
    · by_cases x1 : a < o + 174
      · rw [k24.dat (by omega) e0, b2.dat (by omega) e0]
        by_cases x2 : a = o + 1
        · subst x2
          rw [q4 k]
          by_cases h4 : k = 4
          · simp [h4]
          · by_cases h5 : k = 5
            · simp [h5]
            · simp [h4, h5]
        · rw [q5 a k (by omega) (by omega), if_neg (by omega), if_neg (by omega)]
      · by_cases x2 : a < o + 347
        · rw [k24.dat (by omega) e0]
          by_cases x3 : a = o + 174
          · subst x3
            rw [r4 k]
            by_cases h4 : k = 4
            · simp [h4]
            · by_cases h5 : k = 5
              · simp [h5]
              · simp [h4, h5]
          · rw [r5 a k (by omega) (by omega), if_neg (by omega), if_neg (by omega)]
        · rw [if_neg (by omega), if_neg (by omega)]
          by_cases x3 : a = o + 347
          · subst x3
            rw [f2.dat (by omega) e0, e2.dat (by omega) e0]
            exact c6 k
          · by_cases x4 : a < o + 353
            · rw [f2.dat (by omega) e0]
              exact s3 a k (by omega) (by omega)
            · exact t3 a k (by omega) (by omega)
def z_mdF : List (Nat × z_K) := [(1, 8, 2656, z_nn), (2, 8, 5312, z_nn), (3, 8, 2656, z_nn), (4, 9, 2, z_nn), (5, 8, 16, z_nn), (7, 8, 16, z_nn), (9, 8, 3, z_nn), (10, 10, 600, z_nn), (16, 8, 600, z_nn)]
def W_Model1 (w : z_W) (o : Nat) : z_W := z_mks o z_mdF w
def W_Model (w : z_W) (o : Nat) : z_W := ((W_Model1 w o).1, z_up (z_up (W_Model1 w o).2 (o + 1) 4 10) (o + 1) 5 3)
theorem p_Model {w : z_W} {o : Nat} (h : z_Pre w o 7 18) : (W_Model w o).1.1 = o + 10 ∧ z_kp w (W_Model w o) o ∧ A_Model (W_Model w o).1 o ∧ ∀ a k, o ≤ a → a < o + 10 → (W_Model w o).2 a k = if a = o + 1 ∧ k = 4 then 10 else if a = o + 1 ∧ k = 5 then 3 else 0 := by
  have hs : w.1.1 = o + 1 := h.1
  obtain ⟨⟨h1, h2, h4⟩, h5, h6⟩ := z_made h z_mdF
  change (W_Model1 w o).1.1 = _ at h1
  change z_kp w (W_Model1 w o) o at h2
  change ∀ a k, o ≤ a → a < o + 10 → (W_Model1 w o).2 a k = 0 at h4
  refine ⟨h1, ⟨h2.1, h2.2.1, fun a ha hne => ⟨(h2.2.2 a ha hne).1, ?_⟩⟩, fun i hi => ?_, fun a k ha hb => ?_⟩
  · rw [← (h2.2.2 a ha hne).2]
    funext j
    show z_up (z_up (W_Model1 w o).2 (o + 1) 4 10) (o + 1) 5 3 a j = _
    have h9 : a ≠ o + 1 := by omega
    simp [z_up, h9]
  · match i, hi with
    | 0, _ =>
      have e : z_rfs (o + 1) z_mdF z_nn = (L_Model o 0).2.2 := by
        funext k
        rcases k with _ | _ | _ | _ | _ | _ | _ | _ | _ | _ | _ | _ | _ | _ | _ | _ | _ | k <;> rfl
      rw [e] at h5
      exact h5
    | 1, _ => exact h6 0 _ rfl
    | 2, _ => exact h6 1 _ rfl
    | 3, _ => exact h6 2 _ rfl
    | 4, _ => exact h6 3 _ rfl
    | 5, _ => exact h6 4 _ rfl
    | 6, _ => exact h6 5 _ rfl
    | 7, _ => exact h6 6 _ rfl
    | 8, _ => exact h6 7 _ rfl
    | 9, _ => exact h6 8 _ rfl
  · have h9 := h4 a k ha hb
    show z_up (z_up (W_Model1 w o).2 (o + 1) 4 10) (o + 1) 5 3 a k = _
    simp only [z_up]
    by_cases e1 : a = o + 1
    · subst e1
      by_cases e5 : k = 5
      · simp [e5]
      · by_cases e4 : k = 4
        · simp [e4]
        · simp [e4, e5, h9]
    · simp [e1, h9]
theorem z_df4 (b : Nat) : ∀ j, j < 20 → defaultValue (tyX4 j) = z_fv b 3 z_nn (fun _ => 0) j := by
  intro j hj
  rcases j with _ | _ | _ | _ | _ | _ | _ | _ | _ | _ | _ | _ | _ | _ | _ | _ | _ | _ | _ | _ | j
  · rfl
  · rfl
  · rfl
  · rfl
  · rfl
  · rfl
  · rfl
  · rfl
  · rfl
  · rfl
  · rfl
  · rfl
  · rfl
  · rfl
  · rfl
  · rfl
  · rfl
  · rfl
  · rfl
  · rfl
  · exact absurd hj (by omega)
