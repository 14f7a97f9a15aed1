/-! 05.rows: a row an instruction -/
section
variable {α : Type} {E : z_E} {l : Launch} {Y : z_Y} {cv : α → Option Value × z_W} {res : Option α} {pc : Nat} {lv : List (Nat × Value)} {st : List Value} {w : z_W} {k n : Nat}
theorem r_iconst {i : Int} (v : Int32) (hv : Int32.ofInt i = v) (pc' : Nat) (hp : pc + 1 = pc') (hd : decode Y.2.1 pc = .ok (.iconst i, 1)) (K : z_G E l Y cv res pc' lv (.int v :: st) w k n) : z_G E l Y cv res pc lv (st) w k n := by
  subst hp
  exact fun z hz p e s m args below meth c H locs ls C => lv_iconst C.1.1 C.1.2.1 hd hv (K z hz p e s m args below meth c H locs ls C)
theorem r_bipush {i : Int} (v : Int32) (hv : (Int8.ofInt i).toInt32 = v) (pc' : Nat) (hp : pc + 2 = pc') (hd : decode Y.2.1 pc = .ok (.bipush i, 2)) (K : z_G E l Y cv res pc' lv (.int v :: st) w k n) : z_G E l Y cv res pc lv (st) w k n := by
  subst hp
  exact fun z hz p e s m args below meth c H locs ls C => lv_bipush C.1.1 C.1.2.1 hd hv (K z hz p e s m args below meth c H locs ls C)
theorem r_sipush {i : Int} (v : Int32) (hv : (Int16.ofInt i).toInt32 = v) (pc' : Nat) (hp : pc + 3 = pc') (hd : decode Y.2.1 pc = .ok (.sipush i, 3)) (K : z_G E l Y cv res pc' lv (.int v :: st) w k n) : z_G E l Y cv res pc lv (st) w k n := by
  subst hp
  exact fun z hz p e s m args below meth c H locs ls C => lv_sipush C.1.1 C.1.2.1 hd hv (K z hz p e s m args below meth c H locs ls C)
theorem r_lconst {i : Fin 2} (v : Int64) (hv : Int64.ofNat i = v) (pc' : Nat) (hp : pc + 1 = pc') (hd : decode Y.2.1 pc = .ok (.lconst i, 1)) (K : z_G E l Y cv res pc' lv (.long v :: st) w k n) : z_G E l Y cv res pc lv (st) w k n := by
  subst hp
  exact fun z hz p e s m args below meth c H locs ls C => lv_lconst C.1.1 C.1.2.1 hd hv (K z hz p e s m args below meth c H locs ls C)
theorem r_iadd {x y : Int32} (pc' : Nat) (hp : pc + 1 = pc') (hd : decode Y.2.1 pc = .ok (.iadd, 1)) (K : z_G E l Y cv res pc' lv (.int (x + y) :: st) w k n) : z_G E l Y cv res pc lv (.int y :: .int x :: st) w k n := by
  subst hp
  exact fun z hz p e s m args below meth c H locs ls C => lv_iadd C.1.1 C.1.2.1 hd  (K z hz p e s m args below meth c H locs ls C)
theorem r_isub {x y : Int32} (pc' : Nat) (hp : pc + 1 = pc') (hd : decode Y.2.1 pc = .ok (.isub, 1)) (K : z_G E l Y cv res pc' lv (.int (x - y) :: st) w k n) : z_G E l Y cv res pc lv (.int y :: .int x :: st) w k n := by
  subst hp
  exact fun z hz p e s m args below meth c H locs ls C => lv_isub C.1.1 C.1.2.1 hd  (K z hz p e s m args below meth c H locs ls C)
theorem r_imul {x y : Int32} (pc' : Nat) (hp : pc + 1 = pc') (hd : decode Y.2.1 pc = .ok (.imul, 1)) (K : z_G E l Y cv res pc' lv (.int (x * y) :: st) w k n) : z_G E l Y cv res pc lv (.int y :: .int x :: st) w k n := by
  subst hp
  exact fun z hz p e s m args below meth c H locs ls C => lv_imul C.1.1 C.1.2.1 hd  (K z hz p e s m args below meth c H locs ls C)
theorem r_iand {x y : Int32} (pc' : Nat) (hp : pc + 1 = pc') (hd : decode Y.2.1 pc = .ok (.iand, 1)) (K : z_G E l Y cv res pc' lv (.int (x &&& y) :: st) w k n) : z_G E l Y cv res pc lv (.int y :: .int x :: st) w k n := by
  subst hp
  exact fun z hz p e s m args below meth c H locs ls C => lv_iand C.1.1 C.1.2.1 hd  (K z hz p e s m args below meth c H locs ls C)
theorem r_ior {x y : Int32} (pc' : Nat) (hp : pc + 1 = pc') (hd : decode Y.2.1 pc = .ok (.ior, 1)) (K : z_G E l Y cv res pc' lv (.int (x ||| y) :: st) w k n) : z_G E l Y cv res pc lv (.int y :: .int x :: st) w k n := by
  subst hp
  exact fun z hz p e s m args below meth c H locs ls C => lv_ior C.1.1 C.1.2.1 hd  (K z hz p e s m args below meth c H locs ls C)
theorem r_ishl {x y : Int32} (pc' : Nat) (hp : pc + 1 = pc') (hd : decode Y.2.1 pc = .ok (.ishl, 1)) (K : z_G E l Y cv res pc' lv (.int (x <<< (y &&& 31)) :: st) w k n) : z_G E l Y cv res pc lv (.int y :: .int x :: st) w k n := by
  subst hp
  exact fun z hz p e s m args below meth c H locs ls C => lv_ishl C.1.1 C.1.2.1 hd  (K z hz p e s m args below meth c H locs ls C)
theorem r_ishr {x y : Int32} (pc' : Nat) (hp : pc + 1 = pc') (hd : decode Y.2.1 pc = .ok (.ishr, 1)) (K : z_G E l Y cv res pc' lv (.int (x >>> (y &&& 31)) :: st) w k n) : z_G E l Y cv res pc lv (.int y :: .int x :: st) w k n := by
  subst hp
  exact fun z hz p e s m args below meth c H locs ls C => lv_ishr C.1.1 C.1.2.1 hd  (K z hz p e s m args below meth c H locs ls C)
theorem r_ladd {x y : Int64} (pc' : Nat) (hp : pc + 1 = pc') (hd : decode Y.2.1 pc = .ok (.ladd, 1)) (K : z_G E l Y cv res pc' lv (.long (x + y) :: st) w k n) : z_G E l Y cv res pc lv (.long y :: .long x :: st) w k n := by
  subst hp
  exact fun z hz p e s m args below meth c H locs ls C => lv_ladd C.1.1 C.1.2.1 hd  (K z hz p e s m args below meth c H locs ls C)
theorem r_lsub {x y : Int64} (pc' : Nat) (hp : pc + 1 = pc') (hd : decode Y.2.1 pc = .ok (.lsub, 1)) (K : z_G E l Y cv res pc' lv (.long (x - y) :: st) w k n) : z_G E l Y cv res pc lv (.long y :: .long x :: st) w k n := by
  subst hp
  exact fun z hz p e s m args below meth c H locs ls C => lv_lsub C.1.1 C.1.2.1 hd  (K z hz p e s m args below meth c H locs ls C)
theorem r_lmul {x y : Int64} (pc' : Nat) (hp : pc + 1 = pc') (hd : decode Y.2.1 pc = .ok (.lmul, 1)) (K : z_G E l Y cv res pc' lv (.long (x * y) :: st) w k n) : z_G E l Y cv res pc lv (.long y :: .long x :: st) w k n := by
  subst hp
  exact fun z hz p e s m args below meth c H locs ls C => lv_lmul C.1.1 C.1.2.1 hd  (K z hz p e s m args below meth c H locs ls C)
theorem r_i2l {x : Int32} (pc' : Nat) (hp : pc + 1 = pc') (hd : decode Y.2.1 pc = .ok (.i2l, 1)) (K : z_G E l Y cv res pc' lv (.long x.toInt64 :: st) w k n) : z_G E l Y cv res pc lv (.int x :: st) w k n := by
  subst hp
  exact fun z hz p e s m args below meth c H locs ls C => lv_i2l C.1.1 C.1.2.1 hd rfl (K z hz p e s m args below meth c H locs ls C)
theorem r_l2i {x : Int64} (pc' : Nat) (hp : pc + 1 = pc') (hd : decode Y.2.1 pc = .ok (.l2i, 1)) (K : z_G E l Y cv res pc' lv (.int x.toInt32 :: st) w k n) : z_G E l Y cv res pc lv (.long x :: st) w k n := by
  subst hp
  exact fun z hz p e s m args below meth c H locs ls C => lv_l2i C.1.1 C.1.2.1 hd rfl (K z hz p e s m args below meth c H locs ls C)
theorem r_i2b {x : Int32} (pc' : Nat) (hp : pc + 1 = pc') (hd : decode Y.2.1 pc = .ok (.i2b, 1)) (K : z_G E l Y cv res pc' lv (.int x.toInt8.toInt32 :: st) w k n) : z_G E l Y cv res pc lv (.int x :: st) w k n := by
  subst hp
  exact fun z hz p e s m args below meth c H locs ls C => lv_i2b C.1.1 C.1.2.1 hd rfl (K z hz p e s m args below meth c H locs ls C)
theorem r_i2c {x : Int32} (pc' : Nat) (hp : pc + 1 = pc') (hd : decode Y.2.1 pc = .ok (.i2c, 1)) (K : z_G E l Y cv res pc' lv (.int (x.toUInt32 % 65536).toInt32 :: st) w k n) : z_G E l Y cv res pc lv (.int x :: st) w k n := by
  subst hp
  exact fun z hz p e s m args below meth c H locs ls C => lv_i2c C.1.1 C.1.2.1 hd rfl (K z hz p e s m args below meth c H locs ls C)
theorem r_lcmp {x y : Int64} (pc' : Nat) (hp : pc + 1 = pc') (hd : decode Y.2.1 pc = .ok (.lcmp, 1)) (K : z_G E l Y cv res pc' lv (.int (lg_cmp x y) :: st) w k n) : z_G E l Y cv res pc lv (.long y :: .long x :: st) w k n := by
  subst hp
  exact fun z hz p e s m args below meth c H locs ls C => W.lcmp C.1.1 C.1.2.1 hd  (K z hz p e s m args below meth c H locs ls C)
theorem r_dup {v : Value} (hc : v.category = 1) (pc' : Nat) (hp : pc + 1 = pc') (hd : decode Y.2.1 pc = .ok (.dup, 1)) (K : z_G E l Y cv res pc' lv (v :: v :: st) w k n) : z_G E l Y cv res pc lv (v :: st) w k n := by
  subst hp
  exact fun z hz p e s m args below meth c H locs ls C => lv_dup C.1.1 C.1.2.1 hd hc (K z hz p e s m args below meth c H locs ls C)
theorem r_pop {v : Value} (hc : v.category = 1) (pc' : Nat) (hp : pc + 1 = pc') (hd : decode Y.2.1 pc = .ok (.pop, 1)) (K : z_G E l Y cv res pc' lv (st) w k n) : z_G E l Y cv res pc lv (v :: st) w k n := by
  subst hp
  exact fun z hz p e s m args below meth c H locs ls C => lv_pop C.1.1 C.1.2.1 hd hc (K z hz p e s m args below meth c H locs ls C)
theorem r_dup2 {v u : Value} (hc : v.category = 1) (hc2 : u.category = 1) (pc' : Nat) (hp : pc + 1 = pc') (hd : decode Y.2.1 pc = .ok (.dup2, 1)) (K : z_G E l Y cv res pc' lv (v :: u :: v :: u :: st) w k n) : z_G E l Y cv res pc lv (v :: u :: st) w k n := by
  subst hp
  exact fun z hz p e s m args below meth c H locs ls C => lv_dup2_11 C.1.1 C.1.2.1 hd hc hc2 (K z hz p e s m args below meth c H locs ls C)
theorem r_dup_x1 {v u : Value} (hc : v.category = 1) (hc2 : u.category = 1) (pc' : Nat) (hp : pc + 1 = pc') (hd : decode Y.2.1 pc = .ok (.dup_x1, 1)) (K : z_G E l Y cv res pc' lv (v :: u :: v :: st) w k n) : z_G E l Y cv res pc lv (v :: u :: st) w k n := by
  subst hp
  exact fun z hz p e s m args below meth c H locs ls C => lv_dup_x1 C.1.1 C.1.2.1 hd hc hc2 (K z hz p e s m args below meth c H locs ls C)
def z_div {α : Type} (x y : Int32) (K : Int32 → Option α) : Option α := if y = 0 then none else K (x / y)
def z_ldiv {α : Type} (x y : Int64) (K : Int64 → Option α) : Option α := if y = 0 then none else K (x / y)
theorem r_div {x y : Int32} {KB : Int32 → Option α} (pc' : Nat) (hp : pc + 1 = pc') (hd : decode Y.2.1 pc = .ok (.idiv, 1)) (K : ∀ v, z_G E l Y cv (KB v) pc' lv (.int v :: st) w k n) : z_G E l Y cv (z_div x y KB) pc lv (.int y :: .int x :: st) w k n := by
  subst hp
  intro z hz p e s m args below meth c H locs ls C
  unfold z_div at hz
  by_cases hy : y = 0
  · rw [if_pos hy] at hz; cases hz
  · rw [if_neg hy] at hz
    exact lv_idiv C.1.1 C.1.2.1 hd hy (K _ z hz p e s m args below meth c H locs ls C)
theorem r_divc {x y : Int32} (hy : ¬ y = 0) (pc' : Nat) (hp : pc + 1 = pc') (hd : decode Y.2.1 pc = .ok (.idiv, 1)) (K : z_G E l Y cv res pc' lv (.int (x / y) :: st) w k n) : z_G E l Y cv res pc lv (.int y :: .int x :: st) w k n := by
  subst hp
  exact fun z hz p e s m args below meth c H locs ls C => lv_idiv C.1.1 C.1.2.1 hd hy (K z hz p e s m args below meth c H locs ls C)
theorem r_ldiv {x y : Int64} {KB : Int64 → Option α} (pc' : Nat) (hp : pc + 1 = pc') (hd : decode Y.2.1 pc = .ok (.ldiv, 1)) (K : ∀ v, z_G E l Y cv (KB v) pc' lv (.long v :: st) w k n) : z_G E l Y cv (z_ldiv x y KB) pc lv (.long y :: .long x :: st) w k n := by
  subst hp
  intro z hz p e s m args below meth c H locs ls C
  unfold z_ldiv at hz
  by_cases hy : y = 0
  · rw [if_pos hy] at hz; cases hz
  · rw [if_neg hy] at hz
    exact lv_ldiv C.1.1 C.1.2.1 hd hy (K _ z hz p e s m args below meth c H locs ls C)
theorem r_ldivc {x y : Int64} (hy : ¬ y = 0) (pc' : Nat) (hp : pc + 1 = pc') (hd : decode Y.2.1 pc = .ok (.ldiv, 1)) (K : z_G E l Y cv res pc' lv (.long (x / y) :: st) w k n) : z_G E l Y cv res pc lv (.long y :: .long x :: st) w k n := by
  subst hp
  exact fun z hz p e s m args below meth c H locs ls C => lv_ldiv C.1.1 C.1.2.1 hd hy (K z hz p e s m args below meth c H locs ls C)
theorem r_ldc {idx : Nat} {v : Int32} (hw : Cond.constant Y.1 idx v ∈ Y.2.2.2.1) (pc' : Nat) (hp : pc + 2 = pc') (hd : decode Y.2.1 pc = .ok (.ldc idx, 2)) (K : z_G E l Y cv res pc' lv (.int v :: st) w k n) : z_G E l Y cv res pc lv st w k n := by
  subst hp
  exact fun z hz p e s m args below meth c H locs ls C => lv_ldc C.1.1 C.1.2.1 C.1.2.2.2.1 (C.1.2.2.2.2 _ hw) hd (K z hz p e s m args below meth c H locs ls C)
theorem r_ldc2 {idx : Nat} {v : Int64} (hw : Cond.constantLong Y.1 idx v ∈ Y.2.2.2.1) (pc' : Nat) (hp : pc + 3 = pc') (hd : decode Y.2.1 pc = .ok (.ldc2_w idx, 3)) (K : z_G E l Y cv res pc' lv (.long v :: st) w k n) : z_G E l Y cv res pc lv st w k n := by
  subst hp
  exact fun z hz p e s m args below meth c H locs ls C => lv_ldc2 C.1.1 C.1.2.1 C.1.2.2.2.1 (C.1.2.2.2.2 _ hw) hd (K z hz p e s m args below meth c H locs ls C)
theorem r_ldcS {idx : Nat} (i : Nat) {q : Nat × String × List Int32} (hq : z_txt[i]? = some q) (hi : q.1 = idx) (hY : Y.1 = RX7) (pc' : Nat) (hp : pc + 2 = pc') (hd : decode Y.2.1 pc = .ok (.ldc idx, 2)) (K : z_G E l Y cv res pc' lv (.ref (E.2.2.2.2.1 i) :: st) w k n) : z_G E l Y cv res pc lv st w k n := by
  subst hp
  subst hi
  intro z hz p e s m args below meth c H locs ls C
  have ho := C.1.2.2.2.1
  rw [hY] at ho
  exact va_ldcS C.1.1 C.1.2.1 ho (C.2.2.2.1.2.2.1 i q hq) hd (K z hz p e s m args below meth c H locs ls C)
theorem r_iload_n {kk : Fin 4} {x : Int32} (i q : Nat) (hi : (kk : Nat) = i) (hq : lv[q]? = some (i, .int x)) (pc' : Nat) (hp : pc + 1 = pc') (hd : decode Y.2.1 pc = .ok (.iload_n kk, 1)) (K : z_G E l Y cv res pc' lv (.int x :: st) w k n) : z_G E l Y cv res pc lv st w k n := by
  subst hp
  exact fun z hz p e s m args below meth c H locs ls C => lv_iload_n C.1.1 C.1.2.1 hd hi (lv_at C.2.2.2.2.2.2.2 q hq) (K z hz p e s m args below meth c H locs ls C)
theorem r_iload {x : Int32} (i q : Nat) (hq : lv[q]? = some (i, .int x)) (pc' : Nat) (hp : pc + 2 = pc') (hd : decode Y.2.1 pc = .ok (.iload i, 2)) (K : z_G E l Y cv res pc' lv (.int x :: st) w k n) : z_G E l Y cv res pc lv st w k n := by
  subst hp
  exact fun z hz p e s m args below meth c H locs ls C => lv_iload C.1.1 C.1.2.1 hd (lv_at C.2.2.2.2.2.2.2 q hq) (K z hz p e s m args below meth c H locs ls C)
theorem r_lload_n {kk : Fin 4} {x : Int64} (i q : Nat) (hi : (kk : Nat) = i) (hq : lv[q]? = some (i, .long x)) (pc' : Nat) (hp : pc + 1 = pc') (hd : decode Y.2.1 pc = .ok (.lload_n kk, 1)) (K : z_G E l Y cv res pc' lv (.long x :: st) w k n) : z_G E l Y cv res pc lv st w k n := by
  subst hp
  exact fun z hz p e s m args below meth c H locs ls C => lv_lload_n C.1.1 C.1.2.1 hd hi (lv_at C.2.2.2.2.2.2.2 q hq) (K z hz p e s m args below meth c H locs ls C)
theorem r_lload {x : Int64} (i q : Nat) (hq : lv[q]? = some (i, .long x)) (pc' : Nat) (hp : pc + 2 = pc') (hd : decode Y.2.1 pc = .ok (.lload i, 2)) (K : z_G E l Y cv res pc' lv (.long x :: st) w k n) : z_G E l Y cv res pc lv st w k n := by
  subst hp
  exact fun z hz p e s m args below meth c H locs ls C => lv_lload C.1.1 C.1.2.1 hd (lv_at C.2.2.2.2.2.2.2 q hq) (K z hz p e s m args below meth c H locs ls C)
theorem r_aload_n {kk : Fin 4} {x : Nat} (i q : Nat) (hi : (kk : Nat) = i) (hq : lv[q]? = some (i, .ref x)) (pc' : Nat) (hp : pc + 1 = pc') (hd : decode Y.2.1 pc = .ok (.aload_n kk, 1)) (K : z_G E l Y cv res pc' lv (.ref x :: st) w k n) : z_G E l Y cv res pc lv st w k n := by
  subst hp
  exact fun z hz p e s m args below meth c H locs ls C => lv_aload_n C.1.1 C.1.2.1 hd hi (lv_at C.2.2.2.2.2.2.2 q hq) (K z hz p e s m args below meth c H locs ls C)
theorem r_aload {x : Nat} (i q : Nat) (hq : lv[q]? = some (i, .ref x)) (pc' : Nat) (hp : pc + 2 = pc') (hd : decode Y.2.1 pc = .ok (.aload i, 2)) (K : z_G E l Y cv res pc' lv (.ref x :: st) w k n) : z_G E l Y cv res pc lv st w k n := by
  subst hp
  exact fun z hz p e s m args below meth c H locs ls C => lv_aload C.1.1 C.1.2.1 hd (lv_at C.2.2.2.2.2.2.2 q hq) (K z hz p e s m args below meth c H locs ls C)
theorem z_C.ls {p : Program} {s : State} {m : MethodId} {args : Array Value} {meth : Method} {c : Code} {lv' : List (Nat × Value)} {H : Heap} {locs : List Loc} {ls ls' : Array Slot} (C : z_C E Y p s m args meth c lv w H locs ls k) (h : lv_has ls' Y.2.2.1 lv') : z_C E Y p s m args meth c lv' w H locs ls' k := ⟨C.1, C.2.1, C.2.2.1, C.2.2.2.1, C.2.2.2.2.1, C.2.2.2.2.2.1, C.2.2.2.2.2.2.1, h⟩
theorem r_istore_n {kk : Fin 4} {x : Int32} (i : Nat) (hi : (kk : Nat) = i) (lv' : List (Nat × Value)) (hn : i < Y.2.2.1) (hl : (i, Value.int x) :: lv.filter (fun q => !(q.1 == i) && !(q.1 + 1 == i && q.2.category == 2)) = lv') (pc' : Nat) (hp : pc + 1 = pc') (hd : decode Y.2.1 pc = .ok (.istore_n kk, 1)) (K : z_G E l Y cv res pc' lv' st w k n) : z_G E l Y cv res pc lv (.int x :: st) w k n := by
  subst hp
  exact fun z hz p e s m args below meth c H locs ls C => lv_istore_n C.1.1 C.1.2.1 hd hi C.2.2.2.2.2.2.2 hn hl (fun ls9 h9 => K z hz p e s m args below meth c H locs ls9 (C.ls h9))
theorem r_istore  {x : Int32} (i : Nat)  (lv' : List (Nat × Value)) (hn : i < Y.2.2.1) (hl : (i, Value.int x) :: lv.filter (fun q => !(q.1 == i) && !(q.1 + 1 == i && q.2.category == 2)) = lv') (pc' : Nat) (hp : pc + 2 = pc') (hd : decode Y.2.1 pc = .ok (.istore i, 2)) (K : z_G E l Y cv res pc' lv' st w k n) : z_G E l Y cv res pc lv (.int x :: st) w k n := by
  subst hp
  exact fun z hz p e s m args below meth c H locs ls C => lv_istore C.1.1 C.1.2.1 hd  C.2.2.2.2.2.2.2 hn hl (fun ls9 h9 => K z hz p e s m args below meth c H locs ls9 (C.ls h9))
theorem r_astore_n {kk : Fin 4} {x : Nat} (i : Nat) (hi : (kk : Nat) = i) (lv' : List (Nat × Value)) (hn : i < Y.2.2.1) (hl : (i, Value.ref x) :: lv.filter (fun q => !(q.1 == i) && !(q.1 + 1 == i && q.2.category == 2)) = lv') (pc' : Nat) (hp : pc + 1 = pc') (hd : decode Y.2.1 pc = .ok (.astore_n kk, 1)) (K : z_G E l Y cv res pc' lv' st w k n) : z_G E l Y cv res pc lv (.ref x :: st) w k n := by
  subst hp
  exact fun z hz p e s m args below meth c H locs ls C => lv_astore_n C.1.1 C.1.2.1 hd hi C.2.2.2.2.2.2.2 hn hl (fun ls9 h9 => K z hz p e s m args below meth c H locs ls9 (C.ls h9))
theorem r_astore  {x : Nat} (i : Nat)  (lv' : List (Nat × Value)) (hn : i < Y.2.2.1) (hl : (i, Value.ref x) :: lv.filter (fun q => !(q.1 == i) && !(q.1 + 1 == i && q.2.category == 2)) = lv') (pc' : Nat) (hp : pc + 2 = pc') (hd : decode Y.2.1 pc = .ok (.astore i, 2)) (K : z_G E l Y cv res pc' lv' st w k n) : z_G E l Y cv res pc lv (.ref x :: st) w k n := by
  subst hp
  exact fun z hz p e s m args below meth c H locs ls C => lv_astore C.1.1 C.1.2.1 hd  C.2.2.2.2.2.2.2 hn hl (fun ls9 h9 => K z hz p e s m args below meth c H locs ls9 (C.ls h9))
theorem r_iinc {i : Nat} {j : Int} {x : Int32} (v : Int32) (q : Nat) (hq : lv[q]? = some (i, .int x)) (hv : x + Int32.ofInt j = v) (lv' : List (Nat × Value)) (hn : i < Y.2.2.1) (hl : (i, Value.int v) :: lv.filter (fun q => !(q.1 == i) && !(q.1 + 1 == i && q.2.category == 2)) = lv') (pc' : Nat) (hp : pc + 3 = pc') (hd : decode Y.2.1 pc = .ok (.iinc i j, 3)) (K : z_G E l Y cv res pc' lv' st w k n) : z_G E l Y cv res pc lv st w k n := by
  subst hp
  exact fun z hz p e s m args below meth c H locs ls C => lv_iinc C.1.1 C.1.2.1 hd C.2.2.2.2.2.2.2 hq hv hn hl (fun ls9 h9 => K z hz p e s m args below meth c H locs ls9 (C.ls h9))
def z_nam {α β : Type} (x : β) (K : β → Option α) : Option α := K x
theorem r_nam {β : Type} {x : β} {KB : β → Option α} {f : β → List (Nat × Value)} {g : β → List Value} (K : ∀ v, z_G E l Y cv (KB v) pc (f v) (g v) w k n) : z_G E l Y cv (z_nam x KB) pc (f x) (g x) w k n := K x
theorem r_nami {x : Int32} {KB : Int32 → Option α} (K : ∀ v, z_G E l Y cv (KB v) pc lv (.int v :: st) w k n) : z_G E l Y cv (z_nam x KB) pc lv (.int x :: st) w k n := K x
theorem r_naml {x : Int64} {KB : Int64 → Option α} (K : ∀ v, z_G E l Y cv (KB v) pc lv (.long v :: st) w k n) : z_G E l Y cv (z_nam x KB) pc lv (.long x :: st) w k n := K x
theorem r_sub {lv' : List (Nat × Value)} (ks : List Nat) (hl : lv_pick lv ks = lv') (K : z_G E l Y cv res pc lv' st w k n) : z_G E l Y cv res pc lv st w k n := fun z hz p e s m args below meth c H locs ls C => K z hz p e s m args below meth c H locs ls (C.ls (lv_sub C.2.2.2.2.2.2.2 ks hl))
theorem r_eq {res' : Option α} (h : res = res') (K : z_G E l Y cv res' pc lv st w k n) : z_G E l Y cv res pc lv st w k n := h ▸ K
theorem r_none : z_G E l Y cv none pc lv st w k n := fun z hz => by cases hz
theorem r_if_eq {x : Int32} {off : Int} {A B : Option α} (tgt pc' : Nat) (ht : (pc : Int) + off = (tgt : Int)) (hp : pc + 3 = pc') (hd : decode Y.2.1 pc = .ok (.ifCond .eq off, 3)) (KA : z_G E l Y cv A tgt lv st w k n) (KB : z_G E l Y cv B pc' lv st w k n) : z_G E l Y cv (if x = 0 then A else B) pc lv (.int x :: st) w k n := by
  subst hp
  intro z hz p e s m args below meth c H locs ls C
  exact lv_if_eq C.1.1 C.1.2.1 hd ht (fun hc => KA z (by rw [if_pos hc] at hz; exact hz) p e s m args below meth c H locs ls C) (fun hc => KB z (by rw [if_neg hc] at hz; exact hz) p e s m args below meth c H locs ls C)
theorem r_if_ne {x : Int32} {off : Int} {A B : Option α} (tgt pc' : Nat) (ht : (pc : Int) + off = (tgt : Int)) (hp : pc + 3 = pc') (hd : decode Y.2.1 pc = .ok (.ifCond .ne off, 3)) (KA : z_G E l Y cv A tgt lv st w k n) (KB : z_G E l Y cv B pc' lv st w k n) : z_G E l Y cv (if x = 0 then B else A) pc lv (.int x :: st) w k n := by
  subst hp
  intro z hz p e s m args below meth c H locs ls C
  exact lv_if_ne C.1.1 C.1.2.1 hd ht (fun hc => KA z (by rw [if_neg hc] at hz; exact hz) p e s m args below meth c H locs ls C) (fun hc => KB z (by rw [if_pos hc] at hz; exact hz) p e s m args below meth c H locs ls C)
theorem r_if_lt {x : Int32} {off : Int} {A B : Option α} (tgt pc' : Nat) (ht : (pc : Int) + off = (tgt : Int)) (hp : pc + 3 = pc') (hd : decode Y.2.1 pc = .ok (.ifCond .lt off, 3)) (KA : z_G E l Y cv A tgt lv st w k n) (KB : z_G E l Y cv B pc' lv st w k n) : z_G E l Y cv (if x < 0 then A else B) pc lv (.int x :: st) w k n := by
  subst hp
  intro z hz p e s m args below meth c H locs ls C
  exact lv_if_lt C.1.1 C.1.2.1 hd ht (fun hc => KA z (by rw [if_pos hc] at hz; exact hz) p e s m args below meth c H locs ls C) (fun hc => KB z (by rw [if_neg hc] at hz; exact hz) p e s m args below meth c H locs ls C)
theorem r_if_ge {x : Int32} {off : Int} {A B : Option α} (tgt pc' : Nat) (ht : (pc : Int) + off = (tgt : Int)) (hp : pc + 3 = pc') (hd : decode Y.2.1 pc = .ok (.ifCond .ge off, 3)) (KA : z_G E l Y cv A tgt lv st w k n) (KB : z_G E l Y cv B pc' lv st w k n) : z_G E l Y cv (if 0 ≤ x then A else B) pc lv (.int x :: st) w k n := by
  subst hp
  intro z hz p e s m args below meth c H locs ls C
  exact lv_if_ge C.1.1 C.1.2.1 hd ht (fun hc => KA z (by rw [if_pos hc] at hz; exact hz) p e s m args below meth c H locs ls C) (fun hc => KB z (by rw [if_neg hc] at hz; exact hz) p e s m args below meth c H locs ls C)
theorem r_if_gt {x : Int32} {off : Int} {A B : Option α} (tgt pc' : Nat) (ht : (pc : Int) + off = (tgt : Int)) (hp : pc + 3 = pc') (hd : decode Y.2.1 pc = .ok (.ifCond .gt off, 3)) (KA : z_G E l Y cv A tgt lv st w k n) (KB : z_G E l Y cv B pc' lv st w k n) : z_G E l Y cv (if 0 < x then A else B) pc lv (.int x :: st) w k n := by
  subst hp
  intro z hz p e s m args below meth c H locs ls C
  exact lv_if_gt C.1.1 C.1.2.1 hd ht (fun hc => KA z (by rw [if_pos hc] at hz; exact hz) p e s m args below meth c H locs ls C) (fun hc => KB z (by rw [if_neg hc] at hz; exact hz) p e s m args below meth c H locs ls C)
theorem r_if_le {x : Int32} {off : Int} {A B : Option α} (tgt pc' : Nat) (ht : (pc : Int) + off = (tgt : Int)) (hp : pc + 3 = pc') (hd : decode Y.2.1 pc = .ok (.ifCond .le off, 3)) (KA : z_G E l Y cv A tgt lv st w k n) (KB : z_G E l Y cv B pc' lv st w k n) : z_G E l Y cv (if x ≤ 0 then A else B) pc lv (.int x :: st) w k n := by
  subst hp
  intro z hz p e s m args below meth c H locs ls C
  exact lv_if_le C.1.1 C.1.2.1 hd ht (fun hc => KA z (by rw [if_pos hc] at hz; exact hz) p e s m args below meth c H locs ls C) (fun hc => KB z (by rw [if_neg hc] at hz; exact hz) p e s m args below meth c H locs ls C)
theorem r_icmp_eq {x y : Int32} {off : Int} {A B : Option α} (tgt pc' : Nat) (ht : (pc : Int) + off = (tgt : Int)) (hp : pc + 3 = pc') (hd : decode Y.2.1 pc = .ok (.if_icmp .eq off, 3)) (KA : z_G E l Y cv A tgt lv st w k n) (KB : z_G E l Y cv B pc' lv st w k n) : z_G E l Y cv (if x = y then A else B) pc lv (.int y :: .int x :: st) w k n := by
  subst hp
  intro z hz p e s m args below meth c H locs ls C
  exact lv_icmp_eq C.1.1 C.1.2.1 hd ht (fun hc => KA z (by rw [if_pos hc] at hz; exact hz) p e s m args below meth c H locs ls C) (fun hc => KB z (by rw [if_neg hc] at hz; exact hz) p e s m args below meth c H locs ls C)
theorem r_icmp_ne {x y : Int32} {off : Int} {A B : Option α} (tgt pc' : Nat) (ht : (pc : Int) + off = (tgt : Int)) (hp : pc + 3 = pc') (hd : decode Y.2.1 pc = .ok (.if_icmp .ne off, 3)) (KA : z_G E l Y cv A tgt lv st w k n) (KB : z_G E l Y cv B pc' lv st w k n) : z_G E l Y cv (if x = y then B else A) pc lv (.int y :: .int x :: st) w k n := by
  subst hp
  intro z hz p e s m args below meth c H locs ls C
  exact lv_icmp_ne C.1.1 C.1.2.1 hd ht (fun hc => KA z (by rw [if_neg hc] at hz; exact hz) p e s m args below meth c H locs ls C) (fun hc => KB z (by rw [if_pos hc] at hz; exact hz) p e s m args below meth c H locs ls C)
theorem r_icmp_lt {x y : Int32} {off : Int} {A B : Option α} (tgt pc' : Nat) (ht : (pc : Int) + off = (tgt : Int)) (hp : pc + 3 = pc') (hd : decode Y.2.1 pc = .ok (.if_icmp .lt off, 3)) (KA : z_G E l Y cv A tgt lv st w k n) (KB : z_G E l Y cv B pc' lv st w k n) : z_G E l Y cv (if x < y then A else B) pc lv (.int y :: .int x :: st) w k n := by
  subst hp
  intro z hz p e s m args below meth c H locs ls C
  exact lv_icmp_lt C.1.1 C.1.2.1 hd ht (fun hc => KA z (by rw [if_pos hc] at hz; exact hz) p e s m args below meth c H locs ls C) (fun hc => KB z (by rw [if_neg hc] at hz; exact hz) p e s m args below meth c H locs ls C)
theorem r_icmp_ge {x y : Int32} {off : Int} {A B : Option α} (tgt pc' : Nat) (ht : (pc : Int) + off = (tgt : Int)) (hp : pc + 3 = pc') (hd : decode Y.2.1 pc = .ok (.if_icmp .ge off, 3)) (KA : z_G E l Y cv A tgt lv st w k n) (KB : z_G E l Y cv B pc' lv st w k n) : z_G E l Y cv (if y ≤ x then A else B) pc lv (.int y :: .int x :: st) w k n := by
  subst hp
  intro z hz p e s m args below meth c H locs ls C
  exact lv_icmp_ge C.1.1 C.1.2.1 hd ht (fun hc => KA z (by rw [if_pos hc] at hz; exact hz) p e s m args below meth c H locs ls C) (fun hc => KB z (by rw [if_neg hc] at hz; exact hz) p e s m args below meth c H locs ls C)
theorem r_icmp_gt {x y : Int32} {off : Int} {A B : Option α} (tgt pc' : Nat) (ht : (pc : Int) + off = (tgt : Int)) (hp : pc + 3 = pc') (hd : decode Y.2.1 pc = .ok (.if_icmp .gt off, 3)) (KA : z_G E l Y cv A tgt lv st w k n) (KB : z_G E l Y cv B pc' lv st w k n) : z_G E l Y cv (if y < x then A else B) pc lv (.int y :: .int x :: st) w k n := by
  subst hp
  intro z hz p e s m args below meth c H locs ls C
  exact lv_icmp_gt C.1.1 C.1.2.1 hd ht (fun hc => KA z (by rw [if_pos hc] at hz; exact hz) p e s m args below meth c H locs ls C) (fun hc => KB z (by rw [if_neg hc] at hz; exact hz) p e s m args below meth c H locs ls C)
theorem r_icmp_le {x y : Int32} {off : Int} {A B : Option α} (tgt pc' : Nat) (ht : (pc : Int) + off = (tgt : Int)) (hp : pc + 3 = pc') (hd : decode Y.2.1 pc = .ok (.if_icmp .le off, 3)) (KA : z_G E l Y cv A tgt lv st w k n) (KB : z_G E l Y cv B pc' lv st w k n) : z_G E l Y cv (if x ≤ y then A else B) pc lv (.int y :: .int x :: st) w k n := by
  subst hp
  intro z hz p e s m args below meth c H locs ls C
  exact lv_icmp_le C.1.1 C.1.2.1 hd ht (fun hc => KA z (by rw [if_pos hc] at hz; exact hz) p e s m args below meth c H locs ls C) (fun hc => KB z (by rw [if_neg hc] at hz; exact hz) p e s m args below meth c H locs ls C)
theorem r_goto {off : Int} (tgt : Nat) (ht : (pc : Int) + off = (tgt : Int)) (hd : decode Y.2.1 pc = .ok (.goto off, 3)) (K : z_G E l Y cv res tgt lv st w k n) : z_G E l Y cv res pc lv st w k n := by
  exact fun z hz p e s m args below meth c H locs ls C => lv_goto C.1.1 C.1.2.1 hd ht (K z hz p e s m args below meth c H locs ls C)
theorem z_ret {p : Program} {s : State} {m : MethodId} {args : Array Value} {meth : Method} {c : Code} {H : Heap} {locs : List Loc} {ls : Array Slot} (r : Option Value) (C : z_C E Y p s m args meth c lv w H locs ls k) : ∀ t : State, t.heap = H → s.WarmedH t.vm → z_Q E r w args s (.returned r) t := fun t ht _ => ⟨⟨rfl, by rw [ht]; exact C.2.2.2.2.2.1⟩, C.2.2.2.2.2.2.1.F ht⟩
theorem z_retL {p : Program} {s : State} {m : MethodId} {args : Array Value} {meth : Method} {c : Code} {H : Heap} {locs : List Loc} {ls : Array Slot} (C : z_C E Y p s m args meth c lv w H locs ls k) : ∀ q ∈ locs, z_A E q.base := C.2.2.2.2.2.2.1.2.2
theorem r_ireturn {x : α} {v : Int32} (hx : cv x = (some (.int v), w)) (hr : Y.2.2.2.2.1 = some .int) (hk : k ≤ Y.2.2.2.2.2.2.1) (hn : n ≤ Y.2.2.2.2.2.2.2) (hd : decode Y.2.1 pc = .ok (.ireturn, 1)) : z_G E l Y cv (some x) pc lv [.int v] w k n := by
  intro z hz p e s m args below meth c H locs ls C
  cases hz
  rw [hx]
  have hl := C.2.1.2.1
  exact W.widen hk hn (W.iret C.1.1 C.1.2.1 (C.2.1.1.trans hr) (z_ret _ C) (z_retL C) hd hl)
def z_bool {α : Type} (v : Int32) (r : Option α) : Option α := if v = 0 ∨ v = 1 then r else none
theorem z_b01 {v : Int32} (h : v = 0 ∨ v = 1) : narrow .boolean (.int v) = .int v ∧ fits .boolean (.int v) = true := by
  rcases h with h | h <;> subst h <;> exact ⟨rfl, rfl⟩
theorem r_zreturn {x : α} {v : Int32} (hx : cv x = (some (.int v), w)) (hr : Y.2.2.2.2.1 = some .boolean) (hk : k ≤ Y.2.2.2.2.2.2.1) (hn : n ≤ Y.2.2.2.2.2.2.2) (hd : decode Y.2.1 pc = .ok (.ireturn, 1)) : z_G E l Y cv (z_bool v (some x)) pc lv [.int v] w k n := by
  intro z hz p e s m args below meth c H locs ls C
  unfold z_bool at hz
  by_cases hb : v = 0 ∨ v = 1
  · rw [if_pos hb] at hz
    cases hz
    rw [hx]
    have hl := C.2.1.2.1
    exact W.widen hk hn (W.zret C.1.1 C.1.2.1 (C.2.1.1.trans hr) (z_b01 hb).1 (z_ret _ C) (z_retL C) hd hl)
  · rw [if_neg hb] at hz; cases hz
theorem r_zreturnc {x : α} {v : Int32} (hb : v = 0 ∨ v = 1) (hx : cv x = (some (.int v), w)) (hr : Y.2.2.2.2.1 = some .boolean) (hk : k ≤ Y.2.2.2.2.2.2.1) (hn : n ≤ Y.2.2.2.2.2.2.2) (hd : decode Y.2.1 pc = .ok (.ireturn, 1)) : z_G E l Y cv (some x) pc lv [.int v] w k n := by
  have h := r_zreturn (E := E) (l := l) (lv := lv) hx hr hk hn hd
  unfold z_bool at h
  rw [if_pos hb] at h
  exact h
theorem r_lreturn {x : α} {v : Int64} (hx : cv x = (some (.long v), w)) (hr : Y.2.2.2.2.1 = some .long) (hk : k ≤ Y.2.2.2.2.2.2.1) (hn : n ≤ Y.2.2.2.2.2.2.2) (hd : decode Y.2.1 pc = .ok (.lreturn, 1)) : z_G E l Y cv (some x) pc lv [.long v] w k n := by
  intro z hz p e s m args below meth c H locs ls C
  cases hz
  rw [hx]
  have hl := C.2.1.2.1
  exact W.widen hk hn (W.lret C.1.1 C.1.2.1 (C.2.1.1.trans hr) (z_ret _ C) (z_retL C) hd hl)
theorem r_return {x : α} (hx : cv x = (none, w)) (hr : Y.2.2.2.2.1 = none) (hk : k ≤ Y.2.2.2.2.2.2.1) (hn : n ≤ Y.2.2.2.2.2.2.2) (hd : decode Y.2.1 pc = .ok (.return_, 1)) : z_G E l Y cv (some x) pc lv [] w k n := by
  intro z hz p e s m args below meth c H locs ls C
  cases hz
  rw [hx]
  have hl := C.2.1.2.1
  exact W.widen hk hn (W.vret C.1.1 C.1.2.1 (C.2.1.1.trans hr) (z_ret _ C) (z_retL C) hd hl)
end
/-! the heap -/
def z_at (S : z_S) (a : Nat) (kd : z_K) : Prop := a < S.1 ∧ S.2.1 a = kd
theorem z_Str {A : Nat → Prop} {H0 H H1 : Heap} {locs locs1 : List Loc} (h : va_S A H0 H locs) (h1 : va_S A H H1 locs1) : va_S A H0 H1 locs1 := ⟨Nat.le_trans h.1 h1.1, fun q a b => (h1.2.1 q (Nat.lt_of_lt_of_le a h.1) b).trans (h.2.1 q a b), h1.2.2⟩
section
variable {α : Type} {E : z_E} {l : Launch} {Y : z_Y} {cv : α → Option Value × z_W} {res : Option α} {pc : Nat} {lv : List (Nat × Value)} {st : List Value} {w : z_W} {S : z_S} {d : z_D} {k n : Nat}
theorem z_own {p : Program} {s : State} {m : MethodId} {args : Array Value} {meth : Method} {c : Code} {H : Heap} {locs : List Loc} {ls : Array Slot} (C : z_C E Y p s m args meth c lv w H locs ls k) : va_S (z_A E) H H locs := ⟨Nat.le_refl _, fun _ _ _ => rfl, C.2.2.2.2.2.2.1.2.2⟩
theorem z_mv {p : Program} {e : Env} {R : Room} {s : State} {m : MethodId} {args : Array Value} {below : List Frame} {meth : Method} {c : Code} {H H1 : Heap} {locs locs1 : List Loc} {ls : Array Slot} {Q : State → Prop} {g : JFrame} {w' : z_W} (C : z_C E Y p s m args meth c lv w H locs ls k) (hn : w'.1.1 = w.1.1) (hP : va_P E.1 vwCl (z_ws E w') H1) (hS : va_S (z_A E) H H1 locs1)
    (K : z_C E Y p s m args meth c lv w' H1 locs1 ls k → W p l e R s m args below meth c H1 locs1 k n Q g) : W p l e R s m args below meth c H1 locs1 k n Q g := by
  intro T hT X
  have hz := X.heapSize
  rw [hT] at hz
  obtain ⟨c1, c2, c3, c4, ⟨c5, c6⟩, c7, c8, c9⟩ := C
  have hz2 := hS.1
  have hz3 := c7.2
  refine K ⟨c1, c2, c3, c4, ⟨c5, by rw [hn]; exact c6⟩, ⟨hP, by rw [hn]; omega⟩, z_Str c8 hS, c9⟩ T hT X
theorem z_fvset {b ci N kf : Nat} {rf : Nat → Option Nat} {da : Nat → Int32} {x : Int32} (hr : z_ref ci kf = false) : ((List.range N).map (z_fv b ci rf da)).set kf (.int x) = (List.range N).map (z_fv b ci rf (fun j => if j = kf then x else da j)) := by
  apply List.ext_getElem?
  intro i
  by_cases hi : i = kf
  · subst hi
    by_cases hN : i < N
    · rw [List.getElem?_set_self (by simpa using hN), List.getElem?_map, List.getElem?_range hN]
      simp [z_fv, hr]
    · rw [List.getElem?_eq_none (by simp; omega), List.getElem?_eq_none (by simp; omega)]
  · rw [List.getElem?_set_ne (Ne.symm hi), List.getElem?_map, List.getElem?_map]
    cases h : (List.range N)[i]? with
    | none => rfl
    | some j =>
      have hj : j = i := by
        have h1 := (List.getElem?_eq_some_iff.mp h)
        obtain ⟨h2, h3⟩ := h1
        rw [List.getElem_range] at h3
        exact h3.symm
      subst hj
      simp [z_fv, hi]
theorem r_get {a : Nat} {kd : z_K} {ci N : Nat} {C9 : String} {T : u_T} {idx : Nat} (ha : z_at S a kd) (hci : kd.1 = ci) (h8 : ci < 8) (hN : kd.2.1 = N) (hc : vwCl[ci]? = some (C9, T, N)) (hin : ∀ w ∈ u_ws C9 T N, w ∈ Y.2.2.2.1) (kf : Nat) (hkf : kf < N) (hT : (T kf).1 = C9) (hlink : Cond.fieldLink Y.1 idx C9 (T kf).2.1 (T kf).2.2.1 ∈ Y.2.2.2.1) (v : Value) (hv : z_fv E.2.1 ci kd.2.2 (d a) kf = v) (pc' : Nat) (hp : pc + 3 = pc') (hd : decode Y.2.1 pc = .ok (.getfield idx, 3)) (K : z_G E l Y cv res pc' lv (v :: st) (S, d) k n) : z_G E l Y cv res pc lv (.ref (E.2.1 + a) :: st) (S, d) k n := by
  subst hp
  subst hci
  subst hN
  intro z hz p e s m args below meth c H locs ls C
  obtain ⟨q, hq⟩ := z_get E (S, d) ha.1 ha.2 (by omega)
  rw [z_cell, if_pos h8] at hq
  exact va_get C.1.1 C.1.2.1 C.1.2.2.2.2 hin C.1.2.2.2.1 C.2.2.1 C.2.2.2.2.2.1.1 q hq hc kf hkf (C.1.2.2.2.2 _ hlink) (by rw [hT]; exact fun _ h9 => h9) (by rw [List.getElem?_map, List.getElem?_range hkf]; exact congrArg some hv) hd (K z hz p e s m args below meth c H locs ls C)
theorem r_getN {a : Nat} {kd : z_K} {ci N : Nat} {C9 : String} {T : u_T} {idx : Nat} (kf j : Nat) (hj : z_nf[j]? = some (Y.1, idx, C9, (T kf).2.1, (T kf).2.2.1)) (ha : z_at S a kd) (hci : kd.1 = ci) (h8 : ci < 8) (hN : kd.2.1 = N) (hc : vwCl[ci]? = some (C9, T, N)) (hin : ∀ w ∈ u_ws C9 T N, w ∈ Y.2.2.2.1) (hkf : kf < N) (hT : (T kf).1 = C9) (v : Value) (hv : z_fv E.2.1 ci kd.2.2 (d a) kf = v) (pc' : Nat) (hp : pc + 3 = pc') (hd : decode Y.2.1 pc = .ok (.getfield idx, 3)) (K : z_G E l Y cv res pc' lv (v :: st) (S, d) k n) : z_G E l Y cv res pc lv (.ref (E.2.1 + a) :: st) (S, d) k n := by
  subst hp
  subst hci
  subst hN
  intro z hz p e s m args below meth c H locs ls C
  obtain ⟨q, hq⟩ := z_get E (S, d) ha.1 ha.2 (by omega)
  rw [z_cell, if_pos h8] at hq
  exact va_getN C.1.1 C.1.2.1 C.1.2.2.2.2 hin C.1.2.2.2.1 C.2.2.1 C.2.2.2.2.2.1.1 q hq hc kf hkf ((C.2.2.2.1.2.2.2.2.2.1 j _ hj).use rfl) (by rw [hT]; exact fun _ h9 => h9) (by rw [List.getElem?_map, List.getElem?_range hkf]; exact congrArg some hv) hd (K z hz p e s m args below meth c H locs ls C)
def z_put {α : Type} (d : z_D) (a i : Nat) (x : Int32) (K : z_D → Option α) : Option α := K (z_up d a i x)
def z_putz {α : Type} (d : z_D) (a i : Nat) (x : Int32) (K : z_D → Option α) : Option α := if x = 0 ∨ x = 1 then K (z_up d a i x) else none
theorem r_put {kf a : Nat} {kd : z_K} {ci N : Nat} {C9 : String} {T : u_T} {idx : Nat} {x : Int32} {ty : FieldType} {KB : z_D → Option α} (ha : z_at S a kd) (hci : kd.1 = ci) (h8 : ci < 8) (hN : kd.2.1 = N) (hc : vwCl[ci]? = some (C9, T, N)) (hin : ∀ w ∈ u_ws C9 T N, w ∈ Y.2.2.2.1) (ty0 : Nat → FieldType) (hty : ∀ k, k < N → parseFieldDescriptor (T k).2.2.1 = some (ty0 k)) (hnm : ∀ a, a < N → ∀ b, b < N → a ≠ b → (T a).2.1 ≠ (T b).2.1) (hkf : kf < N) (hT : (T kf).1 = C9) (hlink : Cond.fieldLink Y.1 idx C9 (T kf).2.1 (T kf).2.2.1 ∈ Y.2.2.2.1) (hfin : (T kf).2.2.2 = false) (hr : z_ref ci kf = false) (hpd : parseFieldDescriptor (T kf).2.2.1 = some ty) (hnar : narrow ty (.int x) = .int x) (hfit : fits ty (.int x) = true) (pc' : Nat) (hp : pc + 3 = pc') (hd : decode Y.2.1 pc = .ok (.putfield idx, 3)) (K : ∀ d', z_G E l Y cv (KB d') pc' lv st (S, d') k n) : z_G E l Y cv (z_put d a kf x KB) pc lv (.int x :: .ref (E.2.1 + a) :: st) (S, d) k n := by
  subst hp
  subst hci
  subst hN
  intro z hz p e s m args below meth c H locs ls C
  obtain ⟨q, hq⟩ := z_get E (S, d) ha.1 ha.2 (by omega)
  have hq0 := hq
  rw [z_cell, if_pos h8] at hq
  refine va_put C.1.1 C.1.2.1 C.1.2.2.2.2 hin ty0 hty hnm C.1.2.2.2.1 C.2.2.1 C.2.2.2.2.2.1.1 (z_dd E (S, d)) (z_own C) q hq hc kf hkf (C.1.2.2.2.2 _ hlink) (by rw [hT]; exact fun _ h9 => h9) hfin hpd hnar hfit (by simpa using hkf) hd (fun H1 locs1 hP1 _ hS1 => ?_)
  rw [z_fvset hr] at hP1
  have hs := z_set E S d (a := a) (i := kf) x ha.1 ha.2 (by omega) hq0
  rw [z_cell, if_pos h8] at hs
  rw [hs] at hP1
  exact z_mv C (w' := (S, z_up d a kf x)) rfl hP1 hS1 (fun C1 => K _ z hz p e s m args below meth c H1 locs1 ls C1)
theorem r_putz {kf a : Nat} {kd : z_K} {ci N : Nat} {C9 : String} {T : u_T} {idx : Nat} {x : Int32} {KB : z_D → Option α} (ha : z_at S a kd) (hci : kd.1 = ci) (h8 : ci < 8) (hN : kd.2.1 = N) (hc : vwCl[ci]? = some (C9, T, N)) (hin : ∀ w ∈ u_ws C9 T N, w ∈ Y.2.2.2.1) (ty0 : Nat → FieldType) (hty : ∀ k, k < N → parseFieldDescriptor (T k).2.2.1 = some (ty0 k)) (hnm : ∀ a, a < N → ∀ b, b < N → a ≠ b → (T a).2.1 ≠ (T b).2.1) (hkf : kf < N) (hT : (T kf).1 = C9) (hlink : Cond.fieldLink Y.1 idx C9 (T kf).2.1 (T kf).2.2.1 ∈ Y.2.2.2.1) (hfin : (T kf).2.2.2 = false) (hr : z_ref ci kf = false) (hpd : parseFieldDescriptor (T kf).2.2.1 = some .boolean) (pc' : Nat) (hp : pc + 3 = pc') (hd : decode Y.2.1 pc = .ok (.putfield idx, 3)) (K : ∀ d', z_G E l Y cv (KB d') pc' lv st (S, d') k n) : z_G E l Y cv (z_putz d a kf x KB) pc lv (.int x :: .ref (E.2.1 + a) :: st) (S, d) k n := by
  by_cases hb : x = 0 ∨ x = 1
  · have h9 := r_put (E := E) (l := l) (cv := cv) (lv := lv) (st := st) (k := k) (n := n) (d := d) (KB := KB) (x := x) ha hci h8 hN hc hin ty0 hty hnm hkf hT hlink hfin hr hpd (z_b01 hb).1 (z_b01 hb).2 pc' hp hd K
    have e9 : z_putz d a kf x KB = z_put d a kf x KB := if_pos hb
    rw [e9]
    exact h9
  · have e9 : z_putz d a kf x KB = none := if_neg hb
    rw [e9]
    exact r_none
theorem r_putN {kf a : Nat} {kd : z_K} {ci N : Nat} {C9 : String} {T : u_T} {idx : Nat} {x : Int32} {ty : FieldType} {KB : z_D → Option α} (j : Nat) (hj : z_nf[j]? = some (Y.1, idx, C9, (T kf).2.1, (T kf).2.2.1)) (ha : z_at S a kd) (hci : kd.1 = ci) (h8 : ci < 8) (hN : kd.2.1 = N) (hc : vwCl[ci]? = some (C9, T, N)) (hin : ∀ w ∈ u_ws C9 T N, w ∈ Y.2.2.2.1) (ty0 : Nat → FieldType) (hty : ∀ k, k < N → parseFieldDescriptor (T k).2.2.1 = some (ty0 k)) (hnm : ∀ a, a < N → ∀ b, b < N → a ≠ b → (T a).2.1 ≠ (T b).2.1) (hkf : kf < N) (hT : (T kf).1 = C9) (hfin : (T kf).2.2.2 = false) (hr : z_ref ci kf = false) (hpd : parseFieldDescriptor (T kf).2.2.1 = some ty) (hnar : narrow ty (.int x) = .int x) (hfit : fits ty (.int x) = true) (pc' : Nat) (hp : pc + 3 = pc') (hd : decode Y.2.1 pc = .ok (.putfield idx, 3)) (K : ∀ d', z_G E l Y cv (KB d') pc' lv st (S, d') k n) : z_G E l Y cv (z_put d a kf x KB) pc lv (.int x :: .ref (E.2.1 + a) :: st) (S, d) k n := by
  subst hp
  subst hci
  subst hN
  intro z hz p e s m args below meth c H locs ls C
  obtain ⟨q, hq⟩ := z_get E (S, d) ha.1 ha.2 (by omega)
  have hq0 := hq
  rw [z_cell, if_pos h8] at hq
  refine va_putN C.1.1 C.1.2.1 C.1.2.2.2.2 hin ty0 hty hnm C.1.2.2.2.1 C.2.2.1 C.2.2.2.2.2.1.1 (z_dd E (S, d)) (z_own C) q hq hc kf hkf ((C.2.2.2.1.2.2.2.2.2.1 j _ hj).use rfl) (by rw [hT]; exact fun _ h9 => h9) hfin hpd hnar hfit (by simpa using hkf) hd (fun H1 locs1 hP1 _ hS1 => ?_)
  rw [z_fvset hr] at hP1
  have hs := z_set E S d (a := a) (i := kf) x ha.1 ha.2 (by omega) hq0
  rw [z_cell, if_pos h8] at hs
  rw [hs] at hP1
  exact z_mv C (w' := (S, z_up d a kf x)) rfl hP1 hS1 (fun C1 => K _ z hz p e s m args below meth c H1 locs1 ls C1)
theorem r_putNz {kf a : Nat} {kd : z_K} {ci N : Nat} {C9 : String} {T : u_T} {idx : Nat} {x : Int32} {KB : z_D → Option α} (j : Nat) (hj : z_nf[j]? = some (Y.1, idx, C9, (T kf).2.1, (T kf).2.2.1)) (ha : z_at S a kd) (hci : kd.1 = ci) (h8 : ci < 8) (hN : kd.2.1 = N) (hc : vwCl[ci]? = some (C9, T, N)) (hin : ∀ w ∈ u_ws C9 T N, w ∈ Y.2.2.2.1) (ty0 : Nat → FieldType) (hty : ∀ k, k < N → parseFieldDescriptor (T k).2.2.1 = some (ty0 k)) (hnm : ∀ a, a < N → ∀ b, b < N → a ≠ b → (T a).2.1 ≠ (T b).2.1) (hkf : kf < N) (hT : (T kf).1 = C9) (hfin : (T kf).2.2.2 = false) (hr : z_ref ci kf = false) (hpd : parseFieldDescriptor (T kf).2.2.1 = some .boolean) (pc' : Nat) (hp : pc + 3 = pc') (hd : decode Y.2.1 pc = .ok (.putfield idx, 3)) (K : ∀ d', z_G E l Y cv (KB d') pc' lv st (S, d') k n) : z_G E l Y cv (z_putz d a kf x KB) pc lv (.int x :: .ref (E.2.1 + a) :: st) (S, d) k n := by
  by_cases hb : x = 0 ∨ x = 1
  · have h9 := r_putN (E := E) (l := l) (cv := cv) (lv := lv) (st := st) (k := k) (n := n) (d := d) (KB := KB) (x := x) j hj ha hci h8 hN hc hin ty0 hty hnm hkf hT hfin hr hpd (z_b01 hb).1 (z_b01 hb).2 pc' hp hd K
    have e9 : z_putz d a kf x KB = z_put d a kf x KB := if_pos hb
    rw [e9]
    exact h9
  · have e9 : z_putz d a kf x KB = none := if_neg hb
    rw [e9]
    exact r_none
def z_ald {α : Type} (d : z_D) (a N : Nat) (i : Int32) (K : Int32 → Option α) : Option α := if i < 0 ∨ N ≤ i.toNatClampNeg then none else K (d a i.toNatClampNeg)
def z_ast {α : Type} (d : z_D) (a N : Nat) (i x : Int32) (K : z_D → Option α) : Option α := if i < 0 ∨ N ≤ i.toNatClampNeg then none else K (z_up d a i.toNatClampNeg x)
def z_aald {α : Type} (N : Nat) (i : Int32) (K : Nat → Option α) : Option α := if i < 0 ∨ N ≤ i.toNatClampNeg then none else K i.toNatClampNeg
def z_tab {α : Type} (L : List Int32) (i : Int32) (K : Int32 → Option α) : Option α := if i < 0 ∨ L.length ≤ i.toNatClampNeg then none else K (L.getD i.toNatClampNeg 0)
theorem r_iald {a N : Nat} {kd : z_K} {i : Int32} {KB : Int32 → Option α} (ha : z_at S a kd) (ht : kd.1 = 8) (hN : kd.2.1 = N) (pc' : Nat) (hp : pc + 1 = pc') (hd : decode Y.2.1 pc = .ok (.iaload, 1)) (K : ∀ v, z_G E l Y cv (KB v) pc' lv (.int v :: st) (S, d) k n) : z_G E l Y cv (z_ald d a N i KB) pc lv (.int i :: .ref (E.2.1 + a) :: st) (S, d) k n := by
  subst hp
  subst hN
  intro z hz p e s m args below meth c H locs ls C
  unfold z_ald at hz
  by_cases hi : i < 0 ∨ kd.2.1 ≤ i.toNatClampNeg
  · rw [if_pos hi] at hz; cases hz
  · rw [if_neg hi] at hz
    obtain ⟨q, hq⟩ := z_get E (S, d) ha.1 ha.2 (by omega)
    rw [z_cell, if_neg (by omega), if_pos (by omega), ht] at hq
    exact va_iald C.1.1 C.1.2.1 C.2.2.1 C.2.2.2.2.2.1.1 q 0 hq rfl hi hd (K _ z hz p e s m args below meth c H locs ls C)
theorem r_zald {a N : Nat} {kd : z_K} {i : Int32} {KB : Int32 → Option α} (ha : z_at S a kd) (ht : kd.1 = 9) (hN : kd.2.1 = N) (pc' : Nat) (hp : pc + 1 = pc') (hd : decode Y.2.1 pc = .ok (.baload, 1)) (K : ∀ v, z_G E l Y cv (KB v) pc' lv (.int v :: st) (S, d) k n) : z_G E l Y cv (z_ald d a N i KB) pc lv (.int i :: .ref (E.2.1 + a) :: st) (S, d) k n := by
  subst hp
  subst hN
  intro z hz p e s m args below meth c H locs ls C
  unfold z_ald at hz
  by_cases hi : i < 0 ∨ kd.2.1 ≤ i.toNatClampNeg
  · rw [if_pos hi] at hz; cases hz
  · rw [if_neg hi] at hz
    obtain ⟨q, hq⟩ := z_get E (S, d) ha.1 ha.2 (by omega)
    rw [z_cell, if_neg (by omega), if_pos (by omega), ht] at hq
    exact va_zald C.1.1 C.1.2.1 C.2.2.1 C.2.2.2.2.2.1.1 q 1 hq rfl hi hd (K _ z hz p e s m args below meth c H locs ls C)
theorem r_bald {a N : Nat} {kd : z_K} {i : Int32} {KB : Int32 → Option α} (ha : z_at S a kd) (ht : kd.1 = 10) (hN : kd.2.1 = N) (pc' : Nat) (hp : pc + 1 = pc') (hd : decode Y.2.1 pc = .ok (.baload, 1)) (K : ∀ v, z_G E l Y cv (KB v) pc' lv (.int v :: st) (S, d) k n) : z_G E l Y cv (z_ald d a N i KB) pc lv (.int i :: .ref (E.2.1 + a) :: st) (S, d) k n := by
  subst hp
  subst hN
  intro z hz p e s m args below meth c H locs ls C
  unfold z_ald at hz
  by_cases hi : i < 0 ∨ kd.2.1 ≤ i.toNatClampNeg
  · rw [if_pos hi] at hz; cases hz
  · rw [if_neg hi] at hz
    obtain ⟨q, hq⟩ := z_get E (S, d) ha.1 ha.2 (by omega)
    rw [z_cell, if_neg (by omega), if_pos (by omega), ht] at hq
    exact va_bald C.1.1 C.1.2.1 C.2.2.1 C.2.2.2.2.2.1.1 q 2 hq rfl hi hd (K _ z hz p e s m args below meth c H locs ls C)
theorem r_iast {a N : Nat} {kd : z_K} {i x : Int32} {KB : z_D → Option α} (ha : z_at S a kd) (ht : kd.1 = 8) (hN : kd.2.1 = N) (pc' : Nat) (hp : pc + 1 = pc') (hd : decode Y.2.1 pc = .ok (.iastore, 1)) (K : ∀ d', z_G E l Y cv (KB d') pc' lv st (S, d') k n) : z_G E l Y cv (z_ast d a N i x KB) pc lv (.int x :: .int i :: .ref (E.2.1 + a) :: st) (S, d) k n := by
  subst hp
  subst hN
  intro z hz p e s m args below meth c H locs ls C
  unfold z_ast at hz
  by_cases hi : i < 0 ∨ kd.2.1 ≤ i.toNatClampNeg
  · rw [if_pos hi] at hz; cases hz
  · rw [if_neg hi] at hz
    obtain ⟨q, hq⟩ := z_get E (S, d) ha.1 ha.2 (by omega)
    have hs := z_set E S d (a := a) (i := i.toNatClampNeg) x ha.1 ha.2 (by omega) hq
    rw [z_cell, if_neg (by omega), if_pos (by omega), ht] at hq hs
    refine va_iast C.1.1 C.1.2.1 C.2.2.1 C.2.2.2.2.2.1.1 (z_dd E (S, d)) (z_own C) q 0 hq rfl hi hd (fun H1 locs1 hP1 _ hS1 => ?_)
    have hP2 : va_P E.1 vwCl (z_ws E (S, z_up d a i.toNatClampNeg x)) H1 := by rw [← hs]; exact hP1
    exact z_mv C (w' := (S, z_up d a i.toNatClampNeg x)) rfl hP2 hS1 (fun C1 => K _ z hz p e s m args below meth c H1 locs1 ls C1)
theorem r_zast {a N : Nat} {kd : z_K} {i x : Int32} {KB : z_D → Option α} (ha : z_at S a kd) (ht : kd.1 = 9) (hN : kd.2.1 = N) (pc' : Nat) (hp : pc + 1 = pc') (hd : decode Y.2.1 pc = .ok (.bastore, 1)) (K : ∀ d', z_G E l Y cv (KB d') pc' lv st (S, d') k n) : z_G E l Y cv (z_ast d a N i (x &&& 1) KB) pc lv (.int x :: .int i :: .ref (E.2.1 + a) :: st) (S, d) k n := by
  subst hp
  subst hN
  intro z hz p e s m args below meth c H locs ls C
  unfold z_ast at hz
  by_cases hi : i < 0 ∨ kd.2.1 ≤ i.toNatClampNeg
  · rw [if_pos hi] at hz; cases hz
  · rw [if_neg hi] at hz
    obtain ⟨q, hq⟩ := z_get E (S, d) ha.1 ha.2 (by omega)
    have hs := z_set E S d (a := a) (i := i.toNatClampNeg) (x &&& 1) ha.1 ha.2 (by omega) hq
    rw [z_cell, if_neg (by omega), if_pos (by omega), ht] at hq hs
    refine va_zast C.1.1 C.1.2.1 C.2.2.1 C.2.2.2.2.2.1.1 (z_dd E (S, d)) (z_own C) q 1 hq rfl hi hd (fun H1 locs1 hP1 _ hS1 => ?_)
    have hP2 : va_P E.1 vwCl (z_ws E (S, z_up d a i.toNatClampNeg (x &&& 1))) H1 := by rw [← hs]; exact hP1
    exact z_mv C (w' := (S, z_up d a i.toNatClampNeg (x &&& 1))) rfl hP2 hS1 (fun C1 => K _ z hz p e s m args below meth c H1 locs1 ls C1)
theorem r_bast {a N : Nat} {kd : z_K} {i x : Int32} {KB : z_D → Option α} (ha : z_at S a kd) (ht : kd.1 = 10) (hN : kd.2.1 = N) (pc' : Nat) (hp : pc + 1 = pc') (hd : decode Y.2.1 pc = .ok (.bastore, 1)) (K : ∀ d', z_G E l Y cv (KB d') pc' lv st (S, d') k n) : z_G E l Y cv (z_ast d a N i x.toInt8.toInt32 KB) pc lv (.int x :: .int i :: .ref (E.2.1 + a) :: st) (S, d) k n := by
  subst hp
  subst hN
  intro z hz p e s m args below meth c H locs ls C
  unfold z_ast at hz
  by_cases hi : i < 0 ∨ kd.2.1 ≤ i.toNatClampNeg
  · rw [if_pos hi] at hz; cases hz
  · rw [if_neg hi] at hz
    obtain ⟨q, hq⟩ := z_get E (S, d) ha.1 ha.2 (by omega)
    have hs := z_set E S d (a := a) (i := i.toNatClampNeg) x.toInt8.toInt32 ha.1 ha.2 (by omega) hq
    rw [z_cell, if_neg (by omega), if_pos (by omega), ht] at hq hs
    refine va_bast C.1.1 C.1.2.1 C.2.2.1 C.2.2.2.2.2.1.1 (z_dd E (S, d)) (z_own C) q 2 hq rfl hi hd (fun H1 locs1 hP1 _ hS1 => ?_)
    have hP2 : va_P E.1 vwCl (z_ws E (S, z_up d a i.toNatClampNeg x.toInt8.toInt32)) H1 := by rw [← hs]; exact hP1
    exact z_mv C (w' := (S, z_up d a i.toNatClampNeg x.toInt8.toInt32)) rfl hP2 hS1 (fun C1 => K _ z hz p e s m args below meth c H1 locs1 ls C1)
theorem r_aald {a N : Nat} {kd : z_K} {i : Int32} {KB : Nat → Option α} {f : Nat → Nat} (ha : z_at S a kd) (ht : kd.1 = 12) (hN : kd.2.1 = N) (hf : ∀ j, j < N → kd.2.2 j = some (f j)) (pc' : Nat) (hp : pc + 1 = pc') (hd : decode Y.2.1 pc = .ok (.aaload, 1)) (K : ∀ j, j < N → z_G E l Y cv (KB j) pc' lv (.ref (E.2.1 + f j) :: st) (S, d) k n) : z_G E l Y cv (z_aald N i KB) pc lv (.int i :: .ref (E.2.1 + a) :: st) (S, d) k n := by
  subst hp
  subst hN
  intro z hz p e s m args below meth c H locs ls C
  unfold z_aald at hz
  by_cases hi : i < 0 ∨ kd.2.1 ≤ i.toNatClampNeg
  · rw [if_pos hi] at hz; cases hz
  · rw [if_neg hi] at hz
    obtain ⟨q, hq⟩ := z_get E (S, d) ha.1 ha.2 (by omega)
    rw [z_cell, if_neg (by omega), if_neg (by omega), if_pos (by omega), ht] at hq
    have hlt : i.toNatClampNeg < kd.2.1 := Nat.not_le.mp fun h => hi (Or.inr h)
    refine va_aldq C.1.1 C.1.2.1 C.2.2.1 C.2.2.2.2.2.1.1 q 4 (C := RX4) hq rfl hi hd ?_
    rw [hf _ hlt]
    exact K _ hlt z hz p e s m args below meth c H locs ls C
theorem r_gets {idx : Nat} (i : Nat) {q : String × String × List Int32} (hq : z_stl[i]? = some q) (hlink : Cond.fieldLink Y.1 idx q.1 q.2.1 "[I" ∈ Y.2.2.2.1) (pc' : Nat) (hp : pc + 3 = pc') (hd : decode Y.2.1 pc = .ok (.getstatic idx, 3)) (K : z_G E l Y cv res pc' lv (.ref (E.2.2.2.1 i) :: st) w k n) : z_G E l Y cv res pc lv st w k n := by
  subst hp
  intro z hz p e s m args below meth c H locs ls C
  exact va_gets C.1.1 C.1.2.1 (C.2.2.2.1.1 i q hq).1 C.2.2.2.2.2.2.1 C.1.2.2.2.1 (C.1.2.2.2.2 _ hlink) (fun _ h9 => h9) hd (K z hz p e s m args below meth c H locs ls C)
theorem r_tald {i : Int32} {L : List Int32} {KB : Int32 → Option α} (t : Nat) {q : String × String × List Int32} (hq : z_stl[t]? = some q) (hL : q.2.2 = L) (pc' : Nat) (hp : pc + 1 = pc') (hd : decode Y.2.1 pc = .ok (.iaload, 1)) (K : ∀ v, z_G E l Y cv (KB v) pc' lv (.int v :: st) w k n) : z_G E l Y cv (z_tab L i KB) pc lv (.int i :: .ref (E.2.2.2.1 t) :: st) w k n := by
  subst hp
  subst hL
  intro z hz p e s m args below meth c H locs ls C
  unfold z_tab at hz
  by_cases hi : i < 0 ∨ q.2.2.length ≤ i.toNatClampNeg
  · rw [if_pos hi] at hz; cases hz
  · rw [if_neg hi] at hz
    exact va_ti C.1.1 C.1.2.1 (C.2.2.2.1.1 t q hq).2 C.2.2.2.2.2.2.1 hi rfl hd (K _ z hz p e s m args below meth c H locs ls C)
theorem r_tlen (t : Nat) {v : Int32} {q : String × String × List Int32} (hq : z_stl[t]? = some q) (hv : Int32.ofNat q.2.2.length = v) (pc' : Nat) (hp : pc + 1 = pc') (hd : decode Y.2.1 pc = .ok (.arraylength, 1)) (K : z_G E l Y cv res pc' lv (.int v :: st) w k n) : z_G E l Y cv res pc lv (.ref (E.2.2.2.1 t) :: st) w k n := by
  subst hp
  intro z hz p e s m args below meth c H locs ls C
  exact va_tlen C.1.1 C.1.2.1 (C.2.2.2.1.1 t q hq).2 C.2.2.2.2.2.2.1 hv hd (K z hz p e s m args below meth c H locs ls C)
theorem r_mmax {x y : Int32} {idx : Nat} (h1 : Cond.methodLink Y.1 idx Lib.Math.max.name ∈ Y.2.2.2.1) (h2 : Cond.static Lib.Math.max.name ∈ Y.2.2.2.1) (h3 : Cond.initialized "java/lang/Math" ∈ Y.2.2.2.1) (h4 : Cond.code Lib.Math.max.name Lib.Math.max.code 2 (some .int) ∈ Y.2.2.2.1) (hf : 1 ≤ Y.2.2.2.2.2.1.frames) (hl : (st.map fun v => v.category).sum + 13 ≤ Y.2.2.2.2.2.1.locals) (hk : k ≤ Y.2.2.2.2.2.1.cells) (hn : n ≤ Y.2.2.2.2.2.1.slots) (pc' : Nat) (hp : pc + 3 = pc') (hd : decode Y.2.1 pc = .ok (.invokestatic idx, 3)) (K : z_G E l Y cv res pc' lv (.int (if x < y then y else x) :: st) w k n) : z_G E l Y cv res pc lv (.int y :: .int x :: st) w k n := by
  subst hp
  intro z hz p e s m args below meth c H locs ls C
  have ht := C.1.2.2.2.2
  exact va_mmax C.1.1 C.1.2.1 (C.1.2.2.1.trans C.2.2.2.2.2.2.2.1.symm) C.1.2.2.2.1 (ht _ h1) (ht _ h2) (ht _ h3) (ht _ h4) hf hl hk hn hd (K z hz p e s m args below meth c H locs ls C)
theorem r_mmin {x y : Int32} {idx : Nat} (h1 : Cond.methodLink Y.1 idx Lib.Math.min.name ∈ Y.2.2.2.1) (h2 : Cond.static Lib.Math.min.name ∈ Y.2.2.2.1) (h3 : Cond.initialized "java/lang/Math" ∈ Y.2.2.2.1) (h4 : Cond.code Lib.Math.min.name Lib.Math.min.code 2 (some .int) ∈ Y.2.2.2.1) (hf : 1 ≤ Y.2.2.2.2.2.1.frames) (hl : (st.map fun v => v.category).sum + 13 ≤ Y.2.2.2.2.2.1.locals) (hk : k ≤ Y.2.2.2.2.2.1.cells) (hn : n ≤ Y.2.2.2.2.2.1.slots) (pc' : Nat) (hp : pc + 3 = pc') (hd : decode Y.2.1 pc = .ok (.invokestatic idx, 3)) (K : z_G E l Y cv res pc' lv (.int (if y < x then y else x) :: st) w k n) : z_G E l Y cv res pc lv (.int y :: .int x :: st) w k n := by
  subst hp
  intro z hz p e s m args below meth c H locs ls C
  have ht := C.1.2.2.2.2
  exact va_mmin C.1.1 C.1.2.1 (C.1.2.2.1.trans C.2.2.2.2.2.2.2.1.symm) C.1.2.2.2.1 (ht _ h1) (ht _ h2) (ht _ h3) (ht _ h4) hf hl hk hn hd (K z hz p e s m args below meth c H locs ls C)
end
/-! calls -/
def z_Ok (y : MethodName) (Y : z_Y) (np : Nat) : Prop := (∃ ws', Y.2.2.2.1 = Cond.code y Y.2.1 Y.2.2.1 Y.2.2.2.2.1 :: ws') ∧ Y.2.2.2.2.2.1.cells = Y.2.2.2.2.2.2.1 ∧ Y.2.2.2.2.2.1.slots = Y.2.2.2.2.2.2.2 ∧ y.cls = Y.1 ∧ (y.cls ≠ "java/lang/invoke/MethodHandle" ∧ y.cls ≠ "java/lang/invoke/VarHandle") ∧ (parseMethodDescriptor y.desc).map (fun d => d.parameters.length) = some np
/-- the callee's room fits the caller's -/
def z_Fit (Y Yc : z_Y) (k n : Nat) : Prop := (Yc.2.2.2.2.2.1.frames + 1 ≤ Y.2.2.2.2.2.1.frames ∧ 8 + (Yc.2.2.1 + 11) + Yc.2.2.2.2.2.1.locals ≤ Y.2.2.2.2.2.1.locals) ∧ k + Yc.2.2.2.2.2.2.1 ≤ Y.2.2.2.2.2.1.cells ∧ n + Yc.2.2.2.2.2.2.2 ≤ Y.2.2.2.2.2.1.slots
section
variable {α β : Type} {E : z_E} {l : Launch} {Y Yc : z_Y} {cv : α → Option Value × z_W} {cvc : β → Option Value × z_W} {resc : Option β} {KB : β → Option α} {pc : Nat} {lv : List (Nat × Value)} {st stk : List Value} {w : z_W} {k n : Nat} {y : MethodName} {idx : Nat} {As : List Value}
theorem z_pre {p : Program} {s : State} {m : MethodId} {args : Array Value} {meth : Method} {c : Code} {H : Heap} {locs : List Loc} {ls : Array Slot} {av : List Value} (C : z_C E Y p s m args meth c lv w H locs ls k) : PreS s H (va_Pc av (z_Wd E w)) av := by
  obtain ⟨c1, c2, c3, c4, c5, c7, c8, c9⟩ := C
  refine ⟨z_blind E w av, fun U hU hW => ⟨rfl, by rw [hU]; exact c7, va_K.moved hW.alike c3, ?_⟩⟩
  rw [hU]
  exact c4.to hW c8.2.1
theorem z_core {p : Program} {e : Env} {s : State} {m : MethodId} {args : Array Value} {below : List Frame} {meth : Method} {c : Code} {H : Heap} {locs : List Loc} {ls : Array Slot} {a : Array Value} {z : α} (C : z_C E Y p s m args meth c lv w H locs ls k)
    (hrun : ∀ x, resc = some x → va_Run p l e Y.2.2.2.2.2.1 s m args below meth c H locs k n Yc.2.2.2.2.2.2.1 Yc.2.2.2.2.2.2.2 (F0 m pc ls stk) st (z_Q E (cvc x).1 (cvc x).2 a) (z_A E)) (hmc : ∀ x, resc = some x → (cvc x).2.1.1 = w.1.1 + Yc.2.2.2.2.2.2.1)
    (K : ∀ x, resc = some x → z_G E l Y cv (KB x) (pc + 3) lv ((cvc x).1.toList ++ st) (cvc x).2 (k + Yc.2.2.2.2.2.2.1) (n + Yc.2.2.2.2.2.2.2)) (hz : resc.bind KB = some z) :
    W p l e Y.2.2.2.2.2.1 s m args below meth c H locs k n (MQ below (z_Q E (cv z).1 (cv z).2) args s Y.2.2.2.2.2.2.1 Y.2.2.2.2.2.2.2 (z_A E)) (F0 m pc ls stk) := by
  obtain ⟨x, hx, hz⟩ := Option.bind_eq_some_iff.mp hz
  intro T hT X
  obtain ⟨v, st₀, t, T', L, h0, X', hL, e1, e2, ⟨⟨hv, hH⟩, hz1, hk1⟩, stp⟩ := hrun x hx T hT X
  cases hv
  rw [h0] at hz1 hk1
  obtain ⟨c1, c2, c3, c4, ⟨c5, c6⟩, c7, c8, c9⟩ := C
  have hS : va_S (z_A E) s.heap T'.heap (locs ++ L) := by
    refine z_Str c8 ⟨by rw [e1]; exact hz1, fun q h1 h2 => by rw [e1]; exact hk1 q h1 h2, fun q hq => ?_⟩
    rcases List.mem_append.mp hq with h | h
    · exact c8.2.2 q h
    · exact hL q h
  obtain ⟨t2, a1, b1⟩ := K x hx z hz p e s m args below meth c T'.heap (locs ++ L) ls ⟨c1, c2, c3, c4, ⟨c5, by rw [hmc x hx]; omega⟩, by rw [e1]; exact hH, hS, c9⟩ T' rfl X'
  exact ⟨t2, stp t2 a1, b1⟩
theorem r_callV {b : Nat} {kd : z_K} {q9 : vw_C} (hM : z_Sp E l y Yc cvc (.ref (E.2.1 + b) :: As) w resc) (hO : z_Ok y Yc As.length) (hF : z_Fit Y Yc k n) (ha : z_at w.1 b kd) (h8 : kd.1 < 8) (hcl : vwCl[kd.1]? = some q9) (hq9 : q9.1 = Yc.1) (hst : stk = As.reverse ++ .ref (E.2.1 + b) :: st) (hcat : (st.map fun v => v.category).sum ≤ 8) (hG : GoodIn Y.2.2.2.1 (wsV Y.1 idx Yc.1 y Yc.2.2.2.1)) (hmc : ∀ x, resc = some x → (cvc x).2.1.1 = w.1.1 + Yc.2.2.2.2.2.2.1) (pc' : Nat) (hp : pc + 3 = pc') (hd : decode Y.2.1 pc = .ok (.invokevirtual idx, 3)) (K : ∀ x, resc = some x → z_G E l Y cv (KB x) pc' lv ((cvc x).1.toList ++ st) (cvc x).2 (k + Yc.2.2.2.2.2.2.1) (n + Yc.2.2.2.2.2.2.2)) : z_G E l Y cv (resc.bind KB) pc lv stk w k n := by
  subst hp
  subst hst
  intro z hz p e s m args below meth c H locs ls C
  obtain ⟨q, hq⟩ := z_get E w ha.1 ha.2 (by omega)
  rw [z_cell, if_pos h8] at hq
  have hrv := va_recv C.2.2.1 C.2.2.2.2.2.1.1 hcl hq
  rw [hq9] at hrv
  obtain ⟨⟨ws', o1⟩, o2, o3, o4, o5, o6⟩ := hO
  refine z_core (a := (Value.ref (E.2.1 + b) :: As).toArray) C (fun x hx => ?_) hmc K hz
  exact va_runV ⟨C.1.1, C.1.2.1, C.1.2.2.1, C.1.2.2.2.1, C.1.2.2.2.2⟩ (hM x hx) (cwV As.length C.1.2.2.2.2 hG o1 o2 o3 ⟨o4, o5.1, o5.2, o6⟩ hF.1) ⟨(z_pre C).1, hrv, (z_pre C).2⟩ rfl rfl C.2.2.2.2.2.2.2.1 rfl (lv_room hcat) hd hF.2
theorem r_callVN {b : Nat} {kd : z_K} {q9 : vw_C} (hM : z_Sp E l y Yc cvc (.ref (E.2.1 + b) :: As) w resc) (hO : z_Ok y Yc As.length) (hF : z_Fit Y Yc k n) (ha : z_at w.1 b kd) (h8 : kd.1 < 8) (hcl : vwCl[kd.1]? = some q9) (hq9 : q9.1 = Yc.1) (hst : stk = As.reverse ++ .ref (E.2.1 + b) :: st) (hcat : (st.map fun v => v.category).sum ≤ 8) (j : Nat) (hj : z_nm[j]? = some (Y.1, idx, y)) (hG : GoodIn Y.2.2.2.1 Yc.2.2.2.1) (h1 : Cond.initialized y.cls ∈ Y.2.2.2.1) (h2 : Cond.instanceMethod y ∈ Y.2.2.2.1) (h3 : Cond.selects Yc.1 y y ∈ Y.2.2.2.1) (hmc : ∀ x, resc = some x → (cvc x).2.1.1 = w.1.1 + Yc.2.2.2.2.2.2.1) (pc' : Nat) (hp : pc + 3 = pc') (hd : decode Y.2.1 pc = .ok (.invokevirtual idx, 3)) (K : ∀ x, resc = some x → z_G E l Y cv (KB x) pc' lv ((cvc x).1.toList ++ st) (cvc x).2 (k + Yc.2.2.2.2.2.2.1) (n + Yc.2.2.2.2.2.2.2)) : z_G E l Y cv (resc.bind KB) pc lv stk w k n := by
  subst hp
  subst hst
  intro z hz p e s m args below meth c H locs ls C
  obtain ⟨q, hq⟩ := z_get E w ha.1 ha.2 (by omega)
  rw [z_cell, if_pos h8] at hq
  have hrv := va_recv C.2.2.1 C.2.2.2.2.2.1.1 hcl hq
  rw [hq9] at hrv
  obtain ⟨⟨ws', o1⟩, o2, o3, o4, o5, o6⟩ := hO
  refine z_core (a := (Value.ref (E.2.1 + b) :: As).toArray) C (fun x hx => ?_) hmc K hz
  have ht := C.1.2.2.2.2
  exact va_runVN ⟨C.1.1, C.1.2.1, C.1.2.2.1, C.1.2.2.2.1, C.1.2.2.2.2⟩ (hM x hx) ⟨va_cnB As.length ht hG o1 o2 o3 (C.2.2.2.1.2.2.2.2.2.2.1 j _ hj) (ht _ h1) ⟨o5.1, o5.2, o6⟩ hF.1, ht _ h2, ht _ h3⟩ ⟨(z_pre C).1, hrv, (z_pre C).2⟩ rfl rfl C.2.2.2.2.2.2.2.1 rfl (lv_room hcat) hd hF.2
theorem r_callS (hM : z_Sp E l y Yc cvc As w resc) (hO : z_Ok y Yc As.length) (hF : z_Fit Y Yc k n) (hst : stk = As.reverse ++ st) (hcat : (st.map fun v => v.category).sum ≤ 8) (hG : GoodIn Y.2.2.2.1 (va_wsS Y.1 idx y Yc.2.2.2.1)) (hmc : ∀ x, resc = some x → (cvc x).2.1.1 = w.1.1 + Yc.2.2.2.2.2.2.1) (pc' : Nat) (hp : pc + 3 = pc') (hd : decode Y.2.1 pc = .ok (.invokestatic idx, 3)) (K : ∀ x, resc = some x → z_G E l Y cv (KB x) pc' lv ((cvc x).1.toList ++ st) (cvc x).2 (k + Yc.2.2.2.2.2.2.1) (n + Yc.2.2.2.2.2.2.2)) : z_G E l Y cv (resc.bind KB) pc lv stk w k n := by
  subst hp
  subst hst
  intro z hz p e s m args below meth c H locs ls C
  obtain ⟨⟨ws', o1⟩, o2, o3, o4, o5, o6⟩ := hO
  refine z_core (a := As.toArray) C (fun x hx => ?_) hmc K hz
  exact va_runS ⟨C.1.1, C.1.2.1, C.1.2.2.1, C.1.2.2.2.1, C.1.2.2.2.2⟩ (hM x hx) (va_cwS As.length C.1.2.2.2.2 hG o1 o2 o3 ⟨o5.1, o5.2, o6⟩ hF.1) (z_pre C) rfl rfl C.2.2.2.2.2.2.2.1 rfl (lv_room hcat) hd hF.2
theorem r_callSN (hM : z_Sp E l y Yc cvc As w resc) (hO : z_Ok y Yc As.length) (hF : z_Fit Y Yc k n) (hst : stk = As.reverse ++ st) (hcat : (st.map fun v => v.category).sum ≤ 8) (j : Nat) (hj : z_nm[j]? = some (Y.1, idx, y)) (hG : GoodIn Y.2.2.2.1 Yc.2.2.2.1) (h1 : Cond.initialized y.cls ∈ Y.2.2.2.1) (h2 : Cond.static y ∈ Y.2.2.2.1) (hmc : ∀ x, resc = some x → (cvc x).2.1.1 = w.1.1 + Yc.2.2.2.2.2.2.1) (pc' : Nat) (hp : pc + 3 = pc') (hd : decode Y.2.1 pc = .ok (.invokestatic idx, 3)) (K : ∀ x, resc = some x → z_G E l Y cv (KB x) pc' lv ((cvc x).1.toList ++ st) (cvc x).2 (k + Yc.2.2.2.2.2.2.1) (n + Yc.2.2.2.2.2.2.2)) : z_G E l Y cv (resc.bind KB) pc lv stk w k n := by
  subst hp
  subst hst
  intro z hz p e s m args below meth c H locs ls C
  obtain ⟨⟨ws', o1⟩, o2, o3, o4, o5, o6⟩ := hO
  refine z_core (a := As.toArray) C (fun x hx => ?_) hmc K hz
  have ht := C.1.2.2.2.2
  exact va_runSN ⟨C.1.1, C.1.2.1, C.1.2.2.1, C.1.2.2.2.1, C.1.2.2.2.2⟩ (hM x hx) ⟨va_cnB As.length ht hG o1 o2 o3 (C.2.2.2.1.2.2.2.2.2.2.1 j _ hj) (ht _ h1) ⟨o5.1, o5.2, o6⟩ hF.1, ht _ h2, trivial⟩ (z_pre C) rfl rfl C.2.2.2.2.2.2.2.1 rfl (lv_room hcat) hd hF.2
theorem r_callIN {b : Nat} (hM : z_Sp E l y Yc cvc (.ref (E.2.1 + b) :: As) w resc) (hO : z_Ok y Yc As.length) (hF : z_Fit Y Yc k n) (hst : stk = As.reverse ++ .ref (E.2.1 + b) :: st) (hcat : (st.map fun v => v.category).sum ≤ 8) (j : Nat) (hj : z_nm[j]? = some (Y.1, idx, y)) (hG : GoodIn Y.2.2.2.1 Yc.2.2.2.1) (h1 : Cond.initialized y.cls ∈ Y.2.2.2.1) (h2 : Cond.instanceMethod y ∈ Y.2.2.2.1) (hy1 : y.name = "<init>") (hret : Yc.2.2.2.2.1 = none) (hmc : ∀ x, resc = some x → (cvc x).2.1.1 = w.1.1 + Yc.2.2.2.2.2.2.1) (pc' : Nat) (hp : pc + 3 = pc') (hd : decode Y.2.1 pc = .ok (.invokespecial idx, 3)) (K : ∀ x, resc = some x → z_G E l Y cv (KB x) pc' lv ((cvc x).1.toList ++ st) (cvc x).2 (k + Yc.2.2.2.2.2.2.1) (n + Yc.2.2.2.2.2.2.2)) : z_G E l Y cv (resc.bind KB) pc lv stk w k n := by
  subst hp
  subst hst
  intro z hz p e s m args below meth c H locs ls C
  obtain ⟨⟨ws', o1⟩, o2, o3, o4, o5, o6⟩ := hO
  rw [hret] at o1
  refine z_core (a := (Value.ref (E.2.1 + b) :: As).toArray) C (fun x hx => ?_) hmc K hz
  have ht := C.1.2.2.2.2
  exact va_runIN ⟨C.1.1, C.1.2.1, C.1.2.2.1, C.1.2.2.2.1, C.1.2.2.2.2⟩ (hM x hx) ⟨va_cnB As.length ht hG o1 o2 o3 (C.2.2.2.1.2.2.2.2.2.2.1 j _ hj) (ht _ h1) ⟨o5.1, o5.2, o6⟩ hF.1, hy1, ht _ h2⟩ (z_pre C) rfl rfl C.2.2.2.2.2.2.2.1 rfl (lv_room hcat) hd hF.2
end
