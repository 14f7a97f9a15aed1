/-! 06.rows2 -/
def z_N : Nat := 6000
def z_nn : Nat → Option Nat := fun _ => none
def cvI (S : z_S) (d : z_D) : Int32 → Option Value × z_W := fun r => (some (.int r), (S, d))
def cvJ (S : z_S) (d : z_D) : Int64 → Option Value × z_W := fun r => (some (.long r), (S, d))
def cvV (S : z_S) : z_D → Option Value × z_W := fun d => (none, (S, d))
def cvX (S : z_S) : Int32 × z_D → Option Value × z_W := fun x => (some (.int x.1), (S, x.2))
def z_stg (rb : Nat) (x : Option Nat) : Option Nat := x.map (fun j => rb + 5 + 21 * j)
def cvR (E : z_E) (S : z_S) (d : z_D) (rb : Nat) : Option Nat → Option Value × z_W := fun x => (some (va_rf (z_sh E.2.1 (z_stg rb x))), (S, d))
def cvY (S : z_S) : Int64 × z_D → Option Value × z_W := fun x => (some (.long x.1), (S, x.2))
def z_bY {α : Type} (o : Option (Int64 × z_D)) (K : Int64 → z_D → Option α) : Option α := o.bind (fun x => K x.1 x.2)
def z_bX {α : Type} (o : Option (Int32 × z_D)) (K : Int32 → z_D → Option α) : Option α := o.bind (fun x => K x.1 x.2)
def z_let {α γ : Type} (J : γ) (F : γ → Option α) : Option α := F J
def z_nul {α : Type} (x : Option Nat) (A : Option α) (B : Nat → Option α) : Option α := match x with
  | none => A
  | some j => if j < 8 then B j else none
section
variable {α : Type} {E : z_E} {l : Launch} {Y : z_Y} {cv : α → Option Value × z_W} {res : Option α} {pc : Nat} {lv : List (Nat × Value)} {st : List Value} {w : z_W} {S : z_S} {d : z_D} {k n : Nat}
theorem r_let {γ : Type} {JB : γ → Option α} {FB : (γ → Option α) → Option α} (pcJ : Nat) {f : γ → List (Nat × Value)} {g : γ → List Value} {ww : γ → z_W} (KJ : ∀ x, z_G E l Y cv (JB x) pcJ (f x) (g x) (ww x) k n) (KF : ∀ J : γ → Option α, (∀ x, z_G E l Y cv (J x) pcJ (f x) (g x) (ww x) k n) → z_G E l Y cv (FB J) pc lv st w k n) : z_G E l Y cv (z_let JB FB) pc lv st w k n := KF JB KJ
theorem r_tsw {dflt lo hi : Int} {offs : Array Int} {len : Nat} {x v : Int32} {off : Int} {A B : Option α} (tgt : Nat) (h1 : decide (v.toInt < lo) = false) (h2 : decide (hi < v.toInt) = false) (ho : offs[(v.toInt - lo).toNat]? = some off) (ht : (pc : Int) + off = (tgt : Int)) (hd : decode Y.2.1 pc = .ok (.tableswitch dflt lo hi offs, len)) (KA : z_G E l Y cv A tgt lv st w k n) (KB : ¬ x = v → z_G E l Y cv B pc lv (.int x :: st) w k n) : z_G E l Y cv (if x = v then A else B) pc lv (.int x :: st) w k n := by
  by_cases hx : x = v
  · rw [if_pos hx]
    subst hx
    exact fun z hz p e s m args below meth c H locs ls C => lv_tableIn C.1.1 C.1.2.1 hd (of_decide_eq_false h1) (of_decide_eq_false h2) ho ht (KA z hz p e s m args below meth c H locs ls C)
  · rw [if_neg hx]
    exact KB hx
theorem r_tswD {dflt lo hi : Int} {offs : Array Int} {len : Nat} {x : Int32} (tgt cnt : Nat) (hc : hi = lo + cnt - 1) (hne : ∀ j : Nat, j < cnt → ¬ x = Int32.ofInt (lo + j)) (ht : (pc : Int) + dflt = (tgt : Int)) (hd : decode Y.2.1 pc = .ok (.tableswitch dflt lo hi offs, len)) (K : z_G E l Y cv res tgt lv st w k n) : z_G E l Y cv res pc lv (.int x :: st) w k n := by
  intro z hz p e s m args below meth c H locs ls C
  refine lv_tableOut C.1.1 C.1.2.1 hd ?_ ht (K z hz p e s m args below meth c H locs ls C)
  by_cases h1 : x.toInt < lo
  · exact Or.inl h1
  · refine Or.inr ?_
    by_cases h2 : hi < x.toInt
    · exact h2
    · refine absurd ?_ (hne (x.toInt - lo).toNat (by omega))
      rw [show lo + ((x.toInt - lo).toNat : Int) = x.toInt by omega]
      exact (Int32.ofInt_toInt x).symm
theorem r_null (pc' : Nat) (hp : pc + 1 = pc') (hd : decode Y.2.1 pc = .ok (.aconst_null, 1)) (K : z_G E l Y cv res pc' lv (.null :: st) w k n) : z_G E l Y cv res pc lv st w k n := by
  subst hp
  exact fun z hz p e s m args below meth c H locs ls C => lv_null C.1.1 C.1.2.1 hd (K z hz p e s m args below meth c H locs ls C)
theorem r_ifnull {a : Nat} {off : Int} (pc' : Nat) (hp : pc + 3 = pc') (hd : decode Y.2.1 pc = .ok (.ifnull off, 3)) (K : z_G E l Y cv res pc' lv st w k n) : z_G E l Y cv res pc lv (.ref a :: st) w k n := by
  subst hp
  exact fun z hz p e s m args below meth c H locs ls C => lv_ifnull C.1.1 C.1.2.1 hd (K z hz p e s m args below meth c H locs ls C)
theorem r_ifnullN {off : Int} (tgt : Nat) (ht : (pc : Int) + off = (tgt : Int)) (hd : decode Y.2.1 pc = .ok (.ifnull off, 3)) (K : z_G E l Y cv res tgt lv st w k n) : z_G E l Y cv res pc lv (.null :: st) w k n := by
  exact fun z hz p e s m args below meth c H locs ls C => lv_ifnullN C.1.1 C.1.2.1 hd ht (K z hz p e s m args below meth c H locs ls C)
theorem r_ifnonnull {a : Nat} {off : Int} (tgt : Nat) (ht : (pc : Int) + off = (tgt : Int)) (hd : decode Y.2.1 pc = .ok (.ifnonnull off, 3)) (K : z_G E l Y cv res tgt lv st w k n) : z_G E l Y cv res pc lv (.ref a :: st) w k n := by
  exact fun z hz p e s m args below meth c H locs ls C => lv_ifnonnull C.1.1 C.1.2.1 hd ht (K z hz p e s m args below meth c H locs ls C)
theorem r_ifnonnullN {off : Int} (pc' : Nat) (hp : pc + 3 = pc') (hd : decode Y.2.1 pc = .ok (.ifnonnull off, 3)) (K : z_G E l Y cv res pc' lv st w k n) : z_G E l Y cv res pc lv (.null :: st) w k n := by
  subst hp
  exact fun z hz p e s m args below meth c H locs ls C => lv_ifnonnullN C.1.1 C.1.2.1 hd (K z hz p e s m args below meth c H locs ls C)
theorem r_aload_nN {kk : Fin 4} (i q : Nat) (hi : (kk : Nat) = i) (hq : lv[q]? = some (i, .null)) (pc' : Nat) (hp : pc + 1 = pc') (hd : decode Y.2.1 pc = .ok (.aload_n kk, 1)) (K : z_G E l Y cv res pc' lv (.null :: st) w k n) : z_G E l Y cv res pc lv st w k n := by
  subst hp
  exact fun z hz p e s m args below meth c H locs ls C => lv_aload_nN C.1.1 C.1.2.1 hd hi (lv_at C.2.2.2.2.2.2.2 q hq) (K z hz p e s m args below meth c H locs ls C)
theorem r_astore_nN {kk : Fin 4} (i : Nat) (hi : (kk : Nat) = i) (lv' : List (Nat × Value)) (hn : i < Y.2.2.1) (hl : (i, Value.null) :: lv.filter (fun q => !(q.1 == i) && !(q.1 + 1 == i && q.2.category == 2)) = lv') (pc' : Nat) (hp : pc + 1 = pc') (hd : decode Y.2.1 pc = .ok (.astore_n kk, 1)) (K : z_G E l Y cv res pc' lv' st w k n) : z_G E l Y cv res pc lv (.null :: st) w k n := by
  subst hp
  exact fun z hz p e s m args below meth c H locs ls C => lv_astore_nN C.1.1 C.1.2.1 hd hi C.2.2.2.2.2.2.2 hn hl (fun ls9 h9 => K z hz p e s m args below meth c H locs ls9 (C.ls h9))
theorem r_nul {x : Option Nat} {rb : Nat} {A : Option α} {B : Nat → Option α} (KA : z_G E l Y cv A pc lv (.null :: st) w k n) (KB : ∀ j, j < 8 → z_G E l Y cv (B j) pc lv (.ref (E.2.1 + (rb + 5 + 21 * j)) :: st) w k n) : z_G E l Y cv (z_nul x A B) pc lv (va_rf (z_sh E.2.1 (z_stg rb x)) :: st) w k n := by
  cases x with
  | none => exact KA
  | some j =>
    by_cases hj : j < 8
    · have e9 : z_nul (some j) A B = B j := if_pos hj
      rw [e9]
      exact KB j hj
    · have e9 : z_nul (some j) A B = none := if_neg hj
      rw [e9]
      exact r_none
theorem r_areturn {x : α} {v : Value} {nm : String} (hv : v = .null ∨ ∃ a, v = .ref a) (hx : cv x = (some v, w)) (hr : Y.2.2.2.2.1 = some (.object nm)) (hk : k ≤ Y.2.2.2.2.2.2.1) (hn : n ≤ Y.2.2.2.2.2.2.2) (hd : decode Y.2.1 pc = .ok (.areturn, 1)) : z_G E l Y cv (some x) pc lv [v] w k n := by
  intro z hz p e s m args below meth c H locs ls C
  cases hz
  rw [hx]
  have hl := C.2.1.2.1
  exact W.widen hk hn (W.aret C.1.1 C.1.2.1 (C.2.1.1.trans hr) (Or.inl ⟨nm, rfl⟩) hv (z_ret _ C) (z_retL C) hd hl)
theorem r_aloadN (i q : Nat) (hq : lv[q]? = some (i, .null)) (pc' : Nat) (hp : pc + 2 = pc') (hd : decode Y.2.1 pc = .ok (.aload i, 2)) (K : z_G E l Y cv res pc' lv (.null :: st) w k n) : z_G E l Y cv res pc lv st w k n := by
  subst hp
  exact fun z hz p e s m args below meth c H locs ls C => lv_aloadN C.1.1 C.1.2.1 hd (lv_at C.2.2.2.2.2.2.2 q hq) (K z hz p e s m args below meth c H locs ls C)
theorem r_astoreN (i : Nat) (lv' : List (Nat × Value)) (hn : i < Y.2.2.1) (hl : (i, Value.null) :: lv.filter (fun q => !(q.1 == i) && !(q.1 + 1 == i && q.2.category == 2)) = lv') (pc' : Nat) (hp : pc + 2 = pc') (hd : decode Y.2.1 pc = .ok (.astore i, 2)) (K : z_G E l Y cv res pc' lv' st w k n) : z_G E l Y cv res pc lv (.null :: st) w k n := by
  subst hp
  exact fun z hz p e s m args below meth c H locs ls C => lv_astoreN C.1.1 C.1.2.1 hd C.2.2.2.2.2.2.2 hn hl (fun ls9 h9 => K z hz p e s m args below meth c H locs ls9 (C.ls h9))
def z_cpd (d : z_D) (a0 a N : Nat) : z_D := fun a' k' => if a' = a ∧ k' < N then d a0 k' else d a' k'
def z_cpy {α : Type} (d : z_D) (a0 a N : Nat) (K : z_D → Option α) : Option α := K (z_cpd d a0 a N)
def z_cpyz {α : Type} (d : z_D) (a0 a N : Nat) (K : z_D → Option α) : Option α := if ∀ i, i < N → (d a0 i = 0 ∨ d a0 i = 1) then K (z_cpd d a0 a N) else none
theorem z_setC (E : z_E) (S : z_S) (d : z_D) {a a0 N : Nat} {kd : z_K} (h : a < S.1) (hk : S.2.1 a = kd) (h15 : kd.1 ≠ 15) {p : Nat} (hp : (z_ws E (S, d))[p]? = some (E.2.1 + a, z_cell E kd (S.2.2 a) (d a))) {g : Nat → Int32} (hg : ∀ j, g j = if j < N then d a0 j else d a j) :
    (z_ws E (S, d)).set p (E.2.1 + a, z_cell E kd (S.2.2 a) g) = z_ws E (S, z_cpd d a0 a N) := by
  have hm := z_addr (E := E) (z_live (S := S) h (by rw [hk]; exact h15))
  have hp2 : ([] ++ va_pl ((z_L S).map (fun a => E.2.1 + a)) (z_f E (S, d)))[p]? = some (E.2.1 + a, z_f E (S, d) (E.2.1 + a)) := by
    rw [z_fat]; exact hp.trans (by rw [← hk])
  have h1 := va_pl_set (X := []) (A := z_A E) (e := z_cell E kd (S.2.2 a) g) (z_dd E (S, d)) hm hp2
  refine h1.trans ?_
  show va_pl _ _ = va_pl _ _
  refine List.map_congr_left (fun q hq => ?_)
  obtain ⟨b, -, rfl⟩ := List.mem_map.mp hq
  rw [z_fat]
  by_cases hab : b = a
  · subst hab
    rw [va_up_self]
    refine congrArg (fun z => (E.2.1 + b, z)) ?_
    rw [← hk]
    refine congrArg (z_cell E _ _) ?_
    funext j
    simp [z_cpd, hg]
  · rw [va_up_ne _ _ (fun h => hab (Nat.add_left_cancel h)), z_fat]
    refine congrArg (fun z => (E.2.1 + b, z)) ?_
    refine congrArg (z_cell E _ _) ?_
    funext j
    simp [z_cpd, hab]
theorem r_cpy {a0 a : Nat} {kd0 kd1 : z_K} {idx : Nat} {x : Int32} {N : Nat} {KB : z_D → Option α} (h1 : Cond.methodLink Y.1 idx arraycopyName ∈ Y.2.2.2.1) (h2 : Cond.native arraycopyName ∈ Y.2.2.2.1) (h3 : Cond.static arraycopyName ∈ Y.2.2.2.1) (h4 : Cond.initialized "java/lang/System" ∈ Y.2.2.2.1) (ha0 : z_at S a0 kd0) (ha1 : z_at S a kd1) (ht0 : kd0.1 = 8) (ht1 : kd1.1 = 8) (hx : ¬ x < 0) (hN : x.toNatClampNeg = N) (hN0 : N ≤ kd0.2.1) (hN1 : N ≤ kd1.2.1) (hfr : 1 ≤ Y.2.2.2.2.2.1.frames) (hl : (st.map fun v => v.category).sum + (nativeFrameWords "java/lang/System" "arraycopy" 5 + 11) ≤ Y.2.2.2.2.2.1.locals) (pc' : Nat) (hp : pc + 3 = pc') (hd : decode Y.2.1 pc = .ok (.invokestatic idx, 3)) (K : ∀ d', z_G E l Y cv (KB d') pc' lv st (S, d') k n) : z_G E l Y cv (z_cpy d a0 a N KB) pc lv (.int x :: .int 0 :: .ref (E.2.1 + a) :: .int 0 :: .ref (E.2.1 + a0) :: st) (S, d) k n := by
  subst hp
  subst hN
  intro z hz p e s m args below meth c H locs ls C
  obtain ⟨q0, hq0⟩ := z_get E (S, d) ha0.1 ha0.2 (by omega)
  obtain ⟨q1, hq1⟩ := z_get E (S, d) ha1.1 ha1.2 (by omega)
  have hfit : ∀ i, i < x.toNatClampNeg → fits .int (.int (d a0 ((0 : Int32).toNatClampNeg + i))) = true := fun _ _ => rfl
  have hs := z_setC E S d (a := a) (a0 := a0) (N := x.toNatClampNeg) ha1.1 ha1.2 (by omega) hq1 (g := va_cpy (d a0) (d a) (0 : Int32).toNatClampNeg (0 : Int32).toNatClampNeg x.toNatClampNeg) (fun j => by
    show (if 0 ≤ j ∧ j < 0 + x.toNatClampNeg then d a0 (0 + (j - 0)) else d a j) = _
    simp)
  rw [z_cell, if_neg (by omega), if_pos (by omega), ht0] at hq0
  rw [z_cell, if_neg (by omega), if_pos (by omega), ht1] at hq1 hs
  have ht := C.1.2.2.2.2
  refine va_copyi C.1.1 C.1.2.1 (C.1.2.2.1.trans C.2.2.2.2.2.2.2.1.symm) C.1.2.2.2.1 (ht _ h1) (ht _ h2) (ht _ h3) (ht _ h4) C.2.2.1 C.2.2.2.2.2.1.1 (z_dd E (S, d)) (z_own C) q0 q1 0 0 (ty := .int) hq0 hq1 rfl rfl rfl (by decide) (by decide) hx (by rw [show (0 : Int32).toNatClampNeg = 0 from rfl]; omega) (by rw [show (0 : Int32).toNatClampNeg = 0 from rfl]; omega) hfit hfr hl hd (fun H1 locs1 hP1 _ hS1 => ?_)
  have hP2 : va_P E.1 vwCl (z_ws E (S, z_cpd d a0 a x.toNatClampNeg)) H1 := by rw [← hs]; exact hP1
  exact z_mv C (w' := (S, z_cpd d a0 a x.toNatClampNeg)) rfl hP2 hS1 (fun C1 => K _ z hz p e s m args below meth c H1 locs1 ls C1)
theorem r_cpyz {a0 a : Nat} {kd0 kd1 : z_K} {idx : Nat} {x : Int32} {N : Nat} {KB : z_D → Option α} (h1 : Cond.methodLink Y.1 idx arraycopyName ∈ Y.2.2.2.1) (h2 : Cond.native arraycopyName ∈ Y.2.2.2.1) (h3 : Cond.static arraycopyName ∈ Y.2.2.2.1) (h4 : Cond.initialized "java/lang/System" ∈ Y.2.2.2.1) (ha0 : z_at S a0 kd0) (ha1 : z_at S a kd1) (ht0 : kd0.1 = 9) (ht1 : kd1.1 = 9) (hx : ¬ x < 0) (hN : x.toNatClampNeg = N) (hN0 : N ≤ kd0.2.1) (hN1 : N ≤ kd1.2.1) (hfr : 1 ≤ Y.2.2.2.2.2.1.frames) (hl : (st.map fun v => v.category).sum + (nativeFrameWords "java/lang/System" "arraycopy" 5 + 11) ≤ Y.2.2.2.2.2.1.locals) (pc' : Nat) (hp : pc + 3 = pc') (hd : decode Y.2.1 pc = .ok (.invokestatic idx, 3)) (K : ∀ d', z_G E l Y cv (KB d') pc' lv st (S, d') k n) : z_G E l Y cv (z_cpyz d a0 a N KB) pc lv (.int x :: .int 0 :: .ref (E.2.1 + a) :: .int 0 :: .ref (E.2.1 + a0) :: st) (S, d) k n := by
  subst hp
  subst hN
  intro z hz p e s m args below meth c H locs ls C
  obtain ⟨q0, hq0⟩ := z_get E (S, d) ha0.1 ha0.2 (by omega)
  obtain ⟨q1, hq1⟩ := z_get E (S, d) ha1.1 ha1.2 (by omega)
  unfold z_cpyz at hz
  by_cases hb : ∀ i, i < x.toNatClampNeg → (d a0 i = 0 ∨ d a0 i = 1)
  case neg => rw [if_neg hb] at hz; cases hz
  rw [if_pos hb] at hz
  have hfit : ∀ i, i < x.toNatClampNeg → fits .boolean (.int (d a0 ((0 : Int32).toNatClampNeg + i))) = true := fun i hi => by rw [show (0 : Int32).toNatClampNeg + i = i from Nat.zero_add i]; exact (z_b01 (hb i hi)).2
  have hs := z_setC E S d (a := a) (a0 := a0) (N := x.toNatClampNeg) ha1.1 ha1.2 (by omega) hq1 (g := va_cpy (d a0) (d a) (0 : Int32).toNatClampNeg (0 : Int32).toNatClampNeg x.toNatClampNeg) (fun j => by
    show (if 0 ≤ j ∧ j < 0 + x.toNatClampNeg then d a0 (0 + (j - 0)) else d a j) = _
    simp)
  rw [z_cell, if_neg (by omega), if_pos (by omega), ht0] at hq0
  rw [z_cell, if_neg (by omega), if_pos (by omega), ht1] at hq1 hs
  have ht := C.1.2.2.2.2
  refine va_copyi C.1.1 C.1.2.1 (C.1.2.2.1.trans C.2.2.2.2.2.2.2.1.symm) C.1.2.2.2.1 (ht _ h1) (ht _ h2) (ht _ h3) (ht _ h4) C.2.2.1 C.2.2.2.2.2.1.1 (z_dd E (S, d)) (z_own C) q0 q1 1 1 (ty := .boolean) hq0 hq1 rfl rfl rfl (by decide) (by decide) hx (by rw [show (0 : Int32).toNatClampNeg = 0 from rfl]; omega) (by rw [show (0 : Int32).toNatClampNeg = 0 from rfl]; omega) hfit hfr hl hd (fun H1 locs1 hP1 _ hS1 => ?_)
  have hP2 : va_P E.1 vwCl (z_ws E (S, z_cpd d a0 a x.toNatClampNeg)) H1 := by rw [← hs]; exact hP1
  exact z_mv C (w' := (S, z_cpd d a0 a x.toNatClampNeg)) rfl hP2 hS1 (fun C1 => K _ z hz p e s m args below meth c H1 locs1 ls C1)
theorem r_lstore_n {kk : Fin 4} {x : Int64} (i : Nat) (hi : (kk : Nat) = i) (lv' : List (Nat × Value)) (hn : i + 1 < Y.2.2.1) (hl : (i, Value.long x) :: lv.filter (fun q => !(q.1 == i) && (!(q.1 == i + 1) && !(q.1 + 1 == i && q.2.category == 2))) = lv') (pc' : Nat) (hp : pc + 1 = pc') (hd : decode Y.2.1 pc = .ok (.lstore_n kk, 1)) (K : z_G E l Y cv res pc' lv' st w k n) : z_G E l Y cv res pc lv (.long x :: st) w k n := by
  subst hp
  exact fun z hz p e s m args below meth c H locs ls C => lv_lstore_n C.1.1 C.1.2.1 hd hi C.2.2.2.2.2.2.2 hn hl (fun ls9 h9 => K z hz p e s m args below meth c H locs ls9 (C.ls h9))
theorem r_lstore  {x : Int64} (i : Nat)  (lv' : List (Nat × Value)) (hn : i + 1 < Y.2.2.1) (hl : (i, Value.long x) :: lv.filter (fun q => !(q.1 == i) && (!(q.1 == i + 1) && !(q.1 + 1 == i && q.2.category == 2))) = lv') (pc' : Nat) (hp : pc + 2 = pc') (hd : decode Y.2.1 pc = .ok (.lstore i, 2)) (K : z_G E l Y cv res pc' lv' st w k n) : z_G E l Y cv res pc lv (.long x :: st) w k n := by
  subst hp
  exact fun z hz p e s m args below meth c H locs ls C => lv_lstore C.1.1 C.1.2.1 hd  C.2.2.2.2.2.2.2 hn hl (fun ls9 h9 => K z hz p e s m args below meth c H locs ls9 (C.ls h9))
end
section
variable {α : Type} {E : z_E} {l : Launch} {Y Yc : z_Y} {cv : α → Option Value × z_W} {pc : Nat} {lv : List (Nat × Value)} {st stk : List Value} {S : z_S} {d : z_D} {k n : Nat} {y : MethodName} {idx : Nat} {As : List Value}
theorem r_callV_I {resc : Option Int32} {KB : Int32 → Option α} {b : Nat} {kd : z_K} {q9 : vw_C} (hM : z_Sp E l y Yc (cvI S d) (.ref (E.2.1 + b) :: As) (S, d) resc) (hO : z_Ok y Yc As.length) (hF : z_Fit Y Yc k n) (ha : z_at S b kd) (h8 : kd.1 < 8) (hcl : vwCl[kd.1]? = some q9) (hq9 : q9.1 = Yc.1) (hst : stk = As.reverse ++ .ref (E.2.1 + b) :: st) (hcat : (st.map fun v => v.category).sum ≤ 8) (hG : GoodIn Y.2.2.2.1 (wsV Y.1 idx Yc.1 y Yc.2.2.2.1)) (hz1 : Yc.2.2.2.2.2.2.1 = 0) (hz2 : Yc.2.2.2.2.2.2.2 = 0) (pc' : Nat) (hp : pc + 3 = pc') (hd : decode Y.2.1 pc = .ok (.invokevirtual idx, 3)) (K : ∀ v, z_G E l Y cv (KB v) pc' lv (.int v :: st) (S, d) k n) : z_G E l Y cv (resc.bind KB) pc lv stk (S, d) k n := by
  refine r_callV hM hO hF ha h8 hcl hq9 hst hcat hG (fun _ _ => by rw [hz1]; rfl) pc' hp hd (fun v _ => ?_)
  rw [hz1, hz2]
  exact K v
theorem r_callV_J {resc : Option Int64} {KB : Int64 → Option α} {b : Nat} {kd : z_K} {q9 : vw_C} (hM : z_Sp E l y Yc (cvJ S d) (.ref (E.2.1 + b) :: As) (S, d) resc) (hO : z_Ok y Yc As.length) (hF : z_Fit Y Yc k n) (ha : z_at S b kd) (h8 : kd.1 < 8) (hcl : vwCl[kd.1]? = some q9) (hq9 : q9.1 = Yc.1) (hst : stk = As.reverse ++ .ref (E.2.1 + b) :: st) (hcat : (st.map fun v => v.category).sum ≤ 8) (hG : GoodIn Y.2.2.2.1 (wsV Y.1 idx Yc.1 y Yc.2.2.2.1)) (hz1 : Yc.2.2.2.2.2.2.1 = 0) (hz2 : Yc.2.2.2.2.2.2.2 = 0) (pc' : Nat) (hp : pc + 3 = pc') (hd : decode Y.2.1 pc = .ok (.invokevirtual idx, 3)) (K : ∀ v, z_G E l Y cv (KB v) pc' lv (.long v :: st) (S, d) k n) : z_G E l Y cv (resc.bind KB) pc lv stk (S, d) k n := by
  refine r_callV hM hO hF ha h8 hcl hq9 hst hcat hG (fun _ _ => by rw [hz1]; rfl) pc' hp hd (fun v _ => ?_)
  rw [hz1, hz2]
  exact K v
theorem r_callV_V {resc : Option z_D} {KB : z_D → Option α} {b : Nat} {kd : z_K} {q9 : vw_C} (hM : z_Sp E l y Yc (cvV S) (.ref (E.2.1 + b) :: As) (S, d) resc) (hO : z_Ok y Yc As.length) (hF : z_Fit Y Yc k n) (ha : z_at S b kd) (h8 : kd.1 < 8) (hcl : vwCl[kd.1]? = some q9) (hq9 : q9.1 = Yc.1) (hst : stk = As.reverse ++ .ref (E.2.1 + b) :: st) (hcat : (st.map fun v => v.category).sum ≤ 8) (hG : GoodIn Y.2.2.2.1 (wsV Y.1 idx Yc.1 y Yc.2.2.2.1)) (hz1 : Yc.2.2.2.2.2.2.1 = 0) (hz2 : Yc.2.2.2.2.2.2.2 = 0) (pc' : Nat) (hp : pc + 3 = pc') (hd : decode Y.2.1 pc = .ok (.invokevirtual idx, 3)) (K : ∀ d', z_G E l Y cv (KB d') pc' lv st (S, d') k n) : z_G E l Y cv (resc.bind KB) pc lv stk (S, d) k n := by
  refine r_callV hM hO hF ha h8 hcl hq9 hst hcat hG (fun _ _ => by rw [hz1]; rfl) pc' hp hd (fun v _ => ?_)
  rw [hz1, hz2]
  exact K v
theorem r_callV_X {resc : Option (Int32 × z_D)} {KB : Int32 → z_D → Option α} {b : Nat} {kd : z_K} {q9 : vw_C} (hM : z_Sp E l y Yc (cvX S) (.ref (E.2.1 + b) :: As) (S, d) resc) (hO : z_Ok y Yc As.length) (hF : z_Fit Y Yc k n) (ha : z_at S b kd) (h8 : kd.1 < 8) (hcl : vwCl[kd.1]? = some q9) (hq9 : q9.1 = Yc.1) (hst : stk = As.reverse ++ .ref (E.2.1 + b) :: st) (hcat : (st.map fun v => v.category).sum ≤ 8) (hG : GoodIn Y.2.2.2.1 (wsV Y.1 idx Yc.1 y Yc.2.2.2.1)) (hz1 : Yc.2.2.2.2.2.2.1 = 0) (hz2 : Yc.2.2.2.2.2.2.2 = 0) (pc' : Nat) (hp : pc + 3 = pc') (hd : decode Y.2.1 pc = .ok (.invokevirtual idx, 3)) (K : ∀ v d', z_G E l Y cv (KB v d') pc' lv (.int v :: st) (S, d') k n) : z_G E l Y cv (z_bX resc KB) pc lv stk (S, d) k n := by
  refine r_callV hM hO hF ha h8 hcl hq9 hst hcat hG (fun _ _ => by rw [hz1]; rfl) pc' hp hd (fun v _ => ?_)
  rw [hz1, hz2]
  exact K v.1 v.2
theorem r_callV_Y {resc : Option (Int64 × z_D)} {KB : Int64 → z_D → Option α} {b : Nat} {kd : z_K} {q9 : vw_C} (hM : z_Sp E l y Yc (cvY S) (.ref (E.2.1 + b) :: As) (S, d) resc) (hO : z_Ok y Yc As.length) (hF : z_Fit Y Yc k n) (ha : z_at S b kd) (h8 : kd.1 < 8) (hcl : vwCl[kd.1]? = some q9) (hq9 : q9.1 = Yc.1) (hst : stk = As.reverse ++ .ref (E.2.1 + b) :: st) (hcat : (st.map fun v => v.category).sum ≤ 8) (hG : GoodIn Y.2.2.2.1 (wsV Y.1 idx Yc.1 y Yc.2.2.2.1)) (hz1 : Yc.2.2.2.2.2.2.1 = 0) (hz2 : Yc.2.2.2.2.2.2.2 = 0) (pc' : Nat) (hp : pc + 3 = pc') (hd : decode Y.2.1 pc = .ok (.invokevirtual idx, 3)) (K : ∀ v d', z_G E l Y cv (KB v d') pc' lv (.long v :: st) (S, d') k n) : z_G E l Y cv (z_bY resc KB) pc lv stk (S, d) k n := by
  refine r_callV hM hO hF ha h8 hcl hq9 hst hcat hG (fun _ _ => by rw [hz1]; rfl) pc' hp hd (fun v _ => ?_)
  rw [hz1, hz2]
  exact K v.1 v.2
theorem r_callVN_I {resc : Option Int32} {KB : Int32 → Option α} {b : Nat} {kd : z_K} {q9 : vw_C} (hM : z_Sp E l y Yc (cvI S d) (.ref (E.2.1 + b) :: As) (S, d) resc) (hO : z_Ok y Yc As.length) (hF : z_Fit Y Yc k n) (ha : z_at S b kd) (h8 : kd.1 < 8) (hcl : vwCl[kd.1]? = some q9) (hq9 : q9.1 = Yc.1) (hst : stk = As.reverse ++ .ref (E.2.1 + b) :: st) (hcat : (st.map fun v => v.category).sum ≤ 8) (j : Nat) (hj : z_nm[j]? = some (Y.1, idx, y)) (hG : GoodIn Y.2.2.2.1 Yc.2.2.2.1) (h1 : Cond.initialized y.cls ∈ Y.2.2.2.1) (h2 : Cond.instanceMethod y ∈ Y.2.2.2.1) (h3 : Cond.selects Yc.1 y y ∈ Y.2.2.2.1) (hz1 : Yc.2.2.2.2.2.2.1 = 0) (hz2 : Yc.2.2.2.2.2.2.2 = 0) (pc' : Nat) (hp : pc + 3 = pc') (hd : decode Y.2.1 pc = .ok (.invokevirtual idx, 3)) (K : ∀ v, z_G E l Y cv (KB v) pc' lv (.int v :: st) (S, d) k n) : z_G E l Y cv (resc.bind KB) pc lv stk (S, d) k n := by
  refine r_callVN hM hO hF ha h8 hcl hq9 hst hcat j hj hG h1 h2 h3 (fun _ _ => by rw [hz1]; rfl) pc' hp hd (fun v _ => ?_)
  rw [hz1, hz2]
  exact K v
theorem r_callVN_J {resc : Option Int64} {KB : Int64 → Option α} {b : Nat} {kd : z_K} {q9 : vw_C} (hM : z_Sp E l y Yc (cvJ S d) (.ref (E.2.1 + b) :: As) (S, d) resc) (hO : z_Ok y Yc As.length) (hF : z_Fit Y Yc k n) (ha : z_at S b kd) (h8 : kd.1 < 8) (hcl : vwCl[kd.1]? = some q9) (hq9 : q9.1 = Yc.1) (hst : stk = As.reverse ++ .ref (E.2.1 + b) :: st) (hcat : (st.map fun v => v.category).sum ≤ 8) (j : Nat) (hj : z_nm[j]? = some (Y.1, idx, y)) (hG : GoodIn Y.2.2.2.1 Yc.2.2.2.1) (h1 : Cond.initialized y.cls ∈ Y.2.2.2.1) (h2 : Cond.instanceMethod y ∈ Y.2.2.2.1) (h3 : Cond.selects Yc.1 y y ∈ Y.2.2.2.1) (hz1 : Yc.2.2.2.2.2.2.1 = 0) (hz2 : Yc.2.2.2.2.2.2.2 = 0) (pc' : Nat) (hp : pc + 3 = pc') (hd : decode Y.2.1 pc = .ok (.invokevirtual idx, 3)) (K : ∀ v, z_G E l Y cv (KB v) pc' lv (.long v :: st) (S, d) k n) : z_G E l Y cv (resc.bind KB) pc lv stk (S, d) k n := by
  refine r_callVN hM hO hF ha h8 hcl hq9 hst hcat j hj hG h1 h2 h3 (fun _ _ => by rw [hz1]; rfl) pc' hp hd (fun v _ => ?_)
  rw [hz1, hz2]
  exact K v
theorem r_callVN_V {resc : Option z_D} {KB : z_D → Option α} {b : Nat} {kd : z_K} {q9 : vw_C} (hM : z_Sp E l y Yc (cvV S) (.ref (E.2.1 + b) :: As) (S, d) resc) (hO : z_Ok y Yc As.length) (hF : z_Fit Y Yc k n) (ha : z_at S b kd) (h8 : kd.1 < 8) (hcl : vwCl[kd.1]? = some q9) (hq9 : q9.1 = Yc.1) (hst : stk = As.reverse ++ .ref (E.2.1 + b) :: st) (hcat : (st.map fun v => v.category).sum ≤ 8) (j : Nat) (hj : z_nm[j]? = some (Y.1, idx, y)) (hG : GoodIn Y.2.2.2.1 Yc.2.2.2.1) (h1 : Cond.initialized y.cls ∈ Y.2.2.2.1) (h2 : Cond.instanceMethod y ∈ Y.2.2.2.1) (h3 : Cond.selects Yc.1 y y ∈ Y.2.2.2.1) (hz1 : Yc.2.2.2.2.2.2.1 = 0) (hz2 : Yc.2.2.2.2.2.2.2 = 0) (pc' : Nat) (hp : pc + 3 = pc') (hd : decode Y.2.1 pc = .ok (.invokevirtual idx, 3)) (K : ∀ d', z_G E l Y cv (KB d') pc' lv st (S, d') k n) : z_G E l Y cv (resc.bind KB) pc lv stk (S, d) k n := by
  refine r_callVN hM hO hF ha h8 hcl hq9 hst hcat j hj hG h1 h2 h3 (fun _ _ => by rw [hz1]; rfl) pc' hp hd (fun v _ => ?_)
  rw [hz1, hz2]
  exact K v
theorem r_callVN_X {resc : Option (Int32 × z_D)} {KB : Int32 → z_D → Option α} {b : Nat} {kd : z_K} {q9 : vw_C} (hM : z_Sp E l y Yc (cvX S) (.ref (E.2.1 + b) :: As) (S, d) resc) (hO : z_Ok y Yc As.length) (hF : z_Fit Y Yc k n) (ha : z_at S b kd) (h8 : kd.1 < 8) (hcl : vwCl[kd.1]? = some q9) (hq9 : q9.1 = Yc.1) (hst : stk = As.reverse ++ .ref (E.2.1 + b) :: st) (hcat : (st.map fun v => v.category).sum ≤ 8) (j : Nat) (hj : z_nm[j]? = some (Y.1, idx, y)) (hG : GoodIn Y.2.2.2.1 Yc.2.2.2.1) (h1 : Cond.initialized y.cls ∈ Y.2.2.2.1) (h2 : Cond.instanceMethod y ∈ Y.2.2.2.1) (h3 : Cond.selects Yc.1 y y ∈ Y.2.2.2.1) (hz1 : Yc.2.2.2.2.2.2.1 = 0) (hz2 : Yc.2.2.2.2.2.2.2 = 0) (pc' : Nat) (hp : pc + 3 = pc') (hd : decode Y.2.1 pc = .ok (.invokevirtual idx, 3)) (K : ∀ v d', z_G E l Y cv (KB v d') pc' lv (.int v :: st) (S, d') k n) : z_G E l Y cv (z_bX resc KB) pc lv stk (S, d) k n := by
  refine r_callVN hM hO hF ha h8 hcl hq9 hst hcat j hj hG h1 h2 h3 (fun _ _ => by rw [hz1]; rfl) pc' hp hd (fun v _ => ?_)
  rw [hz1, hz2]
  exact K v.1 v.2
theorem r_callVN_Y {resc : Option (Int64 × z_D)} {KB : Int64 → z_D → Option α} {b : Nat} {kd : z_K} {q9 : vw_C} (hM : z_Sp E l y Yc (cvY S) (.ref (E.2.1 + b) :: As) (S, d) resc) (hO : z_Ok y Yc As.length) (hF : z_Fit Y Yc k n) (ha : z_at S b kd) (h8 : kd.1 < 8) (hcl : vwCl[kd.1]? = some q9) (hq9 : q9.1 = Yc.1) (hst : stk = As.reverse ++ .ref (E.2.1 + b) :: st) (hcat : (st.map fun v => v.category).sum ≤ 8) (j : Nat) (hj : z_nm[j]? = some (Y.1, idx, y)) (hG : GoodIn Y.2.2.2.1 Yc.2.2.2.1) (h1 : Cond.initialized y.cls ∈ Y.2.2.2.1) (h2 : Cond.instanceMethod y ∈ Y.2.2.2.1) (h3 : Cond.selects Yc.1 y y ∈ Y.2.2.2.1) (hz1 : Yc.2.2.2.2.2.2.1 = 0) (hz2 : Yc.2.2.2.2.2.2.2 = 0) (pc' : Nat) (hp : pc + 3 = pc') (hd : decode Y.2.1 pc = .ok (.invokevirtual idx, 3)) (K : ∀ v d', z_G E l Y cv (KB v d') pc' lv (.long v :: st) (S, d') k n) : z_G E l Y cv (z_bY resc KB) pc lv stk (S, d) k n := by
  refine r_callVN hM hO hF ha h8 hcl hq9 hst hcat j hj hG h1 h2 h3 (fun _ _ => by rw [hz1]; rfl) pc' hp hd (fun v _ => ?_)
  rw [hz1, hz2]
  exact K v.1 v.2
theorem r_callVN_R {rb : Nat} {resc : Option (Option Nat)} {KB : Option Nat → Option α} {b : Nat} {kd : z_K} {q9 : vw_C} (hM : z_Sp E l y Yc (cvR E S d rb) (.ref (E.2.1 + b) :: As) (S, d) resc) (hO : z_Ok y Yc As.length) (hF : z_Fit Y Yc k n) (ha : z_at S b kd) (h8 : kd.1 < 8) (hcl : vwCl[kd.1]? = some q9) (hq9 : q9.1 = Yc.1) (hst : stk = As.reverse ++ .ref (E.2.1 + b) :: st) (hcat : (st.map fun v => v.category).sum ≤ 8) (j : Nat) (hj : z_nm[j]? = some (Y.1, idx, y)) (hG : GoodIn Y.2.2.2.1 Yc.2.2.2.1) (h1 : Cond.initialized y.cls ∈ Y.2.2.2.1) (h2 : Cond.instanceMethod y ∈ Y.2.2.2.1) (h3 : Cond.selects Yc.1 y y ∈ Y.2.2.2.1) (hz1 : Yc.2.2.2.2.2.2.1 = 0) (hz2 : Yc.2.2.2.2.2.2.2 = 0) (pc' : Nat) (hp : pc + 3 = pc') (hd : decode Y.2.1 pc = .ok (.invokevirtual idx, 3)) (K : ∀ v, z_G E l Y cv (KB v) pc' lv (va_rf (z_sh E.2.1 (z_stg rb v)) :: st) (S, d) k n) : z_G E l Y cv (resc.bind KB) pc lv stk (S, d) k n := by
  refine r_callVN hM hO hF ha h8 hcl hq9 hst hcat j hj hG h1 h2 h3 (fun _ _ => by rw [hz1]; rfl) pc' hp hd (fun v _ => ?_)
  rw [hz1, hz2]
  exact K v
theorem r_callS_I {resc : Option Int32} {KB : Int32 → Option α} (hM : z_Sp E l y Yc (cvI S d) As (S, d) resc) (hO : z_Ok y Yc As.length) (hF : z_Fit Y Yc k n) (hst : stk = As.reverse ++ st) (hcat : (st.map fun v => v.category).sum ≤ 8) (hG : GoodIn Y.2.2.2.1 (va_wsS Y.1 idx y Yc.2.2.2.1)) (hz1 : Yc.2.2.2.2.2.2.1 = 0) (hz2 : Yc.2.2.2.2.2.2.2 = 0) (pc' : Nat) (hp : pc + 3 = pc') (hd : decode Y.2.1 pc = .ok (.invokestatic idx, 3)) (K : ∀ v, z_G E l Y cv (KB v) pc' lv (.int v :: st) (S, d) k n) : z_G E l Y cv (resc.bind KB) pc lv stk (S, d) k n := by
  refine r_callS hM hO hF hst hcat hG (fun _ _ => by rw [hz1]; rfl) pc' hp hd (fun v _ => ?_)
  rw [hz1, hz2]
  exact K v
theorem r_callS_J {resc : Option Int64} {KB : Int64 → Option α} (hM : z_Sp E l y Yc (cvJ S d) As (S, d) resc) (hO : z_Ok y Yc As.length) (hF : z_Fit Y Yc k n) (hst : stk = As.reverse ++ st) (hcat : (st.map fun v => v.category).sum ≤ 8) (hG : GoodIn Y.2.2.2.1 (va_wsS Y.1 idx y Yc.2.2.2.1)) (hz1 : Yc.2.2.2.2.2.2.1 = 0) (hz2 : Yc.2.2.2.2.2.2.2 = 0) (pc' : Nat) (hp : pc + 3 = pc') (hd : decode Y.2.1 pc = .ok (.invokestatic idx, 3)) (K : ∀ v, z_G E l Y cv (KB v) pc' lv (.long v :: st) (S, d) k n) : z_G E l Y cv (resc.bind KB) pc lv stk (S, d) k n := by
  refine r_callS hM hO hF hst hcat hG (fun _ _ => by rw [hz1]; rfl) pc' hp hd (fun v _ => ?_)
  rw [hz1, hz2]
  exact K v
theorem r_callS_V {resc : Option z_D} {KB : z_D → Option α} (hM : z_Sp E l y Yc (cvV S) As (S, d) resc) (hO : z_Ok y Yc As.length) (hF : z_Fit Y Yc k n) (hst : stk = As.reverse ++ st) (hcat : (st.map fun v => v.category).sum ≤ 8) (hG : GoodIn Y.2.2.2.1 (va_wsS Y.1 idx y Yc.2.2.2.1)) (hz1 : Yc.2.2.2.2.2.2.1 = 0) (hz2 : Yc.2.2.2.2.2.2.2 = 0) (pc' : Nat) (hp : pc + 3 = pc') (hd : decode Y.2.1 pc = .ok (.invokestatic idx, 3)) (K : ∀ d', z_G E l Y cv (KB d') pc' lv st (S, d') k n) : z_G E l Y cv (resc.bind KB) pc lv stk (S, d) k n := by
  refine r_callS hM hO hF hst hcat hG (fun _ _ => by rw [hz1]; rfl) pc' hp hd (fun v _ => ?_)
  rw [hz1, hz2]
  exact K v
theorem r_callS_X {resc : Option (Int32 × z_D)} {KB : Int32 → z_D → Option α} (hM : z_Sp E l y Yc (cvX S) As (S, d) resc) (hO : z_Ok y Yc As.length) (hF : z_Fit Y Yc k n) (hst : stk = As.reverse ++ st) (hcat : (st.map fun v => v.category).sum ≤ 8) (hG : GoodIn Y.2.2.2.1 (va_wsS Y.1 idx y Yc.2.2.2.1)) (hz1 : Yc.2.2.2.2.2.2.1 = 0) (hz2 : Yc.2.2.2.2.2.2.2 = 0) (pc' : Nat) (hp : pc + 3 = pc') (hd : decode Y.2.1 pc = .ok (.invokestatic idx, 3)) (K : ∀ v d', z_G E l Y cv (KB v d') pc' lv (.int v :: st) (S, d') k n) : z_G E l Y cv (z_bX resc KB) pc lv stk (S, d) k n := by
  refine r_callS hM hO hF hst hcat hG (fun _ _ => by rw [hz1]; rfl) pc' hp hd (fun v _ => ?_)
  rw [hz1, hz2]
  exact K v.1 v.2
theorem r_callS_Y {resc : Option (Int64 × z_D)} {KB : Int64 → z_D → Option α} (hM : z_Sp E l y Yc (cvY S) As (S, d) resc) (hO : z_Ok y Yc As.length) (hF : z_Fit Y Yc k n) (hst : stk = As.reverse ++ st) (hcat : (st.map fun v => v.category).sum ≤ 8) (hG : GoodIn Y.2.2.2.1 (va_wsS Y.1 idx y Yc.2.2.2.1)) (hz1 : Yc.2.2.2.2.2.2.1 = 0) (hz2 : Yc.2.2.2.2.2.2.2 = 0) (pc' : Nat) (hp : pc + 3 = pc') (hd : decode Y.2.1 pc = .ok (.invokestatic idx, 3)) (K : ∀ v d', z_G E l Y cv (KB v d') pc' lv (.long v :: st) (S, d') k n) : z_G E l Y cv (z_bY resc KB) pc lv stk (S, d) k n := by
  refine r_callS hM hO hF hst hcat hG (fun _ _ => by rw [hz1]; rfl) pc' hp hd (fun v _ => ?_)
  rw [hz1, hz2]
  exact K v.1 v.2
theorem r_callSN_I {resc : Option Int32} {KB : Int32 → Option α} (hM : z_Sp E l y Yc (cvI S d) As (S, d) resc) (hO : z_Ok y Yc As.length) (hF : z_Fit Y Yc k n) (hst : stk = As.reverse ++ st) (hcat : (st.map fun v => v.category).sum ≤ 8) (j : Nat) (hj : z_nm[j]? = some (Y.1, idx, y)) (hG : GoodIn Y.2.2.2.1 Yc.2.2.2.1) (h1 : Cond.initialized y.cls ∈ Y.2.2.2.1) (h2 : Cond.static y ∈ Y.2.2.2.1) (hz1 : Yc.2.2.2.2.2.2.1 = 0) (hz2 : Yc.2.2.2.2.2.2.2 = 0) (pc' : Nat) (hp : pc + 3 = pc') (hd : decode Y.2.1 pc = .ok (.invokestatic idx, 3)) (K : ∀ v, z_G E l Y cv (KB v) pc' lv (.int v :: st) (S, d) k n) : z_G E l Y cv (resc.bind KB) pc lv stk (S, d) k n := by
  refine r_callSN hM hO hF hst hcat j hj hG h1 h2 (fun _ _ => by rw [hz1]; rfl) pc' hp hd (fun v _ => ?_)
  rw [hz1, hz2]
  exact K v
theorem r_callSN_J {resc : Option Int64} {KB : Int64 → Option α} (hM : z_Sp E l y Yc (cvJ S d) As (S, d) resc) (hO : z_Ok y Yc As.length) (hF : z_Fit Y Yc k n) (hst : stk = As.reverse ++ st) (hcat : (st.map fun v => v.category).sum ≤ 8) (j : Nat) (hj : z_nm[j]? = some (Y.1, idx, y)) (hG : GoodIn Y.2.2.2.1 Yc.2.2.2.1) (h1 : Cond.initialized y.cls ∈ Y.2.2.2.1) (h2 : Cond.static y ∈ Y.2.2.2.1) (hz1 : Yc.2.2.2.2.2.2.1 = 0) (hz2 : Yc.2.2.2.2.2.2.2 = 0) (pc' : Nat) (hp : pc + 3 = pc') (hd : decode Y.2.1 pc = .ok (.invokestatic idx, 3)) (K : ∀ v, z_G E l Y cv (KB v) pc' lv (.long v :: st) (S, d) k n) : z_G E l Y cv (resc.bind KB) pc lv stk (S, d) k n := by
  refine r_callSN hM hO hF hst hcat j hj hG h1 h2 (fun _ _ => by rw [hz1]; rfl) pc' hp hd (fun v _ => ?_)
  rw [hz1, hz2]
  exact K v
theorem r_callSN_V {resc : Option z_D} {KB : z_D → Option α} (hM : z_Sp E l y Yc (cvV S) As (S, d) resc) (hO : z_Ok y Yc As.length) (hF : z_Fit Y Yc k n) (hst : stk = As.reverse ++ st) (hcat : (st.map fun v => v.category).sum ≤ 8) (j : Nat) (hj : z_nm[j]? = some (Y.1, idx, y)) (hG : GoodIn Y.2.2.2.1 Yc.2.2.2.1) (h1 : Cond.initialized y.cls ∈ Y.2.2.2.1) (h2 : Cond.static y ∈ Y.2.2.2.1) (hz1 : Yc.2.2.2.2.2.2.1 = 0) (hz2 : Yc.2.2.2.2.2.2.2 = 0) (pc' : Nat) (hp : pc + 3 = pc') (hd : decode Y.2.1 pc = .ok (.invokestatic idx, 3)) (K : ∀ d', z_G E l Y cv (KB d') pc' lv st (S, d') k n) : z_G E l Y cv (resc.bind KB) pc lv stk (S, d) k n := by
  refine r_callSN hM hO hF hst hcat j hj hG h1 h2 (fun _ _ => by rw [hz1]; rfl) pc' hp hd (fun v _ => ?_)
  rw [hz1, hz2]
  exact K v
theorem r_callSN_X {resc : Option (Int32 × z_D)} {KB : Int32 → z_D → Option α} (hM : z_Sp E l y Yc (cvX S) As (S, d) resc) (hO : z_Ok y Yc As.length) (hF : z_Fit Y Yc k n) (hst : stk = As.reverse ++ st) (hcat : (st.map fun v => v.category).sum ≤ 8) (j : Nat) (hj : z_nm[j]? = some (Y.1, idx, y)) (hG : GoodIn Y.2.2.2.1 Yc.2.2.2.1) (h1 : Cond.initialized y.cls ∈ Y.2.2.2.1) (h2 : Cond.static y ∈ Y.2.2.2.1) (hz1 : Yc.2.2.2.2.2.2.1 = 0) (hz2 : Yc.2.2.2.2.2.2.2 = 0) (pc' : Nat) (hp : pc + 3 = pc') (hd : decode Y.2.1 pc = .ok (.invokestatic idx, 3)) (K : ∀ v d', z_G E l Y cv (KB v d') pc' lv (.int v :: st) (S, d') k n) : z_G E l Y cv (z_bX resc KB) pc lv stk (S, d) k n := by
  refine r_callSN hM hO hF hst hcat j hj hG h1 h2 (fun _ _ => by rw [hz1]; rfl) pc' hp hd (fun v _ => ?_)
  rw [hz1, hz2]
  exact K v.1 v.2
theorem r_callSN_Y {resc : Option (Int64 × z_D)} {KB : Int64 → z_D → Option α} (hM : z_Sp E l y Yc (cvY S) As (S, d) resc) (hO : z_Ok y Yc As.length) (hF : z_Fit Y Yc k n) (hst : stk = As.reverse ++ st) (hcat : (st.map fun v => v.category).sum ≤ 8) (j : Nat) (hj : z_nm[j]? = some (Y.1, idx, y)) (hG : GoodIn Y.2.2.2.1 Yc.2.2.2.1) (h1 : Cond.initialized y.cls ∈ Y.2.2.2.1) (h2 : Cond.static y ∈ Y.2.2.2.1) (hz1 : Yc.2.2.2.2.2.2.1 = 0) (hz2 : Yc.2.2.2.2.2.2.2 = 0) (pc' : Nat) (hp : pc + 3 = pc') (hd : decode Y.2.1 pc = .ok (.invokestatic idx, 3)) (K : ∀ v d', z_G E l Y cv (KB v d') pc' lv (.long v :: st) (S, d') k n) : z_G E l Y cv (z_bY resc KB) pc lv stk (S, d) k n := by
  refine r_callSN hM hO hF hst hcat j hj hG h1 h2 (fun _ _ => by rw [hz1]; rfl) pc' hp hd (fun v _ => ?_)
  rw [hz1, hz2]
  exact K v.1 v.2
end
def L_Course (b : Nat) : Nat → z_K := fun o => match o with
  | 0 => (0, 7, (fun k => match k with | 3 => some (b + 1) | 4 => some (b + 2) | 5 => some (b + 3) | 6 => some (b + 4) | _ => none))
  | 1 => (8, 6, z_nn)
  | 2 => (8, 6, z_nn)
  | 3 => (8, 6, z_nn)
  | _ => (8, 96, z_nn)
def L_Prizes (b : Nat) : Nat → z_K := fun o => match o with
  | 0 => (1, 3, (fun k => match k with | 0 => some (b + 1) | 1 => some (b + 2) | 2 => some (b + 3) | _ => none))
  | 1 => (8, 16, z_nn)
  | 2 => (8, 16, z_nn)
  | _ => (8, 16, z_nn)
def L_Stage (b : Nat) : Nat → z_K := fun o => match o with
  | 0 => (3, 20, (fun k => match k with | 0 => some (b + 1) | 1 => some (b + 6) | 2 => some (b + 10) | 3 => some (b + 11) | 4 => some (b + 12) | 5 => some (b + 13) | 6 => some (b + 14) | 8 => some (b + 15) | 9 => some (b + 16) | 10 => some (b + 17) | 11 => some (b + 18) | 12 => some (b + 19) | 13 => some (b + 20) | _ => none))
  | 1 => L_Course (b + 1) 0
  | 2 => L_Course (b + 1) 1
  | 3 => L_Course (b + 1) 2
  | 4 => L_Course (b + 1) 3
  | 5 => L_Course (b + 1) 4
  | 6 => L_Prizes (b + 6) 0
  | 7 => L_Prizes (b + 6) 1
  | 8 => L_Prizes (b + 6) 2
  | 9 => L_Prizes (b + 6) 3
  | 10 => (8, 16, z_nn)
  | 11 => (8, 16, z_nn)
  | 12 => (8, 16, z_nn)
  | 13 => (8, 16, z_nn)
  | 14 => (9, 16, z_nn)
  | 15 => (8, 16, z_nn)
  | 16 => (8, 16, z_nn)
  | 17 => (8, 16, z_nn)
  | 18 => (8, 16, z_nn)
  | 19 => (8, 16, z_nn)
  | _ => (9, 16, z_nn)
def L_Race (b : Nat) : Nat → z_K := fun o => match o with
  | 0 => (2, 10, (fun k => match k with | 6 => some (b + 1) | 7 => some (b + 2) | 8 => some (b + 3) | 9 => some (b + 4) | _ => none))
  | 1 => (8, 16, z_nn)
  | 2 => (8, 16, z_nn)
  | 3 => (9, 16, z_nn)
  | _ => (12, 8, fun j => if j < 8 then some (b + 5 + 21 * j) else none)
def L_Standings (b : Nat) : Nat → z_K := fun o => match o with
  | 0 => (4, 5, (fun k => match k with | 0 => some (b + 1) | 1 => some (b + 2) | 2 => some (b + 3) | 3 => some (b + 4) | _ => none))
  | 1 => (8, 16, z_nn)
  | 2 => (8, 16, z_nn)
  | 3 => (8, 16, z_nn)
  | _ => (8, 16, z_nn)
def L_Tape (b : Nat) : Nat → z_K := fun o => match o with
  | 0 => (5, 6, (fun k => match k with | 0 => some (b + 1) | _ => none))
  | _ => (10, 600, z_nn)
def L_Model (b : Nat) : Nat → z_K := fun o => match o with
  | 0 => (7, 18, (fun k => match k with | 1 => some (b + 1) | 2 => some (b + 2) | 3 => some (b + 3) | 4 => some (b + 4) | 5 => some (b + 5) | 7 => some (b + 6) | 9 => some (b + 7) | 10 => some (b + 8) | 16 => some (b + 9) | _ => none))
  | 1 => (8, 2656, z_nn)
  | 2 => (8, 5312, z_nn)
  | 3 => (8, 2656, z_nn)
  | 4 => (9, 2, z_nn)
  | 5 => (8, 16, z_nn)
  | 6 => (8, 16, z_nn)
  | 7 => (8, 3, z_nn)
  | 8 => (10, 600, z_nn)
  | _ => (8, 600, z_nn)
def L_BT (b : Nat) : z_K := (6, 5, (fun k => match k with | 0 => some (b + 1) | 1 => some (b + 174) | 2 => some (b + 347) | 3 => some (b + 348) | 4 => some (b + 353) | _ => none))
def A_Course (S : z_S) (b : Nat) : Prop := ∀ o, o < 5 → z_at S (b + o) (L_Course b o)
def A_Prizes (S : z_S) (b : Nat) : Prop := ∀ o, o < 4 → z_at S (b + o) (L_Prizes b o)
def A_Stage (S : z_S) (b : Nat) : Prop := ∀ o, o < 21 → z_at S (b + o) (L_Stage b o)
def A_Standings (S : z_S) (b : Nat) : Prop := ∀ o, o < 5 → z_at S (b + o) (L_Standings b o)
def A_Tape (S : z_S) (b : Nat) : Prop := ∀ o, o < 2 → z_at S (b + o) (L_Tape b o)
def A_Model (S : z_S) (b : Nat) : Prop := ∀ o, o < 10 → z_at S (b + o) (L_Model b o)
def A_Race (S : z_S) (b : Nat) : Prop := (∀ o, o < 5 → z_at S (b + o) (L_Race b o)) ∧ ∀ j, j < 8 → A_Stage S (b + 5 + 21 * j)
def A_BT (S : z_S) (b : Nat) : Prop := (∀ o, o < 1 → z_at S (b + o) (L_BT b)) ∧ (A_Race S (b + 1) ∧ A_Race S (b + 174) ∧ A_Standings S (b + 348) ∧ A_Tape S (b + 353)) ∧ ∃ rf, z_at S (b + 347) (11, 2, rf)
theorem A_Stage.course {S : z_S} {b : Nat} (h : A_Stage S b) : A_Course S (b + 1) := by
  intro o ho
  have h1 := h (1 + o) (by omega)
  rw [← Nat.add_assoc] at h1
  match o, ho, h1 with
  | 0, _, h1 => exact h1
  | 1, _, h1 => exact h1
  | 2, _, h1 => exact h1
  | 3, _, h1 => exact h1
  | 4, _, h1 => exact h1
theorem A_Stage.prizes {S : z_S} {b : Nat} (h : A_Stage S b) : A_Prizes S (b + 6) := by
  intro o ho
  have h1 := h (6 + o) (by omega)
  rw [← Nat.add_assoc] at h1
  match o, ho, h1 with
  | 0, _, h1 => exact h1
  | 1, _, h1 => exact h1
  | 2, _, h1 => exact h1
  | 3, _, h1 => exact h1
theorem A_BT.race {S : z_S} {b : Nat} (h : A_BT S b) : A_Race S (b + 1) := h.2.1.1
theorem A_BT.ahead {S : z_S} {b : Nat} (h : A_BT S b) : A_Race S (b + 174) := h.2.1.2.1
theorem A_BT.standings {S : z_S} {b : Nat} (h : A_BT S b) : A_Standings S (b + 348) := h.2.1.2.2.1
theorem A_BT.tape {S : z_S} {b : Nat} (h : A_BT S b) : A_Tape S (b + 353) := h.2.1.2.2.2
