abbrev vwCl : List vw_C := [(RX1, TX1, 7), (RX2, TX2, 3), (RX3, TX3, 10), (RX4, TX4, 20), (RX5, TX5, 5), (RX6, TX6, 6), (RX8, TX8, 5), (RX9, TX9, 18)]
/-! 03.base: the pure heap, and the judgement z_G: a pure value 'res' says what the method answers from here -/
abbrev z_D : Type := Nat → Nat → Int32
def z_up (d : z_D) (a k : Nat) (v : Int32) : z_D := fun a' k' => if a' = a ∧ k' = k then v else d a' k'
/-- a cell: its kind (0 to 7 an object of vwCl, 8 int[], 9 boolean[], 10 byte[], 11 Race[], 12 Stage[], 13 long[], 15 none of ours), its length, its references -/
abbrev z_K : Type := Nat × Nat × (Nat → Option Nat)
/-- how many cells there are, what they are, what longs hold -/
abbrev z_S : Type := Nat × (Nat → z_K) × (Nat → Int64)
abbrev z_W : Type := z_S × z_D
abbrev z_E : Type := va_G × Nat × (Nat → ClassId) × (Nat → Nat) × (Nat → Nat) × (Nat → Nat)
def z_ref (ci k : Nat) : Bool := match ci with
  | 0 => decide (3 ≤ k)
  | 1 => true
  | 2 => decide (6 ≤ k)
  | 3 => decide (k < 7) || (decide (8 ≤ k) && decide (k < 14))
  | 4 => decide (k < 4)
  | 5 => decide (k = 0)
  | 6 => true
  | _ => (decide (1 ≤ k) && decide (k ≤ 5)) || decide (k = 7) || decide (k = 9) || decide (k = 10) || decide (k = 16)
def z_sh (b : Nat) (o : Option Nat) : Option Nat := o.map (fun x => b + x)
def z_fv (b ci : Nat) (rf : Nat → Option Nat) (da : Nat → Int32) (k : Nat) : Value := if z_ref ci k = true then va_rf (z_sh b (rf k)) else .int (da k)
def z_cell (E : z_E) (kd : z_K) (lg : Int64) (da : Nat → Int32) : va_E :=
  if kd.1 < 8 then .inr (kd.1, (List.range kd.2.1).map (z_fv E.2.1 kd.1 kd.2.2 da))
  else if kd.1 < 11 then .inl (E.2.2.1 kd.1, kd.2.1, .inl da)
  else if kd.1 < 13 then .inl (E.2.2.1 kd.1, kd.2.1, .inr (.inr (.inr (.inr (fun k => z_sh E.2.1 (kd.2.2 k))))))
  else .inl (E.2.2.1 kd.1, kd.2.1, .inr (.inl (fun _ => lg)))
def z_L (S : z_S) : List Nat := (List.range S.1).filter (fun a => !((S.2.1 a).1 == 15))
def z_f (E : z_E) (w : z_W) (q : Nat) : va_E := z_cell E (w.1.2.1 (q - E.2.1)) (w.1.2.2 (q - E.2.1)) (w.2 (q - E.2.1))
def z_ws (E : z_E) (w : z_W) : va_W := va_pl ((z_L w.1).map (fun a => E.2.1 + a)) (z_f E w)
def z_A (E : z_E) : Nat → Prop := fun q => E.2.1 ≤ q
def z_H (E : z_E) (w : z_W) (H : Heap) : Prop := va_P E.1 vwCl (z_ws E w) H ∧ H.size = E.2.1 + w.1.1
def z_aty (t : Nat) : FieldType := match t with
  | 8 => .int
  | 9 => .boolean
  | 10 => .byte
  | 11 => .object RX3
  | 12 => .object RX4
  | _ => .long
def z_tys (E : z_E) : List (ClassId × FieldType) := [(E.2.2.1 8, .int), (E.2.2.1 9, .boolean), (E.2.2.1 10, .byte), (E.2.2.1 11, .object RX3), (E.2.2.1 12, .object RX4), (E.2.2.1 13, .long)]
theorem z_live {S : z_S} {a : Nat} (h : a < S.1) (hk : (S.2.1 a).1 ≠ 15) : a ∈ z_L S := by
  refine List.mem_filter.mpr ⟨List.mem_range.mpr h, ?_⟩
  simp [hk]
theorem z_addr {E : z_E} {S : z_S} {a : Nat} (h : a ∈ z_L S) : E.2.1 + a ∈ (z_L S).map (fun a => E.2.1 + a) := List.mem_map.mpr ⟨a, h, rfl⟩
theorem z_fat (E : z_E) (w : z_W) (a : Nat) : z_f E w (E.2.1 + a) = z_cell E (w.1.2.1 a) (w.1.2.2 a) (w.2 a) := by
  unfold z_f
  rw [Nat.add_sub_cancel_left]
theorem z_nodupL (S : z_S) : (z_L S).Nodup := List.Pairwise.filter _ List.nodup_range
theorem z_nodup (E : z_E) (S : z_S) : ((z_L S).map (fun a => E.2.1 + a)).Nodup :=
  List.Pairwise.map _ (fun a b h hab => h (Nat.add_left_cancel hab)) (z_nodupL S)
theorem z_dd (E : z_E) (w : z_W) : va_D (z_A E) (z_ws E w) := by
  refine ⟨fun i j p q hi hj hpq => ?_, fun k q hk => ?_⟩
  · have hi' : (((z_L w.1).map (fun a => E.2.1 + a)).map (fun a => (a, z_f E w a)))[i]? = some p := hi
    have hj' : (((z_L w.1).map (fun a => E.2.1 + a)).map (fun a => (a, z_f E w a)))[j]? = some q := hj
    rw [List.getElem?_map] at hi' hj'
    cases h1 : ((z_L w.1).map (fun a => E.2.1 + a))[i]? with
    | none => rw [h1] at hi'; cases hi'
    | some x =>
      cases h2 : ((z_L w.1).map (fun a => E.2.1 + a))[j]? with
      | none => rw [h2] at hj'; cases hj'
      | some y =>
        rw [h1] at hi'
        rw [h2] at hj'
        cases hi'
        cases hj'
        have hxy : x = y := hpq
        subst hxy
        exact (List.getElem?_inj ((List.getElem?_eq_some_iff.mp h1).1) (z_nodup E w.1)).mp (h1.trans h2.symm)
  · have hk' : (((z_L w.1).map (fun a => E.2.1 + a)).map (fun a => (a, z_f E w a)))[k]? = some q := hk
    obtain ⟨x, hx, rfl⟩ := List.mem_map.mp (List.mem_of_getElem? hk')
    obtain ⟨a, -, rfl⟩ := List.mem_map.mp hx
    exact Nat.le_add_right _ _
/-- a cell of the world, by its place -/
theorem z_get (E : z_E) (w : z_W) {a : Nat} (h : a < w.1.1) {kd : z_K} (hk : w.1.2.1 a = kd) (h15 : kd.1 ≠ 15) : ∃ k : Nat, (z_ws E w)[k]? = some (E.2.1 + a, z_cell E kd (w.1.2.2 a) (w.2 a)) := by
  obtain ⟨k, hk2⟩ := va_pl_get (X := []) (f := z_f E w) (z_addr (E := E) (z_live (S := w.1) h (by rw [hk]; exact h15)))
  refine ⟨k, ?_⟩
  rw [z_fat, hk] at hk2
  exact hk2
theorem z_set (E : z_E) (S : z_S) (d : z_D) {a i : Nat} (v : Int32) {kd : z_K} (h : a < S.1) (hk : S.2.1 a = kd) (h15 : kd.1 ≠ 15) {p : Nat} (hp : (z_ws E (S, d))[p]? = some (E.2.1 + a, z_cell E kd (S.2.2 a) (d a))) :
    (z_ws E (S, d)).set p (E.2.1 + a, z_cell E kd (S.2.2 a) (fun j => if j = i then v else d a j)) = z_ws E (S, z_up d a i v) := by
  have hm := z_addr (E := E) (z_live (S := S) h (by rw [hk]; exact h15))
  have hp2 : ([] ++ va_pl ((z_L S).map (fun a => E.2.1 + a)) (z_f E (S, d)))[p]? = some (E.2.1 + a, z_f E (S, d) (E.2.1 + a)) := by
    rw [z_fat]; exact hp.trans (by rw [← hk])
  have h1 := va_pl_set (X := []) (A := z_A E) (e := z_cell E kd (S.2.2 a) (fun j => if j = i then v else d a j)) (z_dd E (S, d)) hm hp2
  refine h1.trans ?_
  show va_pl _ _ = va_pl _ _
  refine List.map_congr_left (fun q hq => ?_)
  obtain ⟨b, -, rfl⟩ := List.mem_map.mp hq
  rw [z_fat]
  by_cases hab : b = a
  · subst hab
    rw [va_up_self]
    refine congrArg (fun z => (E.2.1 + b, z)) ?_
    rw [← hk]
    refine congrArg (z_cell E _ _) ?_
    funext j
    simp [z_up]
  · rw [va_up_ne _ _ (fun h => hab (Nat.add_left_cancel h)), z_fat]
    refine congrArg (fun z => (E.2.1 + b, z)) ?_
    refine congrArg (z_cell E _ _) ?_
    funext j
    simp [z_up, hab]
