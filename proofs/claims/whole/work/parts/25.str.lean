/-! 25.str: the JDK's own String members over the words of the texts -/
section
variable {α : Type} {E : z_E} {l : Launch} {Y : z_Y} {cv : α → Option Value × z_W} {res : Option α} {pc : Nat} {lv : List (Nat × Value)} {st : List Value} {w : z_W} {S : z_S} {d : z_D} {k n : Nat}
theorem r_getsC {idx : Nat} (hlink : Cond.fieldLink Y.1 idx "java/lang/String" "COMPACT_STRINGS" "Z" ∈ Y.2.2.2.1) (pc' : Nat) (hp : pc + 3 = pc') (hd : decode Y.2.1 pc = .ok (.getstatic idx, 3)) (K : z_G E l Y cv res pc' lv (.int 1 :: st) w k n) : z_G E l Y cv res pc lv st w k n := by
  subst hp
  intro z hz p e s m args below meth c H locs ls C
  exact va_gets C.1.1 C.1.2.1 C.2.2.2.1.2.2.2.1 C.2.2.2.2.2.2.1 C.1.2.2.2.1 (C.1.2.2.2.2 _ hlink) (fun _ h9 => h9) hd (K z hz p e s m args below meth c H locs ls C)
theorem r_getsQ {idx : Nat} (hlink : Cond.fieldLink Y.1 idx "jdk/internal/util/Preconditions" "SIOOBE_FORMATTER" "Ljava/util/function/BiFunction;" ∈ Y.2.2.2.1) (pc' : Nat) (hp : pc + 3 = pc') (hd : decode Y.2.1 pc = .ok (.getstatic idx, 3)) (K : ∀ v : Value, (v = .null ∨ ∃ t, v = .ref t) → z_G E l Y cv res pc' lv (v :: st) w k n) : z_G E l Y cv res pc lv st w k n := by
  subst hp
  intro z hz p e s m args below meth c H locs ls C
  rcases C.2.2.2.1.2.2.2.2.1 with h | ⟨t, h⟩
  · exact va_gets C.1.1 C.1.2.1 h C.2.2.2.2.2.2.1 C.1.2.2.2.1 (C.1.2.2.2.2 _ hlink) (fun _ h9 => h9) hd (K _ (Or.inl rfl) z hz p e s m args below meth c H locs ls C)
  · exact va_gets C.1.1 C.1.2.1 h C.2.2.2.2.2.2.1 C.1.2.2.2.1 (C.1.2.2.2.2 _ hlink) (fun _ h9 => h9) hd (K _ (Or.inr ⟨t, rfl⟩) z hz p e s m args below meth c H locs ls C)
theorem r_scod {idx i : Nat} (hi : i < 20) (hlink : Cond.fieldLink Y.1 idx "java/lang/String" "coder" "B" ∈ Y.2.2.2.1) (pc' : Nat) (hp : pc + 3 = pc') (hd : decode Y.2.1 pc = .ok (.getfield idx, 3)) (K : z_G E l Y cv res pc' lv (.int 0 :: st) w k n) : z_G E l Y cv res pc lv (.ref (E.2.2.2.2.1 i) :: st) w k n := by
  subst hp
  intro z hz p e s m args below meth c H locs ls C
  exact vk_getf C.1.1 C.1.2.1 (C.2.2.2.1.2.1.1 i hi).2.1 C.2.2.2.2.2.2.1 C.1.2.2.2.1 (C.1.2.2.2.2 _ hlink) (fun _ h9 => h9) hd (K z hz p e s m args below meth c H locs ls C)
theorem r_sval {idx i : Nat} (hi : i < 20) (hlink : Cond.fieldLink Y.1 idx "java/lang/String" "value" "[B" ∈ Y.2.2.2.1) (pc' : Nat) (hp : pc + 3 = pc') (hd : decode Y.2.1 pc = .ok (.getfield idx, 3)) (K : z_G E l Y cv res pc' lv (.ref (E.2.2.2.2.2 i) :: st) w k n) : z_G E l Y cv res pc lv (.ref (E.2.2.2.2.1 i) :: st) w k n := by
  subst hp
  intro z hz p e s m args below meth c H locs ls C
  exact vk_getf C.1.1 C.1.2.1 (C.2.2.2.1.2.1.1 i hi).2.2.1 C.2.2.2.2.2.2.1 C.1.2.2.2.1 (C.1.2.2.2.2 _ hlink) (fun _ h9 => h9) hd (K z hz p e s m args below meth c H locs ls C)
theorem r_slen {i : Nat} (hi : i < 20) (pc' : Nat) (hp : pc + 1 = pc') (hd : decode Y.2.1 pc = .ok (.arraylength, 1)) (K : z_G E l Y cv res pc' lv (.int (nI (z_len.getD i 0)) :: st) w k n) : z_G E l Y cv res pc lv (.ref (E.2.2.2.2.2 i) :: st) w k n := by
  subst hp
  intro z hz p e s m args below meth c H locs ls C
  exact va_tlen C.1.1 C.1.2.1 (C.2.2.2.1.2.1.1 i hi).2.2.2 C.2.2.2.2.2.2.1 rfl hd (K z hz p e s m args below meth c H locs ls C)
theorem r_sald {i : Nat} {x : Int32} (hi : i < 20) (hx : vp_in x (z_len.getD i 0)) (pc' : Nat) (hp : pc + 1 = pc') (hd : decode Y.2.1 pc = .ok (.baload, 1)) (K : z_G E l Y cv res pc' lv (.int ((z_byt.getD i []).getD x.toNatClampNeg 0) :: st) w k n) : z_G E l Y cv res pc lv (.int x :: .ref (E.2.2.2.2.2 i) :: st) w k n := by
  subst hp
  intro z hz p e s m args below meth c H locs ls C
  exact va_tb C.1.1 C.1.2.1 (C.2.2.2.1.2.1.1 i hi).2.2.2 C.2.2.2.2.2.2.1 hx rfl hd (K z hz p e s m args below meth c H locs ls C)
theorem r_nreturn {x : α} {v : Int32} {ty : FieldType} (hx : cv x = (some (.int v), w)) (hr : Y.2.2.2.2.1 = some ty) (hnar : narrow ty (.int v) = .int v) (hk : k ≤ Y.2.2.2.2.2.2.1) (hn : n ≤ Y.2.2.2.2.2.2.2) (hd : decode Y.2.1 pc = .ok (.ireturn, 1)) : z_G E l Y cv (some x) pc lv [.int v] w k n := by
  intro z hz p e s m args below meth c H locs ls C
  cases hz
  rw [hx]
  have hl := C.2.1.2.1
  exact W.widen hk hn (W.zret C.1.1 C.1.2.1 (C.2.1.1.trans hr) hnar (z_ret _ C) (z_retL C) hd hl)
end
/-- a call on one of the words -/
theorem r_callT {α : Type} {E : z_E} {l : Launch} {Y Yc : z_Y} {cv : α → Option Value × z_W} {pc : Nat} {lv : List (Nat × Value)} {st stk : List Value} {S : z_S} {d : z_D} {k n : Nat} {y : MethodName} {idx : Nat} {As : List Value} {resc : Option Int32} {KB : Int32 → Option α} {i : Nat} (hi : i < 20) (hM : z_Sp E l y Yc (cvI S d) (.ref (E.2.2.2.2.1 i) :: As) (S, d) resc) (hO : z_Ok y Yc As.length) (hF : z_Fit Y Yc k n) (hq9 : Yc.1 = "java/lang/String") (hst : stk = As.reverse ++ .ref (E.2.2.2.2.1 i) :: st) (hcat : (st.map fun v => v.category).sum ≤ 8) (hG : GoodIn Y.2.2.2.1 (wsV Y.1 idx Yc.1 y Yc.2.2.2.1)) (hz1 : Yc.2.2.2.2.2.2.1 = 0) (hz2 : Yc.2.2.2.2.2.2.2 = 0) (pc' : Nat) (hp : pc + 3 = pc') (hd : decode Y.2.1 pc = .ok (.invokevirtual idx, 3)) (K : ∀ v, z_G E l Y cv (KB v) pc' lv (.int v :: st) (S, d) k n) : z_G E l Y cv (resc.bind KB) pc lv stk (S, d) k n := by
  subst hp
  subst hst
  intro z hz p e s m args below meth c H locs ls C
  have hrv := vk_recv C.2.2.2.1.2.1 hi C.2.2.2.2.2.2.1
  rw [← hq9] at hrv
  obtain ⟨⟨ws', o1⟩, o2, o3, o4, o5, o6⟩ := hO
  refine z_core (Yc := Yc) (cvc := cvI S d) (a := (Value.ref (E.2.2.2.2.1 i) :: As).toArray) C (fun x hx => ?_) (fun _ _ => by rw [hz1]; rfl) (fun v _ => by rw [hz1, hz2]; exact K v) hz
  exact va_runV ⟨C.1.1, C.1.2.1, C.1.2.2.1, C.1.2.2.2.1, C.1.2.2.2.2⟩ (hM x hx) (cwV As.length C.1.2.2.2.2 hG o1 o2 o3 ⟨o4, o5.1, o5.2, o6⟩ hF.1) ⟨(z_pre C).1, hrv, (z_pre C).2⟩ rfl rfl C.2.2.2.2.2.2.2.1 rfl (lv_room hcat) hd hF.2
def Y_J0_coder : z_Y := (RJ0, cJ0_coder_7d493, 1, wsJ0_coder_7d493, (some .byte), { frames := 0, cells := 0, slots := 0, locals := 0 }, 0, 0)
theorem ok_J0_coder : z_Ok yJ0_coder_7d493 Y_J0_coder 0 := ⟨⟨_, rfl⟩, rfl, rfl, rfl, by decide +kernel, by decide +kernel⟩
def Y_J0_isLatin1 : z_Y := (RJ0, cJ0_isLatin1_aae02, 1, wsJ0_isLatin1_aae02, (some .boolean), { frames := 0, cells := 0, slots := 0, locals := 0 }, 0, 0)
theorem ok_J0_isLatin1 : z_Ok yJ0_isLatin1_aae02 Y_J0_isLatin1 0 := ⟨⟨_, rfl⟩, rfl, rfl, rfl, by decide +kernel, by decide +kernel⟩
def Y_J0_length : z_Y := (RJ0, cJ0_length_8abf5, 1, wsJ0_length_8abf5, (some .int), { frames := 1, cells := 0, slots := 0, locals := 20 }, 0, 0)
theorem ok_J0_length : z_Ok yJ0_length_8abf5 Y_J0_length 0 := ⟨⟨_, rfl⟩, rfl, rfl, rfl, by decide +kernel, by decide +kernel⟩
def Y_J3_checkIndex : z_Y := (RJ3, cJ3_checkIndex_8e157, 3, wsJ3_checkIndex_8e157, (some .int), { frames := 0, cells := 0, slots := 0, locals := 0 }, 0, 0)
theorem ok_J3_checkIndex : z_Ok yJ3_checkIndex_8e157 Y_J3_checkIndex 3 := ⟨⟨_, rfl⟩, rfl, rfl, rfl, by decide +kernel, by decide +kernel⟩
def Y_J0_checkIndex : z_Y := (RJ0, cJ0_checkIndex_df160, 2, wsJ0_checkIndex_df160, none, { frames := 1, cells := 0, slots := 0, locals := 22 }, 0, 0)
theorem ok_J0_checkIndex : z_Ok yJ0_checkIndex_df160 Y_J0_checkIndex 2 := ⟨⟨_, rfl⟩, rfl, rfl, rfl, by decide +kernel, by decide +kernel⟩
def Y_J1_charAt : z_Y := (RJ1, cJ1_charAt_3b067, 2, wsJ1_charAt_3b067, (some .char), { frames := 2, cells := 0, slots := 0, locals := 43 }, 0, 0)
theorem ok_J1_charAt : z_Ok yJ1_charAt_3b067 Y_J1_charAt 2 := ⟨⟨_, rfl⟩, rfl, rfl, rfl, by decide +kernel, by decide +kernel⟩
def Y_J0_charAt : z_Y := (RJ0, cJ0_charAt_5068e, 2, wsJ0_charAt_5068e, (some .char), { frames := 3, cells := 0, slots := 0, locals := 64 }, 0, 0)
theorem ok_J0_charAt : z_Ok yJ0_charAt_5068e Y_J0_charAt 1 := ⟨⟨_, rfl⟩, rfl, rfl, rfl, by decide +kernel, by decide +kernel⟩
section
variable {E : z_E} {l : Launch} {S : z_S} {d : z_D}
theorem c_J0_coder {i : Nat} (hi : i < 20) : z_Sp E l yJ0_coder_7d493 Y_J0_coder (cvI S d) [.ref (E.2.2.2.2.1 i)] (S, d) (some 0) := by
  refine z_entry (lv := [(0, .ref (E.2.2.2.2.1 i))]) (by decide) rfl rfl (Nat.le_of_ble_eq_true rfl) rfl ?_
  refine r_getsC (by decide +kernel) 3 rfl dJ0_coder_7d493_0 ?_
  refine r_eq (show some (0 : Int32) = if (1 : Int32) = 0 then none else some 0 from rfl) ?_
  refine r_if_eq 13 6 rfl rfl dJ0_coder_7d493_3 r_none ?_
  refine r_aload_n 0 0 rfl rfl 7 rfl dJ0_coder_7d493_6 ?_
  refine r_scod hi (by decide +kernel) 10 rfl dJ0_coder_7d493_7 ?_
  refine r_goto 14 rfl dJ0_coder_7d493_10 ?_
  exact r_nreturn rfl rfl rfl (Nat.le_of_ble_eq_true rfl) (Nat.le_of_ble_eq_true rfl) dJ0_coder_7d493_14
theorem c_J0_isLatin1 {i : Nat} (hi : i < 20) : z_Sp E l yJ0_isLatin1_aae02 Y_J0_isLatin1 (cvI S d) [.ref (E.2.2.2.2.1 i)] (S, d) (some 1) := by
  refine z_entry (lv := [(0, .ref (E.2.2.2.2.1 i))]) (by decide) rfl rfl (Nat.le_of_ble_eq_true rfl) rfl ?_
  refine r_getsC (by decide +kernel) 3 rfl dJ0_isLatin1_aae02_0 ?_
  refine r_eq (show some (1 : Int32) = if (1 : Int32) = 0 then none else some 1 from rfl) ?_
  refine r_if_eq 17 6 rfl rfl dJ0_isLatin1_aae02_3 r_none ?_
  refine r_aload_n 0 0 rfl rfl 7 rfl dJ0_isLatin1_aae02_6 ?_
  refine r_scod hi (by decide +kernel) 10 rfl dJ0_isLatin1_aae02_7 ?_
  refine r_eq (show some (1 : Int32) = if (0 : Int32) = 0 then some 1 else none from rfl) ?_
  refine r_if_ne 17 13 rfl rfl dJ0_isLatin1_aae02_10 r_none ?_
  refine r_iconst 1 rfl 14 rfl dJ0_isLatin1_aae02_13 ?_
  refine r_goto 18 rfl dJ0_isLatin1_aae02_14 ?_
  exact r_nreturn rfl rfl rfl (Nat.le_of_ble_eq_true rfl) (Nat.le_of_ble_eq_true rfl) dJ0_isLatin1_aae02_18
def z_slen (i : Nat) : Option Int32 := some (nI (z_len.getD i 0))
theorem c_J0_length {i : Nat} (hi : i < 20) : z_Sp E l yJ0_length_8abf5 Y_J0_length (cvI S d) [.ref (E.2.2.2.2.1 i)] (S, d) (z_slen i) := by
  unfold z_slen
  refine z_entry (lv := [(0, .ref (E.2.2.2.2.1 i))]) (by decide) rfl rfl (Nat.le_of_ble_eq_true rfl) rfl ?_
  refine r_aload_n 0 0 rfl rfl 1 rfl dJ0_length_8abf5_0 ?_
  refine r_sval hi (by decide +kernel) 4 rfl dJ0_length_8abf5_1 ?_
  refine r_slen hi 5 rfl dJ0_length_8abf5_4 ?_
  refine r_aload_n 0 0 rfl rfl 6 rfl dJ0_length_8abf5_5 ?_
  refine r_eq (show some (nI (z_len.getD i 0)) = (some (0 : Int32)).bind (fun v => if v = 0 then some (nI (z_len.getD i 0)) else none) from rfl) ?_
  refine r_callT hi (c_J0_coder hi) ok_J0_coder ⟨⟨Nat.le_of_ble_eq_true rfl, Nat.le_of_ble_eq_true rfl⟩, Nat.le_of_ble_eq_true rfl, Nat.le_of_ble_eq_true rfl⟩ rfl rfl (Nat.le_of_ble_eq_true rfl) gJ0_length_8abf5_J0_coder_7d493 rfl rfl 9 rfl dJ0_length_8abf5_6 (fun v => ?_)
  by_cases hv : v = 0
  · subst hv
    refine r_ishr 10 rfl dJ0_length_8abf5_9 ?_
    rw [sb_shr0]
    exact r_ireturn rfl rfl (Nat.le_of_ble_eq_true rfl) (Nat.le_of_ble_eq_true rfl) dJ0_length_8abf5_10
  · rw [if_neg hv]
    exact r_none
theorem c_J3_checkIndex {x y : Int32} {v : Value} (hv : v = .null ∨ ∃ t, v = .ref t) : z_Sp E l yJ3_checkIndex_8e157 Y_J3_checkIndex (cvI S d) [.int x, .int y, v] (S, d) (if x < 0 then none else if x < y then some x else none) := by
  have hlen : (lg_sl [.int x, .int y, v]).length ≤ 3 := by rcases hv with rfl | ⟨t, rfl⟩ <;> exact Nat.le_of_ble_eq_true rfl
  have hlv : lv_args 0 [.int x, .int y, v] = [(0, .int x), (1, .int y), (2, v)] := by rcases hv with rfl | ⟨t, rfl⟩ <;> rfl
  refine z_entry (lv := [(0, .int x), (1, .int y), (2, v)]) (by decide) rfl rfl hlen hlv ?_
  refine r_iload_n 0 0 rfl rfl 1 rfl dJ3_checkIndex_8e157_0 ?_
  refine r_if_lt 9 4 rfl rfl dJ3_checkIndex_8e157_1 r_none ?_
  refine r_iload_n 0 0 rfl rfl 5 rfl dJ3_checkIndex_8e157_4 ?_
  refine r_iload_n 1 1 rfl rfl 6 rfl dJ3_checkIndex_8e157_5 ?_
  refine r_icmp_lt 16 9 rfl rfl dJ3_checkIndex_8e157_6 ?_ r_none
  refine r_iload_n 0 0 rfl rfl 17 rfl dJ3_checkIndex_8e157_16 ?_
  exact r_ireturn rfl rfl (Nat.le_of_ble_eq_true rfl) (Nat.le_of_ble_eq_true rfl) dJ3_checkIndex_8e157_17
def cvU (S : z_S) (d : z_D) : Unit → Option Value × z_W := fun _ => (none, (S, d))
theorem c_J0_checkIndex {x y : Int32} : z_Sp E l yJ0_checkIndex_df160 Y_J0_checkIndex (cvU S d) [.int x, .int y] (S, d) (if x < 0 then none else if x < y then some () else none) := by
  refine z_entry (lv := [(0, .int x), (1, .int y)]) (by decide) rfl rfl (Nat.le_of_ble_eq_true rfl) rfl ?_
  refine r_iload_n 0 0 rfl rfl 1 rfl dJ0_checkIndex_df160_0 ?_
  refine r_iload_n 1 1 rfl rfl 2 rfl dJ0_checkIndex_df160_1 ?_
  refine r_getsQ (by decide +kernel) 5 rfl dJ0_checkIndex_df160_2 (fun v hv => ?_)
  refine r_eq (show (if x < 0 then none else if x < y then some () else none) = (if x < 0 then none else if x < y then some x else none).bind (fun _ => some ()) from by by_cases h : x < 0 <;> by_cases h2 : x < y <;> simp [h, h2]) ?_
  have hst : (v :: .int y :: .int x :: ([] : List Value)) = [.int x, .int y, v].reverse ++ [] := rfl
  refine r_callS_I (c_J3_checkIndex hv) ok_J3_checkIndex ⟨⟨Nat.le_of_ble_eq_true rfl, Nat.le_of_ble_eq_true rfl⟩, Nat.le_of_ble_eq_true rfl, Nat.le_of_ble_eq_true rfl⟩ hst (Nat.le_of_ble_eq_true rfl) gJ0_checkIndex_df160_J3_checkIndex_8e157 rfl rfl 8 rfl dJ0_checkIndex_df160_5 (fun u => ?_)
  refine r_pop rfl 9 rfl dJ0_checkIndex_df160_8 ?_
  exact r_return rfl rfl (Nat.le_of_ble_eq_true rfl) (Nat.le_of_ble_eq_true rfl) dJ0_checkIndex_df160_9
/-- the sign at x of the word i -/
def z_chr (i : Nat) (x : Int32) : Int32 := (((z_byt.getD i []).getD x.toNatClampNeg 0 &&& 255).toUInt32 % 65536).toInt32
theorem c_J1_charAt {i : Nat} {x : Int32} (hi : i < 20) : z_Sp E l yJ1_charAt_3b067 Y_J1_charAt (cvI S d) [.ref (E.2.2.2.2.2 i), .int x] (S, d) (if x < 0 ∨ z_len.getD i 0 ≤ x.toNatClampNeg then none else some (z_chr i x)) := by
  refine z_entry (lv := [(0, .ref (E.2.2.2.2.2 i)), (1, .int x)]) (by decide) rfl rfl (Nat.le_of_ble_eq_true rfl) rfl ?_
  by_cases hx : x < 0 ∨ z_len.getD i 0 ≤ x.toNatClampNeg
  · rw [if_pos hx]
    exact r_none
  · rw [if_neg hx]
    refine r_iload_n 1 1 rfl rfl 1 rfl dJ1_charAt_3b067_0 ?_
    refine r_aload_n 0 0 rfl rfl 2 rfl dJ1_charAt_3b067_1 ?_
    refine r_slen hi 3 rfl dJ1_charAt_3b067_2 ?_
    refine r_eq (show some (z_chr i x) = (if x < 0 then none else if x < nI (z_len.getD i 0) then some () else none).bind (fun _ => some (z_chr i x)) from ?_) ?_
    · have h1 : ¬ x < 0 := fun h => hx (Or.inl h)
      have h2 : x.toNatClampNeg < z_len.getD i 0 := Nat.not_le.mp fun h => hx (Or.inr h)
      obtain ⟨j, hj, rfl⟩ := nI_of h1
      rw [nI_clamp hj] at h2
      have hl : z_len.getD i 0 < 2 ^ 31 := by
        have h9 : ∀ i, i < 20 → z_len.getD i 0 < 2 ^ 31 := by decide +kernel
        exact h9 i hi
      rw [if_neg h1, if_pos (nI_lt h2 hl)]
      rfl
    · refine r_callS (cvc := cvU S d) (c_J0_checkIndex (x := x)) ok_J0_checkIndex ⟨⟨Nat.le_of_ble_eq_true rfl, Nat.le_of_ble_eq_true rfl⟩, Nat.le_of_ble_eq_true rfl, Nat.le_of_ble_eq_true rfl⟩ (st := []) rfl (Nat.le_of_ble_eq_true rfl) gJ1_charAt_3b067_J0_checkIndex_df160 (fun _ _ => rfl) 6 rfl dJ1_charAt_3b067_3 (fun u _ => ?_)
      show z_G E l Y_J1_charAt (cvI S d) (some (z_chr i x)) 6 _ [] (S, d) 0 0
      refine r_aload_n 0 0 rfl rfl 7 rfl dJ1_charAt_3b067_6 ?_
      refine r_iload_n 1 1 rfl rfl 8 rfl dJ1_charAt_3b067_7 ?_
      refine r_sald hi hx 9 rfl dJ1_charAt_3b067_8 ?_
      refine r_sipush 255 rfl 12 rfl dJ1_charAt_3b067_9 ?_
      refine r_iand 13 rfl dJ1_charAt_3b067_12 ?_
      refine r_i2c 14 rfl dJ1_charAt_3b067_13 ?_
      exact r_nreturn rfl rfl (pk_nc _) (Nat.le_of_ble_eq_true rfl) (Nat.le_of_ble_eq_true rfl) dJ1_charAt_3b067_14
def z_sch (i : Nat) (x : Int32) : Option Int32 := if x < 0 ∨ z_len.getD i 0 ≤ x.toNatClampNeg then none else some (z_chr i x)
theorem c_J0_charAt {i : Nat} {x : Int32} (hi : i < 20) : z_Sp E l yJ0_charAt_5068e Y_J0_charAt (cvI S d) [.ref (E.2.2.2.2.1 i), .int x] (S, d) (z_sch i x) := by
  unfold z_sch
  refine z_entry (lv := [(0, .ref (E.2.2.2.2.1 i)), (1, .int x)]) (by decide) rfl rfl (Nat.le_of_ble_eq_true rfl) rfl ?_
  refine r_aload_n 0 0 rfl rfl 1 rfl dJ0_charAt_5068e_0 ?_
  refine r_eq (show (if x < 0 ∨ z_len.getD i 0 ≤ x.toNatClampNeg then none else some (z_chr i x)) = (some (1 : Int32)).bind (fun v => if v = 0 then none else (if x < 0 ∨ z_len.getD i 0 ≤ x.toNatClampNeg then none else some (z_chr i x)).bind (fun r => if r = z_chr i x then some r else none)) from ?_) ?_
  · by_cases hx : x < 0 ∨ z_len.getD i 0 ≤ x.toNatClampNeg
    · rw [if_pos hx]
      rfl
    · rw [if_neg hx]
      show some (z_chr i x) = if z_chr i x = z_chr i x then some (z_chr i x) else none
      rw [if_pos rfl]
  refine r_callT hi (c_J0_isLatin1 hi) ok_J0_isLatin1 ⟨⟨Nat.le_of_ble_eq_true rfl, Nat.le_of_ble_eq_true rfl⟩, Nat.le_of_ble_eq_true rfl, Nat.le_of_ble_eq_true rfl⟩ rfl rfl (Nat.le_of_ble_eq_true rfl) gJ0_charAt_5068e_J0_isLatin1_aae02 rfl rfl 4 rfl dJ0_charAt_5068e_1 (fun v => ?_)
  refine r_if_eq 16 7 rfl rfl dJ0_charAt_5068e_4 r_none ?_
  refine r_aload_n 0 0 rfl rfl 8 rfl dJ0_charAt_5068e_7 ?_
  refine r_sval hi (by decide +kernel) 11 rfl dJ0_charAt_5068e_8 ?_
  refine r_iload_n 1 1 rfl rfl 12 rfl dJ0_charAt_5068e_11 ?_
  refine r_callS_I (c_J1_charAt hi) ok_J1_charAt ⟨⟨Nat.le_of_ble_eq_true rfl, Nat.le_of_ble_eq_true rfl⟩, Nat.le_of_ble_eq_true rfl, Nat.le_of_ble_eq_true rfl⟩ rfl (Nat.le_of_ble_eq_true rfl) gJ0_charAt_5068e_J1_charAt_3b067 rfl rfl 15 rfl dJ0_charAt_5068e_12 (fun r => ?_)
  by_cases hr : r = z_chr i x
  · rw [if_pos hr]
    subst hr
    exact r_nreturn rfl rfl (pk_nc _) (Nat.le_of_ble_eq_true rfl) (Nat.le_of_ble_eq_true rfl) dJ0_charAt_5068e_15
  · rw [if_neg hr]
    exact r_none
end
