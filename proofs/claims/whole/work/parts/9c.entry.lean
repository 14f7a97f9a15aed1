/-! 9c.entry: the law from its entry to its loop -/
theorem lw_ArrT {s : State} {args : Array Value} {ty : FieldType} (h : (Cond.arrayClass ty).before args s = true) : ∃ cA : ClassId, ArrOfT s cA ty ∧ s.vm.findClass ("[" ++ ty.toString) = some cA := by
  obtain ⟨cA, kA, comp, h1, h2, h3⟩ := Cond.arrayClass_spec h
  exact ⟨cA, fun n z => ⟨fun k h => (by cases h), kA, h2, comp, h3⟩, h1⟩
theorem lw_ArrO {s : State} {args : Array Value} {C : String} (h : (Cond.arrayOver (.object C)).before args s = true) : ∃ cA : ClassId, ArrOfT s cA (.object C) ∧ va_RA s cA (.object C) := by
  obtain ⟨comp, cA, kA, h1, -, h2, h3, h4⟩ := Cond.arrayOver_spec h
  exact ⟨cA, fun n z => ⟨fun k h => (by cases h), kA, h2, comp, h3⟩, kA, comp, h2, h3, h1, h4⟩
theorem lw_E {p : Program} {s : State} {m : MethodId} {meth : Method} {c : Code} {b L : Nat} {xs : Nat → Int32} (C0 : lw_At p s m meth c b L xs) : ∃ E : z_E, E.2.1 = s.heap.size ∧ va_K E.1 vwCl (z_tys E) s ∧ z_St E s s.heap ∧ z_X E s s.heap := by
  obtain ⟨hx, hb, hr, hml, hown, hts, hX, hbl, hlocks, hgv⟩ := C0
  have hs : ∀ w ∈ NF, w.before #[Value.ref b] s = true := flat_of_before _ hgv
  have hA : ∀ a : Nat, a < s.heap.size → ¬ (fun q : Nat => s.heap.size ≤ q) a := fun a h => Nat.not_le.mpr h
  obtain ⟨fS, hfS⟩ := st_fun (A := fun q : Nat => s.heap.size ≤ q) hs hts hA
  obtain ⟨adK, adV, hSt, hR⟩ := tx_fun (A := fun q : Nat => s.heap.size ≤ q) hs hts hA
  obtain ⟨c1, i1, k1⟩ := u_known (C := RX1) (T := TX1) (N := 7) (n := 7) hts wlt_wsX10 (hts _ iw_X1)
  obtain ⟨c2, i2, k2⟩ := u_known (C := RX2) (T := TX2) (N := 3) (n := 3) hts wlt_wsX20 (hts _ iw_X2)
  obtain ⟨c3, i3, k3⟩ := u_known (C := RX3) (T := TX3) (N := 10) (n := 10) hts wlt_wsX30 (hts _ iw_X3)
  obtain ⟨c4, i4, k4⟩ := u_known (C := RX4) (T := TX4) (N := 20) (n := 20) hts wlt_wsX40 (hts _ iw_X4)
  obtain ⟨c5, i5, k5⟩ := u_known (C := RX5) (T := TX5) (N := 5) (n := 5) hts wlt_wsX50 (hts _ iw_X5)
  obtain ⟨c6, i6, k6⟩ := u_known (C := RX6) (T := TX6) (N := 6) (n := 6) hts wlt_wsX60 (hts _ iw_X6)
  obtain ⟨c8, i8, k8⟩ := u_known (C := RX8) (T := TX8) (N := 5) (n := 5) hts wlt_wsX80 (hts _ iw_X8)
  obtain ⟨c9, i9, k9⟩ := u_known (C := RX9) (T := TX9) (N := 18) (n := 18) hts wlt_wsX90 (hts _ iw_X9)
  obtain ⟨a8, r8, t8⟩ := lw_ArrT (hts _ sw_ai)
  obtain ⟨a9, r9, t9⟩ := lw_ArrT (hts _ sw_az)
  obtain ⟨a10, r10, t10⟩ := lw_ArrT (hts _ sw_ab)
  obtain ⟨a13, r13, t13⟩ := lw_ArrT (hts _ sw_al)
  obtain ⟨a11, r11, t11⟩ := lw_ArrO (hts _ sw_a3)
  obtain ⟨a12, r12, t12⟩ := lw_ArrO (hts _ sw_a4)
  refine ⟨(((fun k => match k with | 0 => c1 | 1 => c2 | 2 => c3 | 3 => c4 | 4 => c5 | 5 => c6 | 6 => c8 | _ => c9), (fun k => match k with | 0 => i1 | 1 => i2 | 2 => i3 | 3 => i4 | 4 => i5 | 5 => i6 | 6 => i8 | _ => i9)), s.heap.size, (fun t => match t with | 8 => a8 | 9 => a9 | 10 => a10 | 11 => a11 | 12 => a12 | _ => a13), fS, adK, adV), rfl, ⟨?_, ?_⟩, ⟨hfS, hSt, hR, va_Zof (hts _ sw_cs) (hts _ sw_csi) (va_eqt (hs _ nw_cs)) hA, va_Zqof (hts _ sw_si) (hts _ sw_sii) (hs _ nw_si) hA, fun i q hq => va_Nw.of rfl (hts _ (nfw_all i q hq)), fun i q hq => va_Nw.of rfl (hts _ (nmw_all i q hq)), va_AO.of (hts _ sw_a3), va_AO.of (hts _ sw_a4)⟩, vx_Zqof (hts _ sw_us) (hts _ sw_ti) (hs _ nw_us) hA, vx_Zqof (hts _ sw_ss) (hts _ sw_ti) (hs _ nw_ss) hA, fun w hw => ?_⟩
  · intro k q hq
    match k, hq with
    | 0, hq => cases hq; exact k1
    | 1, hq => cases hq; exact k2
    | 2, hq => cases hq; exact k3
    | 3, hq => cases hq; exact k4
    | 4, hq => cases hq; exact k5
    | 5, hq => cases hq; exact k6
    | 6, hq => cases hq; exact k8
    | 7, hq => cases hq; exact k9
    | k + 8, hq => cases hq
  · intro k q hq
    match k, hq with
    | 0, hq => cases hq; exact ⟨r8, t8⟩
    | 1, hq => cases hq; exact ⟨r9, t9⟩
    | 2, hq => cases hq; exact ⟨r10, t10⟩
    | 3, hq => cases hq; exact ⟨r11, t11⟩
    | 4, hq => cases hq; exact ⟨r12, t12⟩
    | 5, hq => cases hq; exact ⟨r13, t13⟩
    | k + 6, hq => cases hq
  · rcases of_B2 hw with ⟨C, T, rfl⟩ | ⟨x, rfl⟩
    · exact va_Nw.of rfl (hts _ (tb_4 (of_B_in _ hw)))
    · exact va_Nw.of rfl (hts _ (tb_4 (of_B_in _ hw)))
theorem lw_born {E : z_E} {w : z_W} {H H1 : Heap} {kd : z_K} (h : z_H E w H) (h15 : kd.1 ≠ 15) (hcell : va_at E.1 vwCl (E.2.1 + w.1.1, z_cell E kd (w.1.2.2 w.1.1) (fun _ => 0)) H1) (z1 : H1.size = H.size + 1) (o1 : ∀ q : Nat, q < H.size → H1[q]? = H[q]?) : z_H E (z_wadd w kd) H1 := by
  refine ⟨?_, by rw [z1, h.2]; rfl⟩
  rw [z_wsadd E w kd h15]
  refine (h.1.kept (fun j x hx => o1 x.1 ((h.1 j x hx).lt))).app (fun j x hx => ?_)
  have hz : j < 1 := (List.getElem?_eq_some_iff.mp hx).1
  rw [show j = 0 by omega] at hx
  cases hx
  exact hcell
section
variable {E : z_E} {l : Launch} {p : Program} {e : Env} {s : State} {m : MethodId} {below : List Frame} {meth : Method} {c : Code} {b L : Nat} {xs : Nat → Int32} {Q : State → Prop} {H : Heap} {locs : List Loc} {k n pc : Nat} {ls : Array Slot} {st : List Value} {w : z_W}
theorem lw_new {ci N idx : Nat} {C9 : String} {T : u_T} (F : lw_C E p s m c b L xs) (hts : ∀ w ∈ lw_tbl, w.before #[Value.ref b] s = true) (hc : vwCl[ci]? = some (C9, T, N)) (h8 : ci < 8) (hin : ∀ w ∈ u_ws C9 T N, w ∈ lw_tbl) (ty0 : Nat → FieldType) (hty : ∀ k, k < N → parseFieldDescriptor (T k).2.2.1 = some (ty0 k)) (hcl : Cond.classLink RL idx C9 ∈ lw_tbl) (hinst : Cond.instantiable C9 N ∈ lw_tbl) (hini : Cond.initialized C9 ∈ lw_tbl) (hdef : ∀ j, j < N → defaultValue (ty0 j) = z_fv E.2.1 ci z_nn (fun _ => 0) j) (hk : k + 1 ≤ room_1.cells) (hn : n + N ≤ room_1.slots) (hH : z_H E w H) (hS : va_S (z_A E) s.heap H locs) (pc' : Nat) (hp : pc + 3 = pc') (hd : decode cL_law pc = .ok (.new idx, 3)) (K : ∀ H1, z_H E (z_wadd w (ci, N, z_nn)) H1 → va_S (z_A E) s.heap H1 locs → W p l e room_1 s m #[Value.ref b] below meth c H1 locs (k + 1) (n + N) Q (F0 m pc' ls (.ref (E.2.1 + w.1.1) :: st))) : W p l e room_1 s m #[Value.ref b] below meth c H locs k n Q (F0 m pc ls st) := by
  subst hp
  have hKn := F.2.1.1 ci _ hc
  refine W.newcK F.1.1 F.1.2.1 F.1.2.2.2.1 (hts _ hcl) (hts _ hinst) (hts _ hini) rfl hd hk hn hKn.2.1 (h := E.2.1 + w.1.1) hH.2 fun H1 kC hkC e1 z1 o1 => ?_
  refine K H1 (lw_born hH (by show ci ≠ 15; omega) ?_ (by rw [z1, hH.2]) (fun q hq => o1 q (by rw [← hH.2]; exact hq))) ⟨Nat.le_trans hS.1 (by rw [z1, hH.2]; omega), fun q h1 h2 => (o1 q (by rw [← hH.2]; exact Nat.lt_of_lt_of_le h1 hS.1)).trans (hS.2.1 q h1 h2), hS.2.2⟩
  rw [z_cell, if_pos h8]
  refine ⟨_, hc, (u_born ty0 hts hin hKn hkC e1 hty).to (fun j hj => ?_)⟩
  rw [hdef j hj]
  show _ = ((List.range N).map (z_fv E.2.1 ci z_nn (fun _ => 0))).getD j .null
  rw [List.getD_eq_getElem?_getD, List.getElem?_map, List.getElem?_range hj]
  rfl
theorem lw_init {y : MethodName} {Yc : z_Y} {w' : z_W} {a idx : Nat} (F : lw_C E p s m c b L xs) (hts : ∀ w ∈ lw_tbl, w.before #[Value.ref b] s = true) (hM : z_Sp E l y Yc cvW [.ref (E.2.1 + a)] w (some w')) (hO : z_Ok y Yc 0) (hret : Yc.2.2.2.2.1 = none) (hR : Yc.2.2.2.2.2.1.frames + 1 ≤ room_1.frames ∧ 8 + (Yc.2.2.1 + 11) + Yc.2.2.2.2.2.1.locals ≤ room_1.locals) (hkn : k + Yc.2.2.2.2.2.2.1 ≤ room_1.cells ∧ n + Yc.2.2.2.2.2.2.2 ≤ room_1.slots) (hcat : (st.map fun v => v.category).sum ≤ 8) (hG : GoodIn wsL_law Yc.2.2.2.1) (hini : Cond.initialized y.cls ∈ lw_tbl) (hli : Cond.methodLink RL idx y ∈ lw_tbl) (him : Cond.instanceMethod y ∈ lw_tbl) (hy1 : y.name = "<init>") (hH : z_H E w H) (hS : va_S (z_A E) s.heap H locs) {lv : List (Nat × Value)} (hl : lv_has ls 7 lv) (pc' : Nat) (hp : pc + 3 = pc') (hd : decode cL_law pc = .ok (.invokespecial idx, 3))
    (K : ∀ (H1 : Heap) (locs1 : List Loc), z_H E w' H1 → va_S (z_A E) s.heap H1 locs1 → W p l e room_1 s m #[Value.ref b] below meth c H1 locs1 (k + Yc.2.2.2.2.2.2.1) (n + Yc.2.2.2.2.2.2.2) Q (F0 m pc' ls st)) : W p l e room_1 s m #[Value.ref b] below meth c H locs k n Q (F0 m pc ls (.ref (E.2.1 + a) :: st)) := by
  subst hp
  obtain ⟨⟨ws', o1⟩, o2, o3, o4, o5, o6⟩ := hO
  rw [hret] at o1
  have hrun : va_Run p l e room_1 s m #[Value.ref b] below meth c H locs k n Yc.2.2.2.2.2.2.1 Yc.2.2.2.2.2.2.2 (F0 m pc ls (.ref (E.2.1 + a) :: st)) st (z_Q E (cvW w').1 (cvW w').2 [Value.ref (E.2.1 + a)].toArray) (z_A E) :=
    va_runI (As := []) F.1 (hM w' rfl) (cwI 0 F.1.2.2.2.2 hG o1 o2 o3 (hts _ hini) (hts _ hli) (hts _ him) hy1 ⟨o5.1, o5.2, o6⟩ hR) ⟨z_blind E w _, fun U hU hW => ⟨rfl, by rw [hU]; exact hH, va_K.moved hW.alike F.2.1, by rw [hU]; exact F.2.2.1.to hW hS.2.1⟩⟩ rfl rfl hl.1 rfl (lv_room hcat) hd hkn
  intro T hT X
  obtain ⟨v, st₀, t, T', L', h0, X', hL, e1, e2, ⟨⟨hv, hH'⟩, hz1, hk1⟩, stp⟩ := hrun T hT X
  cases hv
  rw [h0] at hz1 hk1
  have hS' : va_S (z_A E) s.heap T'.heap (locs ++ L') := by
    refine z_Str hS ⟨by rw [e1]; exact hz1, fun q h1 h2 => by rw [e1]; exact hk1 q h1 h2, fun q hq => ?_⟩
    rcases List.mem_append.mp hq with h | h
    · exact hS.2.2 q h
    · exact hL q h
  obtain ⟨t2, a1, b1⟩ := K T'.heap (locs ++ L') (by rw [e1]; exact hH') hS' T' rfl X'
  exact ⟨t2, stp t2 a1, b1⟩
end
