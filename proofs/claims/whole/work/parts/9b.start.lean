/-! 9b.start: what holds at the law's entry, by gen/st0.py -/
def NF : List Cond := flatC (Jvm.Cond.and given_1 narrow_1)
def pq (T : List Cond) (ps : List Nat) : List Cond := ps.filterMap (fun i => T[i]?)
theorem pq_in {T ws : List Cond} (ps : List Nat) (h : ws = pq T ps) : ∀ w ∈ ws, w ∈ T := by
  subst h
  intro w hw
  obtain ⟨i, -, hi⟩ := List.mem_filterMap.mp hw
  exact List.mem_of_getElem? hi
theorem tb_1 {w : Cond} (h : w ∈ tables_1_1) : w ∈ lw_tbl := by
  have h1 : w ∈ tables_1_1 ++ (tables_1_2 ++ (tables_1_3 ++ (tables_1_4 ++ (tables_1_5 ++ (tables_1_6 ++ tables_1_7))))) := List.mem_append_left _ h
  exact List.mem_append_right (k2_sels lw_privs) h1
theorem tb_2 {w : Cond} (h : w ∈ tables_1_2) : w ∈ lw_tbl := by
  have h1 : w ∈ tables_1_1 ++ (tables_1_2 ++ (tables_1_3 ++ (tables_1_4 ++ (tables_1_5 ++ (tables_1_6 ++ tables_1_7))))) := List.mem_append_right _ (List.mem_append_left _ h)
  exact List.mem_append_right (k2_sels lw_privs) h1
theorem tb_3 {w : Cond} (h : w ∈ tables_1_3) : w ∈ lw_tbl := by
  have h1 : w ∈ tables_1_1 ++ (tables_1_2 ++ (tables_1_3 ++ (tables_1_4 ++ (tables_1_5 ++ (tables_1_6 ++ tables_1_7))))) := List.mem_append_right _ (List.mem_append_right _ (List.mem_append_left _ h))
  exact List.mem_append_right (k2_sels lw_privs) h1
theorem tb_4 {w : Cond} (h : w ∈ tables_1_4) : w ∈ lw_tbl := by
  have h1 : w ∈ tables_1_1 ++ (tables_1_2 ++ (tables_1_3 ++ (tables_1_4 ++ (tables_1_5 ++ (tables_1_6 ++ tables_1_7))))) := List.mem_append_right _ (List.mem_append_right _ (List.mem_append_right _ (List.mem_append_left _ h)))
  exact List.mem_append_right (k2_sels lw_privs) h1
theorem tb_5 {w : Cond} (h : w ∈ tables_1_5) : w ∈ lw_tbl := by
  have h1 : w ∈ tables_1_1 ++ (tables_1_2 ++ (tables_1_3 ++ (tables_1_4 ++ (tables_1_5 ++ (tables_1_6 ++ tables_1_7))))) := List.mem_append_right _ (List.mem_append_right _ (List.mem_append_right _ (List.mem_append_right _ (List.mem_append_left _ h))))
  exact List.mem_append_right (k2_sels lw_privs) h1
theorem tb_6 {w : Cond} (h : w ∈ tables_1_6) : w ∈ lw_tbl := by
  have h1 : w ∈ tables_1_1 ++ (tables_1_2 ++ (tables_1_3 ++ (tables_1_4 ++ (tables_1_5 ++ (tables_1_6 ++ tables_1_7))))) := List.mem_append_right _ (List.mem_append_right _ (List.mem_append_right _ (List.mem_append_right _ (List.mem_append_right _ (List.mem_append_left _ h)))))
  exact List.mem_append_right (k2_sels lw_privs) h1
theorem tb_7 {w : Cond} (h : w ∈ tables_1_7) : w ∈ lw_tbl := by
  have h1 : w ∈ tables_1_1 ++ (tables_1_2 ++ (tables_1_3 ++ (tables_1_4 ++ (tables_1_5 ++ (tables_1_6 ++ tables_1_7))))) := List.mem_append_right _ (List.mem_append_right _ (List.mem_append_right _ (List.mem_append_right _ (List.mem_append_right _ (List.mem_append_right _ (h))))))
  exact List.mem_append_right (k2_sels lw_privs) h1
def SA (C n : String) (vals : List Int32) : List Cond := Cond.arrayOf (.static C n "[I") .int :: Cond.eq (.length (.static C n "[I")) (.int (Int32.ofNat vals.length)) :: (List.range vals.length).map (fun j => Cond.eq (.elem (.static C n "[I") (.int (Int32.ofNat j))) (.int (vals.getD j 0)))
theorem st_arr {b : Nat} {s : State} {A : Nat → Prop} (hs : ∀ w ∈ NF, w.before #[Value.ref b] s = true) (hts : ∀ w ∈ lw_tbl, w.before #[Value.ref b] s = true) (C n : String) (vals : List Int32) (hv : vals.length < 2 ^ 31) (h1 : ∀ w ∈ SA C n vals, w ∈ NF) (h4 : Cond.laysStatic C n "[I" ∈ lw_tbl) (h5 : Cond.initialized C ∈ lw_tbl) (hA : ∀ a : Nat, a < s.heap.size → ¬ A a) : ∃ t : Nat, va_Z C n "[I" (.ref t) A s s.heap ∧ va_T .int t vals.length (fun j => .int (vals.getD j 0)) A s s.heap := by
  obtain ⟨t, ht, hT⟩ := va_Tof (args := #[Value.ref b]) (tm := .static C n "[I") (ty := .int) (N := vals.length) (f := fun j => .int (vals.getD j 0)) (A := A) hv (hs _ (h1 _ List.mem_cons_self)) (va_eqt (hs _ (h1 _ (List.mem_cons_of_mem _ List.mem_cons_self)))) (fun j hj => va_eqt (hs _ (h1 _ (List.mem_cons_of_mem _ (List.mem_cons_of_mem _ (List.mem_map.mpr ⟨j, List.mem_range.mpr hj, rfl⟩)))))) hA
  exact ⟨t, va_Zref (hts _ h4) (hts _ h5) ht hA, hT⟩
set_option maxRecDepth 20000 in
theorem sa_0 : ∀ w ∈ SA "BunchTimes$Stage" "LIMIT_HUNDREDTHS" [7, 10, 15, 30], w ∈ NF := pq_in (List.range' 10 6) (by decide +kernel)
theorem sl_0 : Cond.laysStatic "BunchTimes$Stage" "LIMIT_HUNDREDTHS" "[I" ∈ lw_tbl := tb_3 (List.mem_of_getElem? (i := 149) (by decide +kernel) : Cond.laysStatic "BunchTimes$Stage" "LIMIT_HUNDREDTHS" "[I" ∈ tables_1_3)
theorem si_0 : Cond.initialized "BunchTimes$Stage" ∈ lw_tbl := tb_1 (List.mem_of_getElem? (i := 3) (by decide +kernel) : Cond.initialized "BunchTimes$Stage" ∈ tables_1_1)
set_option maxRecDepth 20000 in
theorem sa_1 : ∀ w ∈ SA "BunchTimes$Prizes" "ORDER_BONUS" [10, 6, 4], w ∈ NF := pq_in (List.range' 17 5) (by decide +kernel)
theorem sl_1 : Cond.laysStatic "BunchTimes$Prizes" "ORDER_BONUS" "[I" ∈ lw_tbl := tb_3 (List.mem_of_getElem? (i := 155) (by decide +kernel) : Cond.laysStatic "BunchTimes$Prizes" "ORDER_BONUS" "[I" ∈ tables_1_3)
theorem si_1 : Cond.initialized "BunchTimes$Prizes" ∈ lw_tbl := tb_1 (List.mem_of_getElem? (i := 5) (by decide +kernel) : Cond.initialized "BunchTimes$Prizes" ∈ tables_1_1)
set_option maxRecDepth 20000 in
theorem sa_2 : ∀ w ∈ SA "BunchTimes$Prizes" "ORDER_POINTS" [25, 20, 16, 13, 10, 15, 12, 9, 7, 5, 10, 8, 6, 4, 2, 10, 8, 6, 4, 2], w ∈ NF := pq_in (List.range' 23 22) (by decide +kernel)
theorem sl_2 : Cond.laysStatic "BunchTimes$Prizes" "ORDER_POINTS" "[I" ∈ lw_tbl := tb_3 (List.mem_of_getElem? (i := 157) (by decide +kernel) : Cond.laysStatic "BunchTimes$Prizes" "ORDER_POINTS" "[I" ∈ tables_1_3)
theorem si_2 : Cond.initialized "BunchTimes$Prizes" ∈ lw_tbl := tb_1 (List.mem_of_getElem? (i := 5) (by decide +kernel) : Cond.initialized "BunchTimes$Prizes" ∈ tables_1_1)
set_option maxRecDepth 20000 in
theorem sa_3 : ∀ w ∈ SA "BunchTimes$Prizes" "CLIMB_DOTS" [10, 8, 6, 4, 5, 3, 2, 1, 2, 1, 0, 0, 1, 0, 0, 0], w ∈ NF := pq_in (List.range' 46 18) (by decide +kernel)
theorem sl_3 : Cond.laysStatic "BunchTimes$Prizes" "CLIMB_DOTS" "[I" ∈ lw_tbl := tb_3 (List.mem_of_getElem? (i := 167) (by decide +kernel) : Cond.laysStatic "BunchTimes$Prizes" "CLIMB_DOTS" "[I" ∈ tables_1_3)
theorem si_3 : Cond.initialized "BunchTimes$Prizes" ∈ lw_tbl := tb_1 (List.mem_of_getElem? (i := 5) (by decide +kernel) : Cond.initialized "BunchTimes$Prizes" ∈ tables_1_1)
set_option maxRecDepth 20000 in
theorem sa_4 : ∀ w ∈ SA "BunchTimes$Prizes" "SPRINT_BONUS" [3, 2, 1], w ∈ NF := pq_in (List.range' 65 5) (by decide +kernel)
theorem sl_4 : Cond.laysStatic "BunchTimes$Prizes" "SPRINT_BONUS" "[I" ∈ lw_tbl := tb_3 (List.mem_of_getElem? (i := 169) (by decide +kernel) : Cond.laysStatic "BunchTimes$Prizes" "SPRINT_BONUS" "[I" ∈ tables_1_3)
theorem si_4 : Cond.initialized "BunchTimes$Prizes" ∈ lw_tbl := tb_1 (List.mem_of_getElem? (i := 5) (by decide +kernel) : Cond.initialized "BunchTimes$Prizes" ∈ tables_1_1)
set_option maxRecDepth 20000 in
theorem sa_5 : ∀ w ∈ SA "BunchTimes$Prizes" "SPRINT_POINTS" [10, 7, 4, 2], w ∈ NF := pq_in (List.range' 71 6) (by decide +kernel)
theorem sl_5 : Cond.laysStatic "BunchTimes$Prizes" "SPRINT_POINTS" "[I" ∈ lw_tbl := tb_3 (List.mem_of_getElem? (i := 171) (by decide +kernel) : Cond.laysStatic "BunchTimes$Prizes" "SPRINT_POINTS" "[I" ∈ tables_1_3)
theorem si_5 : Cond.initialized "BunchTimes$Prizes" ∈ lw_tbl := tb_1 (List.mem_of_getElem? (i := 5) (by decide +kernel) : Cond.initialized "BunchTimes$Prizes" ∈ tables_1_1)
set_option maxRecDepth 20000 in
theorem sa_6 : ∀ w ∈ SA "BunchTimesModel" "FOR_FLAT" [25, 20, 16, 13, 10], w ∈ NF := pq_in (List.range' 80 7) (by decide +kernel)
theorem sl_6 : Cond.laysStatic "BunchTimesModel" "FOR_FLAT" "[I" ∈ lw_tbl := tb_6 (List.mem_of_getElem? (i := 55) (by decide +kernel) : Cond.laysStatic "BunchTimesModel" "FOR_FLAT" "[I" ∈ tables_1_6)
theorem si_6 : Cond.initialized "BunchTimesModel" ∈ lw_tbl := tb_1 (List.mem_of_getElem? (i := 8) (by decide +kernel) : Cond.initialized "BunchTimesModel" ∈ tables_1_1)
set_option maxRecDepth 20000 in
theorem sa_7 : ∀ w ∈ SA "BunchTimesModel" "FOR_HILLS" [15, 12, 9, 7, 5], w ∈ NF := pq_in (List.range' 88 7) (by decide +kernel)
theorem sl_7 : Cond.laysStatic "BunchTimesModel" "FOR_HILLS" "[I" ∈ lw_tbl := tb_6 (List.mem_of_getElem? (i := 57) (by decide +kernel) : Cond.laysStatic "BunchTimesModel" "FOR_HILLS" "[I" ∈ tables_1_6)
theorem si_7 : Cond.initialized "BunchTimesModel" ∈ lw_tbl := tb_1 (List.mem_of_getElem? (i := 8) (by decide +kernel) : Cond.initialized "BunchTimesModel" ∈ tables_1_1)
set_option maxRecDepth 20000 in
theorem sa_8 : ∀ w ∈ SA "BunchTimesModel" "FOR_OTHERS" [10, 8, 6, 4, 2], w ∈ NF := pq_in (List.range' 96 7) (by decide +kernel)
theorem sl_8 : Cond.laysStatic "BunchTimesModel" "FOR_OTHERS" "[I" ∈ lw_tbl := tb_6 (List.mem_of_getElem? (i := 59) (by decide +kernel) : Cond.laysStatic "BunchTimesModel" "FOR_OTHERS" "[I" ∈ tables_1_6)
theorem si_8 : Cond.initialized "BunchTimesModel" ∈ lw_tbl := tb_1 (List.mem_of_getElem? (i := 8) (by decide +kernel) : Cond.initialized "BunchTimesModel" ∈ tables_1_1)
set_option maxRecDepth 20000 in
theorem sa_9 : ∀ w ∈ SA "BunchTimesModel" "FOR_SPRINT" [10, 7, 4, 2], w ∈ NF := pq_in (List.range' 104 6) (by decide +kernel)
theorem sl_9 : Cond.laysStatic "BunchTimesModel" "FOR_SPRINT" "[I" ∈ lw_tbl := tb_6 (List.mem_of_getElem? (i := 61) (by decide +kernel) : Cond.laysStatic "BunchTimesModel" "FOR_SPRINT" "[I" ∈ tables_1_6)
theorem si_9 : Cond.initialized "BunchTimesModel" ∈ lw_tbl := tb_1 (List.mem_of_getElem? (i := 8) (by decide +kernel) : Cond.initialized "BunchTimesModel" ∈ tables_1_1)
set_option maxRecDepth 20000 in
theorem sa_10 : ∀ w ∈ SA "BunchTimesModel" "FIRST" [10, 8, 6, 4], w ∈ NF := pq_in (List.range' 111 6) (by decide +kernel)
theorem sl_10 : Cond.laysStatic "BunchTimesModel" "FIRST" "[I" ∈ lw_tbl := tb_6 (List.mem_of_getElem? (i := 66) (by decide +kernel) : Cond.laysStatic "BunchTimesModel" "FIRST" "[I" ∈ tables_1_6)
theorem si_10 : Cond.initialized "BunchTimesModel" ∈ lw_tbl := tb_1 (List.mem_of_getElem? (i := 8) (by decide +kernel) : Cond.initialized "BunchTimesModel" ∈ tables_1_1)
set_option maxRecDepth 20000 in
theorem sa_11 : ∀ w ∈ SA "BunchTimesModel" "SECOND" [5, 3, 2, 1], w ∈ NF := pq_in (List.range' 118 6) (by decide +kernel)
theorem sl_11 : Cond.laysStatic "BunchTimesModel" "SECOND" "[I" ∈ lw_tbl := tb_6 (List.mem_of_getElem? (i := 68) (by decide +kernel) : Cond.laysStatic "BunchTimesModel" "SECOND" "[I" ∈ tables_1_6)
theorem si_11 : Cond.initialized "BunchTimesModel" ∈ lw_tbl := tb_1 (List.mem_of_getElem? (i := 8) (by decide +kernel) : Cond.initialized "BunchTimesModel" ∈ tables_1_1)
abbrev st_ok (q : String × String × List Int32) : Prop := q.2.2.length < 2 ^ 31 ∧ (∀ w ∈ SA q.1 q.2.1 q.2.2, w ∈ NF) ∧ Cond.laysStatic q.1 q.2.1 "[I" ∈ lw_tbl ∧ Cond.initialized q.1 ∈ lw_tbl
theorem st_all : ∀ q ∈ z_stl, st_ok q := List.forall_mem_cons.mpr ⟨⟨by decide, sa_0, sl_0, si_0⟩, List.forall_mem_cons.mpr ⟨⟨by decide, sa_1, sl_1, si_1⟩, List.forall_mem_cons.mpr ⟨⟨by decide, sa_2, sl_2, si_2⟩, List.forall_mem_cons.mpr ⟨⟨by decide, sa_3, sl_3, si_3⟩, List.forall_mem_cons.mpr ⟨⟨by decide, sa_4, sl_4, si_4⟩, List.forall_mem_cons.mpr ⟨⟨by decide, sa_5, sl_5, si_5⟩, List.forall_mem_cons.mpr ⟨⟨by decide, sa_6, sl_6, si_6⟩, List.forall_mem_cons.mpr ⟨⟨by decide, sa_7, sl_7, si_7⟩, List.forall_mem_cons.mpr ⟨⟨by decide, sa_8, sl_8, si_8⟩, List.forall_mem_cons.mpr ⟨⟨by decide, sa_9, sl_9, si_9⟩, List.forall_mem_cons.mpr ⟨⟨by decide, sa_10, sl_10, si_10⟩, List.forall_mem_cons.mpr ⟨⟨by decide, sa_11, sl_11, si_11⟩, fun _ h => absurd h List.not_mem_nil⟩⟩⟩⟩⟩⟩⟩⟩⟩⟩⟩⟩
theorem st_fun {b : Nat} {s : State} {A : Nat → Prop} (hs : ∀ w ∈ NF, w.before #[Value.ref b] s = true) (hts : ∀ w ∈ lw_tbl, w.before #[Value.ref b] s = true) (hA : ∀ a : Nat, a < s.heap.size → ¬ A a) : ∃ f : Nat → Nat, ∀ (i : Nat) (q : String × String × List Int32), z_stl[i]? = some q → va_Z q.1 q.2.1 "[I" (.ref (f i)) A s s.heap ∧ va_T .int (f i) q.2.2.length (fun j => .int (q.2.2.getD j 0)) A s s.heap := by
  have h0 : ∀ i : Nat, ∃ t : Nat, ∀ q : String × String × List Int32, z_stl[i]? = some q → va_Z q.1 q.2.1 "[I" (.ref t) A s s.heap ∧ va_T .int t q.2.2.length (fun j => .int (q.2.2.getD j 0)) A s s.heap := by
    intro i
    cases hi : z_stl[i]? with
    | none => exact ⟨0, fun q hq => by cases hq⟩
    | some q0 =>
      obtain ⟨k1, k2, k3, k4⟩ := st_all q0 (List.mem_of_getElem? hi)
      obtain ⟨t, ht⟩ := st_arr (A := A) hs hts q0.1 q0.2.1 q0.2.2 k1 k2 k3 k4 hA
      exact ⟨t, fun q hq => by cases hq; exact ht⟩
  obtain ⟨f, hf⟩ := Classical.axiomOfChoice h0
  exact ⟨f, hf⟩
def tmq (i : Nat) : Term := .string "BunchTimes$Teller" (z_txt.getD i (0, "", [])).1
def SW (i : Nat) : List Cond := Cond.exactly (tmq i) "java/lang/String" :: Cond.eq (.field (tmq i) "java/lang/String" "coder" "B") (.int 0) :: Cond.arrayOf (.field (tmq i) "java/lang/String" "value" "[B") .byte :: Cond.eq (.length (.field (tmq i) "java/lang/String" "value" "[B")) (.int (Int32.ofNat (z_len.getD i 0))) :: ((List.range (z_len.getD i 0)).map (fun j => Cond.eq (.elem (.field (tmq i) "java/lang/String" "value" "[B") (.int (Int32.ofNat j))) (.int ((z_byt.getD i []).getD j 0))) ++ (List.range i).map (fun j => Cond.not (Cond.eq (tmq j) (tmq i))))
set_option maxRecDepth 20000 in
theorem tx_0 : ∀ w ∈ SW 0, w ∈ NF := pq_in (List.range' 152 8) (by decide +kernel)
theorem ty_0 : Cond.stringRef "BunchTimes$Teller" 9 "team" ∈ lw_tbl := tb_2 (List.mem_of_getElem? (i := 105) (by decide +kernel) : Cond.stringRef "BunchTimes$Teller" 9 "team" ∈ tables_1_2)
set_option maxRecDepth 20000 in
theorem tx_1 : ∀ w ∈ SW 1, w ∈ NF := pq_in (List.range' 160 10) (by decide +kernel)
theorem ty_1 : Cond.stringRef "BunchTimes$Teller" 23 "rider" ∈ lw_tbl := tb_2 (List.mem_of_getElem? (i := 162) (by decide +kernel) : Cond.stringRef "BunchTimes$Teller" 23 "rider" ∈ tables_1_2)
set_option maxRecDepth 20000 in
theorem tx_2 : ∀ w ∈ SW 2, w ∈ NF := pq_in (List.range' 170 11) (by decide +kernel)
theorem ty_2 : Cond.stringRef "BunchTimes$Teller" 31 "stage" ∈ lw_tbl := tb_2 (List.mem_of_getElem? (i := 184) (by decide +kernel) : Cond.stringRef "BunchTimes$Teller" 31 "stage" ∈ tables_1_2)
set_option maxRecDepth 20000 in
theorem tx_3 : ∀ w ∈ SW 3, w ∈ NF := pq_in (List.range' 181 11) (by decide +kernel)
theorem ty_3 : Cond.stringRef "BunchTimes$Teller" 115 "flat" ∈ lw_tbl := tb_2 (List.mem_of_getElem? (i := 191) (by decide +kernel) : Cond.stringRef "BunchTimes$Teller" 115 "flat" ∈ tables_1_2)
set_option maxRecDepth 20000 in
theorem tx_4 : ∀ w ∈ SW 4, w ∈ NF := pq_in (List.range' 192 13) (by decide +kernel)
theorem ty_4 : Cond.stringRef "BunchTimes$Teller" 117 "hills" ∈ lw_tbl := tb_2 (List.mem_of_getElem? (i := 192) (by decide +kernel) : Cond.stringRef "BunchTimes$Teller" 117 "hills" ∈ tables_1_2)
set_option maxRecDepth 20000 in
theorem tx_5 : ∀ w ∈ SW 5, w ∈ NF := pq_in (List.range' 205 14) (by decide +kernel)
theorem ty_5 : Cond.stringRef "BunchTimes$Teller" 119 "peaks" ∈ lw_tbl := tb_2 (List.mem_of_getElem? (i := 193) (by decide +kernel) : Cond.stringRef "BunchTimes$Teller" 119 "peaks" ∈ tables_1_2)
set_option maxRecDepth 20000 in
theorem tx_6 : ∀ w ∈ SW 6, w ∈ NF := pq_in (List.range' 219 15) (by decide +kernel)
theorem ty_6 : Cond.stringRef "BunchTimes$Teller" 121 "trial" ∈ lw_tbl := tb_2 (List.mem_of_getElem? (i := 194) (by decide +kernel) : Cond.stringRef "BunchTimes$Teller" 121 "trial" ∈ tables_1_2)
set_option maxRecDepth 20000 in
theorem tx_7 : ∀ w ∈ SW 7, w ∈ NF := pq_in (List.range' 234 13) (by decide +kernel)
theorem ty_7 : Cond.stringRef "BunchTimes$Teller" 107 "at" ∈ lw_tbl := tb_2 (List.mem_of_getElem? (i := 220) (by decide +kernel) : Cond.stringRef "BunchTimes$Teller" 107 "at" ∈ tables_1_2)
set_option maxRecDepth 20000 in
theorem tx_8 : ∀ w ∈ SW 8, w ∈ NF := pq_in (List.range' 247 18) (by decide +kernel)
theorem ty_8 : Cond.stringRef "BunchTimes$Teller" 123 "sprint" ∈ lw_tbl := tb_2 (List.mem_of_getElem? (i := 224) (by decide +kernel) : Cond.stringRef "BunchTimes$Teller" 123 "sprint" ∈ tables_1_2)
set_option maxRecDepth 20000 in
theorem tx_9 : ∀ w ∈ SW 9, w ∈ NF := pq_in (List.range' 265 18) (by decide +kernel)
theorem ty_9 : Cond.stringRef "BunchTimes$Teller" 125 "climb" ∈ lw_tbl := tb_2 (List.mem_of_getElem? (i := 225) (by decide +kernel) : Cond.stringRef "BunchTimes$Teller" 125 "climb" ∈ tables_1_2)
set_option maxRecDepth 20000 in
theorem tx_10 : ∀ w ∈ SW 10, w ∈ NF := pq_in (List.range' 283 18) (by decide +kernel)
theorem ty_10 : Cond.stringRef "BunchTimes$Teller" 36 "come" ∈ lw_tbl := tb_2 (List.mem_of_getElem? (i := 235) (by decide +kernel) : Cond.stringRef "BunchTimes$Teller" 36 "come" ∈ tables_1_2)
set_option maxRecDepth 20000 in
theorem tx_11 : ∀ w ∈ SW 11, w ∈ NF := pq_in (List.range' 301 19) (by decide +kernel)
theorem ty_11 : Cond.stringRef "BunchTimes$Teller" 41 "over" ∈ lw_tbl := tb_3 (List.mem_of_getElem? (i := 25) (by decide +kernel) : Cond.stringRef "BunchTimes$Teller" 41 "over" ∈ tables_1_3)
set_option maxRecDepth 20000 in
theorem tx_12 : ∀ w ∈ SW 12, w ∈ NF := pq_in (List.range' 320 20) (by decide +kernel)
theorem ty_12 : Cond.stringRef "BunchTimes$Teller" 46 "fall" ∈ lw_tbl := tb_3 (List.mem_of_getElem? (i := 45) (by decide +kernel) : Cond.stringRef "BunchTimes$Teller" 46 "fall" ∈ tables_1_3)
set_option maxRecDepth 20000 in
theorem tx_13 : ∀ w ∈ SW 13, w ∈ NF := pq_in (List.range' 340 21) (by decide +kernel)
theorem ty_13 : Cond.stringRef "BunchTimes$Teller" 145 "with" ∈ lw_tbl := tb_3 (List.mem_of_getElem? (i := 53) (by decide +kernel) : Cond.stringRef "BunchTimes$Teller" 145 "with" ∈ tables_1_3)
set_option maxRecDepth 20000 in
theorem tx_14 : ∀ w ∈ SW 14, w ∈ NF := pq_in (List.range' 361 22) (by decide +kernel)
theorem ty_14 : Cond.stringRef "BunchTimes$Teller" 51 "jury" ∈ lw_tbl := tb_3 (List.mem_of_getElem? (i := 62) (by decide +kernel) : Cond.stringRef "BunchTimes$Teller" 51 "jury" ∈ tables_1_3)
set_option maxRecDepth 20000 in
theorem tx_15 : ∀ w ∈ SW 15, w ∈ NF := pq_in (List.range' 383 24) (by decide +kernel)
theorem ty_15 : Cond.stringRef "BunchTimes$Teller" 56 "grace" ∈ lw_tbl := tb_3 (List.mem_of_getElem? (i := 75) (by decide +kernel) : Cond.stringRef "BunchTimes$Teller" 56 "grace" ∈ tables_1_3)
set_option maxRecDepth 20000 in
theorem tx_16 : ∀ w ∈ SW 16, w ∈ NF := pq_in (List.range' 407 24) (by decide +kernel)
theorem ty_16 : Cond.stringRef "BunchTimes$Teller" 66 "quit" ∈ lw_tbl := tb_3 (List.mem_of_getElem? (i := 84) (by decide +kernel) : Cond.stringRef "BunchTimes$Teller" 66 "quit" ∈ tables_1_3)
set_option maxRecDepth 20000 in
theorem tx_17 : ∀ w ∈ SW 17, w ∈ NF := pq_in (List.range' 431 24) (by decide +kernel)
theorem ty_17 : Cond.stringRef "BunchTimes$Teller" 71 "gap" ∈ lw_tbl := tb_3 (List.mem_of_getElem? (i := 90) (by decide +kernel) : Cond.stringRef "BunchTimes$Teller" 71 "gap" ∈ tables_1_3)
set_option maxRecDepth 20000 in
theorem tx_18 : ∀ w ∈ SW 18, w ∈ NF := pq_in (List.range' 455 26) (by decide +kernel)
theorem ty_18 : Cond.stringRef "BunchTimes$Teller" 80 "zone" ∈ lw_tbl := tb_3 (List.mem_of_getElem? (i := 95) (by decide +kernel) : Cond.stringRef "BunchTimes$Teller" 80 "zone" ∈ tables_1_3)
set_option maxRecDepth 20000 in
theorem tx_19 : ∀ w ∈ SW 19, w ∈ NF := pq_in (List.range' 481 28) (by decide +kernel)
theorem ty_19 : Cond.stringRef "BunchTimes$Teller" 85 "close" ∈ lw_tbl := tb_3 (List.mem_of_getElem? (i := 100) (by decide +kernel) : Cond.stringRef "BunchTimes$Teller" 85 "close" ∈ tables_1_3)
theorem tx_all (i : Nat) (hi : i < 20) : ∀ w ∈ SW i, w ∈ NF := by
  rcases (show i = 0 ∨ i = 1 ∨ i = 2 ∨ i = 3 ∨ i = 4 ∨ i = 5 ∨ i = 6 ∨ i = 7 ∨ i = 8 ∨ i = 9 ∨ i = 10 ∨ i = 11 ∨ i = 12 ∨ i = 13 ∨ i = 14 ∨ i = 15 ∨ i = 16 ∨ i = 17 ∨ i = 18 ∨ i = 19 by omega) with rfl | rfl | rfl | rfl | rfl | rfl | rfl | rfl | rfl | rfl | rfl | rfl | rfl | rfl | rfl | rfl | rfl | rfl | rfl | rfl
  · exact tx_0
  · exact tx_1
  · exact tx_2
  · exact tx_3
  · exact tx_4
  · exact tx_5
  · exact tx_6
  · exact tx_7
  · exact tx_8
  · exact tx_9
  · exact tx_10
  · exact tx_11
  · exact tx_12
  · exact tx_13
  · exact tx_14
  · exact tx_15
  · exact tx_16
  · exact tx_17
  · exact tx_18
  · exact tx_19
theorem ty_all : ∀ q ∈ z_txt, Cond.stringRef "BunchTimes$Teller" q.1 q.2.1 ∈ lw_tbl := List.forall_mem_cons.mpr ⟨ty_0, List.forall_mem_cons.mpr ⟨ty_1, List.forall_mem_cons.mpr ⟨ty_2, List.forall_mem_cons.mpr ⟨ty_3, List.forall_mem_cons.mpr ⟨ty_4, List.forall_mem_cons.mpr ⟨ty_5, List.forall_mem_cons.mpr ⟨ty_6, List.forall_mem_cons.mpr ⟨ty_7, List.forall_mem_cons.mpr ⟨ty_8, List.forall_mem_cons.mpr ⟨ty_9, List.forall_mem_cons.mpr ⟨ty_10, List.forall_mem_cons.mpr ⟨ty_11, List.forall_mem_cons.mpr ⟨ty_12, List.forall_mem_cons.mpr ⟨ty_13, List.forall_mem_cons.mpr ⟨ty_14, List.forall_mem_cons.mpr ⟨ty_15, List.forall_mem_cons.mpr ⟨ty_16, List.forall_mem_cons.mpr ⟨ty_17, List.forall_mem_cons.mpr ⟨ty_18, List.forall_mem_cons.mpr ⟨ty_19, fun _ h => absurd h List.not_mem_nil⟩⟩⟩⟩⟩⟩⟩⟩⟩⟩⟩⟩⟩⟩⟩⟩⟩⟩⟩⟩
theorem tl_all : ∀ i : Nat, i < 20 → z_len.getD i 0 < 2 ^ 31 := by decide +kernel
theorem tx_fun {b : Nat} {s : State} {A : Nat → Prop} (hs : ∀ w ∈ NF, w.before #[Value.ref b] s = true) (hts : ∀ w ∈ lw_tbl, w.before #[Value.ref b] s = true) (hA : ∀ a : Nat, a < s.heap.size → ¬ A a) : ∃ adK adV : Nat → Nat, vk_S 20 z_len z_byt adK adV A s s.heap ∧ ∀ (i : Nat) (q : Nat × String × List Int32), z_txt[i]? = some q → vk_R "BunchTimes$Teller" q.1 q.2.1 (adK i) s := by
  have hw : ∀ i : Nat, i < 20 → ∀ w ∈ SW i, w.before #[Value.ref b] s = true := fun i hi w h => hs w (tx_all i hi w h)
  obtain ⟨adK, adV, h1, h2⟩ := vk_Sof (args := #[Value.ref b]) (N := 20) (tm := tmq) (len := z_len) (byt := z_byt) (A := A) tl_all (fun i hi => hw i hi _ List.mem_cons_self) (fun i hi => hw i hi _ (List.mem_cons_of_mem _ List.mem_cons_self)) (fun i hi => hw i hi _ (List.mem_cons_of_mem _ (List.mem_cons_of_mem _ List.mem_cons_self))) (fun i hi => hw i hi _ (List.mem_cons_of_mem _ (List.mem_cons_of_mem _ (List.mem_cons_of_mem _ List.mem_cons_self)))) (fun i hi j hj => hw i hi _ (List.mem_cons_of_mem _ (List.mem_cons_of_mem _ (List.mem_cons_of_mem _ (List.mem_cons_of_mem _ (List.mem_append_left _ (List.mem_map.mpr ⟨j, List.mem_range.mpr hj, rfl⟩))))))) (fun i j hi hj hij => by
    rcases Nat.lt_or_gt_of_ne hij with h | h
    · exact Or.inl (hw j hj _ (List.mem_cons_of_mem _ (List.mem_cons_of_mem _ (List.mem_cons_of_mem _ (List.mem_cons_of_mem _ (List.mem_append_right _ (List.mem_map.mpr ⟨i, List.mem_range.mpr h, rfl⟩)))))))
    · exact Or.inr (hw i hi _ (List.mem_cons_of_mem _ (List.mem_cons_of_mem _ (List.mem_cons_of_mem _ (List.mem_cons_of_mem _ (List.mem_append_right _ (List.mem_map.mpr ⟨j, List.mem_range.mpr h, rfl⟩)))))))) hA
  refine ⟨adK, adV, h1, fun i q hq => ?_⟩
  have hi : i < 20 := (List.getElem?_eq_some_iff.mp hq).1
  have e : tmq i = .string "BunchTimes$Teller" q.1 := by
    unfold tmq
    rw [List.getD_eq_getElem?_getD, hq]
    rfl
  have h3 := h2 i hi
  rw [e] at h3
  exact vk_R.of (hts _ (ty_all q (List.mem_of_getElem? hq))) h3
set_option maxRecDepth 20000 in
theorem nfw_0 : ∀ w ∈ ((z_nf.drop 0).take 20).map (fun q => Cond.fieldLinkNest q.1 q.2.1 q.2.2.1 q.2.2.2.1 q.2.2.2.2 "BunchTimes"), w ∈ lw_tbl := fun w h => tb_1 (pq_in (T := tables_1_1) [49, 50, 52, 53, 55, 56, 59, 61, 63, 88, 90, 92, 101, 102, 104, 106, 107, 113, 114, 115] (by decide +kernel) w h)
set_option maxRecDepth 20000 in
theorem nfw_20 : ∀ w ∈ ((z_nf.drop 20).take 17).map (fun q => Cond.fieldLinkNest q.1 q.2.1 q.2.2.1 q.2.2.2.1 q.2.2.2.2 "BunchTimes"), w ∈ lw_tbl := fun w h => tb_1 (pq_in (T := tables_1_1) [117, 118, 124, 173, 174, 175, 177, 178, 179, 181, 184, 186, 188, 190, 191, 193, 194] (by decide +kernel) w h)
set_option maxRecDepth 20000 in
theorem nfw_37 : ∀ w ∈ ((z_nf.drop 37).take 3).map (fun q => Cond.fieldLinkNest q.1 q.2.1 q.2.2.1 q.2.2.2.1 q.2.2.2.2 "BunchTimes"), w ∈ lw_tbl := fun w h => tb_2 (pq_in (T := tables_1_2) [7, 10, 14] (by decide +kernel) w h)
set_option maxRecDepth 20000 in
theorem nmw_0 : ∀ w ∈ ((z_nm.drop 0).take 5).map (fun q => Cond.methodLinkNest q.1 q.2.1 q.2.2 "BunchTimes"), w ∈ lw_tbl := fun w h => tb_1 (pq_in (T := tables_1_1) [31, 38, 44, 83, 220] (by decide +kernel) w h)
set_option maxRecDepth 20000 in
theorem nmw_5 : ∀ w ∈ ((z_nm.drop 5).take 20).map (fun q => Cond.methodLinkNest q.1 q.2.1 q.2.2 "BunchTimes"), w ∈ lw_tbl := fun w h => tb_2 (pq_in (T := tables_1_2) [2, 49, 64, 71, 75, 80, 86, 98, 102, 106, 158, 166, 174, 175, 179, 195, 196, 204, 208, 216] (by decide +kernel) w h)
set_option maxRecDepth 20000 in
theorem nmw_25 : ∀ w ∈ ((z_nm.drop 25).take 4).map (fun q => Cond.methodLinkNest q.1 q.2.1 q.2.2 "BunchTimes"), w ∈ lw_tbl := fun w h => tb_2 (pq_in (T := tables_1_2) [226, 230, 234, 239] (by decide +kernel) w h)
set_option maxRecDepth 20000 in
theorem nmw_29 : ∀ w ∈ ((z_nm.drop 29).take 20).map (fun q => Cond.methodLinkNest q.1 q.2.1 q.2.2 "BunchTimes"), w ∈ lw_tbl := fun w h => tb_3 (pq_in (T := tables_1_3) [7, 19, 24, 29, 33, 37, 49, 54, 58, 66, 70, 76, 80, 85, 89, 91, 96, 101, 105, 109] (by decide +kernel) w h)
set_option maxRecDepth 20000 in
theorem nmw_49 : ∀ w ∈ ((z_nm.drop 49).take 16).map (fun q => Cond.methodLinkNest q.1 q.2.1 q.2.2 "BunchTimes"), w ∈ lw_tbl := fun w h => tb_3 (pq_in (T := tables_1_3) [121, 141, 150, 158, 176, 180, 192, 197, 202, 207, 212, 217, 222, 227, 232, 237] (by decide +kernel) w h)
set_option maxRecDepth 20000 in
theorem nmw_65 : ∀ w ∈ ((z_nm.drop 65).take 20).map (fun q => Cond.methodLinkNest q.1 q.2.1 q.2.2 "BunchTimes"), w ∈ lw_tbl := fun w h => tb_4 (pq_in (T := tables_1_4) [2, 3, 8, 21, 22, 26, 27, 32, 37, 57, 58, 66, 74, 82, 90, 94, 99, 103, 107, 111] (by decide +kernel) w h)
set_option maxRecDepth 20000 in
theorem nmw_85 : ∀ w ∈ ((z_nm.drop 85).take 18).map (fun q => Cond.methodLinkNest q.1 q.2.1 q.2.2 "BunchTimes"), w ∈ lw_tbl := fun w h => tb_4 (pq_in (T := tables_1_4) [127, 131, 139, 143, 147, 151, 155, 160, 161, 163, 164, 169, 182, 183, 196, 199, 200, 214] (by decide +kernel) w h)
set_option maxRecDepth 20000 in
theorem nmw_103 : ∀ w ∈ ((z_nm.drop 103).take 1).map (fun q => Cond.methodLinkNest q.1 q.2.1 q.2.2 "BunchTimes"), w ∈ lw_tbl := fun w h => tb_5 (pq_in (T := tables_1_5) [51] (by decide +kernel) w h)
theorem nest_at {α : Type} {zl : List α} {fn : α → Cond} {a n i : Nat} {q : α} (h : ∀ w ∈ ((zl.drop a).take n).map fn, w ∈ lw_tbl) (hi : zl[i]? = some q) (h1 : a ≤ i) (h2 : i < a + n) : fn q ∈ lw_tbl := by
  refine h _ (List.mem_map.mpr ⟨q, List.mem_of_getElem? (i := i - a) ?_, rfl⟩)
  rw [List.getElem?_take_of_lt (by omega), List.getElem?_drop, show a + (i - a) = i by omega]
  exact hi
theorem nfw_all (i : Nat) (q : String × Nat × String × String × String) (hi : z_nf[i]? = some q) : (fun q => Cond.fieldLinkNest q.1 q.2.1 q.2.2.1 q.2.2.2.1 q.2.2.2.2 "BunchTimes") q ∈ lw_tbl := by
  have hN : i < 40 := (List.getElem?_eq_some_iff.mp hi).1
  by_cases h0 : i < 20
  · exact nest_at (fn := (fun q => Cond.fieldLinkNest q.1 q.2.1 q.2.2.1 q.2.2.2.1 q.2.2.2.2 "BunchTimes")) nfw_0 hi (by omega) (by omega)
  by_cases h20 : i < 37
  · exact nest_at (fn := (fun q => Cond.fieldLinkNest q.1 q.2.1 q.2.2.1 q.2.2.2.1 q.2.2.2.2 "BunchTimes")) nfw_20 hi (by omega) (by omega)
  exact nest_at (fn := (fun q => Cond.fieldLinkNest q.1 q.2.1 q.2.2.1 q.2.2.2.1 q.2.2.2.2 "BunchTimes")) nfw_37 hi (by omega) (by omega)
theorem nmw_all (i : Nat) (q : String × Nat × MethodName) (hi : z_nm[i]? = some q) : (fun q => Cond.methodLinkNest q.1 q.2.1 q.2.2 "BunchTimes") q ∈ lw_tbl := by
  have hN : i < 104 := (List.getElem?_eq_some_iff.mp hi).1
  by_cases h0 : i < 5
  · exact nest_at (fn := (fun q => Cond.methodLinkNest q.1 q.2.1 q.2.2 "BunchTimes")) nmw_0 hi (by omega) (by omega)
  by_cases h5 : i < 25
  · exact nest_at (fn := (fun q => Cond.methodLinkNest q.1 q.2.1 q.2.2 "BunchTimes")) nmw_5 hi (by omega) (by omega)
  by_cases h25 : i < 29
  · exact nest_at (fn := (fun q => Cond.methodLinkNest q.1 q.2.1 q.2.2 "BunchTimes")) nmw_25 hi (by omega) (by omega)
  by_cases h29 : i < 49
  · exact nest_at (fn := (fun q => Cond.methodLinkNest q.1 q.2.1 q.2.2 "BunchTimes")) nmw_29 hi (by omega) (by omega)
  by_cases h49 : i < 65
  · exact nest_at (fn := (fun q => Cond.methodLinkNest q.1 q.2.1 q.2.2 "BunchTimes")) nmw_49 hi (by omega) (by omega)
  by_cases h65 : i < 85
  · exact nest_at (fn := (fun q => Cond.methodLinkNest q.1 q.2.1 q.2.2 "BunchTimes")) nmw_65 hi (by omega) (by omega)
  by_cases h85 : i < 103
  · exact nest_at (fn := (fun q => Cond.methodLinkNest q.1 q.2.1 q.2.2 "BunchTimes")) nmw_85 hi (by omega) (by omega)
  exact nest_at (fn := (fun q => Cond.methodLinkNest q.1 q.2.1 q.2.2 "BunchTimes")) nmw_103 hi (by omega) (by omega)
theorem sw_cs : Cond.laysStatic "java/lang/String" "COMPACT_STRINGS" "Z" ∈ lw_tbl := tb_2 (List.mem_of_getElem? (i := 119) (by decide +kernel) : Cond.laysStatic "java/lang/String" "COMPACT_STRINGS" "Z" ∈ tables_1_2)
theorem sw_csi : Cond.initialized "java/lang/String" ∈ lw_tbl := tb_1 (List.mem_of_getElem? (i := 11) (by decide +kernel) : Cond.initialized "java/lang/String" ∈ tables_1_1)
theorem sw_si : Cond.laysStatic "jdk/internal/util/Preconditions" "SIOOBE_FORMATTER" "Ljava/util/function/BiFunction;" ∈ lw_tbl := tb_2 (List.mem_of_getElem? (i := 135) (by decide +kernel) : Cond.laysStatic "jdk/internal/util/Preconditions" "SIOOBE_FORMATTER" "Ljava/util/function/BiFunction;" ∈ tables_1_2)
theorem sw_sii : Cond.initialized "jdk/internal/util/Preconditions" ∈ lw_tbl := tb_1 (List.mem_of_getElem? (i := 13) (by decide +kernel) : Cond.initialized "jdk/internal/util/Preconditions" ∈ tables_1_1)
theorem sw_us : Cond.laysStatic "java/lang/Throwable" "UNASSIGNED_STACK" "[Ljava/lang/StackTraceElement;" ∈ lw_tbl := tb_5 (List.mem_of_getElem? (i := 17) (by decide +kernel) : Cond.laysStatic "java/lang/Throwable" "UNASSIGNED_STACK" "[Ljava/lang/StackTraceElement;" ∈ tables_1_5)
theorem sw_ss : Cond.laysStatic "java/lang/Throwable" "SUPPRESSED_SENTINEL" "Ljava/util/List;" ∈ lw_tbl := tb_5 (List.mem_of_getElem? (i := 19) (by decide +kernel) : Cond.laysStatic "java/lang/Throwable" "SUPPRESSED_SENTINEL" "Ljava/util/List;" ∈ tables_1_5)
theorem sw_ti : Cond.initialized "java/lang/Throwable" ∈ lw_tbl := tb_1 (List.mem_of_getElem? (i := 16) (by decide +kernel) : Cond.initialized "java/lang/Throwable" ∈ tables_1_1)
theorem sw_a3 : Cond.arrayOver (.object "BunchTimes$Race") ∈ lw_tbl := tb_1 (List.mem_of_getElem? (i := 217) (by decide +kernel) : Cond.arrayOver (.object "BunchTimes$Race") ∈ tables_1_1)
theorem sw_a4 : Cond.arrayOver (.object "BunchTimes$Stage") ∈ lw_tbl := tb_1 (List.mem_of_getElem? (i := 36) (by decide +kernel) : Cond.arrayOver (.object "BunchTimes$Stage") ∈ tables_1_1)
theorem sw_ai : Cond.arrayClass .int ∈ lw_tbl := tb_1 (List.mem_of_getElem? (i := 79) (by decide +kernel) : Cond.arrayClass .int ∈ tables_1_1)
theorem sw_az : Cond.arrayClass .boolean ∈ lw_tbl := tb_1 (List.mem_of_getElem? (i := 80) (by decide +kernel) : Cond.arrayClass .boolean ∈ tables_1_1)
theorem sw_ab : Cond.arrayClass .byte ∈ lw_tbl := tb_2 (List.mem_of_getElem? (i := 28) (by decide +kernel) : Cond.arrayClass .byte ∈ tables_1_2)
theorem sw_al : Cond.arrayClass .long ∈ lw_tbl := tb_7 (List.mem_of_getElem? (i := 93) (by decide +kernel) : Cond.arrayClass .long ∈ tables_1_7)
theorem nw_cs : Cond.eq (.static "java/lang/String" "COMPACT_STRINGS" "Z") (.int 1) ∈ NF := List.mem_of_getElem? (i := 4) (by decide +kernel)
theorem nw_si : Cond.isRef (.static "jdk/internal/util/Preconditions" "SIOOBE_FORMATTER" "Ljava/util/function/BiFunction;") ∈ NF := List.mem_of_getElem? (i := 5) (by decide +kernel)
theorem nw_us : Cond.isRef (.static "java/lang/Throwable" "UNASSIGNED_STACK" "[Ljava/lang/StackTraceElement;") ∈ NF := List.mem_of_getElem? (i := 77) (by decide +kernel)
theorem nw_ss : Cond.isRef (.static "java/lang/Throwable" "SUPPRESSED_SENTINEL" "Ljava/util/List;") ∈ NF := List.mem_of_getElem? (i := 78) (by decide +kernel)
theorem of_B_in : ∀ w ∈ of_B, w ∈ tables_1_4 := by decide +kernel
theorem iw_X1 : Cond.instantiable "BunchTimes$Course" 7 ∈ lw_tbl := tb_1 (List.mem_of_getElem? (i := 43) (by decide +kernel) : Cond.instantiable "BunchTimes$Course" 7 ∈ tables_1_1)
theorem iw_X2 : Cond.instantiable "BunchTimes$Prizes" 3 ∈ lw_tbl := tb_1 (List.mem_of_getElem? (i := 82) (by decide +kernel) : Cond.instantiable "BunchTimes$Prizes" 3 ∈ tables_1_1)
theorem iw_X3 : Cond.instantiable "BunchTimes$Race" 10 ∈ lw_tbl := tb_1 (List.mem_of_getElem? (i := 30) (by decide +kernel) : Cond.instantiable "BunchTimes$Race" 10 ∈ tables_1_1)
theorem iw_X4 : Cond.instantiable "BunchTimes$Stage" 20 ∈ lw_tbl := tb_1 (List.mem_of_getElem? (i := 37) (by decide +kernel) : Cond.instantiable "BunchTimes$Stage" 20 ∈ tables_1_1)
theorem iw_X5 : Cond.instantiable "BunchTimes$Standings" 5 ∈ lw_tbl := tb_1 (List.mem_of_getElem? (i := 219) (by decide +kernel) : Cond.instantiable "BunchTimes$Standings" 5 ∈ tables_1_1)
theorem iw_X6 : Cond.instantiable "BunchTimes$Tape" 6 ∈ lw_tbl := tb_2 (List.mem_of_getElem? (i := 1) (by decide +kernel) : Cond.instantiable "BunchTimes$Tape" 6 ∈ tables_1_2)
theorem iw_X8 : Cond.instantiable "BunchTimes" 5 ∈ lw_tbl := tb_1 (List.mem_of_getElem? (i := 22) (by decide +kernel) : Cond.instantiable "BunchTimes" 5 ∈ tables_1_1)
theorem iw_X9 : Cond.instantiable "BunchTimesModel" 18 ∈ lw_tbl := tb_5 (List.mem_of_getElem? (i := 53) (by decide +kernel) : Cond.instantiable "BunchTimesModel" 18 ∈ tables_1_5)
