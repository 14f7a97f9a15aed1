section
-- ===== PART A: goes FIRST, ahead of the names: the tables' words, and 'selects' of the private methods out of them =====
/-- a private method of a class that the tables say can be made, by its rows of tables_1 -/
def lw_okq (q : MethodName × Nat) : Prop := (q.1.cls ≠ "java/lang/invoke/MethodHandle" ∧ q.1.cls ≠ "java/lang/invoke/VarHandle") ∧ Cond.instantiable q.1.cls q.2 ∈ tables_1 ∧ Cond.privateMethod q.1 ∈ tables_1 ∧ Cond.instanceMethod q.1 ∈ tables_1
theorem lw_p0 : lw_okq (⟨"BunchTimes$Tape", "putFour", "(I)V"⟩, 6) := ⟨⟨by decide +kernel, by decide +kernel⟩, List.mem_of_getElem? (i := 241) (by decide +kernel), List.mem_of_getElem? (i := 290) (by decide +kernel), List.mem_of_getElem? (i := 291) (by decide +kernel)⟩
theorem lw_p1 : lw_okq (⟨"BunchTimes$Race", "copyFrom", "(LBunchTimes$Race;)V"⟩, 10) := ⟨⟨by decide +kernel, by decide +kernel⟩, List.mem_of_getElem? (i := 30) (by decide +kernel), List.mem_of_getElem? (i := 305) (by decide +kernel), List.mem_of_getElem? (i := 306) (by decide +kernel)⟩
theorem lw_p2 : lw_okq (⟨"BunchTimes$Stage", "copyFrom", "(LBunchTimes$Stage;)V"⟩, 20) := ⟨⟨by decide +kernel, by decide +kernel⟩, List.mem_of_getElem? (i := 37) (by decide +kernel), List.mem_of_getElem? (i := 312) (by decide +kernel), List.mem_of_getElem? (i := 313) (by decide +kernel)⟩
theorem lw_p3 : lw_okq (⟨"BunchTimes$Course", "copyFrom", "(LBunchTimes$Course;)V"⟩, 7) := ⟨⟨by decide +kernel, by decide +kernel⟩, List.mem_of_getElem? (i := 43) (by decide +kernel), List.mem_of_getElem? (i := 316) (by decide +kernel), List.mem_of_getElem? (i := 317) (by decide +kernel)⟩
theorem lw_p4 : lw_okq (⟨"BunchTimes$Prizes", "copyFrom", "(LBunchTimes$Prizes;)V"⟩, 3) := ⟨⟨by decide +kernel, by decide +kernel⟩, List.mem_of_getElem? (i := 82) (by decide +kernel), List.mem_of_getElem? (i := 321) (by decide +kernel), List.mem_of_getElem? (i := 322) (by decide +kernel)⟩
theorem lw_p5 : lw_okq (⟨"BunchTimes$Tape", "begin", "()V"⟩, 6) := ⟨⟨by decide +kernel, by decide +kernel⟩, List.mem_of_getElem? (i := 241) (by decide +kernel), List.mem_of_getElem? (i := 327) (by decide +kernel), List.mem_of_getElem? (i := 328) (by decide +kernel)⟩
theorem lw_p6 : lw_okq (⟨"BunchTimes$Tape", "advance", "()V"⟩, 6) := ⟨⟨by decide +kernel, by decide +kernel⟩, List.mem_of_getElem? (i := 241) (by decide +kernel), List.mem_of_getElem? (i := 331) (by decide +kernel), List.mem_of_getElem? (i := 332) (by decide +kernel)⟩
theorem lw_p7 : lw_okq (⟨"BunchTimes$Tape", "kindAt", "(I)I"⟩, 6) := ⟨⟨by decide +kernel, by decide +kernel⟩, List.mem_of_getElem? (i := 241) (by decide +kernel), List.mem_of_getElem? (i := 335) (by decide +kernel), List.mem_of_getElem? (i := 336) (by decide +kernel)⟩
theorem lw_p8 : lw_okq (⟨"BunchTimes$Tape", "hasMore", "()Z"⟩, 6) := ⟨⟨by decide +kernel, by decide +kernel⟩, List.mem_of_getElem? (i := 241) (by decide +kernel), List.mem_of_getElem? (i := 339) (by decide +kernel), List.mem_of_getElem? (i := 340) (by decide +kernel)⟩
theorem lw_p9 : lw_okq (⟨"BunchTimes$Tape", "takes", "(Ljava/lang/String;)Z"⟩, 6) := ⟨⟨by decide +kernel, by decide +kernel⟩, List.mem_of_getElem? (i := 241) (by decide +kernel), List.mem_of_getElem? (i := 347) (by decide +kernel), List.mem_of_getElem? (i := 348) (by decide +kernel)⟩
theorem lw_p10 : lw_okq (⟨"BunchTimes$Race", "addTeam", "()I"⟩, 10) := ⟨⟨by decide +kernel, by decide +kernel⟩, List.mem_of_getElem? (i := 30) (by decide +kernel), List.mem_of_getElem? (i := 399) (by decide +kernel), List.mem_of_getElem? (i := 400) (by decide +kernel)⟩
theorem lw_p11 : lw_okq (⟨"BunchTimes$Tape", "takeInt", "(II)I"⟩, 6) := ⟨⟨by decide +kernel, by decide +kernel⟩, List.mem_of_getElem? (i := 241) (by decide +kernel), List.mem_of_getElem? (i := 407) (by decide +kernel), List.mem_of_getElem? (i := 408) (by decide +kernel)⟩
theorem lw_p12 : lw_okq (⟨"BunchTimes$Tape", "cannotStand", "()I"⟩, 6) := ⟨⟨by decide +kernel, by decide +kernel⟩, List.mem_of_getElem? (i := 241) (by decide +kernel), List.mem_of_getElem? (i := 411) (by decide +kernel), List.mem_of_getElem? (i := 412) (by decide +kernel)⟩
theorem lw_p13 : lw_okq (⟨"BunchTimes$Race", "addRider", "(II)I"⟩, 10) := ⟨⟨by decide +kernel, by decide +kernel⟩, List.mem_of_getElem? (i := 30) (by decide +kernel), List.mem_of_getElem? (i := 416) (by decide +kernel), List.mem_of_getElem? (i := 417) (by decide +kernel)⟩
theorem lw_p14 : lw_okq (⟨"BunchTimes$Race", "latestFinishers", "()I"⟩, 10) := ⟨⟨by decide +kernel, by decide +kernel⟩, List.mem_of_getElem? (i := 30) (by decide +kernel), List.mem_of_getElem? (i := 421) (by decide +kernel), List.mem_of_getElem? (i := 422) (by decide +kernel)⟩
theorem lw_p15 : lw_okq (⟨"BunchTimes$Race", "openStage", "(II)I"⟩, 10) := ⟨⟨by decide +kernel, by decide +kernel⟩, List.mem_of_getElem? (i := 30) (by decide +kernel), List.mem_of_getElem? (i := 437) (by decide +kernel), List.mem_of_getElem? (i := 438) (by decide +kernel)⟩
def lw_privs_1 : List (MethodName × Nat) := [(⟨"BunchTimes$Tape", "putFour", "(I)V"⟩, 6), (⟨"BunchTimes$Race", "copyFrom", "(LBunchTimes$Race;)V"⟩, 10), (⟨"BunchTimes$Stage", "copyFrom", "(LBunchTimes$Stage;)V"⟩, 20), (⟨"BunchTimes$Course", "copyFrom", "(LBunchTimes$Course;)V"⟩, 7), (⟨"BunchTimes$Prizes", "copyFrom", "(LBunchTimes$Prizes;)V"⟩, 3), (⟨"BunchTimes$Tape", "begin", "()V"⟩, 6), (⟨"BunchTimes$Tape", "advance", "()V"⟩, 6), (⟨"BunchTimes$Tape", "kindAt", "(I)I"⟩, 6), (⟨"BunchTimes$Tape", "hasMore", "()Z"⟩, 6), (⟨"BunchTimes$Tape", "takes", "(Ljava/lang/String;)Z"⟩, 6), (⟨"BunchTimes$Race", "addTeam", "()I"⟩, 10), (⟨"BunchTimes$Tape", "takeInt", "(II)I"⟩, 6), (⟨"BunchTimes$Tape", "cannotStand", "()I"⟩, 6), (⟨"BunchTimes$Race", "addRider", "(II)I"⟩, 10), (⟨"BunchTimes$Race", "latestFinishers", "()I"⟩, 10), (⟨"BunchTimes$Race", "openStage", "(II)I"⟩, 10)]
theorem lw_r1 : ∀ q ∈ lw_privs_1, lw_okq q := List.forall_mem_cons.mpr ⟨lw_p0, List.forall_mem_cons.mpr ⟨lw_p1, List.forall_mem_cons.mpr ⟨lw_p2, List.forall_mem_cons.mpr ⟨lw_p3, List.forall_mem_cons.mpr ⟨lw_p4, List.forall_mem_cons.mpr ⟨lw_p5, List.forall_mem_cons.mpr ⟨lw_p6, List.forall_mem_cons.mpr ⟨lw_p7, List.forall_mem_cons.mpr ⟨lw_p8, List.forall_mem_cons.mpr ⟨lw_p9, List.forall_mem_cons.mpr ⟨lw_p10, List.forall_mem_cons.mpr ⟨lw_p11, List.forall_mem_cons.mpr ⟨lw_p12, List.forall_mem_cons.mpr ⟨lw_p13, List.forall_mem_cons.mpr ⟨lw_p14, List.forall_mem_cons.mpr ⟨lw_p15, fun _ h => absurd h List.not_mem_nil⟩⟩⟩⟩⟩⟩⟩⟩⟩⟩⟩⟩⟩⟩⟩⟩
theorem lw_p16 : lw_okq (⟨"BunchTimes$Race", "countIn", "()I"⟩, 10) := ⟨⟨by decide +kernel, by decide +kernel⟩, List.mem_of_getElem? (i := 30) (by decide +kernel), List.mem_of_getElem? (i := 441) (by decide +kernel), List.mem_of_getElem? (i := 442) (by decide +kernel)⟩
theorem lw_p17 : lw_okq (⟨"BunchTimes$Stage", "begin", "(II)V"⟩, 20) := ⟨⟨by decide +kernel, by decide +kernel⟩, List.mem_of_getElem? (i := 37) (by decide +kernel), List.mem_of_getElem? (i := 445) (by decide +kernel), List.mem_of_getElem? (i := 446) (by decide +kernel)⟩
theorem lw_p18 : lw_okq (⟨"BunchTimes$Course", "begin", "(II)V"⟩, 7) := ⟨⟨by decide +kernel, by decide +kernel⟩, List.mem_of_getElem? (i := 43) (by decide +kernel), List.mem_of_getElem? (i := 449) (by decide +kernel), List.mem_of_getElem? (i := 450) (by decide +kernel)⟩
theorem lw_p19 : lw_okq (⟨"BunchTimes$Stage", "forget", "(I)V"⟩, 20) := ⟨⟨by decide +kernel, by decide +kernel⟩, List.mem_of_getElem? (i := 37) (by decide +kernel), List.mem_of_getElem? (i := 453) (by decide +kernel), List.mem_of_getElem? (i := 454) (by decide +kernel)⟩
theorem lw_p20 : lw_okq (⟨"BunchTimes$Course", "forget", "(I)V"⟩, 7) := ⟨⟨by decide +kernel, by decide +kernel⟩, List.mem_of_getElem? (i := 43) (by decide +kernel), List.mem_of_getElem? (i := 457) (by decide +kernel), List.mem_of_getElem? (i := 458) (by decide +kernel)⟩
theorem lw_p21 : lw_okq (⟨"BunchTimes$Race", "addMark", "(II)I"⟩, 10) := ⟨⟨by decide +kernel, by decide +kernel⟩, List.mem_of_getElem? (i := 30) (by decide +kernel), List.mem_of_getElem? (i := 467) (by decide +kernel), List.mem_of_getElem? (i := 468) (by decide +kernel)⟩
theorem lw_p22 : lw_okq (⟨"BunchTimes$Course", "addMark", "(II)I"⟩, 7) := ⟨⟨by decide +kernel, by decide +kernel⟩, List.mem_of_getElem? (i := 43) (by decide +kernel), List.mem_of_getElem? (i := 471) (by decide +kernel), List.mem_of_getElem? (i := 472) (by decide +kernel)⟩
theorem lw_p23 : lw_okq (⟨"BunchTimes$Tape", "hasInt", "()Z"⟩, 6) := ⟨⟨by decide +kernel, by decide +kernel⟩, List.mem_of_getElem? (i := 241) (by decide +kernel), List.mem_of_getElem? (i := 480) (by decide +kernel), List.mem_of_getElem? (i := 481) (by decide +kernel)⟩
theorem lw_p24 : lw_okq (⟨"BunchTimes$Race", "addFinish", "(II)Z"⟩, 10) := ⟨⟨by decide +kernel, by decide +kernel⟩, List.mem_of_getElem? (i := 30) (by decide +kernel), List.mem_of_getElem? (i := 488) (by decide +kernel), List.mem_of_getElem? (i := 489) (by decide +kernel)⟩
theorem lw_p25 : lw_okq (⟨"BunchTimes$Race", "isIn", "(I)Z"⟩, 10) := ⟨⟨by decide +kernel, by decide +kernel⟩, List.mem_of_getElem? (i := 30) (by decide +kernel), List.mem_of_getElem? (i := 492) (by decide +kernel), List.mem_of_getElem? (i := 493) (by decide +kernel)⟩
theorem lw_p26 : lw_okq (⟨"BunchTimes$Race", "hasRider", "(I)Z"⟩, 10) := ⟨⟨by decide +kernel, by decide +kernel⟩, List.mem_of_getElem? (i := 30) (by decide +kernel), List.mem_of_getElem? (i := 496) (by decide +kernel), List.mem_of_getElem? (i := 497) (by decide +kernel)⟩
theorem lw_p27 : lw_okq (⟨"BunchTimes$Stage", "addFinish", "(II)Z"⟩, 20) := ⟨⟨by decide +kernel, by decide +kernel⟩, List.mem_of_getElem? (i := 37) (by decide +kernel), List.mem_of_getElem? (i := 500) (by decide +kernel), List.mem_of_getElem? (i := 501) (by decide +kernel)⟩
theorem lw_p28 : lw_okq (⟨"BunchTimes$Race", "latestMarks", "()I"⟩, 10) := ⟨⟨by decide +kernel, by decide +kernel⟩, List.mem_of_getElem? (i := 30) (by decide +kernel), List.mem_of_getElem? (i := 510) (by decide +kernel), List.mem_of_getElem? (i := 511) (by decide +kernel)⟩
theorem lw_p29 : lw_okq (⟨"BunchTimes$Race", "addCrossing", "(II)I"⟩, 10) := ⟨⟨by decide +kernel, by decide +kernel⟩, List.mem_of_getElem? (i := 30) (by decide +kernel), List.mem_of_getElem? (i := 514) (by decide +kernel), List.mem_of_getElem? (i := 515) (by decide +kernel)⟩
theorem lw_p30 : lw_okq (⟨"BunchTimes$Course", "addCrossing", "(II)I"⟩, 7) := ⟨⟨by decide +kernel, by decide +kernel⟩, List.mem_of_getElem? (i := 43) (by decide +kernel), List.mem_of_getElem? (i := 518) (by decide +kernel), List.mem_of_getElem? (i := 519) (by decide +kernel)⟩
theorem lw_p31 : lw_okq (⟨"BunchTimes$Course", "hasCrossed", "(II)Z"⟩, 7) := ⟨⟨by decide +kernel, by decide +kernel⟩, List.mem_of_getElem? (i := 43) (by decide +kernel), List.mem_of_getElem? (i := 522) (by decide +kernel), List.mem_of_getElem? (i := 523) (by decide +kernel)⟩
def lw_privs_2 : List (MethodName × Nat) := [(⟨"BunchTimes$Race", "countIn", "()I"⟩, 10), (⟨"BunchTimes$Stage", "begin", "(II)V"⟩, 20), (⟨"BunchTimes$Course", "begin", "(II)V"⟩, 7), (⟨"BunchTimes$Stage", "forget", "(I)V"⟩, 20), (⟨"BunchTimes$Course", "forget", "(I)V"⟩, 7), (⟨"BunchTimes$Race", "addMark", "(II)I"⟩, 10), (⟨"BunchTimes$Course", "addMark", "(II)I"⟩, 7), (⟨"BunchTimes$Tape", "hasInt", "()Z"⟩, 6), (⟨"BunchTimes$Race", "addFinish", "(II)Z"⟩, 10), (⟨"BunchTimes$Race", "isIn", "(I)Z"⟩, 10), (⟨"BunchTimes$Race", "hasRider", "(I)Z"⟩, 10), (⟨"BunchTimes$Stage", "addFinish", "(II)Z"⟩, 20), (⟨"BunchTimes$Race", "latestMarks", "()I"⟩, 10), (⟨"BunchTimes$Race", "addCrossing", "(II)I"⟩, 10), (⟨"BunchTimes$Course", "addCrossing", "(II)I"⟩, 7), (⟨"BunchTimes$Course", "hasCrossed", "(II)Z"⟩, 7)]
theorem lw_r2 : ∀ q ∈ lw_privs_2, lw_okq q := List.forall_mem_cons.mpr ⟨lw_p16, List.forall_mem_cons.mpr ⟨lw_p17, List.forall_mem_cons.mpr ⟨lw_p18, List.forall_mem_cons.mpr ⟨lw_p19, List.forall_mem_cons.mpr ⟨lw_p20, List.forall_mem_cons.mpr ⟨lw_p21, List.forall_mem_cons.mpr ⟨lw_p22, List.forall_mem_cons.mpr ⟨lw_p23, List.forall_mem_cons.mpr ⟨lw_p24, List.forall_mem_cons.mpr ⟨lw_p25, List.forall_mem_cons.mpr ⟨lw_p26, List.forall_mem_cons.mpr ⟨lw_p27, List.forall_mem_cons.mpr ⟨lw_p28, List.forall_mem_cons.mpr ⟨lw_p29, List.forall_mem_cons.mpr ⟨lw_p30, List.forall_mem_cons.mpr ⟨lw_p31, fun _ h => absurd h List.not_mem_nil⟩⟩⟩⟩⟩⟩⟩⟩⟩⟩⟩⟩⟩⟩⟩⟩
theorem lw_p32 : lw_okq (⟨"BunchTimes$Race", "latestLength", "()I"⟩, 10) := ⟨⟨by decide +kernel, by decide +kernel⟩, List.mem_of_getElem? (i := 30) (by decide +kernel), List.mem_of_getElem? (i := 530) (by decide +kernel), List.mem_of_getElem? (i := 531) (by decide +kernel)⟩
theorem lw_p33 : lw_okq (⟨"BunchTimes$Race", "addFall", "(III)Z"⟩, 10) := ⟨⟨by decide +kernel, by decide +kernel⟩, List.mem_of_getElem? (i := 30) (by decide +kernel), List.mem_of_getElem? (i := 535) (by decide +kernel), List.mem_of_getElem? (i := 536) (by decide +kernel)⟩
theorem lw_p34 : lw_okq (⟨"BunchTimes$Stage", "addFall", "(III)Z"⟩, 20) := ⟨⟨by decide +kernel, by decide +kernel⟩, List.mem_of_getElem? (i := 37) (by decide +kernel), List.mem_of_getElem? (i := 539) (by decide +kernel), List.mem_of_getElem? (i := 540) (by decide +kernel)⟩
theorem lw_p35 : lw_okq (⟨"BunchTimes$Race", "addJury", "(II)I"⟩, 10) := ⟨⟨by decide +kernel, by decide +kernel⟩, List.mem_of_getElem? (i := 30) (by decide +kernel), List.mem_of_getElem? (i := 547) (by decide +kernel), List.mem_of_getElem? (i := 548) (by decide +kernel)⟩
theorem lw_p36 : lw_okq (⟨"BunchTimes$Stage", "addJury", "(II)I"⟩, 20) := ⟨⟨by decide +kernel, by decide +kernel⟩, List.mem_of_getElem? (i := 37) (by decide +kernel), List.mem_of_getElem? (i := 551) (by decide +kernel), List.mem_of_getElem? (i := 552) (by decide +kernel)⟩
theorem lw_p37 : lw_okq (⟨"BunchTimes$Race", "addGrace", "(I)Z"⟩, 10) := ⟨⟨by decide +kernel, by decide +kernel⟩, List.mem_of_getElem? (i := 30) (by decide +kernel), List.mem_of_getElem? (i := 557) (by decide +kernel), List.mem_of_getElem? (i := 558) (by decide +kernel)⟩
theorem lw_p38 : lw_okq (⟨"BunchTimes$Stage", "addGrace", "(I)Z"⟩, 20) := ⟨⟨by decide +kernel, by decide +kernel⟩, List.mem_of_getElem? (i := 37) (by decide +kernel), List.mem_of_getElem? (i := 561) (by decide +kernel), List.mem_of_getElem? (i := 562) (by decide +kernel)⟩
theorem lw_p39 : lw_okq (⟨"BunchTimes$Race", "dropRider", "(I)Z"⟩, 10) := ⟨⟨by decide +kernel, by decide +kernel⟩, List.mem_of_getElem? (i := 30) (by decide +kernel), List.mem_of_getElem? (i := 566) (by decide +kernel), List.mem_of_getElem? (i := 567) (by decide +kernel)⟩
theorem lw_p40 : lw_okq (⟨"BunchTimes$Race", "setGap", "(I)Z"⟩, 10) := ⟨⟨by decide +kernel, by decide +kernel⟩, List.mem_of_getElem? (i := 30) (by decide +kernel), List.mem_of_getElem? (i := 572) (by decide +kernel), List.mem_of_getElem? (i := 573) (by decide +kernel)⟩
theorem lw_p41 : lw_okq (⟨"BunchTimes$Race", "setZone", "(I)Z"⟩, 10) := ⟨⟨by decide +kernel, by decide +kernel⟩, List.mem_of_getElem? (i := 30) (by decide +kernel), List.mem_of_getElem? (i := 577) (by decide +kernel), List.mem_of_getElem? (i := 578) (by decide +kernel)⟩
theorem lw_p42 : lw_okq (⟨"BunchTimes$Race", "closeStage", "()I"⟩, 10) := ⟨⟨by decide +kernel, by decide +kernel⟩, List.mem_of_getElem? (i := 30) (by decide +kernel), List.mem_of_getElem? (i := 582) (by decide +kernel), List.mem_of_getElem? (i := 583) (by decide +kernel)⟩
theorem lw_p43 : lw_okq (⟨"BunchTimes$Stage", "rank", "()V"⟩, 20) := ⟨⟨by decide +kernel, by decide +kernel⟩, List.mem_of_getElem? (i := 37) (by decide +kernel), List.mem_of_getElem? (i := 586) (by decide +kernel), List.mem_of_getElem? (i := 587) (by decide +kernel)⟩
theorem lw_p44 : lw_okq (⟨"BunchTimes$Stage", "split", "(I)V"⟩, 20) := ⟨⟨by decide +kernel, by decide +kernel⟩, List.mem_of_getElem? (i := 37) (by decide +kernel), List.mem_of_getElem? (i := 590) (by decide +kernel), List.mem_of_getElem? (i := 591) (by decide +kernel)⟩
theorem lw_p45 : lw_okq (⟨"BunchTimes$Stage", "beginsBunch", "(II)Z"⟩, 20) := ⟨⟨by decide +kernel, by decide +kernel⟩, List.mem_of_getElem? (i := 37) (by decide +kernel), List.mem_of_getElem? (i := 594) (by decide +kernel), List.mem_of_getElem? (i := 595) (by decide +kernel)⟩
theorem lw_p46 : lw_okq (⟨"BunchTimes$Stage", "space", "(I)I"⟩, 20) := ⟨⟨by decide +kernel, by decide +kernel⟩, List.mem_of_getElem? (i := 37) (by decide +kernel), List.mem_of_getElem? (i := 598) (by decide +kernel), List.mem_of_getElem? (i := 599) (by decide +kernel)⟩
theorem lw_p47 : lw_okq (⟨"BunchTimes$Stage", "takeTimes", "(I)V"⟩, 20) := ⟨⟨by decide +kernel, by decide +kernel⟩, List.mem_of_getElem? (i := 37) (by decide +kernel), List.mem_of_getElem? (i := 602) (by decide +kernel), List.mem_of_getElem? (i := 603) (by decide +kernel)⟩
def lw_privs_3 : List (MethodName × Nat) := [(⟨"BunchTimes$Race", "latestLength", "()I"⟩, 10), (⟨"BunchTimes$Race", "addFall", "(III)Z"⟩, 10), (⟨"BunchTimes$Stage", "addFall", "(III)Z"⟩, 20), (⟨"BunchTimes$Race", "addJury", "(II)I"⟩, 10), (⟨"BunchTimes$Stage", "addJury", "(II)I"⟩, 20), (⟨"BunchTimes$Race", "addGrace", "(I)Z"⟩, 10), (⟨"BunchTimes$Stage", "addGrace", "(I)Z"⟩, 20), (⟨"BunchTimes$Race", "dropRider", "(I)Z"⟩, 10), (⟨"BunchTimes$Race", "setGap", "(I)Z"⟩, 10), (⟨"BunchTimes$Race", "setZone", "(I)Z"⟩, 10), (⟨"BunchTimes$Race", "closeStage", "()I"⟩, 10), (⟨"BunchTimes$Stage", "rank", "()V"⟩, 20), (⟨"BunchTimes$Stage", "split", "(I)V"⟩, 20), (⟨"BunchTimes$Stage", "beginsBunch", "(II)Z"⟩, 20), (⟨"BunchTimes$Stage", "space", "(I)I"⟩, 20), (⟨"BunchTimes$Stage", "takeTimes", "(I)V"⟩, 20)]
theorem lw_r3 : ∀ q ∈ lw_privs_3, lw_okq q := List.forall_mem_cons.mpr ⟨lw_p32, List.forall_mem_cons.mpr ⟨lw_p33, List.forall_mem_cons.mpr ⟨lw_p34, List.forall_mem_cons.mpr ⟨lw_p35, List.forall_mem_cons.mpr ⟨lw_p36, List.forall_mem_cons.mpr ⟨lw_p37, List.forall_mem_cons.mpr ⟨lw_p38, List.forall_mem_cons.mpr ⟨lw_p39, List.forall_mem_cons.mpr ⟨lw_p40, List.forall_mem_cons.mpr ⟨lw_p41, List.forall_mem_cons.mpr ⟨lw_p42, List.forall_mem_cons.mpr ⟨lw_p43, List.forall_mem_cons.mpr ⟨lw_p44, List.forall_mem_cons.mpr ⟨lw_p45, List.forall_mem_cons.mpr ⟨lw_p46, List.forall_mem_cons.mpr ⟨lw_p47, fun _ h => absurd h List.not_mem_nil⟩⟩⟩⟩⟩⟩⟩⟩⟩⟩⟩⟩⟩⟩⟩⟩
theorem lw_p48 : lw_okq (⟨"BunchTimes$Stage", "leastRaw", "(II)I"⟩, 20) := ⟨⟨by decide +kernel, by decide +kernel⟩, List.mem_of_getElem? (i := 37) (by decide +kernel), List.mem_of_getElem? (i := 607) (by decide +kernel), List.mem_of_getElem? (i := 608) (by decide +kernel)⟩
theorem lw_p49 : lw_okq (⟨"BunchTimes$Stage", "fallCounts", "(II)Z"⟩, 20) := ⟨⟨by decide +kernel, by decide +kernel⟩, List.mem_of_getElem? (i := 37) (by decide +kernel), List.mem_of_getElem? (i := 611) (by decide +kernel), List.mem_of_getElem? (i := 612) (by decide +kernel)⟩
theorem lw_p50 : lw_okq (⟨"BunchTimes$Stage", "hasFinish", "(I)Z"⟩, 20) := ⟨⟨by decide +kernel, by decide +kernel⟩, List.mem_of_getElem? (i := 37) (by decide +kernel), List.mem_of_getElem? (i := 615) (by decide +kernel), List.mem_of_getElem? (i := 616) (by decide +kernel)⟩
theorem lw_p51 : lw_okq (⟨"BunchTimes$Stage", "judge", "()V"⟩, 20) := ⟨⟨by decide +kernel, by decide +kernel⟩, List.mem_of_getElem? (i := 37) (by decide +kernel), List.mem_of_getElem? (i := 622) (by decide +kernel), List.mem_of_getElem? (i := 623) (by decide +kernel)⟩
theorem lw_p52 : lw_okq (⟨"BunchTimes$Prizes", "awardOrder", "(LBunchTimes$Stage;)V"⟩, 3) := ⟨⟨by decide +kernel, by decide +kernel⟩, List.mem_of_getElem? (i := 82) (by decide +kernel), List.mem_of_getElem? (i := 631) (by decide +kernel), List.mem_of_getElem? (i := 632) (by decide +kernel)⟩
theorem lw_p53 : lw_okq (⟨"BunchTimes$Prizes", "awardMarks", "(LBunchTimes$Stage;)V"⟩, 3) := ⟨⟨by decide +kernel, by decide +kernel⟩, List.mem_of_getElem? (i := 82) (by decide +kernel), List.mem_of_getElem? (i := 639) (by decide +kernel), List.mem_of_getElem? (i := 640) (by decide +kernel)⟩
theorem lw_p54 : lw_okq (⟨"BunchTimes$Prizes", "awardOver", "(IIIZ)V"⟩, 3) := ⟨⟨by decide +kernel, by decide +kernel⟩, List.mem_of_getElem? (i := 82) (by decide +kernel), List.mem_of_getElem? (i := 643) (by decide +kernel), List.mem_of_getElem? (i := 644) (by decide +kernel)⟩
theorem lw_p55 : lw_okq (⟨"BunchTimes$Race", "sendOut", "(LBunchTimes$Stage;)I"⟩, 10) := ⟨⟨by decide +kernel, by decide +kernel⟩, List.mem_of_getElem? (i := 30) (by decide +kernel), List.mem_of_getElem? (i := 653) (by decide +kernel), List.mem_of_getElem? (i := 654) (by decide +kernel)⟩
theorem lw_p56 : lw_okq (⟨"BunchTimes$Stage", "sendsOut", "(I)Z"⟩, 20) := ⟨⟨by decide +kernel, by decide +kernel⟩, List.mem_of_getElem? (i := 37) (by decide +kernel), List.mem_of_getElem? (i := 657) (by decide +kernel), List.mem_of_getElem? (i := 658) (by decide +kernel)⟩
theorem lw_p57 : lw_okq (⟨"BunchTimes$Tape", "endStatement", "(IZ)V"⟩, 6) := ⟨⟨by decide +kernel, by decide +kernel⟩, List.mem_of_getElem? (i := 241) (by decide +kernel), List.mem_of_getElem? (i := 661) (by decide +kernel), List.mem_of_getElem? (i := 662) (by decide +kernel)⟩
theorem lw_p58 : lw_okq (⟨"BunchTimes$Race", "closed", "()I"⟩, 10) := ⟨⟨by decide +kernel, by decide +kernel⟩, List.mem_of_getElem? (i := 30) (by decide +kernel), List.mem_of_getElem? (i := 743) (by decide +kernel), List.mem_of_getElem? (i := 744) (by decide +kernel)⟩
theorem lw_p59 : lw_okq (⟨"BunchTimes$Race", "closedStage", "(I)LBunchTimes$Stage;"⟩, 10) := ⟨⟨by decide +kernel, by decide +kernel⟩, List.mem_of_getElem? (i := 30) (by decide +kernel), List.mem_of_getElem? (i := 753) (by decide +kernel), List.mem_of_getElem? (i := 754) (by decide +kernel)⟩
theorem lw_p60 : lw_okq (⟨"BunchTimes$Stage", "fact", "(I)I"⟩, 20) := ⟨⟨by decide +kernel, by decide +kernel⟩, List.mem_of_getElem? (i := 37) (by decide +kernel), List.mem_of_getElem? (i := 758) (by decide +kernel), List.mem_of_getElem? (i := 759) (by decide +kernel)⟩
theorem lw_p61 : lw_okq (⟨"BunchTimes$Stage", "countHelped", "()I"⟩, 20) := ⟨⟨by decide +kernel, by decide +kernel⟩, List.mem_of_getElem? (i := 37) (by decide +kernel), List.mem_of_getElem? (i := 762) (by decide +kernel), List.mem_of_getElem? (i := 763) (by decide +kernel)⟩
theorem lw_p62 : lw_okq (⟨"BunchTimes$Stage", "sumHelped", "()I"⟩, 20) := ⟨⟨by decide +kernel, by decide +kernel⟩, List.mem_of_getElem? (i := 37) (by decide +kernel), List.mem_of_getElem? (i := 766) (by decide +kernel), List.mem_of_getElem? (i := 767) (by decide +kernel)⟩
theorem lw_p63 : lw_okq (⟨"BunchTimes$Stage", "resultOf", "(II)I"⟩, 20) := ⟨⟨by decide +kernel, by decide +kernel⟩, List.mem_of_getElem? (i := 37) (by decide +kernel), List.mem_of_getElem? (i := 779) (by decide +kernel), List.mem_of_getElem? (i := 780) (by decide +kernel)⟩
def lw_privs_4 : List (MethodName × Nat) := [(⟨"BunchTimes$Stage", "leastRaw", "(II)I"⟩, 20), (⟨"BunchTimes$Stage", "fallCounts", "(II)Z"⟩, 20), (⟨"BunchTimes$Stage", "hasFinish", "(I)Z"⟩, 20), (⟨"BunchTimes$Stage", "judge", "()V"⟩, 20), (⟨"BunchTimes$Prizes", "awardOrder", "(LBunchTimes$Stage;)V"⟩, 3), (⟨"BunchTimes$Prizes", "awardMarks", "(LBunchTimes$Stage;)V"⟩, 3), (⟨"BunchTimes$Prizes", "awardOver", "(IIIZ)V"⟩, 3), (⟨"BunchTimes$Race", "sendOut", "(LBunchTimes$Stage;)I"⟩, 10), (⟨"BunchTimes$Stage", "sendsOut", "(I)Z"⟩, 20), (⟨"BunchTimes$Tape", "endStatement", "(IZ)V"⟩, 6), (⟨"BunchTimes$Race", "closed", "()I"⟩, 10), (⟨"BunchTimes$Race", "closedStage", "(I)LBunchTimes$Stage;"⟩, 10), (⟨"BunchTimes$Stage", "fact", "(I)I"⟩, 20), (⟨"BunchTimes$Stage", "countHelped", "()I"⟩, 20), (⟨"BunchTimes$Stage", "sumHelped", "()I"⟩, 20), (⟨"BunchTimes$Stage", "resultOf", "(II)I"⟩, 20)]
theorem lw_r4 : ∀ q ∈ lw_privs_4, lw_okq q := List.forall_mem_cons.mpr ⟨lw_p48, List.forall_mem_cons.mpr ⟨lw_p49, List.forall_mem_cons.mpr ⟨lw_p50, List.forall_mem_cons.mpr ⟨lw_p51, List.forall_mem_cons.mpr ⟨lw_p52, List.forall_mem_cons.mpr ⟨lw_p53, List.forall_mem_cons.mpr ⟨lw_p54, List.forall_mem_cons.mpr ⟨lw_p55, List.forall_mem_cons.mpr ⟨lw_p56, List.forall_mem_cons.mpr ⟨lw_p57, List.forall_mem_cons.mpr ⟨lw_p58, List.forall_mem_cons.mpr ⟨lw_p59, List.forall_mem_cons.mpr ⟨lw_p60, List.forall_mem_cons.mpr ⟨lw_p61, List.forall_mem_cons.mpr ⟨lw_p62, List.forall_mem_cons.mpr ⟨lw_p63, fun _ h => absurd h List.not_mem_nil⟩⟩⟩⟩⟩⟩⟩⟩⟩⟩⟩⟩⟩⟩⟩⟩
theorem lw_p64 : lw_okq (⟨"BunchTimes$Stage", "countBunches", "(I)I"⟩, 20) := ⟨⟨by decide +kernel, by decide +kernel⟩, List.mem_of_getElem? (i := 37) (by decide +kernel), List.mem_of_getElem? (i := 787) (by decide +kernel), List.mem_of_getElem? (i := 788) (by decide +kernel)⟩
theorem lw_p65 : lw_okq (⟨"BunchTimes$Stage", "joiningGap", "()I"⟩, 20) := ⟨⟨by decide +kernel, by decide +kernel⟩, List.mem_of_getElem? (i := 37) (by decide +kernel), List.mem_of_getElem? (i := 795) (by decide +kernel), List.mem_of_getElem? (i := 796) (by decide +kernel)⟩
theorem lw_p66 : lw_okq (⟨"BunchTimes$Stage", "aheadOfWidest", "()I"⟩, 20) := ⟨⟨by decide +kernel, by decide +kernel⟩, List.mem_of_getElem? (i := 37) (by decide +kernel), List.mem_of_getElem? (i := 803) (by decide +kernel), List.mem_of_getElem? (i := 804) (by decide +kernel)⟩
theorem lw_p67 : lw_okq (⟨"BunchTimes$Standings", "rankList", "(LBunchTimes$Race;I)V"⟩, 5) := ⟨⟨by decide +kernel, by decide +kernel⟩, List.mem_of_getElem? (i := 219) (by decide +kernel), List.mem_of_getElem? (i := 811) (by decide +kernel), List.mem_of_getElem? (i := 812) (by decide +kernel)⟩
theorem lw_p68 : lw_okq (⟨"BunchTimes$Standings", "rankRiders", "(LBunchTimes$Race;II)V"⟩, 5) := ⟨⟨by decide +kernel, by decide +kernel⟩, List.mem_of_getElem? (i := 219) (by decide +kernel), List.mem_of_getElem? (i := 816) (by decide +kernel), List.mem_of_getElem? (i := 817) (by decide +kernel)⟩
theorem lw_p69 : lw_okq (⟨"BunchTimes$Race", "sumOf", "(II)I"⟩, 10) := ⟨⟨by decide +kernel, by decide +kernel⟩, List.mem_of_getElem? (i := 30) (by decide +kernel), List.mem_of_getElem? (i := 820) (by decide +kernel), List.mem_of_getElem? (i := 821) (by decide +kernel)⟩
theorem lw_p70 : lw_okq (⟨"BunchTimes$Stage", "netTime", "(I)I"⟩, 20) := ⟨⟨by decide +kernel, by decide +kernel⟩, List.mem_of_getElem? (i := 37) (by decide +kernel), List.mem_of_getElem? (i := 824) (by decide +kernel), List.mem_of_getElem? (i := 825) (by decide +kernel)⟩
theorem lw_p71 : lw_okq (⟨"BunchTimes$Race", "placesOf", "(II)I"⟩, 10) := ⟨⟨by decide +kernel, by decide +kernel⟩, List.mem_of_getElem? (i := 30) (by decide +kernel), List.mem_of_getElem? (i := 828) (by decide +kernel), List.mem_of_getElem? (i := 829) (by decide +kernel)⟩
theorem lw_p72 : lw_okq (⟨"BunchTimes$Stage", "placeOf", "(I)I"⟩, 20) := ⟨⟨by decide +kernel, by decide +kernel⟩, List.mem_of_getElem? (i := 37) (by decide +kernel), List.mem_of_getElem? (i := 832) (by decide +kernel), List.mem_of_getElem? (i := 833) (by decide +kernel)⟩
theorem lw_p73 : lw_okq (⟨"BunchTimes$Standings", "insert", "(I)V"⟩, 5) := ⟨⟨by decide +kernel, by decide +kernel⟩, List.mem_of_getElem? (i := 219) (by decide +kernel), List.mem_of_getElem? (i := 836) (by decide +kernel), List.mem_of_getElem? (i := 837) (by decide +kernel)⟩
theorem lw_p74 : lw_okq (⟨"BunchTimes$Standings", "isLess", "(II)Z"⟩, 5) := ⟨⟨by decide +kernel, by decide +kernel⟩, List.mem_of_getElem? (i := 219) (by decide +kernel), List.mem_of_getElem? (i := 840) (by decide +kernel), List.mem_of_getElem? (i := 841) (by decide +kernel)⟩
theorem lw_p75 : lw_okq (⟨"BunchTimes$Standings", "rankWorthy", "(LBunchTimes$Race;I)V"⟩, 5) := ⟨⟨by decide +kernel, by decide +kernel⟩, List.mem_of_getElem? (i := 219) (by decide +kernel), List.mem_of_getElem? (i := 844) (by decide +kernel), List.mem_of_getElem? (i := 845) (by decide +kernel)⟩
theorem lw_p76 : lw_okq (⟨"BunchTimes$Race", "gained", "(II)I"⟩, 10) := ⟨⟨by decide +kernel, by decide +kernel⟩, List.mem_of_getElem? (i := 30) (by decide +kernel), List.mem_of_getElem? (i := 848) (by decide +kernel), List.mem_of_getElem? (i := 849) (by decide +kernel)⟩
theorem lw_p77 : lw_okq (⟨"BunchTimes$Stage", "gainedBy", "(II)I"⟩, 20) := ⟨⟨by decide +kernel, by decide +kernel⟩, List.mem_of_getElem? (i := 37) (by decide +kernel), List.mem_of_getElem? (i := 852) (by decide +kernel), List.mem_of_getElem? (i := 853) (by decide +kernel)⟩
theorem lw_p78 : lw_okq (⟨"BunchTimes$Standings", "rankTeams", "(LBunchTimes$Race;)V"⟩, 5) := ⟨⟨by decide +kernel, by decide +kernel⟩, List.mem_of_getElem? (i := 219) (by decide +kernel), List.mem_of_getElem? (i := 856) (by decide +kernel), List.mem_of_getElem? (i := 857) (by decide +kernel)⟩
theorem lw_p79 : lw_okq (⟨"BunchTimes$Race", "isRanked", "(I)Z"⟩, 10) := ⟨⟨by decide +kernel, by decide +kernel⟩, List.mem_of_getElem? (i := 30) (by decide +kernel), List.mem_of_getElem? (i := 860) (by decide +kernel), List.mem_of_getElem? (i := 861) (by decide +kernel)⟩
def lw_privs_5 : List (MethodName × Nat) := [(⟨"BunchTimes$Stage", "countBunches", "(I)I"⟩, 20), (⟨"BunchTimes$Stage", "joiningGap", "()I"⟩, 20), (⟨"BunchTimes$Stage", "aheadOfWidest", "()I"⟩, 20), (⟨"BunchTimes$Standings", "rankList", "(LBunchTimes$Race;I)V"⟩, 5), (⟨"BunchTimes$Standings", "rankRiders", "(LBunchTimes$Race;II)V"⟩, 5), (⟨"BunchTimes$Race", "sumOf", "(II)I"⟩, 10), (⟨"BunchTimes$Stage", "netTime", "(I)I"⟩, 20), (⟨"BunchTimes$Race", "placesOf", "(II)I"⟩, 10), (⟨"BunchTimes$Stage", "placeOf", "(I)I"⟩, 20), (⟨"BunchTimes$Standings", "insert", "(I)V"⟩, 5), (⟨"BunchTimes$Standings", "isLess", "(II)Z"⟩, 5), (⟨"BunchTimes$Standings", "rankWorthy", "(LBunchTimes$Race;I)V"⟩, 5), (⟨"BunchTimes$Race", "gained", "(II)I"⟩, 10), (⟨"BunchTimes$Stage", "gainedBy", "(II)I"⟩, 20), (⟨"BunchTimes$Standings", "rankTeams", "(LBunchTimes$Race;)V"⟩, 5), (⟨"BunchTimes$Race", "isRanked", "(I)Z"⟩, 10)]
theorem lw_r5 : ∀ q ∈ lw_privs_5, lw_okq q := List.forall_mem_cons.mpr ⟨lw_p64, List.forall_mem_cons.mpr ⟨lw_p65, List.forall_mem_cons.mpr ⟨lw_p66, List.forall_mem_cons.mpr ⟨lw_p67, List.forall_mem_cons.mpr ⟨lw_p68, List.forall_mem_cons.mpr ⟨lw_p69, List.forall_mem_cons.mpr ⟨lw_p70, List.forall_mem_cons.mpr ⟨lw_p71, List.forall_mem_cons.mpr ⟨lw_p72, List.forall_mem_cons.mpr ⟨lw_p73, List.forall_mem_cons.mpr ⟨lw_p74, List.forall_mem_cons.mpr ⟨lw_p75, List.forall_mem_cons.mpr ⟨lw_p76, List.forall_mem_cons.mpr ⟨lw_p77, List.forall_mem_cons.mpr ⟨lw_p78, List.forall_mem_cons.mpr ⟨lw_p79, fun _ h => absurd h List.not_mem_nil⟩⟩⟩⟩⟩⟩⟩⟩⟩⟩⟩⟩⟩⟩⟩⟩
theorem lw_p80 : lw_okq (⟨"BunchTimes$Race", "teamSum", "(I)I"⟩, 10) := ⟨⟨by decide +kernel, by decide +kernel⟩, List.mem_of_getElem? (i := 30) (by decide +kernel), List.mem_of_getElem? (i := 864) (by decide +kernel), List.mem_of_getElem? (i := 865) (by decide +kernel)⟩
theorem lw_p81 : lw_okq (⟨"BunchTimes$Stage", "teamTime", "([II)I"⟩, 20) := ⟨⟨by decide +kernel, by decide +kernel⟩, List.mem_of_getElem? (i := 37) (by decide +kernel), List.mem_of_getElem? (i := 868) (by decide +kernel), List.mem_of_getElem? (i := 869) (by decide +kernel)⟩
theorem lw_p82 : lw_okq (⟨"BunchTimes$Standings", "entry", "(I)I"⟩, 5) := ⟨⟨by decide +kernel, by decide +kernel⟩, List.mem_of_getElem? (i := 219) (by decide +kernel), List.mem_of_getElem? (i := 872) (by decide +kernel), List.mem_of_getElem? (i := 873) (by decide +kernel)⟩
theorem lw_p83 : lw_okq (⟨"BunchTimes$Standings", "wearer", "(LBunchTimes$Race;I)I"⟩, 5) := ⟨⟨by decide +kernel, by decide +kernel⟩, List.mem_of_getElem? (i := 219) (by decide +kernel), List.mem_of_getElem? (i := 890) (by decide +kernel), List.mem_of_getElem? (i := 891) (by decide +kernel)⟩
theorem lw_p84 : lw_okq (⟨"BunchTimes$Standings", "firstBut", "(I)I"⟩, 5) := ⟨⟨by decide +kernel, by decide +kernel⟩, List.mem_of_getElem? (i := 219) (by decide +kernel), List.mem_of_getElem? (i := 895) (by decide +kernel), List.mem_of_getElem? (i := 896) (by decide +kernel)⟩
theorem lw_p85 : lw_okq (⟨"BunchTimes$Standings", "lacking", "(I)I"⟩, 5) := ⟨⟨by decide +kernel, by decide +kernel⟩, List.mem_of_getElem? (i := 219) (by decide +kernel), List.mem_of_getElem? (i := 904) (by decide +kernel), List.mem_of_getElem? (i := 905) (by decide +kernel)⟩
theorem lw_p86 : lw_okq (⟨"java/lang/Throwable", "fillInStackTrace", "(I)Ljava/lang/Throwable;"⟩, 6) := ⟨⟨by decide +kernel, by decide +kernel⟩, List.mem_of_getElem? (i := 987) (by decide +kernel), List.mem_of_getElem? (i := 985) (by decide +kernel), List.mem_of_getElem? (i := 986) (by decide +kernel)⟩
theorem lw_p87 : lw_okq (⟨"BunchTimesModel", "teams", "()I"⟩, 18) := ⟨⟨by decide +kernel, by decide +kernel⟩, List.mem_of_getElem? (i := 1013) (by decide +kernel), List.mem_of_getElem? (i := 1082) (by decide +kernel), List.mem_of_getElem? (i := 1083) (by decide +kernel)⟩
theorem lw_p88 : lw_okq (⟨"BunchTimesModel", "comes", "(II)I"⟩, 18) := ⟨⟨by decide +kernel, by decide +kernel⟩, List.mem_of_getElem? (i := 1013) (by decide +kernel), List.mem_of_getElem? (i := 1090) (by decide +kernel), List.mem_of_getElem? (i := 1091) (by decide +kernel)⟩
theorem lw_p89 : lw_okq (⟨"BunchTimesModel", "isOpen", "()Z"⟩, 18) := ⟨⟨by decide +kernel, by decide +kernel⟩, List.mem_of_getElem? (i := 1013) (by decide +kernel), List.mem_of_getElem? (i := 1097) (by decide +kernel), List.mem_of_getElem? (i := 1098) (by decide +kernel)⟩
theorem lw_p90 : lw_okq (⟨"BunchTimesModel", "latest", "()I"⟩, 18) := ⟨⟨by decide +kernel, by decide +kernel⟩, List.mem_of_getElem? (i := 1013) (by decide +kernel), List.mem_of_getElem? (i := 1101) (by decide +kernel), List.mem_of_getElem? (i := 1102) (by decide +kernel)⟩
theorem lw_p91 : lw_okq (⟨"BunchTimesModel", "finishes", "(I)I"⟩, 18) := ⟨⟨by decide +kernel, by decide +kernel⟩, List.mem_of_getElem? (i := 1013) (by decide +kernel), List.mem_of_getElem? (i := 1105) (by decide +kernel), List.mem_of_getElem? (i := 1106) (by decide +kernel)⟩
theorem lw_p92 : lw_okq (⟨"BunchTimesModel", "hasFinish", "(II)Z"⟩, 18) := ⟨⟨by decide +kernel, by decide +kernel⟩, List.mem_of_getElem? (i := 1013) (by decide +kernel), List.mem_of_getElem? (i := 1109) (by decide +kernel), List.mem_of_getElem? (i := 1110) (by decide +kernel)⟩
theorem lw_p93 : lw_okq (⟨"BunchTimesModel", "stages", "(II)I"⟩, 18) := ⟨⟨by decide +kernel, by decide +kernel⟩, List.mem_of_getElem? (i := 1013) (by decide +kernel), List.mem_of_getElem? (i := 1120) (by decide +kernel), List.mem_of_getElem? (i := 1121) (by decide +kernel)⟩
theorem lw_p94 : lw_okq (⟨"BunchTimesModel", "there", "()I"⟩, 18) := ⟨⟨by decide +kernel, by decide +kernel⟩, List.mem_of_getElem? (i := 1013) (by decide +kernel), List.mem_of_getElem? (i := 1124) (by decide +kernel), List.mem_of_getElem? (i := 1125) (by decide +kernel)⟩
theorem lw_p95 : lw_okq (⟨"BunchTimesModel", "isThere", "(I)Z"⟩, 18) := ⟨⟨by decide +kernel, by decide +kernel⟩, List.mem_of_getElem? (i := 1013) (by decide +kernel), List.mem_of_getElem? (i := 1128) (by decide +kernel), List.mem_of_getElem? (i := 1129) (by decide +kernel)⟩
def lw_privs_6 : List (MethodName × Nat) := [(⟨"BunchTimes$Race", "teamSum", "(I)I"⟩, 10), (⟨"BunchTimes$Stage", "teamTime", "([II)I"⟩, 20), (⟨"BunchTimes$Standings", "entry", "(I)I"⟩, 5), (⟨"BunchTimes$Standings", "wearer", "(LBunchTimes$Race;I)I"⟩, 5), (⟨"BunchTimes$Standings", "firstBut", "(I)I"⟩, 5), (⟨"BunchTimes$Standings", "lacking", "(I)I"⟩, 5), (⟨"java/lang/Throwable", "fillInStackTrace", "(I)Ljava/lang/Throwable;"⟩, 6), (⟨"BunchTimesModel", "teams", "()I"⟩, 18), (⟨"BunchTimesModel", "comes", "(II)I"⟩, 18), (⟨"BunchTimesModel", "isOpen", "()Z"⟩, 18), (⟨"BunchTimesModel", "latest", "()I"⟩, 18), (⟨"BunchTimesModel", "finishes", "(I)I"⟩, 18), (⟨"BunchTimesModel", "hasFinish", "(II)Z"⟩, 18), (⟨"BunchTimesModel", "stages", "(II)I"⟩, 18), (⟨"BunchTimesModel", "there", "()I"⟩, 18), (⟨"BunchTimesModel", "isThere", "(I)Z"⟩, 18)]
theorem lw_r6 : ∀ q ∈ lw_privs_6, lw_okq q := List.forall_mem_cons.mpr ⟨lw_p80, List.forall_mem_cons.mpr ⟨lw_p81, List.forall_mem_cons.mpr ⟨lw_p82, List.forall_mem_cons.mpr ⟨lw_p83, List.forall_mem_cons.mpr ⟨lw_p84, List.forall_mem_cons.mpr ⟨lw_p85, List.forall_mem_cons.mpr ⟨lw_p86, List.forall_mem_cons.mpr ⟨lw_p87, List.forall_mem_cons.mpr ⟨lw_p88, List.forall_mem_cons.mpr ⟨lw_p89, List.forall_mem_cons.mpr ⟨lw_p90, List.forall_mem_cons.mpr ⟨lw_p91, List.forall_mem_cons.mpr ⟨lw_p92, List.forall_mem_cons.mpr ⟨lw_p93, List.forall_mem_cons.mpr ⟨lw_p94, List.forall_mem_cons.mpr ⟨lw_p95, fun _ h => absurd h List.not_mem_nil⟩⟩⟩⟩⟩⟩⟩⟩⟩⟩⟩⟩⟩⟩⟩⟩
theorem lw_p96 : lw_okq (⟨"BunchTimesModel", "isRider", "(I)Z"⟩, 18) := ⟨⟨by decide +kernel, by decide +kernel⟩, List.mem_of_getElem? (i := 1013) (by decide +kernel), List.mem_of_getElem? (i := 1132) (by decide +kernel), List.mem_of_getElem? (i := 1133) (by decide +kernel)⟩
theorem lw_p97 : lw_okq (⟨"BunchTimesModel", "marks", "(II)I"⟩, 18) := ⟨⟨by decide +kernel, by decide +kernel⟩, List.mem_of_getElem? (i := 1013) (by decide +kernel), List.mem_of_getElem? (i := 1143) (by decide +kernel), List.mem_of_getElem? (i := 1144) (by decide +kernel)⟩
theorem lw_p98 : lw_okq (⟨"BunchTimesModel", "finishes", "(II)Z"⟩, 18) := ⟨⟨by decide +kernel, by decide +kernel⟩, List.mem_of_getElem? (i := 1013) (by decide +kernel), List.mem_of_getElem? (i := 1154) (by decide +kernel), List.mem_of_getElem? (i := 1155) (by decide +kernel)⟩
theorem lw_p99 : lw_okq (⟨"BunchTimesModel", "overs", "(II)I"⟩, 18) := ⟨⟨by decide +kernel, by decide +kernel⟩, List.mem_of_getElem? (i := 1013) (by decide +kernel), List.mem_of_getElem? (i := 1163) (by decide +kernel), List.mem_of_getElem? (i := 1164) (by decide +kernel)⟩
theorem lw_p100 : lw_okq (⟨"BunchTimesModel", "falls", "(III)Z"⟩, 18) := ⟨⟨by decide +kernel, by decide +kernel⟩, List.mem_of_getElem? (i := 1013) (by decide +kernel), List.mem_of_getElem? (i := 1171) (by decide +kernel), List.mem_of_getElem? (i := 1172) (by decide +kernel)⟩
theorem lw_p101 : lw_okq (⟨"BunchTimesModel", "juries", "(II)I"⟩, 18) := ⟨⟨by decide +kernel, by decide +kernel⟩, List.mem_of_getElem? (i := 1013) (by decide +kernel), List.mem_of_getElem? (i := 1179) (by decide +kernel), List.mem_of_getElem? (i := 1180) (by decide +kernel)⟩
theorem lw_p102 : lw_okq (⟨"BunchTimesModel", "graces", "(I)Z"⟩, 18) := ⟨⟨by decide +kernel, by decide +kernel⟩, List.mem_of_getElem? (i := 1013) (by decide +kernel), List.mem_of_getElem? (i := 1188) (by decide +kernel), List.mem_of_getElem? (i := 1189) (by decide +kernel)⟩
theorem lw_p103 : lw_okq (⟨"BunchTimesModel", "quits", "(I)Z"⟩, 18) := ⟨⟨by decide +kernel, by decide +kernel⟩, List.mem_of_getElem? (i := 1013) (by decide +kernel), List.mem_of_getElem? (i := 1196) (by decide +kernel), List.mem_of_getElem? (i := 1197) (by decide +kernel)⟩
theorem lw_p104 : lw_okq (⟨"BunchTimesModel", "closes", "()I"⟩, 18) := ⟨⟨by decide +kernel, by decide +kernel⟩, List.mem_of_getElem? (i := 1013) (by decide +kernel), List.mem_of_getElem? (i := 1208) (by decide +kernel), List.mem_of_getElem? (i := 1209) (by decide +kernel)⟩
theorem lw_p105 : lw_okq (⟨"BunchTimesModel", "laysOrder", "(I)V"⟩, 18) := ⟨⟨by decide +kernel, by decide +kernel⟩, List.mem_of_getElem? (i := 1013) (by decide +kernel), List.mem_of_getElem? (i := 1212) (by decide +kernel), List.mem_of_getElem? (i := 1213) (by decide +kernel)⟩
theorem lw_p106 : lw_okq (⟨"BunchTimesModel", "laysRaw", "(I)V"⟩, 18) := ⟨⟨by decide +kernel, by decide +kernel⟩, List.mem_of_getElem? (i := 1013) (by decide +kernel), List.mem_of_getElem? (i := 1216) (by decide +kernel), List.mem_of_getElem? (i := 1217) (by decide +kernel)⟩
theorem lw_p107 : lw_okq (⟨"BunchTimesModel", "space", "(II)I"⟩, 18) := ⟨⟨by decide +kernel, by decide +kernel⟩, List.mem_of_getElem? (i := 1013) (by decide +kernel), List.mem_of_getElem? (i := 1220) (by decide +kernel), List.mem_of_getElem? (i := 1221) (by decide +kernel)⟩
theorem lw_p108 : lw_okq (⟨"BunchTimesModel", "timeOf", "(II)I"⟩, 18) := ⟨⟨by decide +kernel, by decide +kernel⟩, List.mem_of_getElem? (i := 1013) (by decide +kernel), List.mem_of_getElem? (i := 1224) (by decide +kernel), List.mem_of_getElem? (i := 1225) (by decide +kernel)⟩
theorem lw_p109 : lw_okq (⟨"BunchTimesModel", "doesCount", "(II)Z"⟩, 18) := ⟨⟨by decide +kernel, by decide +kernel⟩, List.mem_of_getElem? (i := 1013) (by decide +kernel), List.mem_of_getElem? (i := 1228) (by decide +kernel), List.mem_of_getElem? (i := 1229) (by decide +kernel)⟩
theorem lw_p110 : lw_okq (⟨"BunchTimesModel", "laysLimit", "(I)V"⟩, 18) := ⟨⟨by decide +kernel, by decide +kernel⟩, List.mem_of_getElem? (i := 1013) (by decide +kernel), List.mem_of_getElem? (i := 1232) (by decide +kernel), List.mem_of_getElem? (i := 1233) (by decide +kernel)⟩
theorem lw_p111 : lw_okq (⟨"BunchTimesModel", "laysPrizes", "(I)V"⟩, 18) := ⟨⟨by decide +kernel, by decide +kernel⟩, List.mem_of_getElem? (i := 1013) (by decide +kernel), List.mem_of_getElem? (i := 1239) (by decide +kernel), List.mem_of_getElem? (i := 1240) (by decide +kernel)⟩
def lw_privs_7 : List (MethodName × Nat) := [(⟨"BunchTimesModel", "isRider", "(I)Z"⟩, 18), (⟨"BunchTimesModel", "marks", "(II)I"⟩, 18), (⟨"BunchTimesModel", "finishes", "(II)Z"⟩, 18), (⟨"BunchTimesModel", "overs", "(II)I"⟩, 18), (⟨"BunchTimesModel", "falls", "(III)Z"⟩, 18), (⟨"BunchTimesModel", "juries", "(II)I"⟩, 18), (⟨"BunchTimesModel", "graces", "(I)Z"⟩, 18), (⟨"BunchTimesModel", "quits", "(I)Z"⟩, 18), (⟨"BunchTimesModel", "closes", "()I"⟩, 18), (⟨"BunchTimesModel", "laysOrder", "(I)V"⟩, 18), (⟨"BunchTimesModel", "laysRaw", "(I)V"⟩, 18), (⟨"BunchTimesModel", "space", "(II)I"⟩, 18), (⟨"BunchTimesModel", "timeOf", "(II)I"⟩, 18), (⟨"BunchTimesModel", "doesCount", "(II)Z"⟩, 18), (⟨"BunchTimesModel", "laysLimit", "(I)V"⟩, 18), (⟨"BunchTimesModel", "laysPrizes", "(I)V"⟩, 18)]
theorem lw_r7 : ∀ q ∈ lw_privs_7, lw_okq q := List.forall_mem_cons.mpr ⟨lw_p96, List.forall_mem_cons.mpr ⟨lw_p97, List.forall_mem_cons.mpr ⟨lw_p98, List.forall_mem_cons.mpr ⟨lw_p99, List.forall_mem_cons.mpr ⟨lw_p100, List.forall_mem_cons.mpr ⟨lw_p101, List.forall_mem_cons.mpr ⟨lw_p102, List.forall_mem_cons.mpr ⟨lw_p103, List.forall_mem_cons.mpr ⟨lw_p104, List.forall_mem_cons.mpr ⟨lw_p105, List.forall_mem_cons.mpr ⟨lw_p106, List.forall_mem_cons.mpr ⟨lw_p107, List.forall_mem_cons.mpr ⟨lw_p108, List.forall_mem_cons.mpr ⟨lw_p109, List.forall_mem_cons.mpr ⟨lw_p110, List.forall_mem_cons.mpr ⟨lw_p111, fun _ h => absurd h List.not_mem_nil⟩⟩⟩⟩⟩⟩⟩⟩⟩⟩⟩⟩⟩⟩⟩⟩
theorem lw_p112 : lw_okq (⟨"BunchTimesModel", "adds", "(IIII)V"⟩, 18) := ⟨⟨by decide +kernel, by decide +kernel⟩, List.mem_of_getElem? (i := 1013) (by decide +kernel), List.mem_of_getElem? (i := 1243) (by decide +kernel), List.mem_of_getElem? (i := 1244) (by decide +kernel)⟩
theorem lw_p113 : lw_okq (⟨"BunchTimesModel", "isLate", "(II)Z"⟩, 18) := ⟨⟨by decide +kernel, by decide +kernel⟩, List.mem_of_getElem? (i := 1013) (by decide +kernel), List.mem_of_getElem? (i := 1247) (by decide +kernel), List.mem_of_getElem? (i := 1248) (by decide +kernel)⟩
theorem lw_p114 : lw_okq (⟨"BunchTimesModel", "pointsFor", "(II)I"⟩, 18) := ⟨⟨by decide +kernel, by decide +kernel⟩, List.mem_of_getElem? (i := 1013) (by decide +kernel), List.mem_of_getElem? (i := 1251) (by decide +kernel), List.mem_of_getElem? (i := 1252) (by decide +kernel)⟩
theorem lw_p115 : lw_okq (⟨"BunchTimesModel", "closedMany", "()I"⟩, 18) := ⟨⟨by decide +kernel, by decide +kernel⟩, List.mem_of_getElem? (i := 1013) (by decide +kernel), List.mem_of_getElem? (i := 1282) (by decide +kernel), List.mem_of_getElem? (i := 1283) (by decide +kernel)⟩
theorem lw_p116 : lw_okq (⟨"BunchTimesModel", "allOf", "(II)I"⟩, 18) := ⟨⟨by decide +kernel, by decide +kernel⟩, List.mem_of_getElem? (i := 1013) (by decide +kernel), List.mem_of_getElem? (i := 1290) (by decide +kernel), List.mem_of_getElem? (i := 1291) (by decide +kernel)⟩
theorem lw_p117 : lw_okq (⟨"BunchTimesModel", "isClosed", "(I)Z"⟩, 18) := ⟨⟨by decide +kernel, by decide +kernel⟩, List.mem_of_getElem? (i := 1013) (by decide +kernel), List.mem_of_getElem? (i := 1298) (by decide +kernel), List.mem_of_getElem? (i := 1299) (by decide +kernel)⟩
theorem lw_p118 : lw_okq (⟨"BunchTimesModel", "lesser", "(IZ)I"⟩, 18) := ⟨⟨by decide +kernel, by decide +kernel⟩, List.mem_of_getElem? (i := 1013) (by decide +kernel), List.mem_of_getElem? (i := 1302) (by decide +kernel), List.mem_of_getElem? (i := 1303) (by decide +kernel)⟩
theorem lw_p119 : lw_okq (⟨"BunchTimesModel", "bunches", "(II)I"⟩, 18) := ⟨⟨by decide +kernel, by decide +kernel⟩, List.mem_of_getElem? (i := 1013) (by decide +kernel), List.mem_of_getElem? (i := 1318) (by decide +kernel), List.mem_of_getElem? (i := 1319) (by decide +kernel)⟩
theorem lw_p120 : lw_okq (⟨"BunchTimesModel", "ranks", "(I)V"⟩, 18) := ⟨⟨by decide +kernel, by decide +kernel⟩, List.mem_of_getElem? (i := 1013) (by decide +kernel), List.mem_of_getElem? (i := 1334) (by decide +kernel), List.mem_of_getElem? (i := 1335) (by decide +kernel)⟩
theorem lw_p121 : lw_okq (⟨"BunchTimesModel", "ranksTeams", "()V"⟩, 18) := ⟨⟨by decide +kernel, by decide +kernel⟩, List.mem_of_getElem? (i := 1013) (by decide +kernel), List.mem_of_getElem? (i := 1338) (by decide +kernel), List.mem_of_getElem? (i := 1339) (by decide +kernel)⟩
theorem lw_p122 : lw_okq (⟨"BunchTimesModel", "isTeamOn", "(I)Z"⟩, 18) := ⟨⟨by decide +kernel, by decide +kernel⟩, List.mem_of_getElem? (i := 1013) (by decide +kernel), List.mem_of_getElem? (i := 1342) (by decide +kernel), List.mem_of_getElem? (i := 1343) (by decide +kernel)⟩
theorem lw_p123 : lw_okq (⟨"BunchTimesModel", "teamTotal", "(I)I"⟩, 18) := ⟨⟨by decide +kernel, by decide +kernel⟩, List.mem_of_getElem? (i := 1013) (by decide +kernel), List.mem_of_getElem? (i := 1346) (by decide +kernel), List.mem_of_getElem? (i := 1347) (by decide +kernel)⟩
theorem lw_p124 : lw_okq (⟨"BunchTimesModel", "threeOf", "(II)I"⟩, 18) := ⟨⟨by decide +kernel, by decide +kernel⟩, List.mem_of_getElem? (i := 1013) (by decide +kernel), List.mem_of_getElem? (i := 1350) (by decide +kernel), List.mem_of_getElem? (i := 1351) (by decide +kernel)⟩
theorem lw_p125 : lw_okq (⟨"BunchTimesModel", "isOn", "(II)Z"⟩, 18) := ⟨⟨by decide +kernel, by decide +kernel⟩, List.mem_of_getElem? (i := 1013) (by decide +kernel), List.mem_of_getElem? (i := 1354) (by decide +kernel), List.mem_of_getElem? (i := 1355) (by decide +kernel)⟩
theorem lw_p126 : lw_okq (⟨"BunchTimesModel", "isBefore", "(III)Z"⟩, 18) := ⟨⟨by decide +kernel, by decide +kernel⟩, List.mem_of_getElem? (i := 1013) (by decide +kernel), List.mem_of_getElem? (i := 1358) (by decide +kernel), List.mem_of_getElem? (i := 1359) (by decide +kernel)⟩
theorem lw_p127 : lw_okq (⟨"BunchTimesModel", "isAhead", "(IIII)Z"⟩, 18) := ⟨⟨by decide +kernel, by decide +kernel⟩, List.mem_of_getElem? (i := 1013) (by decide +kernel), List.mem_of_getElem? (i := 1362) (by decide +kernel), List.mem_of_getElem? (i := 1363) (by decide +kernel)⟩
def lw_privs_8 : List (MethodName × Nat) := [(⟨"BunchTimesModel", "adds", "(IIII)V"⟩, 18), (⟨"BunchTimesModel", "isLate", "(II)Z"⟩, 18), (⟨"BunchTimesModel", "pointsFor", "(II)I"⟩, 18), (⟨"BunchTimesModel", "closedMany", "()I"⟩, 18), (⟨"BunchTimesModel", "allOf", "(II)I"⟩, 18), (⟨"BunchTimesModel", "isClosed", "(I)Z"⟩, 18), (⟨"BunchTimesModel", "lesser", "(IZ)I"⟩, 18), (⟨"BunchTimesModel", "bunches", "(II)I"⟩, 18), (⟨"BunchTimesModel", "ranks", "(I)V"⟩, 18), (⟨"BunchTimesModel", "ranksTeams", "()V"⟩, 18), (⟨"BunchTimesModel", "isTeamOn", "(I)Z"⟩, 18), (⟨"BunchTimesModel", "teamTotal", "(I)I"⟩, 18), (⟨"BunchTimesModel", "threeOf", "(II)I"⟩, 18), (⟨"BunchTimesModel", "isOn", "(II)Z"⟩, 18), (⟨"BunchTimesModel", "isBefore", "(III)Z"⟩, 18), (⟨"BunchTimesModel", "isAhead", "(IIII)Z"⟩, 18)]
theorem lw_r8 : ∀ q ∈ lw_privs_8, lw_okq q := List.forall_mem_cons.mpr ⟨lw_p112, List.forall_mem_cons.mpr ⟨lw_p113, List.forall_mem_cons.mpr ⟨lw_p114, List.forall_mem_cons.mpr ⟨lw_p115, List.forall_mem_cons.mpr ⟨lw_p116, List.forall_mem_cons.mpr ⟨lw_p117, List.forall_mem_cons.mpr ⟨lw_p118, List.forall_mem_cons.mpr ⟨lw_p119, List.forall_mem_cons.mpr ⟨lw_p120, List.forall_mem_cons.mpr ⟨lw_p121, List.forall_mem_cons.mpr ⟨lw_p122, List.forall_mem_cons.mpr ⟨lw_p123, List.forall_mem_cons.mpr ⟨lw_p124, List.forall_mem_cons.mpr ⟨lw_p125, List.forall_mem_cons.mpr ⟨lw_p126, List.forall_mem_cons.mpr ⟨lw_p127, fun _ h => absurd h List.not_mem_nil⟩⟩⟩⟩⟩⟩⟩⟩⟩⟩⟩⟩⟩⟩⟩⟩
theorem lw_p128 : lw_okq (⟨"BunchTimesModel", "totalBut", "(II)I"⟩, 18) := ⟨⟨by decide +kernel, by decide +kernel⟩, List.mem_of_getElem? (i := 1013) (by decide +kernel), List.mem_of_getElem? (i := 1366) (by decide +kernel), List.mem_of_getElem? (i := 1367) (by decide +kernel)⟩
theorem lw_p129 : lw_okq (⟨"BunchTimesModel", "placesBut", "(II)I"⟩, 18) := ⟨⟨by decide +kernel, by decide +kernel⟩, List.mem_of_getElem? (i := 1013) (by decide +kernel), List.mem_of_getElem? (i := 1370) (by decide +kernel), List.mem_of_getElem? (i := 1371) (by decide +kernel)⟩
theorem lw_p130 : lw_okq (⟨"BunchTimesModel", "firstFree", "(II)I"⟩, 18) := ⟨⟨by decide +kernel, by decide +kernel⟩, List.mem_of_getElem? (i := 1013) (by decide +kernel), List.mem_of_getElem? (i := 1383) (by decide +kernel), List.mem_of_getElem? (i := 1384) (by decide +kernel)⟩
theorem lw_p131 : lw_okq (⟨"BunchTimesModel", "put", "(I)V"⟩, 18) := ⟨⟨by decide +kernel, by decide +kernel⟩, List.mem_of_getElem? (i := 1013) (by decide +kernel), List.mem_of_getElem? (i := 1424) (by decide +kernel), List.mem_of_getElem? (i := 1425) (by decide +kernel)⟩
theorem lw_p132 : lw_okq (⟨"BunchTimesModel", "here", "()I"⟩, 18) := ⟨⟨by decide +kernel, by decide +kernel⟩, List.mem_of_getElem? (i := 1013) (by decide +kernel), List.mem_of_getElem? (i := 1436) (by decide +kernel), List.mem_of_getElem? (i := 1437) (by decide +kernel)⟩
theorem lw_p133 : lw_okq (⟨"BunchTimesModel", "statement", "()V"⟩, 18) := ⟨⟨by decide +kernel, by decide +kernel⟩, List.mem_of_getElem? (i := 1013) (by decide +kernel), List.mem_of_getElem? (i := 1440) (by decide +kernel), List.mem_of_getElem? (i := 1441) (by decide +kernel)⟩
theorem lw_p134 : lw_okq (⟨"BunchTimesModel", "word", "()J"⟩, 18) := ⟨⟨by decide +kernel, by decide +kernel⟩, List.mem_of_getElem? (i := 1013) (by decide +kernel), List.mem_of_getElem? (i := 1444) (by decide +kernel), List.mem_of_getElem? (i := 1445) (by decide +kernel)⟩
theorem lw_p135 : lw_okq (⟨"BunchTimesModel", "ends", "()Z"⟩, 18) := ⟨⟨by decide +kernel, by decide +kernel⟩, List.mem_of_getElem? (i := 1013) (by decide +kernel), List.mem_of_getElem? (i := 1451) (by decide +kernel), List.mem_of_getElem? (i := 1452) (by decide +kernel)⟩
theorem lw_p136 : lw_okq (⟨"BunchTimesModel", "fails", "(II)V"⟩, 18) := ⟨⟨by decide +kernel, by decide +kernel⟩, List.mem_of_getElem? (i := 1013) (by decide +kernel), List.mem_of_getElem? (i := 1455) (by decide +kernel), List.mem_of_getElem? (i := 1456) (by decide +kernel)⟩
theorem lw_p137 : lw_okq (⟨"BunchTimesModel", "can", "(ZI)V"⟩, 18) := ⟨⟨by decide +kernel, by decide +kernel⟩, List.mem_of_getElem? (i := 1013) (by decide +kernel), List.mem_of_getElem? (i := 1459) (by decide +kernel), List.mem_of_getElem? (i := 1460) (by decide +kernel)⟩
theorem lw_p138 : lw_okq (⟨"BunchTimesModel", "riderTold", "(I)V"⟩, 18) := ⟨⟨by decide +kernel, by decide +kernel⟩, List.mem_of_getElem? (i := 1013) (by decide +kernel), List.mem_of_getElem? (i := 1464) (by decide +kernel), List.mem_of_getElem? (i := 1465) (by decide +kernel)⟩
theorem lw_p139 : lw_okq (⟨"BunchTimesModel", "number", "(II)V"⟩, 18) := ⟨⟨by decide +kernel, by decide +kernel⟩, List.mem_of_getElem? (i := 1013) (by decide +kernel), List.mem_of_getElem? (i := 1468) (by decide +kernel), List.mem_of_getElem? (i := 1469) (by decide +kernel)⟩
theorem lw_p140 : lw_okq (⟨"BunchTimesModel", "isDigit", "()Z"⟩, 18) := ⟨⟨by decide +kernel, by decide +kernel⟩, List.mem_of_getElem? (i := 1013) (by decide +kernel), List.mem_of_getElem? (i := 1472) (by decide +kernel), List.mem_of_getElem? (i := 1473) (by decide +kernel)⟩
theorem lw_p141 : lw_okq (⟨"BunchTimesModel", "stageTold", "(I)V"⟩, 18) := ⟨⟨by decide +kernel, by decide +kernel⟩, List.mem_of_getElem? (i := 1013) (by decide +kernel), List.mem_of_getElem? (i := 1477) (by decide +kernel), List.mem_of_getElem? (i := 1478) (by decide +kernel)⟩
theorem lw_p142 : lw_okq (⟨"BunchTimesModel", "isWord", "(J)Z"⟩, 18) := ⟨⟨by decide +kernel, by decide +kernel⟩, List.mem_of_getElem? (i := 1013) (by decide +kernel), List.mem_of_getElem? (i := 1486) (by decide +kernel), List.mem_of_getElem? (i := 1487) (by decide +kernel)⟩
theorem lw_p143 : lw_okq (⟨"BunchTimesModel", "comeTold", "(I)V"⟩, 18) := ⟨⟨by decide +kernel, by decide +kernel⟩, List.mem_of_getElem? (i := 1013) (by decide +kernel), List.mem_of_getElem? (i := 1493) (by decide +kernel), List.mem_of_getElem? (i := 1494) (by decide +kernel)⟩
def lw_privs_9 : List (MethodName × Nat) := [(⟨"BunchTimesModel", "totalBut", "(II)I"⟩, 18), (⟨"BunchTimesModel", "placesBut", "(II)I"⟩, 18), (⟨"BunchTimesModel", "firstFree", "(II)I"⟩, 18), (⟨"BunchTimesModel", "put", "(I)V"⟩, 18), (⟨"BunchTimesModel", "here", "()I"⟩, 18), (⟨"BunchTimesModel", "statement", "()V"⟩, 18), (⟨"BunchTimesModel", "word", "()J"⟩, 18), (⟨"BunchTimesModel", "ends", "()Z"⟩, 18), (⟨"BunchTimesModel", "fails", "(II)V"⟩, 18), (⟨"BunchTimesModel", "can", "(ZI)V"⟩, 18), (⟨"BunchTimesModel", "riderTold", "(I)V"⟩, 18), (⟨"BunchTimesModel", "number", "(II)V"⟩, 18), (⟨"BunchTimesModel", "isDigit", "()Z"⟩, 18), (⟨"BunchTimesModel", "stageTold", "(I)V"⟩, 18), (⟨"BunchTimesModel", "isWord", "(J)Z"⟩, 18), (⟨"BunchTimesModel", "comeTold", "(I)V"⟩, 18)]
theorem lw_r9 : ∀ q ∈ lw_privs_9, lw_okq q := List.forall_mem_cons.mpr ⟨lw_p128, List.forall_mem_cons.mpr ⟨lw_p129, List.forall_mem_cons.mpr ⟨lw_p130, List.forall_mem_cons.mpr ⟨lw_p131, List.forall_mem_cons.mpr ⟨lw_p132, List.forall_mem_cons.mpr ⟨lw_p133, List.forall_mem_cons.mpr ⟨lw_p134, List.forall_mem_cons.mpr ⟨lw_p135, List.forall_mem_cons.mpr ⟨lw_p136, List.forall_mem_cons.mpr ⟨lw_p137, List.forall_mem_cons.mpr ⟨lw_p138, List.forall_mem_cons.mpr ⟨lw_p139, List.forall_mem_cons.mpr ⟨lw_p140, List.forall_mem_cons.mpr ⟨lw_p141, List.forall_mem_cons.mpr ⟨lw_p142, List.forall_mem_cons.mpr ⟨lw_p143, fun _ h => absurd h List.not_mem_nil⟩⟩⟩⟩⟩⟩⟩⟩⟩⟩⟩⟩⟩⟩⟩⟩
theorem lw_p144 : lw_okq (⟨"BunchTimesModel", "lastRider", "()I"⟩, 18) := ⟨⟨by decide +kernel, by decide +kernel⟩, List.mem_of_getElem? (i := 1013) (by decide +kernel), List.mem_of_getElem? (i := 1497) (by decide +kernel), List.mem_of_getElem? (i := 1498) (by decide +kernel)⟩
theorem lw_p145 : lw_okq (⟨"BunchTimesModel", "overTold", "(I)V"⟩, 18) := ⟨⟨by decide +kernel, by decide +kernel⟩, List.mem_of_getElem? (i := 1013) (by decide +kernel), List.mem_of_getElem? (i := 1502) (by decide +kernel), List.mem_of_getElem? (i := 1503) (by decide +kernel)⟩
theorem lw_p146 : lw_okq (⟨"BunchTimesModel", "fallTold", "(I)V"⟩, 18) := ⟨⟨by decide +kernel, by decide +kernel⟩, List.mem_of_getElem? (i := 1013) (by decide +kernel), List.mem_of_getElem? (i := 1507) (by decide +kernel), List.mem_of_getElem? (i := 1508) (by decide +kernel)⟩
theorem lw_p147 : lw_okq (⟨"BunchTimesModel", "juryTold", "(I)V"⟩, 18) := ⟨⟨by decide +kernel, by decide +kernel⟩, List.mem_of_getElem? (i := 1013) (by decide +kernel), List.mem_of_getElem? (i := 1513) (by decide +kernel), List.mem_of_getElem? (i := 1514) (by decide +kernel)⟩
theorem lw_p148 : lw_okq (⟨"BunchTimesModel", "oneTold", "(IZ)V"⟩, 18) := ⟨⟨by decide +kernel, by decide +kernel⟩, List.mem_of_getElem? (i := 1013) (by decide +kernel), List.mem_of_getElem? (i := 1518) (by decide +kernel), List.mem_of_getElem? (i := 1519) (by decide +kernel)⟩
theorem lw_p149 : lw_okq (⟨"BunchTimesModel", "ruleTold", "(III)V"⟩, 18) := ⟨⟨by decide +kernel, by decide +kernel⟩, List.mem_of_getElem? (i := 1013) (by decide +kernel), List.mem_of_getElem? (i := 1524) (by decide +kernel), List.mem_of_getElem? (i := 1525) (by decide +kernel)⟩
def lw_privs_10 : List (MethodName × Nat) := [(⟨"BunchTimesModel", "lastRider", "()I"⟩, 18), (⟨"BunchTimesModel", "overTold", "(I)V"⟩, 18), (⟨"BunchTimesModel", "fallTold", "(I)V"⟩, 18), (⟨"BunchTimesModel", "juryTold", "(I)V"⟩, 18), (⟨"BunchTimesModel", "oneTold", "(IZ)V"⟩, 18), (⟨"BunchTimesModel", "ruleTold", "(III)V"⟩, 18)]
theorem lw_r10 : ∀ q ∈ lw_privs_10, lw_okq q := List.forall_mem_cons.mpr ⟨lw_p144, List.forall_mem_cons.mpr ⟨lw_p145, List.forall_mem_cons.mpr ⟨lw_p146, List.forall_mem_cons.mpr ⟨lw_p147, List.forall_mem_cons.mpr ⟨lw_p148, List.forall_mem_cons.mpr ⟨lw_p149, fun _ h => absurd h List.not_mem_nil⟩⟩⟩⟩⟩⟩
def lw_privs : List (MethodName × Nat) := lw_privs_1 ++ (lw_privs_2 ++ (lw_privs_3 ++ (lw_privs_4 ++ (lw_privs_5 ++ (lw_privs_6 ++ (lw_privs_7 ++ (lw_privs_8 ++ (lw_privs_9 ++ (lw_privs_10)))))))))
def lw_tbl : List Cond := k2_sels lw_privs ++ tables_1
theorem lw_privs_ok : ∀ q ∈ lw_privs, lw_okq q := by
  show ∀ q ∈ lw_privs_1 ++ (lw_privs_2 ++ (lw_privs_3 ++ (lw_privs_4 ++ (lw_privs_5 ++ (lw_privs_6 ++ (lw_privs_7 ++ (lw_privs_8 ++ (lw_privs_9 ++ (lw_privs_10))))))))), lw_okq q
  exact List.forall_mem_append.mpr ⟨lw_r1, List.forall_mem_append.mpr ⟨lw_r2, List.forall_mem_append.mpr ⟨lw_r3, List.forall_mem_append.mpr ⟨lw_r4, List.forall_mem_append.mpr ⟨lw_r5, List.forall_mem_append.mpr ⟨lw_r6, List.forall_mem_append.mpr ⟨lw_r7, List.forall_mem_append.mpr ⟨lw_r8, List.forall_mem_append.mpr ⟨lw_r9, lw_r10⟩⟩⟩⟩⟩⟩⟩⟩⟩
-- ===== end of PART A; then your names; then what follows =====
end
section
/-! ===== BEGIN words of one list among another's, by their places ===== -/
theorem goodIn_r {big : List Cond} (ws : List Cond) (ps : List Nat) (hp : ws = ps.filterMap (fun i => big[i]?)) (h : ws.all goodWord = true) : GoodIn big ws := by
  intro w hw
  have h1 := List.all_eq_true.mp h w hw
  rw [hp] at hw
  obtain ⟨i, -, hi⟩ := List.mem_filterMap.mp hw
  have hm : w ∈ big := by first | exact List.mem_of_getElem? hi | exact List.getElem?_mem hi
  exact ⟨hm, good_of_word h1⟩
theorem goodIn_app {big a b : List Cond} (ha : GoodIn big a) (hb : GoodIn big b) : GoodIn big (a ++ b) := fun w h => (List.mem_append.mp h).elim (ha w) (hb w)
theorem goodIn_ca {big a b : List Cond} {c : Cond} (ha : GoodIn big (c :: a)) (hb : GoodIn big b) : GoodIn big (c :: (a ++ b)) := fun w h => (List.mem_cons.mp h).elim (fun e => ha w (List.mem_cons.mpr (Or.inl e))) (fun h => (List.mem_append.mp h).elim (fun h => ha w (List.mem_cons.mpr (Or.inr h))) (hb w))
theorem goodIn_sub {big ws : List Cond} (hm : ∀ w ∈ ws, w ∈ big) (h : ws.all goodWord = true) : GoodIn big ws := fun w hw => ⟨hm w hw, good_of_word (List.all_eq_true.mp h w hw)⟩
/-! ===== END ===== -/

/-! ===== BEGIN exceptions that leave a method, and their catching by the caller (launches without stack traces) ===== -/
section VXA
/-! The laws vx_back, vx_callV, vx_callS, vx_callSW, vx_throw0, vx_throwS follow proofs of the library, with one case more: JvmDerived/Free/Laws.lean (Back.of_free), Shelf42/LK1.lean (callV, callS), Shelf/KitTraced.lean (throwNew0V, throwNewS). -/
/-- where a method has thrown q: the class by its name, the cell, what was written, the world -/
def vx_T (XC : String → State → State → Prop) (st : State) (q : Addr) (t : State) (mc ms : Nat) (free : Addr → Prop) : Prop :=
  ∃ (E : String) (ce : Cell) (L : List Loc), XC E st t ∧ t.heap[q]? = some ce ∧ ce.vm = .none ∧ st.vm.findClass E = some ce.cls ∧ st.WarmedH t.vm ∧ st.sameButNew ({ t with vm := st.vm } : State) L mc ms ∧ ∀ z ∈ L, free z.base
def vx_Q (Qc : Array Value → State → Outcome → State → Prop) (XC : String → State → State → Prop) (mc ms : Nat) (free : Addr → Prop) : Array Value → State → Outcome → State → Prop := fun a st o t =>
  (Qc a st o t ∧ ∃ L, FrameEnd st o t L mc ms ∧ ∀ q ∈ L, free q.base) ∨ ∃ q, o = .threw q ∧ vx_T XC st q t mc ms free
/-- a callee that returns or throws -/
def vx_Met (l : Launch) (y : MethodName) (ws : List Cond) (rm : Room) (Pc : Array Value → State → Prop) (Qc : Array Value → State → Outcome → State → Prop) (XC : String → State → State → Prop) (mc ms : Nat) (free : Addr → Prop) : Prop :=
  MetFree l y (headSpec ws rm) Pc (fun _ _ _ _ _ => True) (vx_Q Qc XC mc ms free)
def vx_Post (XC : String → State → State → Prop) (mc ms : Nat) (free : Addr → Prop) : Pt → Array Value → Addr → Pt → Prop := fun A a q B =>
  ∃ (g : JFrame) (mk : MethodId) (t : State) (L : List Loc) (E : String) (ce : Cell), B.U.heap = t.heap ∧ B.U.vm = t.vm ∧ XC E (A.U.calling g mk a) t ∧ t.heap[q]? = some ce ∧ ce.vm = .none ∧ A.U.vm.findClass E = some ce.cls ∧ B.locs = A.locs ++ L ∧ (∀ z ∈ L, free z.base) ∧ B.cells = A.cells + mc ∧ B.slots = A.slots + ms
def vx_Back (l : Launch) (R : Room) (p : Program) (e : Env) (below : List Frame) (s : State) (sargs : Array Value) (y : MethodName) (len W9 : Nat)
    (Pre : Pt → Array Value → Prop) (Post : Pt → Array Value → Option Value → Pt → Prop) (PostX : Pt → Array Value → Addr → Pt → Prop) : Prop :=
  ∀ (m : MethodId) (meth : Method) (c : Code) (A : Pt) (g : JFrame) (ig : Instr) (mk : MethodId) (a : Array Value),
    Stand p l e R s m sargs below meth c A.U A.locs A.cells A.slots → g.method = m → g.locals.size = c.maxLocals → decode c.code g.pc = .ok (ig, len) →
    2 * g.monitorRoom + (g.stack.map fun v => v.category).sum ≤ W9 → A.U.methodNamed? y = some mk → Pre A a →
    (∃ (v : Option Value) (B : Pt), Stand p l e R s m sargs below meth c B.U B.locs B.cells B.slots ∧ Post A a v B ∧
      Steps p.tables e below (doInvoke e (A.U.setTop g) [] mk a).1 (B.U.setTop { g with pc := g.pc + len, stack := v.toList ++ g.stack })) ∨
    (∃ (q : Addr) (B : Pt), Stand p l e R s m sargs below meth c B.U B.locs B.cells B.slots ∧ PostX A a q B ∧
      Steps p.tables e below (doInvoke e (A.U.setTop g) [] mk a).1 ((B.U.setTop g).pushFrame (.throwing q)))
section Payer
variable {l : Launch} {R : Room} {p : Program} {e : Env} {below : List Frame} {s : State} {sargs : Array Value} {y : MethodName} {len W9 : Nat}
theorem vx_back {ws : List Cond} {rm : Room} {Pc : Array Value → State → Prop} {Qc : Array Value → State → Outcome → State → Prop} {XC : String → State → State → Prop} {mc ms : Nat} {free : Addr → Prop} {bytes : ByteArray} {maxL : Nat} {ret : Option FieldType}
    (hM : vx_Met l y ws rm Pc Qc XC mc ms free) (hblind : FrameBlind Pc) (hrc : rm.cells = mc) (hrs : rm.slots = ms)
    (hframes : rm.frames + 1 ≤ R.frames) (hlocals : W9 + (maxL + 11) + rm.locals ≤ R.locals)
    (hws : ∀ w ∈ ws, ∀ a' U, s.WarmedH U.vm → w.before a' U = true) (hcode : Cond.code y bytes maxL ret ∈ ws) (hinit : ∀ a' U, s.WarmedH U.vm → (Cond.initialized y.cls).before a' U = true) :
    vx_Back l R p e below s sargs y len W9 (PreOf R mc ms Pc) (PostOf Qc mc ms free) (vx_Post XC mc ms free) := by
  intro m meth c A g ig mk a X hg hsize hdg hW hn hp
  have h1 : (headSpec ws rm).pre.before a A.U = true := atoms_intro fun w hw => hws w hw _ _ X.warmed
  have h2 : (Cond.code y bytes maxL ret).before a A.U = true := hws _ hcode _ _ X.warmed
  have h3 : (Cond.initialized y.cls).before a A.U = true := hinit _ _ X.warmed
  have h4 : A.cells + (headSpec ws rm).room.cells ≤ R.cells := by rw [show (headSpec ws rm).room.cells = mc from hrc]; exact hp.1
  have h5 : A.slots + (headSpec ws rm).room.slots ≤ R.slots := by rw [show (headSpec ws rm).room.slots = ms from hrs]; exact hp.2.1
  have hPc : Pc a (A.U.calling g mk a) := hblind _ _ _ _ hp.2.2
  obtain ⟨U, Ls, c0, s0⟩ := A
  dsimp only [Pt.U, Pt.locs, Pt.cells, Pt.slots] at h1 h2 h3 h4 h5 X hn hPc ⊢
  obtain ⟨methY, cY, hmY, hcY, -, hlY, -, -, -, -⟩ := Cond.code_spec hn h2
  obtain ⟨kY, hkY, -⟩ := className_of_methodNamed hn
  have hinitY : kY.init = .initialized := Cond.initialized_spec (findClass_of_methodNamed hn) hkY h3
  have h : At U g.method c below := by rw [hg]; exact X.here
  have hlocals9 : W9 + (maxL + 11) + (headSpec ws rm).room.locals ≤ R.locals := hlocals
  have happ : (headSpec ws rm).appliesLoose y e.platform (U.calling g mk a) = true :=
    Spec.appliesLoose_calling (g := g) h hdg hn hkY hinitY
      (X.room_calling (g := g) (R' := (headSpec ws rm).room) hsize hmY hcY hframes (by rw [hlY]; omega) h4 h5) h1
  obtain ⟨mid, hmid⟩ := h.above
  have hfr : (U.setTop g).frames = (.java g :: mid) ++ below := by rw [State.frames_setTop' g h.top, hmid]; rfl
  obtain ⟨o, s₂, hsteps, -, hend, hq⟩ := Steps.callFree hM p X.admits X.cas X.clock (acts := []) hfr happ hPc trivial
  have hq' : vx_Q Qc XC mc ms free a (U.calling g mk a) o s₂ := hq
  rw [State.frames_setTop' g h.top] at hend
  obtain ⟨g₀, hg0⟩ := Option.isSome_iff_exists.mp h.top
  obtain ⟨r, hr⟩ := State.topJava?_eq_some.mp hg0
  have hr' : (({ U with heap := s₂.heap, slotsUsed := s₂.slotsUsed } : State).setVm s₂.vm).frames = .java g₀ :: r := hr
  rcases hq' with ⟨hqc, L, hfe, hL⟩ | ⟨q, rfl, E, ce, L, hx, hce, hcv, hcl, hW₂, hsm, hL⟩
  · obtain ⟨⟨v, rfl⟩, hW₂, e2, q2, q3, q4, q5, q6⟩ := id hfe
    have e3 : s₂ = ({ (U.calling g mk a).setFrames s₂.frames with heap := s₂.heap, slotsUsed := s₂.slotsUsed } : State).setVm s₂.vm := by
      have : s₂ = ({ s₂ with vm := (U.calling g mk a).vm } : State).setVm s₂.vm := rfl
      rw [e2] at this
      exact this
    obtain ⟨c₂, i₂, len₂, hc₂, hd₂, hf₂⟩ := hend
    have hW' : U.WarmedH s₂.vm := hW₂
    have hcc : c₂ = c := by
      have h1 : s₂.code? g.method = U.code? g.method := by
        rw [State.code?_eq, State.code?_eq, hW'.alike.method?]
      exact Option.some.inj (hc₂.symm.trans (h1.trans h.code))
    subst hcc
    have hlen : len₂ = len := by rw [hdg] at hd₂; cases hd₂; rfl
    subst hlen
    have hs₂ : s₂ = (({ U with heap := s₂.heap, slotsUsed := s₂.slotsUsed } : State).setVm s₂.vm).setTop { g with pc := g.pc + len₂, stack := v.toList ++ g.stack } := by
      refine e3.trans ?_
      rw [hf₂, State.calling_eq h.top, State.setFrames_setFrames, State.setTop_of_frames _ hr', hr]
      rfl
    have hsame : U.sameButNew ({ U with heap := s₂.heap, slotsUsed := s₂.slotsUsed } : State) L mc ms := by
      refine ⟨?_, q2, q3, q4, q5, q6⟩
      obtain ⟨t, ht, -⟩ := State.frames_cons hr
      show ({ U with heap := s₂.heap, slotsUsed := s₂.slotsUsed } : State) = { U.setFrames U.frames with heap := s₂.heap, slotsUsed := s₂.slotsUsed }
      rw [State.setFrames_self ht]
    subst hg
    refine Or.inl ⟨v, ⟨(({ U with heap := s₂.heap, slotsUsed := s₂.slotsUsed } : State).setVm s₂.vm), Ls ++ L, c0 + mc, s0 + ms⟩,
      ⟨X.admits, X.cas, X.clock, X.frames, X.room, X.hears, X.method, X.code, (X.here.setHeapUsed s₂.heap s₂.slotsUsed).setVm hW'.alike, X.tail, State.WarmedH.trans X.warmed hW', X.limits, X.bytes, X.same.trans (hsame.setVm s.vm)⟩,
      ⟨g, mk, s₂, L, rfl, rfl, hqc, rfl, hL, rfl, rfl⟩, ?_⟩
    show Steps p.tables e below _ ((({ U with heap := s₂.heap, slotsUsed := s₂.slotsUsed } : State).setVm s₂.vm).setTop { g with pc := g.pc + len₂, stack := v.toList ++ g.stack })
    rw [← hs₂]
    exact hsteps
  · obtain ⟨e2, q2, q3, q4, q5, q6⟩ := id hsm
    have e3 : s₂ = ({ (U.calling g mk a).setFrames s₂.frames with heap := s₂.heap, slotsUsed := s₂.slotsUsed } : State).setVm s₂.vm := by
      have : s₂ = ({ s₂ with vm := (U.calling g mk a).vm } : State).setVm s₂.vm := rfl
      rw [e2] at this
      exact this
    have hf₂ : s₂.frames = .throwing q :: .java g :: U.frames.tail := hend
    have hW' : U.WarmedH s₂.vm := hW₂
    have hs₂ : s₂ = ((({ U with heap := s₂.heap, slotsUsed := s₂.slotsUsed } : State).setVm s₂.vm).setTop g).pushFrame (.throwing q) := by
      refine e3.trans ?_
      rw [hf₂, State.calling_eq h.top, State.setFrames_setFrames, State.pushFrame, State.frames_setTop _ hr', State.setTop_of_frames _ hr', State.setFrames_setFrames, hr]
      rfl
    have hsame : U.sameButNew ({ U with heap := s₂.heap, slotsUsed := s₂.slotsUsed } : State) L mc ms := by
      refine ⟨?_, q2, q3, q4, q5, q6⟩
      obtain ⟨t, ht, -⟩ := State.frames_cons hr
      show ({ U with heap := s₂.heap, slotsUsed := s₂.slotsUsed } : State) = { U.setFrames U.frames with heap := s₂.heap, slotsUsed := s₂.slotsUsed }
      rw [State.setFrames_self ht]
    subst hg
    refine Or.inr ⟨q, ⟨(({ U with heap := s₂.heap, slotsUsed := s₂.slotsUsed } : State).setVm s₂.vm), Ls ++ L, c0 + mc, s0 + ms⟩,
      ⟨X.admits, X.cas, X.clock, X.frames, X.room, X.hears, X.method, X.code, (X.here.setHeapUsed s₂.heap s₂.slotsUsed).setVm hW'.alike, X.tail, State.WarmedH.trans X.warmed hW', X.limits, X.bytes, X.same.trans (hsame.setVm s.vm)⟩,
      ⟨g, mk, s₂, L, E, ce, rfl, rfl, hx, hce, hcv, hcl, rfl, hL, rfl, rfl⟩, ?_⟩
    show Steps p.tables e below _ (((({ U with heap := s₂.heap, slotsUsed := s₂.slotsUsed } : State).setVm s₂.vm).setTop g).pushFrame (.throwing q))
    rw [← hs₂]
    exact hsteps
end Payer
section Calls
variable {p : Program} {l : Launch} {e : Env} {R : Room} {s : State} {m : MethodId} {args : Array Value} {below : List Frame} {meth : Method} {c : Code} {T : State} {locs : List Loc} {cells slots : Nat}
theorem vx_callV (X : Stand p l e R s m args below meth c T locs cells slots) (hexec : p.tables.exec = Jvm.exec) {own C : String} {index : Nat} {y : MethodName} {bytes : ByteArray} {maxL : Nat} {ret : Option FieldType}
    (hown : s.vm.findClass own = some m.cls) (hlink : (Cond.methodLink own index y).before args s = true) (hinst : (Cond.instanceMethod y).before args s = true) (hsel : (Cond.selects C y y).before args s = true)
    (hcode : (Cond.code y bytes maxL ret).before args s = true) (hy : y.cls ≠ "java/lang/invoke/MethodHandle" ∧ y.cls ≠ "java/lang/invoke/VarHandle")
    {W9 : Nat} {Pre : Pt → Array Value → Prop} {Post : Pt → Array Value → Option Value → Pt → Prop} {PostX : Pt → Array Value → Addr → Pt → Prop} (hK : vx_Back l R p e below s args y 3 W9 Pre Post PostX)
    {b : Addr} {cellB : Cell} (hcell : T.heap[b]? = some cellB) (hobj : cellB.vm.isStatics = false) (hcls : s.vm.findClass C = some cellB.cls)
    {g : JFrame} (hg : g.method = m) (hsize : g.locals.size = c.maxLocals) {argsL rest : List Value} (hlen : ∀ sig, parseMethodDescriptor y.desc = some sig → argsL.length = sig.parameters.length)
    (hstack : g.stack = argsL.reverse ++ .ref b :: rest) (hW : 2 * g.monitorRoom + (rest.map fun v => v.category).sum ≤ W9) (hdg : decode c.code g.pc = .ok (.invokevirtual index, 3))
    (hpre : ∀ vm₁, s.WarmedH vm₁ → Pre ⟨T.setVm vm₁, locs, cells, slots⟩ (Value.ref b :: argsL).toArray) :
    (∃ (v : Option Value) (vm₁ : Vm) (B : Pt), s.WarmedH vm₁ ∧ Stand p l e R s m args below meth c B.U B.locs B.cells B.slots ∧ Post ⟨T.setVm vm₁, locs, cells, slots⟩ (Value.ref b :: argsL).toArray v B ∧
      ∀ target, Steps p.tables e below (B.U.setTop { g with pc := g.pc + 3, stack := v.toList ++ rest }) target → Steps p.tables e below (T.setTop g) target) ∨
    (∃ (q : Addr) (vm₁ : Vm) (B : Pt), s.WarmedH vm₁ ∧ Stand p l e R s m args below meth c B.U B.locs B.cells B.slots ∧ PostX ⟨T.setVm vm₁, locs, cells, slots⟩ (Value.ref b :: argsL).toArray q B ∧
      Steps p.tables e below (T.setTop g) ((B.U.setTop { g with stack := rest }).pushFrame (.throwing q))) := by
  obtain ⟨mk, methM, hnamed, hmethM, hstM, habM⟩ := Cond.instanceMethod_spec hinst
  obtain ⟨methM', cM, hmethM', -, -, -, -, -, -, hsigM⟩ := Cond.code_spec hnamed hcode
  cases hmethM.symm.trans hmethM'
  obtain ⟨c2, r2, m2, q1, q2, q3, q4, kP, hkP, hkPi⟩ := Cond.selects_spec hsel
  cases hcls.symm.trans q1
  cases (State.methodFound?_of_named hnamed hy).symm.trans q2
  cases hnamed.symm.trans q3
  have hselP : selectMethod e.platform s.vm cellB.cls mk = .method mk := by rw [Launch.admits_selectMethod X.admits]; exact q4
  obtain ⟨vm₁, X₁, hstep₁⟩ := X.invokevirtual hexec hown hlink hnamed hmethM hstM hkP hkPi hy (a := b) (cell := cellB) hcell
    (fun z h => by rw [h] at hobj; cases hobj) hselP hmethM habM hkP hkPi (g := g) hg (argsL := argsL) (rest := rest) (hlen _ hsigM) hstack hdg
  rcases hK m meth c ⟨T.setVm vm₁, locs, cells, slots⟩ { g with stack := rest } (.invokevirtual index) mk (Value.ref b :: argsL).toArray X₁ hg hsize hdg hW (X₁.named hnamed) (hpre vm₁ X₁.warmed) with ⟨v, B, X', hpost, hsteps⟩ | ⟨q, B, X', hpost, hsteps⟩
  · exact Or.inl ⟨v, vm₁, B, X₁.warmed, X', hpost, fun target h => hstep₁ _ fun acts => by rw [doInvoke_state]; exact hsteps.trans h⟩
  · exact Or.inr ⟨q, vm₁, B, X₁.warmed, X', hpost, hstep₁ _ fun acts => by rw [doInvoke_state]; exact hsteps⟩
theorem vx_callS (X : Stand p l e R s m args below meth c T locs cells slots) (hexec : p.tables.exec = Jvm.exec) {own : String} {index : Nat} {y : MethodName} {bytes : ByteArray} {maxL : Nat} {ret : Option FieldType}
    (hown : s.vm.findClass own = some m.cls) (hlink : (Cond.methodLink own index y).before args s = true) (hstat : (Cond.static y).before args s = true) (hinit : (Cond.initialized y.cls).before args s = true)
    (hcode : (Cond.code y bytes maxL ret).before args s = true) (hy : y.cls ≠ "java/lang/invoke/MethodHandle" ∧ y.cls ≠ "java/lang/invoke/VarHandle")
    {W9 : Nat} {Pre : Pt → Array Value → Prop} {Post : Pt → Array Value → Option Value → Pt → Prop} {PostX : Pt → Array Value → Addr → Pt → Prop} (hK : vx_Back l R p e below s args y 3 W9 Pre Post PostX)
    {g : JFrame} (hg : g.method = m) (hsize : g.locals.size = c.maxLocals) {argsL rest : List Value} (hlen : ∀ sig, parseMethodDescriptor y.desc = some sig → argsL.length = sig.parameters.length)
    (hstack : g.stack = argsL.reverse ++ rest) (hW : 2 * g.monitorRoom + (rest.map fun v => v.category).sum ≤ W9) (hdg : decode c.code g.pc = .ok (.invokestatic index, 3))
    (hpre : ∀ vm₁, s.WarmedH vm₁ → Pre ⟨T.setVm vm₁, locs, cells, slots⟩ argsL.toArray) :
    (∃ (v : Option Value) (vm₁ : Vm) (B : Pt), s.WarmedH vm₁ ∧ Stand p l e R s m args below meth c B.U B.locs B.cells B.slots ∧ Post ⟨T.setVm vm₁, locs, cells, slots⟩ argsL.toArray v B ∧
      ∀ target, Steps p.tables e below (B.U.setTop { g with pc := g.pc + 3, stack := v.toList ++ rest }) target → Steps p.tables e below (T.setTop g) target) ∨
    (∃ (q : Addr) (vm₁ : Vm) (B : Pt), s.WarmedH vm₁ ∧ Stand p l e R s m args below meth c B.U B.locs B.cells B.slots ∧ PostX ⟨T.setVm vm₁, locs, cells, slots⟩ argsL.toArray q B ∧
      Steps p.tables e below (T.setTop g) ((B.U.setTop { g with stack := rest }).pushFrame (.throwing q))) := by
  obtain ⟨mk, hnamed⟩ := Cond.code_named hcode
  obtain ⟨methM, cM, hmethM, -, -, -, -, -, -, hsigM⟩ := Cond.code_spec hnamed hcode
  have hstatic : methM.isStatic = true := Cond.static_spec hnamed hmethM hstat
  obtain ⟨kP, hkP, -⟩ := className_of_methodNamed hnamed
  have hinitP : kP.init = .initialized := Cond.initialized_spec (findClass_of_methodNamed hnamed) hkP hinit
  obtain ⟨vm₁, X₁, hstep₁⟩ := X.invokestatic hexec hown hlink hnamed hmethM hstatic hkP hinitP hy (g := g) hg (argsL := argsL) (rest := rest) (hlen _ hsigM) hstack hdg
  rcases hK m meth c ⟨T.setVm vm₁, locs, cells, slots⟩ { g with stack := rest } (.invokestatic index) mk argsL.toArray X₁ hg hsize hdg hW (X₁.named hnamed) (hpre vm₁ X₁.warmed) with ⟨v, B, X', hpost, hsteps⟩ | ⟨q, B, X', hpost, hsteps⟩
  · exact Or.inl ⟨v, vm₁, B, X₁.warmed, X', hpost, fun target h => hstep₁ _ fun acts => by rw [doInvoke_state]; exact hsteps.trans h⟩
  · exact Or.inr ⟨q, vm₁, B, X₁.warmed, X', hpost, hstep₁ _ fun acts => by rw [doInvoke_state]; exact hsteps⟩
end Calls
theorem vx_cls {s : State} {T : State} {vm₁ : Vm} {E : String} {k : ClassId} (hW : s.WarmedH vm₁) (h : (T.setVm vm₁).vm.findClass E = some k) : s.vm.findClass E = some k := by
  have h1 : vm₁.findClass E = some k := h
  rw [hW.alike.findClass] at h1
  exact h1
/-- the method's frame g, with q thrown over it -/
def vx_W (p : Program) (l : Launch) (e : Env) (R : Room) (s : State) (m : MethodId) (args : Array Value) (below : List Frame) (meth : Method) (c : Code) (H : Heap) (locs : List Loc) (cells slots : Nat) (Q : State → Prop) (g : JFrame) (q : Addr) : Prop :=
  ∀ T : State, T.heap = H → Stand p l e R s m args below meth c T locs cells slots → ∃ t, Steps p.tables e below ((T.setTop g).pushFrame (.throwing q)) t ∧ Q t
def vx_Run (p : Program) (l : Launch) (e : Env) (R : Room) (s : State) (m : MethodId) (args : Array Value) (below : List Frame) (meth : Method) (c : Code) (H : Heap) (locs : List Loc) (cells slots mc ms : Nat) (g : JFrame) (rest : List Value) (Qa : State → Outcome → State → Prop) (XC : String → State → State → Prop) (free : Addr → Prop) : Prop :=
  ∀ T : State, T.heap = H → Stand p l e R s m args below meth c T locs cells slots →
    (∃ (v : Option Value) (st₀ t T' : State) (L : List Loc), st₀.heap = H ∧ Stand p l e R s m args below meth c T' (locs ++ L) (cells + mc) (slots + ms) ∧ (∀ q ∈ L, free q.base) ∧ T'.heap = t.heap ∧ T'.vm = t.vm ∧ Qa st₀ (.returned v) t ∧
      Goes p e below T g T' { g with pc := g.pc + 3, stack := v.toList ++ rest }) ∨
    (∃ (q : Addr) (st₀ t T' : State) (L : List Loc) (E : String) (ce : Cell), st₀.heap = H ∧ Stand p l e R s m args below meth c T' (locs ++ L) (cells + mc) (slots + ms) ∧ (∀ z ∈ L, free z.base) ∧ T'.heap = t.heap ∧ T'.vm = t.vm ∧ XC E st₀ t ∧ t.heap[q]? = some ce ∧ ce.vm = .none ∧ s.vm.findClass E = some ce.cls ∧
      Steps p.tables e below (T.setTop g) ((T'.setTop { g with stack := rest }).pushFrame (.throwing q)))
def vx_X {S : Type} (px : S → Prop) (B : String → S → State → Prop) (A : Nat → Prop) : String → State → State → Prop := fun E st t => ∃ u : S, px u ∧ B E u t ∧ va_F A st t
section Runs
variable {p : Program} {l : Launch} {e : Env} {R : Room} {s : State} {m : MethodId} {args : Array Value} {below : List Frame} {meth : Method} {c : Code} {H : Heap} {locs : List Loc} {cells slots : Nat}
variable {y : MethodName} {bytes cc : ByteArray} {maxL nL mc ms n index : Nat} {ret : Option FieldType} {ws : List Cond} {rm : Room} {Pc : Array Value → State → Prop} {Qc : Array Value → State → Outcome → State → Prop} {XC : String → State → State → Prop} {free : Addr → Prop} {Ts : List Cond} {own C : String} {b : Addr} {As rest : List Value} {g : JFrame}
theorem vx_callBack (cb : CallB R s args own index y bytes maxL ret ws rm mc ms n) (hM : vx_Met l y ws rm Pc Qc XC mc ms free) (hbl : FrameBlind Pc) : vx_Back l R p e below s args y 3 8 (PreOf R mc ms Pc) (PostOf Qc mc ms free) (vx_Post XC mc ms free) := by
  obtain ⟨hrc, hrs, hfr, hlo, hws, hcw, -, hini, -⟩ := cb
  exact vx_back (bytes := bytes) (maxL := maxL) (ret := ret) hM hbl hrc hrs hfr hlo hws hcw (fun a' U hW => word_at hW (Or.inl (by first | rfl | simp [Cond.onTables, Cond.keeps, Cond.steady])) hini)
theorem vx_runV (S : CallFix p m c cc nL s args Ts own) (hM : vx_Met l y ws rm Pc Qc XC mc ms free) (cw : CallW R s args own C index y bytes maxL ret ws rm mc ms n) (hp : PreV s H C b Pc As)
    (hg : g.method = m) (hn : As.length = n) (hsize : g.locals.size = nL) (hstack : g.stack = As.reverse ++ .ref b :: rest) (hW : 2 * g.monitorRoom + (rest.map fun v => v.category).sum ≤ 8) (hdg : decode cc g.pc = .ok (.invokevirtual index, 3)) (hf : cells + mc ≤ R.cells ∧ slots + ms ≤ R.slots) :
    vx_Run p l e R s m args below meth c H locs cells slots mc ms g rest (Qc (Value.ref b :: As).toArray) XC free := by
  have hK : vx_Back l R p e below s args y 3 8 (PreOf R mc ms Pc) (PostOf Qc mc ms free) (vx_Post XC mc ms free) := vx_callBack cw.1 hM hp.1
  obtain ⟨⟨-, -, -, -, -, -, hcode, -, hy, hlen, hl⟩, hin, hse⟩ := cw
  obtain ⟨hx, hb, hml, ho, -⟩ := S
  obtain ⟨-, ⟨cellB, hcB, hoB, hclB⟩, hPc⟩ := hp
  intro T hT X
  rcases vx_callV X hx (C := C) (bytes := bytes) (maxL := maxL) (ret := ret) ho hl hin hse hcode hy hK (by rw [hT]; exact hcB) hoB hclB hg (hsize.trans hml.symm) (argsL := As) (rest := rest) (fun sig h => hn.trans (hlen sig h)) hstack hW (by rw [hb]; exact hdg)
    (fun vm₁ hW₁ => ⟨hf.1, hf.2, hPc (T.setVm vm₁) hT hW₁⟩) with ⟨v, vm₁, ⟨U', l2, c2, s2⟩, hW₁, X', ⟨g', mk, t, L, e1, e2, hq, h1, hL, h2, h3⟩, st⟩ | ⟨q, vm₁, ⟨U', l2, c2, s2⟩, hW₁, X', ⟨g', mk, t, L, E, ce, e1, e2, hq, hce, hcv, hcl, h1, hL, h2, h3⟩, st⟩
  · dsimp only [Pt.U, Pt.locs, Pt.cells, Pt.slots] at X' e1 e2 h1 h2 h3 st
    subst h1; subst h2; subst h3
    exact Or.inl ⟨v, (T.setVm vm₁).calling g' mk (Value.ref b :: As).toArray, t, U', L, hT, X', hL, e1, e2, hq, st⟩
  · dsimp only [Pt.U, Pt.locs, Pt.cells, Pt.slots] at X' e1 e2 h1 h2 h3 st hcl
    subst h1; subst h2; subst h3
    exact Or.inr ⟨q, (T.setVm vm₁).calling g' mk (Value.ref b :: As).toArray, t, U', L, E, ce, hT, X', hL, e1, e2, hq, hce, hcv, vx_cls hW₁ hcl, st⟩
theorem vx_runS (S : CallFix p m c cc nL s args Ts own) (hM : vx_Met l y ws rm Pc Qc XC mc ms free) (cw : CallB R s args own index y bytes maxL ret ws rm mc ms n ∧ (Cond.static y).before args s = true) (hp : PreS s H Pc As)
    (hg : g.method = m) (hn : As.length = n) (hsize : g.locals.size = nL) (hstack : g.stack = As.reverse ++ rest) (hW : 2 * g.monitorRoom + (rest.map fun v => v.category).sum ≤ 8) (hdg : decode cc g.pc = .ok (.invokestatic index, 3)) (hf : cells + mc ≤ R.cells ∧ slots + ms ≤ R.slots) :
    vx_Run p l e R s m args below meth c H locs cells slots mc ms g rest (Qc As.toArray) XC free := by
  have hK : vx_Back l R p e below s args y 3 8 (PreOf R mc ms Pc) (PostOf Qc mc ms free) (vx_Post XC mc ms free) := vx_callBack cw.1 hM hp.1
  obtain ⟨⟨-, -, -, -, -, -, hcode, hini, hy, hlen, hl⟩, hstt⟩ := cw
  obtain ⟨hx, hb, hml, ho, -⟩ := S
  intro T hT X
  rcases vx_callS X hx (bytes := bytes) (maxL := maxL) (ret := ret) ho hl hstt hini hcode hy hK hg (hsize.trans hml.symm) (argsL := As) (rest := rest) (fun sig h => hn.trans (hlen sig h)) hstack hW (by rw [hb]; exact hdg)
    (fun vm₁ hW₁ => ⟨hf.1, hf.2, hp.2 (T.setVm vm₁) hT hW₁⟩) with ⟨v, vm₁, ⟨U', l2, c2, s2⟩, hW₁, X', ⟨g', mk, t, L, e1, e2, hq, h1, hL, h2, h3⟩, st⟩ | ⟨q, vm₁, ⟨U', l2, c2, s2⟩, hW₁, X', ⟨g', mk, t, L, E, ce, e1, e2, hq, hce, hcv, hcl, h1, hL, h2, h3⟩, st⟩
  · dsimp only [Pt.U, Pt.locs, Pt.cells, Pt.slots] at X' e1 e2 h1 h2 h3 st
    subst h1; subst h2; subst h3
    exact Or.inl ⟨v, (T.setVm vm₁).calling g' mk As.toArray, t, U', L, hT, X', hL, e1, e2, hq, st⟩
  · dsimp only [Pt.U, Pt.locs, Pt.cells, Pt.slots] at X' e1 e2 h1 h2 h3 st hcl
    subst h1; subst h2; subst h3
    exact Or.inr ⟨q, (T.setVm vm₁).calling g' mk As.toArray, t, U', L, E, ce, hT, X', hL, e1, e2, hq, hce, hcv, vx_cls hW₁ hcl, st⟩
end Runs
section Rows
variable {p : Program} {l : Launch} {e : Env} {R : Room} {s : State} {m : MethodId} {args : Array Value} {below : List Frame} {meth : Method} {c : Code} {H : Heap} {locs : List Loc} {cells slots : Nat} {Q : State → Prop}
variable {mc ms : Nat} {free : Addr → Prop} {A0 A1 : Nat → Prop} {H0 : Heap} {a : Array Value} {pc : Nat} {ls : Array Slot} {st0 rest : List Value}
theorem vx_keep {st₀ t T' : State} {L : List Loc} (h0 : st₀.heap = H) (e1 : T'.heap = t.heap) (hS : va_S A0 H0 H locs) (hA : ∀ q, q < H.size → A1 q → A0 q) (hf : ∀ q, free q → A0 q) (hL : ∀ q ∈ L, free q.base) (hF : va_F A1 st₀ t) :
    H.size ≤ T'.heap.size ∧ (∀ q : Nat, q < H.size → ¬ A1 q → T'.heap[q]? = H[q]?) ∧ va_S A0 H0 T'.heap (locs ++ L) := by
  obtain ⟨hz, hk⟩ := hF
  rw [h0] at hz hk
  exact ⟨by rw [e1]; exact hz, fun q h1 h2 => by rw [e1]; exact hk q h1 h2,
    ⟨Nat.le_trans hS.1 (by rw [e1]; exact hz), fun q h1 h2 => by rw [e1, hk q (Nat.lt_of_lt_of_le h1 hS.1) (fun z => h2 (hA q (Nat.lt_of_lt_of_le h1 hS.1) z))]; exact hS.2.1 q h1 h2, fun q hq => by
      rcases List.mem_append.mp hq with h | h
      · exact hS.2.2 q h
      · exact hf _ (hL q h)⟩⟩
theorem vx_calli {S SX : Type} {post : Int32 → S → Prop} {px : SX → Prop} {B : S → State → Prop} {BX : String → SX → State → Prop} {AX : Nat → Prop} (hr : vx_Run p l e R s m args below meth c H locs cells slots mc ms (F0 m pc ls st0) rest (va_Qi post B A1 a) (vx_X px BX AX) free) (hS : va_S A0 H0 H locs) (hA : ∀ q, q < H.size → A1 q → A0 q) (hf : ∀ q, free q → A0 q) (hAX : ∀ q, q < H.size → AX q → A0 q)
    (kx : ∀ (E : String) (ce : Cell) (q9 : Addr) (u : SX) (t : State) (H1 : Heap) (locs1 : List Loc), t.heap = H1 → s.vm.Alike t.vm → px u → BX E u t → H.size ≤ H1.size → (∀ q : Nat, q < H.size → ¬ AX q → H1[q]? = H[q]?) → va_S A0 H0 H1 locs1 → H1[q9]? = some ce → ce.vm = .none → s.vm.findClass E = some ce.cls → vx_W p l e R s m args below meth c H1 locs1 (cells + mc) (slots + ms) Q (F0 m pc ls rest) q9)
    (kk : ∀ (r : Int32) (u : S) (t : State) (H1 : Heap) (locs1 : List Loc), t.heap = H1 → s.vm.Alike t.vm → post r u → B u t → H.size ≤ H1.size → (∀ q : Nat, q < H.size → ¬ A1 q → H1[q]? = H[q]?) → va_S A0 H0 H1 locs1 → W p l e R s m args below meth c H1 locs1 (cells + mc) (slots + ms) Q (F0 m (pc + 3) ls (.int r :: rest))) : W p l e R s m args below meth c H locs cells slots Q (F0 m pc ls st0) := by
  intro T hT X
  rcases hr T hT X with ⟨v, st₀, t, T', L, h0, X', hL, e1, e2, ⟨⟨r, u, hv, hp, hb⟩, hF⟩, st⟩ | ⟨q, st₀, t, T', L, E, ce, h0, X', hL, e1, e2, ⟨u, hp, hb, hF⟩, hce, hcv, hcl, st⟩
  · cases hv
    obtain ⟨k1, k2, k3⟩ := vx_keep h0 e1 hS hA hf hL hF
    obtain ⟨t2, a1, b1⟩ := kk r u t T'.heap (locs ++ L) e1.symm (by rw [← e2]; exact X'.warmed.alike) hp hb k1 k2 k3 T' rfl X'
    exact ⟨t2, st t2 a1, b1⟩
  · obtain ⟨k1, k2, k3⟩ := vx_keep h0 e1 hS hAX hf hL hF
    obtain ⟨t2, a1, b1⟩ := kx E ce q u t T'.heap (locs ++ L) e1.symm (by rw [← e2]; exact X'.warmed.alike) hp hb k1 k2 k3 (by rw [e1]; exact hce) hcv hcl T' rfl X'
    exact ⟨t2, st.trans a1, b1⟩
theorem vx_calll {S SX : Type} {post : Int64 → S → Prop} {px : SX → Prop} {B : S → State → Prop} {BX : String → SX → State → Prop} {AX : Nat → Prop} (hr : vx_Run p l e R s m args below meth c H locs cells slots mc ms (F0 m pc ls st0) rest (va_Ql post B A1 a) (vx_X px BX AX) free) (hS : va_S A0 H0 H locs) (hA : ∀ q, q < H.size → A1 q → A0 q) (hf : ∀ q, free q → A0 q) (hAX : ∀ q, q < H.size → AX q → A0 q)
    (kx : ∀ (E : String) (ce : Cell) (q9 : Addr) (u : SX) (t : State) (H1 : Heap) (locs1 : List Loc), t.heap = H1 → s.vm.Alike t.vm → px u → BX E u t → H.size ≤ H1.size → (∀ q : Nat, q < H.size → ¬ AX q → H1[q]? = H[q]?) → va_S A0 H0 H1 locs1 → H1[q9]? = some ce → ce.vm = .none → s.vm.findClass E = some ce.cls → vx_W p l e R s m args below meth c H1 locs1 (cells + mc) (slots + ms) Q (F0 m pc ls rest) q9)
    (kk : ∀ (r : Int64) (u : S) (t : State) (H1 : Heap) (locs1 : List Loc), t.heap = H1 → s.vm.Alike t.vm → post r u → B u t → H.size ≤ H1.size → (∀ q : Nat, q < H.size → ¬ A1 q → H1[q]? = H[q]?) → va_S A0 H0 H1 locs1 → W p l e R s m args below meth c H1 locs1 (cells + mc) (slots + ms) Q (F0 m (pc + 3) ls (.long r :: rest))) : W p l e R s m args below meth c H locs cells slots Q (F0 m pc ls st0) := by
  intro T hT X
  rcases hr T hT X with ⟨v, st₀, t, T', L, h0, X', hL, e1, e2, ⟨⟨r, u, hv, hp, hb⟩, hF⟩, st⟩ | ⟨q, st₀, t, T', L, E, ce, h0, X', hL, e1, e2, ⟨u, hp, hb, hF⟩, hce, hcv, hcl, st⟩
  · cases hv
    obtain ⟨k1, k2, k3⟩ := vx_keep h0 e1 hS hA hf hL hF
    obtain ⟨t2, a1, b1⟩ := kk r u t T'.heap (locs ++ L) e1.symm (by rw [← e2]; exact X'.warmed.alike) hp hb k1 k2 k3 T' rfl X'
    exact ⟨t2, st t2 a1, b1⟩
  · obtain ⟨k1, k2, k3⟩ := vx_keep h0 e1 hS hAX hf hL hF
    obtain ⟨t2, a1, b1⟩ := kx E ce q u t T'.heap (locs ++ L) e1.symm (by rw [← e2]; exact X'.warmed.alike) hp hb k1 k2 k3 (by rw [e1]; exact hce) hcv hcl T' rfl X'
    exact ⟨t2, st.trans a1, b1⟩
theorem vx_callf {S SX : Type} {post : UInt32 → S → Prop} {px : SX → Prop} {B : S → State → Prop} {BX : String → SX → State → Prop} {AX : Nat → Prop} (hr : vx_Run p l e R s m args below meth c H locs cells slots mc ms (F0 m pc ls st0) rest (va_Qf post B A1 a) (vx_X px BX AX) free) (hS : va_S A0 H0 H locs) (hA : ∀ q, q < H.size → A1 q → A0 q) (hf : ∀ q, free q → A0 q) (hAX : ∀ q, q < H.size → AX q → A0 q)
    (kx : ∀ (E : String) (ce : Cell) (q9 : Addr) (u : SX) (t : State) (H1 : Heap) (locs1 : List Loc), t.heap = H1 → s.vm.Alike t.vm → px u → BX E u t → H.size ≤ H1.size → (∀ q : Nat, q < H.size → ¬ AX q → H1[q]? = H[q]?) → va_S A0 H0 H1 locs1 → H1[q9]? = some ce → ce.vm = .none → s.vm.findClass E = some ce.cls → vx_W p l e R s m args below meth c H1 locs1 (cells + mc) (slots + ms) Q (F0 m pc ls rest) q9)
    (kk : ∀ (r : UInt32) (u : S) (t : State) (H1 : Heap) (locs1 : List Loc), t.heap = H1 → s.vm.Alike t.vm → post r u → B u t → H.size ≤ H1.size → (∀ q : Nat, q < H.size → ¬ A1 q → H1[q]? = H[q]?) → va_S A0 H0 H1 locs1 → W p l e R s m args below meth c H1 locs1 (cells + mc) (slots + ms) Q (F0 m (pc + 3) ls (.float r :: rest))) : W p l e R s m args below meth c H locs cells slots Q (F0 m pc ls st0) := by
  intro T hT X
  rcases hr T hT X with ⟨v, st₀, t, T', L, h0, X', hL, e1, e2, ⟨⟨r, u, hv, hp, hb⟩, hF⟩, st⟩ | ⟨q, st₀, t, T', L, E, ce, h0, X', hL, e1, e2, ⟨u, hp, hb, hF⟩, hce, hcv, hcl, st⟩
  · cases hv
    obtain ⟨k1, k2, k3⟩ := vx_keep h0 e1 hS hA hf hL hF
    obtain ⟨t2, a1, b1⟩ := kk r u t T'.heap (locs ++ L) e1.symm (by rw [← e2]; exact X'.warmed.alike) hp hb k1 k2 k3 T' rfl X'
    exact ⟨t2, st t2 a1, b1⟩
  · obtain ⟨k1, k2, k3⟩ := vx_keep h0 e1 hS hAX hf hL hF
    obtain ⟨t2, a1, b1⟩ := kx E ce q u t T'.heap (locs ++ L) e1.symm (by rw [← e2]; exact X'.warmed.alike) hp hb k1 k2 k3 (by rw [e1]; exact hce) hcv hcl T' rfl X'
    exact ⟨t2, st.trans a1, b1⟩
theorem vx_calld {S SX : Type} {post : UInt64 → S → Prop} {px : SX → Prop} {B : S → State → Prop} {BX : String → SX → State → Prop} {AX : Nat → Prop} (hr : vx_Run p l e R s m args below meth c H locs cells slots mc ms (F0 m pc ls st0) rest (va_Qd post B A1 a) (vx_X px BX AX) free) (hS : va_S A0 H0 H locs) (hA : ∀ q, q < H.size → A1 q → A0 q) (hf : ∀ q, free q → A0 q) (hAX : ∀ q, q < H.size → AX q → A0 q)
    (kx : ∀ (E : String) (ce : Cell) (q9 : Addr) (u : SX) (t : State) (H1 : Heap) (locs1 : List Loc), t.heap = H1 → s.vm.Alike t.vm → px u → BX E u t → H.size ≤ H1.size → (∀ q : Nat, q < H.size → ¬ AX q → H1[q]? = H[q]?) → va_S A0 H0 H1 locs1 → H1[q9]? = some ce → ce.vm = .none → s.vm.findClass E = some ce.cls → vx_W p l e R s m args below meth c H1 locs1 (cells + mc) (slots + ms) Q (F0 m pc ls rest) q9)
    (kk : ∀ (r : UInt64) (u : S) (t : State) (H1 : Heap) (locs1 : List Loc), t.heap = H1 → s.vm.Alike t.vm → post r u → B u t → H.size ≤ H1.size → (∀ q : Nat, q < H.size → ¬ A1 q → H1[q]? = H[q]?) → va_S A0 H0 H1 locs1 → W p l e R s m args below meth c H1 locs1 (cells + mc) (slots + ms) Q (F0 m (pc + 3) ls (.double r :: rest))) : W p l e R s m args below meth c H locs cells slots Q (F0 m pc ls st0) := by
  intro T hT X
  rcases hr T hT X with ⟨v, st₀, t, T', L, h0, X', hL, e1, e2, ⟨⟨r, u, hv, hp, hb⟩, hF⟩, st⟩ | ⟨q, st₀, t, T', L, E, ce, h0, X', hL, e1, e2, ⟨u, hp, hb, hF⟩, hce, hcv, hcl, st⟩
  · cases hv
    obtain ⟨k1, k2, k3⟩ := vx_keep h0 e1 hS hA hf hL hF
    obtain ⟨t2, a1, b1⟩ := kk r u t T'.heap (locs ++ L) e1.symm (by rw [← e2]; exact X'.warmed.alike) hp hb k1 k2 k3 T' rfl X'
    exact ⟨t2, st t2 a1, b1⟩
  · obtain ⟨k1, k2, k3⟩ := vx_keep h0 e1 hS hAX hf hL hF
    obtain ⟨t2, a1, b1⟩ := kx E ce q u t T'.heap (locs ++ L) e1.symm (by rw [← e2]; exact X'.warmed.alike) hp hb k1 k2 k3 (by rw [e1]; exact hce) hcv hcl T' rfl X'
    exact ⟨t2, st.trans a1, b1⟩
theorem vx_callv {S SX : Type} {post : S → Prop} {px : SX → Prop} {B : S → State → Prop} {BX : String → SX → State → Prop} {AX : Nat → Prop} (hr : vx_Run p l e R s m args below meth c H locs cells slots mc ms (F0 m pc ls st0) rest (va_Qv post B A1 a) (vx_X px BX AX) free) (hS : va_S A0 H0 H locs) (hA : ∀ q, q < H.size → A1 q → A0 q) (hf : ∀ q, free q → A0 q) (hAX : ∀ q, q < H.size → AX q → A0 q)
    (kx : ∀ (E : String) (ce : Cell) (q9 : Addr) (u : SX) (t : State) (H1 : Heap) (locs1 : List Loc), t.heap = H1 → s.vm.Alike t.vm → px u → BX E u t → H.size ≤ H1.size → (∀ q : Nat, q < H.size → ¬ AX q → H1[q]? = H[q]?) → va_S A0 H0 H1 locs1 → H1[q9]? = some ce → ce.vm = .none → s.vm.findClass E = some ce.cls → vx_W p l e R s m args below meth c H1 locs1 (cells + mc) (slots + ms) Q (F0 m pc ls rest) q9)
    (kk : ∀ (u : S) (t : State) (H1 : Heap) (locs1 : List Loc), t.heap = H1 → s.vm.Alike t.vm → post u → B u t → H.size ≤ H1.size → (∀ q : Nat, q < H.size → ¬ A1 q → H1[q]? = H[q]?) → va_S A0 H0 H1 locs1 → W p l e R s m args below meth c H1 locs1 (cells + mc) (slots + ms) Q (F0 m (pc + 3) ls (rest))) : W p l e R s m args below meth c H locs cells slots Q (F0 m pc ls st0) := by
  intro T hT X
  rcases hr T hT X with ⟨v, st₀, t, T', L, h0, X', hL, e1, e2, ⟨⟨u, hv, hp, hb⟩, hF⟩, st⟩ | ⟨q, st₀, t, T', L, E, ce, h0, X', hL, e1, e2, ⟨u, hp, hb, hF⟩, hce, hcv, hcl, st⟩
  · cases hv
    obtain ⟨k1, k2, k3⟩ := vx_keep h0 e1 hS hA hf hL hF
    obtain ⟨t2, a1, b1⟩ := kk u t T'.heap (locs ++ L) e1.symm (by rw [← e2]; exact X'.warmed.alike) hp hb k1 k2 k3 T' rfl X'
    exact ⟨t2, st t2 a1, b1⟩
  · obtain ⟨k1, k2, k3⟩ := vx_keep h0 e1 hS hAX hf hL hF
    obtain ⟨t2, a1, b1⟩ := kx E ce q u t T'.heap (locs ++ L) e1.symm (by rw [← e2]; exact X'.warmed.alike) hp hb k1 k2 k3 (by rw [e1]; exact hce) hcv hcl T' rfl X'
    exact ⟨t2, st.trans a1, b1⟩
/-- caught by the row x of this method's table; the rows ahead don't take it -/
theorem vx_catch {own name : String} {E : String} {ce : Cell} {q : Addr} (hown : s.vm.findClass own = some m.cls) (pre : List ExceptionTableEntry) (x : ExceptionTableEntry) (suf : List ExceptionTableEntry) (hsplit : c.exceptionTable.toList = pre ++ x :: suf)
    (hpass : ∀ z ∈ pre, covers z pc = false ∨ (z.catchType ≠ 0 ∧ ∃ nm : String, (Cond.classLink own z.catchType nm).before args s = true ∧ va_Nc E nm s)) (hx : covers x pc = true) (h0 : x.catchType ≠ 0)
    (hlink : (Cond.classLink own x.catchType name).before args s = true) (hcast : (Cond.castable E name).before args s = true) (hcell : H[q]? = some ce) (hv : ce.vm = .none) (hcl : s.vm.findClass E = some ce.cls)
    (kk : W p l e R s m args below meth c H locs cells slots Q (F0 m x.handlerPc ls [.ref q])) : vx_W p l e R s m args below meth c H locs cells slots Q (F0 m pc ls rest) q := by
  intro T hT X
  have hpl : e.platform.magicAccessors = ({} : Platform).magicAccessors := by rw [X.admits.platform]
  obtain ⟨c3, c4, hc3, hc4, hasg⟩ := Cond.castable_spec hcast
  cases Option.some.inj (hc3.symm.trans hcl)
  obtain ⟨c5, hc5, hcl5⟩ := Cond.classLink_spec hown hlink e.platform hpl
  cases Option.some.inj (hc4.symm.trans hc5)
  obtain ⟨vm', X', st⟩ := X.thenCaughtThrough q (g := F0 m pc ls rest) rfl (Steps.refl _) (by rw [hT]; exact hcell) (by rw [hv]; rfl) (by obtain ⟨k9, h9, -⟩ := Vm.findClass_spec hcl; exact ⟨k9, h9⟩) pre x suf hsplit
    (fun z hz => by
      rcases hpass z hz with h | ⟨hz0, nm, hl1, hn1⟩
      · exact Or.inl h
      · obtain ⟨c6, hc6, hcl6⟩ := Cond.classLink_spec hown hl1 e.platform hpl
        obtain ⟨a8, b8, h1, h2, h3⟩ := hn1
        cases Option.some.inj (h1.symm.trans hcl)
        cases Option.some.inj (h2.symm.trans hc6)
        exact Or.inr ⟨hz0, _, hcl6, h3⟩) hx (Or.inr ⟨h0, c4, hcl5, hasg⟩)
  obtain ⟨t, a1, b1⟩ := kk (T.setVm vm') hT X'
  exact ⟨t, st.trans a1, b1⟩
end Rows
section Ends
variable {p : Program} {l : Launch} {e : Env} {R : Room} {s : State} {m : MethodId} {args : Array Value} {below : List Frame} {meth : Method} {c : Code} {H : Heap} {locs : List Loc} {cells slots : Nat} {Q : State → Prop}
variable {mc ms : Nat} {free : Addr → Prop} {A0 A1 : Nat → Prop} {H0 : Heap} {a : Array Value} {ls : Array Slot} {st0 rest : List Value}
variable {Qc : Array Value → State → Outcome → State → Prop} {XC : String → State → State → Prop}
/-- what a body that may throw owes at its end -/
def vx_MQ (below : List Frame) (Qc : Array Value → State → Outcome → State → Prop) (XC : String → State → State → Prop) (a : Array Value) (s : State) (mc ms : Nat) (free : Addr → Prop) : State → Prop := fun t =>
  ∃ o, t.status = .running ∧ Ended t below o ∧ vx_Q Qc XC mc ms free a s o t
theorem vx_ret {g : JFrame} {mc ms : Nat} (k : W p l e R s m args below meth c H locs cells slots (MQ below Qc args s mc ms free) g) : W p l e R s m args below meth c H locs cells slots (vx_MQ below Qc XC args s mc ms free) g := by
  intro T hT X
  obtain ⟨t, a1, o, b1, b2, b3, b4⟩ := k T hT X
  exact ⟨t, a1, o, b1, b2, Or.inl ⟨b3, b4⟩⟩
/-- not caught here: it goes on to the caller -/
theorem vx_widen {g : JFrame} {q : Addr} {k n : Nat} (h1 : cells ≤ k) (h2 : slots ≤ n) (kk : vx_W p l e R s m args below meth c H locs k n Q g q) : vx_W p l e R s m args below meth c H locs cells slots Q g q := fun T hT X => kk T hT (stand_widen X h1 h2)
theorem vx_out {pc : Nat} {E : String} {ce : Cell} {q : Addr} {mc ms : Nat} (hout : ∀ x ∈ c.exceptionTable.toList, covers x pc = false) (hlocks : meth.locks = false) (hcell : H[q]? = some ce) (hv : ce.vm = .none) (hcl : s.vm.findClass E = some ce.cls)
    (hx : ∀ t : State, t.heap = H → s.vm.Alike t.vm → XC E s t) (hf : ∀ z ∈ locs, free z.base) (hc : cells ≤ mc) (hs : slots ≤ ms) :
    vx_W p l e R s m args below meth c H locs cells slots (vx_MQ below Qc XC args s mc ms free) (F0 m pc ls rest) q := by
  intro T hT X
  obtain ⟨st1, hrun, hend, hW, hsm⟩ := X.leaveThrown q (g := F0 m pc ls rest) rfl rfl rfl hout hlocks
  have hcell9 : (T.setFrames (.throwing q :: below)).heap[q]? = some ce := by
    show T.heap[q]? = some ce
    rw [hT]; exact hcell
  exact ⟨_, st1, .threw q, hrun, hend, Or.inr ⟨q, rfl, E, ce, locs, hx _ hT hW.alike, hcell9, hv, hcl, hW, hsm.mono hc hs, hf⟩⟩
theorem vx_frame {U : State} {k n : Nat} (h : s.sameButNew ({ U with vm := s.vm } : State) locs k n) : s.heap.size ≤ U.heap.size ∧ ∀ q : Nat, q < s.heap.size → (∀ z ∈ locs, z.base ≠ q) → U.heap[q]? = s.heap[q]? := by
  obtain ⟨-, h2, -, -, -, h6⟩ := h
  refine ⟨h2, fun q hq hz => ?_⟩
  obtain ⟨c9, e1, e2, e3, e4⟩ := h6 q _ (Array.getElem?_eq_getElem hq)
  have hs : c9.slots = (s.heap[q]).slots := Array.ext_getElem? fun i => e4 i fun hm => hz _ hm rfl
  have h9 : c9 = s.heap[q] := by
    rw [hs] at e2
    exact e2
  have e5 : U.heap[q]? = some c9 := e1
  rw [e5, h9, Array.getElem?_eq_getElem hq]
/-- the words of a throw but the four that speak of the heap -/
def vx_no (w : Cond) : Bool := decide (w ≠ .isRef (.static Bundle.tN "UNASSIGNED_STACK" Bundle.steD)) && decide (w ≠ .isRef (.static Bundle.tN "SUPPRESSED_SENTINEL" Bundle.listD)) && decide (w ≠ .laysStatic Bundle.tN "UNASSIGNED_STACK" Bundle.steD) && decide (w ≠ .laysStatic Bundle.tN "SUPPRESSED_SENTINEL" Bundle.listD)
def vx_at0 (own : String) (ic : Nat) (X : String) (names : List String) : List Cond := (Bundle.ownAtoms0 own ic X names).filter vx_no
def vx_atS (own : String) (ic : Nat) (X : String) (names : List String) : List Cond := (Bundle.ownAtoms own ic X names).filter vx_no
/-- a word that the tables alone decide, or a good one -/
def vx_ot (w : Cond) : Bool := w.onTables || goodWord w
theorem vx_ot_at {args a' : Array Value} {s U : State} {w : Cond} (hW : s.WarmedH U.vm) (hvm : s.vm = U.vm) (hg : vx_ot w = true) (h : w.before args s = true) : w.before a' U = true := by
  simp only [vx_ot, Bool.or_eq_true] at hg
  rcases hg with hg | hg
  · exact va_tabs hg hvm h
  · exact word_at hW (good_of_word hg) h
/-- a list's words: the good ones out of the method's own list, the others by premises of their own -/
theorem vx_hat {args : Array Value} {s : State} {L B : List Cond} (h1 : ∀ w ∈ L.filter goodWord, w.before args s = true) (h2 : ∀ w ∈ L.filter (fun w => !goodWord w), w ∈ B) (h3 : ∀ w ∈ B, w.before args s = true) : ∀ w ∈ L, w.before args s = true := by
  intro w hw
  by_cases g : goodWord w = true
  · exact h1 w (List.mem_filter.mpr ⟨hw, g⟩)
  · refine h3 w (h2 w (List.mem_filter.mpr ⟨hw, ?_⟩))
    show (!goodWord w) = true
    cases hgw : goodWord w
    · rfl
    · exact absurd hgw g
theorem vx_c {args : Array Value} {s : State} {w : Cond} {B : List Cond} (h : w.before args s = true) (t : ∀ w ∈ B, w.before args s = true) : ∀ w' ∈ w :: B, w'.before args s = true := fun w' h' => (List.mem_cons.mp h').elim (fun e => by rw [e]; exact h) (t w')
theorem vx_n {args : Array Value} {s : State} : ∀ w ∈ ([] : List Cond), w.before args s = true := fun _ h => nomatch h
theorem vx_own {args : Array Value} {s : State} {L : List Cond} (h1 : ∀ w ∈ L.filter vx_no, w.before args s = true)
    (hU : (Cond.isRef (.static Bundle.tN "UNASSIGNED_STACK" Bundle.steD)).before args s = true) (hN : (Cond.isRef (.static Bundle.tN "SUPPRESSED_SENTINEL" Bundle.listD)).before args s = true)
    (lU : (Cond.laysStatic Bundle.tN "UNASSIGNED_STACK" Bundle.steD).before args s = true) (lN : (Cond.laysStatic Bundle.tN "SUPPRESSED_SENTINEL" Bundle.listD).before args s = true) : ∀ w ∈ L, w.before args s = true := by
  intro w hw
  by_cases e1 : w = .isRef (.static Bundle.tN "UNASSIGNED_STACK" Bundle.steD)
  · rw [e1]; exact hU
  · by_cases e2 : w = .isRef (.static Bundle.tN "SUPPRESSED_SENTINEL" Bundle.listD)
    · rw [e2]; exact hN
    · by_cases e3 : w = .laysStatic Bundle.tN "UNASSIGNED_STACK" Bundle.steD
      · rw [e3]; exact lU
      · by_cases e4 : w = .laysStatic Bundle.tN "SUPPRESSED_SENTINEL" Bundle.listD
        · rw [e4]; exact lN
        · exact h1 w (List.mem_filter.mpr ⟨hw, by unfold vx_no; rw [decide_eq_true e1, decide_eq_true e2, decide_eq_true e3, decide_eq_true e4]; rfl⟩)
/-- where a static field lies, its class's statics cell in H -/
def vx_L (C n d : String) (A : Nat → Prop) (U : State) (H : Heap) : Prop := ∃ (c : ClassId) (k : Class) (i : Nat) (f : Field) (a : Nat) (cell : Cell), U.vm.findClass C = some c ∧ U.fieldFound? C n d = some (c, k, i, f) ∧ f.isStatic = true ∧ k.statics = some a ∧ H[a]? = some cell ∧ cell.vm.isStatics = true ∧ cell.cls = c ∧ f.slot < cell.slots.size ∧ k.staticTypes[f.slot]? = some f.type ∧ ¬ A a
theorem vx_L.moved {C n d : String} {A : Nat → Prop} {u U : State} {H : Heap} (hvm : u.vm.Alike U.vm) (h : vx_L C n d A u H) : vx_L C n d A U H := by
  obtain ⟨c, k, i, f, a, cell, h1, h2, h3, h4, h5, h6, h7, h8, h9, h10⟩ := h
  obtain ⟨k', hi', he⟩ := State.fieldFound?_setVm hvm h2
  exact ⟨c, k', i, f, a, cell, by rw [hvm.findClass]; exact h1, hi', h3, by rw [he]; exact h4, h5, h6, h7, h8, by rw [he]; exact h9, h10⟩
theorem vx_L.kept {C n d : String} {A : Nat → Prop} {U : State} {H H1 : Heap} (h : vx_L C n d A U H) (hq : ∀ a : Nat, a < H.size → ¬ A a → H1[a]? = H[a]?) : vx_L C n d A U H1 := by
  obtain ⟨c, k, i, f, a, cell, h1, h2, h3, h4, h5, h6, h7, h8, h9, h10⟩ := h
  exact ⟨c, k, i, f, a, cell, h1, h2, h3, h4, by rw [hq a (Array.getElem?_eq_some_iff.mp h5).1 h10]; exact h5, h6, h7, h8, h9, h10⟩
theorem vx_L.narrow {C n d : String} {A B : Nat → Prop} {U : State} {H : Heap} (h : vx_L C n d A U H) (hAB : ∀ q, B q → A q) : vx_L C n d B U H := by
  obtain ⟨c, k, i, f, a, cell, h1, h2, h3, h4, h5, h6, h7, h8, h9, h10⟩ := h
  exact ⟨c, k, i, f, a, cell, h1, h2, h3, h4, h5, h6, h7, h8, h9, fun z => h10 (hAB _ z)⟩
theorem vx_L.word {C n d : String} {A : Nat → Prop} {s : State} {args : Array Value} (h : vx_L C n d A s s.heap) : (Cond.laysStatic C n d).before args s = true := by
  obtain ⟨c, k, i, f, a, cell, h1, h2, h3, h4, h5, h6, h7, h8, h9, -⟩ := h
  show (Cond.laysStatic C n d).holds args s none s [] = true
  exact Cond.laysStatic_of h1 h2 h3 h4 h5 h6 h7 h8 h9
/-- .. and what it holds: null or some reference -/
def vx_Zq (C n d : String) (A : Nat → Prop) (U : State) (H : Heap) : Prop := va_Zq C n d A U H ∧ vx_L C n d A U H
theorem vx_Zq.moved {C n d : String} {A : Nat → Prop} {u U : State} {H : Heap} (hvm : u.vm.Alike U.vm) (h : vx_Zq C n d A u H) : vx_Zq C n d A U H := ⟨va_Zq.moved hvm h.1, vx_L.moved hvm h.2⟩
theorem vx_Zq.kept {C n d : String} {A : Nat → Prop} {U : State} {H H1 : Heap} (h : vx_Zq C n d A U H) (hq : ∀ a : Nat, a < H.size → ¬ A a → H1[a]? = H[a]?) : vx_Zq C n d A U H1 := ⟨va_Zq.kept h.1 hq, vx_L.kept h.2 hq⟩
theorem vx_Zq.narrow {C n d : String} {A B : Nat → Prop} {U : State} {H : Heap} (h : vx_Zq C n d A U H) (hAB : ∀ q, B q → A q) : vx_Zq C n d B U H := ⟨va_Zq.narrow h.1 hAB, vx_L.narrow h.2 hAB⟩
theorem vx_Zqof {args : Array Value} {s : State} {C n d : String} {A : Nat → Prop} (hl : (Cond.laysStatic C n d).before args s = true) (hini : (Cond.initialized C).before args s = true) (h : (Cond.isRef (.static C n d)).before args s = true) (hA : ∀ a : Nat, a < s.heap.size → ¬ A a) : vx_Zq C n d A s s.heap := by
  refine ⟨va_Zqof hl hini h hA, ?_⟩
  obtain ⟨c, k, i, f, a, cell, h1, h2, h3, h4, h5, h6, h7, h8, h9⟩ := Cond.laysStatic_spec hl
  exact ⟨c, k, i, f, a, cell, h1, h2, h3, h4, h5, h6, h7, h8, h9, hA a (Array.getElem?_eq_some_iff.mp h5).1⟩
theorem vx_isRef {C n d : String} {v : Value} {A : Nat → Prop} {s : State} {args : Array Value} (h : va_Z C n d v A s s.heap) (hv : v.isRef = true) : (Cond.isRef (.static C n d)).before args s = true := by
  obtain ⟨cf, kf, fi, f, a, cell, h1, h2, h3, h4, h5, h6, h7, -⟩ := h
  have he : (Term.static C n d).eval args s none [] s = some v := by
    simp [Term.eval, State.fieldNamed?, h1, h2, h4, h5, h6, h7]
  simp only [Cond.before, Cond.holds, Cond.value, he]
  cases v <;> simp_all [Value.isRef]
theorem vx_isRefq {C n d : String} {A : Nat → Prop} {s : State} {args : Array Value} (h : va_Zq C n d A s s.heap) : (Cond.isRef (.static C n d)).before args s = true := by
  rcases h with h | ⟨t, h⟩
  · exact vx_isRef h rfl
  · exact vx_isRef h rfl
/-- the same frame, seen from here: as if the method were called anew in this heap -/
theorem vx_rebase {T : State} (X : Stand p l e R s m args below meth c T locs cells slots) {R' : Room} (hf : R'.frames ≤ R.frames) (hl : R'.locals ≤ R.locals) (hc : cells + R'.cells ≤ R.cells) (hs : slots + R'.slots ≤ R.slots) :
    Stand p l e R' ((T.setVm s.vm).setFrames (.invoking m args :: below)) m args below meth c T [] 0 0 := by
  have htop : (T.setVm s.vm).topJava?.isSome := X.here.top
  have hF : ((T.setVm s.vm).setFrames (.invoking m args :: below)).frames = .invoking m args :: below := State.frames_setFrames _ (State.cur_lt_of_top htop)
  obtain ⟨g₀, hg0⟩ := Option.isSome_iff_exists.mp htop
  obtain ⟨r, hr⟩ := State.topJava?_eq_some.mp hg0
  have hl9 : e.platform.stackLimits (T.setVm s.vm).me = e.platform.stackLimits s.me := X.limits
  have hb9 : (T.setVm s.vm).me.stackBytes = s.me.stackBytes := X.bytes
  refine ⟨X.admits, X.cas, X.clock, hF, ?_, X.hears, X.method, X.code, X.here, X.tail, X.warmed, ?_, ?_, ?_⟩
  · have h := X.room
    have hU : ((T.setVm s.vm).setFrames (.invoking m args :: below)).localsInUse = s.localsInUse := by
      rw [State.localsInUse_invoking hF (meth := meth) (c := c) X.method X.code, State.localsInUse_invoking X.frames X.method X.code]
    simp only [State.hasRoom, Bool.and_eq_true, decide_eq_true_eq] at h ⊢
    obtain ⟨⟨⟨⟨h1, h2, h3, h4, h5, h6⟩, h7⟩, h8⟩, h9⟩ := h
    rw [X.frames, List.length_cons] at h2 h3
    have q1 := X.heapSize
    have q2 := X.used
    simp only [hF, hU, List.length_cons, State.stackLimits_setFrames, State.stackBytes_setFrames, hl9, hb9]
    refine ⟨⟨⟨⟨by omega, by omega, by omega, by omega, by omega, h6⟩, ?_⟩, ?_⟩, X.book⟩
    · show T.heap.size + R'.cells ≤ e.platform.maxCells
      omega
    · show T.slotsUsed + R'.slots ≤ e.platform.maxSlots
      omega
  · rw [State.stackLimits_setFrames]; rfl
  · rw [State.stackBytes_setFrames]; rfl
  · refine ⟨?_, Nat.le_refl _, Nat.le_refl _, ?_, ?_, fun a c9 h9 => ⟨c9, h9, rfl, rfl, fun _ _ => rfl⟩⟩
    · obtain ⟨t, ht, -⟩ := State.frames_cons hr
      show T.setVm s.vm = { ((T.setVm s.vm).setFrames (.invoking m args :: below)).setFrames (T.setVm s.vm).frames with heap := T.heap, slotsUsed := T.slotsUsed }
      rw [State.setFrames_setFrames, State.setFrames_self ht]
      rfl
    · show T.slotsUsed = T.slotsUsed + ((T.heap.toList.drop T.heap.size).map (·.slots.size)).sum
      rw [List.drop_eq_nil_of_le (Nat.le_of_eq Array.length_toList)]
      rfl
    · show ((T.heap.toList.drop T.heap.size).map (·.slots.size)).sum ≤ 0
      rw [List.drop_eq_nil_of_le (Nat.le_of_eq Array.length_toList)]
      exact Nat.le_refl _
/-- 'throw new E()': new; dup; invokespecial; athrow -/
theorem vx_throw0 {cc : ByteArray} {pc : Nat} (hexec : p.tables.exec = Jvm.exec) (hb : c.code = cc) (hl : l.stackTraces = false) {own cls : String} {names : List String} {ik ic mc ms : Nat} {A : Nat → Prop}
    (hown : s.vm.findClass own = some m.cls) (hcls : Bundle.fit cls = true) (hnames : ∀ n ∈ names, Bundle.fit n = true)
    (hk : (Cond.classLink own ik cls).before args s = true) (hini : (Cond.initialized cls).before args s = true) (hat : ∀ w ∈ vx_at0 own ic cls names, w.before args s = true)
    (hgood : ∀ w ∈ Cond.classLink own ik cls :: Cond.initialized cls :: vx_at0 own ic cls names, vx_ot w = true)
    (hU : vx_Zq Bundle.tN "UNASSIGNED_STACK" Bundle.steD A s s.heap) (hN : vx_Zq Bundle.tN "SUPPRESSED_SENTINEL" Bundle.listD A s s.heap) (hS : va_S A s.heap H locs) (hsize : ls.size = c.maxLocals)
    (d0 : decode cc pc = .ok (.new ik, 3)) (d3 : decode cc (pc + 3) = .ok (.dup, 1)) (d4 : decode cc (pc + 4) = .ok (.invokespecial ic, 3)) (d7 : decode cc (pc + 7) = .ok (.athrow, 1))
    (hout : ∀ x ∈ c.exceptionTable.toList, covers x (pc + 7) = false)
    (hRframes : names.length + 3 < R.frames) (hRlocals : (rest.map fun v => v.category).sum + (13 * (names.length + 1) + 42) ≤ R.locals) (hRcells : cells + 1 ≤ R.cells) (hRslots : slots + 6 ≤ R.slots) (hlocks : meth.locks = false)
    (hx : ∀ t : State, s.vm.Alike t.vm → H.size ≤ t.heap.size → (∀ q : Nat, q < H.size → t.heap[q]? = H[q]?) → XC cls s t)
    (hf : ∀ z ∈ locs, free z.base) (hc : cells + 1 ≤ mc) (hs : slots + 6 ≤ ms) :
    W p l e R s m args below meth c H locs cells slots (vx_MQ below Qc XC args s mc ms free) (F0 m pc ls rest) := by
  intro T hT X
  have htr : e.platform.stackTraces = false := (show e.platform.stackTraces = l.stackTraces by rw [X.admits.platform]).trans hl
  have Y := vx_rebase X (R' := { frames := R.frames, locals := R.locals, cells := 1, slots := 6 }) (Nat.le_refl _) (Nat.le_refl _) hRcells hRslots
  obtain ⟨s', hA⟩ : ∃ z, z = (T.setVm s.vm).setFrames (.invoking m args :: below) := ⟨_, rfl⟩
  rw [← hA] at Y
  have hvm : s'.vm = s.vm := by rw [hA]; rfl
  have hhp : s'.heap = H := by rw [hA]; exact hT
  have hW0 : s.WarmedH s'.vm := by rw [hvm]; exact State.WarmedH.refl s
  have hat' : ∀ w ∈ vx_at0 own ic cls names, w.before args s' = true := fun w hw => vx_ot_at hW0 hvm.symm (hgood w (List.mem_cons_of_mem _ (List.mem_cons_of_mem _ hw))) (hat w hw)
  have hk' : (Cond.classLink own ik cls).before args s' = true := vx_ot_at hW0 hvm.symm (hgood _ List.mem_cons_self) hk
  have hini' : (Cond.initialized cls).before args s' = true := vx_ot_at hW0 hvm.symm (hgood _ (List.mem_cons_of_mem _ List.mem_cons_self)) hini
  have hU' : vx_Zq Bundle.tN "UNASSIGNED_STACK" Bundle.steD A s' s'.heap := by rw [hhp]; exact vx_Zq.moved hW0.alike (hU.kept hS.2.1)
  have hN' : vx_Zq Bundle.tN "SUPPRESSED_SENTINEL" Bundle.listD A s' s'.heap := by rw [hhp]; exact vx_Zq.moved hW0.alike (hN.kept hS.2.1)
  have h : ∀ w ∈ Bundle.ownAtoms0 own ic cls names, w.before args s' = true := vx_own hat' (vx_isRefq hU'.1) (vx_isRefq hN'.1) hU'.2.word hN'.2.word
  have hown' : s'.vm.findClass own = some m.cls := by rw [hvm]; exact hown
  have hins : (Cond.instantiable cls 6).before args s' = true := h _ (by simp [Bundle.ownAtoms0])
  obtain ⟨vm₁, cX, kX, hfX, hkX, -, -, X₁, st1⟩ := Y.newCold hexec (own := own) (C := cls) (index := ik) (n := 6) hown' hk' hins hini'
    (g := F0 m pc ls rest) rfl (by rw [hb]; exact d0) (Nat.le_refl _) (Nat.le_refl _)
  generalize hT1 : (T.setVm vm₁).pushCell { cls := cX, slots := kX.instanceTypes.map defaultValue, vm := .none } = T1 at X₁ st1
  have hcat : (Value.ref T.heap.size).category = 1 := rfl
  have hcellA : T1.heap[T.heap.size]? = some (freshCell cX kX) := by rw [← hT1]; exact State.heap_pushCell_size _ _
  have d3' : decode c.code (pc + 3) = .ok (.dup, 1) := by rw [hb]; exact d3
  obtain ⟨U, hsteps, hrun, hend, hW, hsame, ce, hce, hO⟩ := X₁.ctorThrow0 hexec htr (own := own) (cls := cls) (names := names) (ic := ic) hown' hcls hnames h (fun x hx => nomatch hx) hfX hkX hcellA (by rw [hhp, hT]; exact Nat.le_refl _)
    (g := { method := m, pc := pc + 4, locals := ls, stack := .ref T.heap.size :: .ref T.heap.size :: rest, locked := none }) rfl hsize rfl rfl (rest := rest) rfl
    (by rw [hb]; exact d4) (by rw [hb]; exact d7) hout hRframes (by simp only [List.map_cons, List.sum_cons, hcat]; omega) hlocks
  obtain ⟨f1, f2⟩ := vx_frame hsame
  rw [hhp] at f1 f2
  have hWs : s.WarmedH U.vm := State.WarmedH.trans hW0 hW
  have hcl : s.vm.findClass cls = some ce.cls := by
    have h9 := hO.cls
    rw [hvm] at h9
    exact h9
  have hall : s.sameButNew ({ U with vm := s.vm } : State) locs mc ms := by
    subst hA
    obtain ⟨e1, e2⟩ := hsame
    rw [State.setFrames_setFrames] at e1
    have h2 : (T.setVm s.vm).sameButNew ({ U with vm := s.vm } : State) [] (0 + 1) (0 + 6) := ⟨e1, e2⟩
    have h3 := X.same.trans h2
    rw [List.append_nil] at h3
    exact h3.mono hc hs
  refine ⟨U, ?_, .threw T.heap.size, hrun, hend, Or.inr ⟨T.heap.size, rfl, cls, ce, locs, hx U hWs.alike f1 (fun q hq => f2 q hq (fun z hz => nomatch hz)), hce, hO.vm, hcl, hWs, hall, hf⟩⟩
  refine st1 _ ?_
  show Steps p.tables e below (T1.setTop { method := m, pc := pc + 3, locals := ls, stack := .ref T.heap.size :: rest, locked := none }) _
  jvm_step X₁.here [X₁.here.top, hexec, d3', Value.category]
  exact hsteps
/-- 'throw new E("text")': new; dup; ldc; invokespecial; athrow -/
theorem vx_throwS {cc : ByteArray} {pc : Nat} (hexec : p.tables.exec = Jvm.exec) (hb : c.code = cc) (hl : l.stackTraces = false) {own cls text : String} {names : List String} {ik is ic mc ms sa : Nat} {A : Nat → Prop}
    (hown : s.vm.findClass own = some m.cls) (hcls : Bundle.fit cls = true) (hnames : ∀ n ∈ names, Bundle.fit n = true)
    (hk : (Cond.classLink own ik cls).before args s = true) (hini : (Cond.initialized cls).before args s = true) (hstr : vk_R own is text sa s) (hat : ∀ w ∈ vx_atS own ic cls names, w.before args s = true)
    (hgood : ∀ w ∈ Cond.classLink own ik cls :: Cond.initialized cls :: vx_atS own ic cls names, vx_ot w = true)
    (hU : vx_Zq Bundle.tN "UNASSIGNED_STACK" Bundle.steD A s s.heap) (hN : vx_Zq Bundle.tN "SUPPRESSED_SENTINEL" Bundle.listD A s s.heap) (hS : va_S A s.heap H locs) (hsize : ls.size = c.maxLocals)
    (d0 : decode cc pc = .ok (.new ik, 3)) (d3 : decode cc (pc + 3) = .ok (.dup, 1)) (d4 : decode cc (pc + 4) = .ok (.ldc is, 2)) (d6 : decode cc (pc + 6) = .ok (.invokespecial ic, 3)) (d9 : decode cc (pc + 9) = .ok (.athrow, 1))
    (hout : ∀ x ∈ c.exceptionTable.toList, covers x (pc + 9) = false)
    (hRframes : names.length + 3 < R.frames) (hRlocals : (rest.map fun v => v.category).sum + (13 * (names.length + 1) + 43) ≤ R.locals) (hRcells : cells + 1 ≤ R.cells) (hRslots : slots + 6 ≤ R.slots) (hlocks : meth.locks = false)
    (hx : ∀ t : State, s.vm.Alike t.vm → H.size ≤ t.heap.size → (∀ q : Nat, q < H.size → t.heap[q]? = H[q]?) → XC cls s t)
    (hf : ∀ z ∈ locs, free z.base) (hc : cells + 1 ≤ mc) (hs : slots + 6 ≤ ms) :
    W p l e R s m args below meth c H locs cells slots (vx_MQ below Qc XC args s mc ms free) (F0 m pc ls rest) := by
  intro T hT X
  have htr : e.platform.stackTraces = false := (show e.platform.stackTraces = l.stackTraces by rw [X.admits.platform]).trans hl
  have Y := vx_rebase X (R' := { frames := R.frames, locals := R.locals, cells := 1, slots := 6 }) (Nat.le_refl _) (Nat.le_refl _) hRcells hRslots
  obtain ⟨s', hA⟩ : ∃ z, z = (T.setVm s.vm).setFrames (.invoking m args :: below) := ⟨_, rfl⟩
  rw [← hA] at Y
  have hvm : s'.vm = s.vm := by rw [hA]; rfl
  have hhp : s'.heap = H := by rw [hA]; exact hT
  have hW0 : s.WarmedH s'.vm := by rw [hvm]; exact State.WarmedH.refl s
  have hat' : ∀ w ∈ vx_atS own ic cls names, w.before args s' = true := fun w hw => vx_ot_at hW0 hvm.symm (hgood w (List.mem_cons_of_mem _ (List.mem_cons_of_mem _ hw))) (hat w hw)
  have hk' : (Cond.classLink own ik cls).before args s' = true := vx_ot_at hW0 hvm.symm (hgood _ List.mem_cons_self) hk
  have hini' : (Cond.initialized cls).before args s' = true := vx_ot_at hW0 hvm.symm (hgood _ (List.mem_cons_of_mem _ List.mem_cons_self)) hini
  have hU' : vx_Zq Bundle.tN "UNASSIGNED_STACK" Bundle.steD A s' s'.heap := by rw [hhp]; exact vx_Zq.moved hW0.alike (hU.kept hS.2.1)
  have hN' : vx_Zq Bundle.tN "SUPPRESSED_SENTINEL" Bundle.listD A s' s'.heap := by rw [hhp]; exact vx_Zq.moved hW0.alike (hN.kept hS.2.1)
  have h : ∀ w ∈ Bundle.ownAtoms own ic cls names, w.before args s' = true := vx_own hat' (vx_isRefq hU'.1) (vx_isRefq hN'.1) hU'.2.word hN'.2.word
  have hown' : s'.vm.findClass own = some m.cls := by rw [hvm]; exact hown
  have hins : (Cond.instantiable cls 6).before args s' = true := h _ (by simp [Bundle.ownAtoms])
  obtain ⟨vm₁, cX, kX, hfX, hkX, -, -, X₁, st1⟩ := Y.newCold hexec (own := own) (C := cls) (index := ik) (n := 6) hown' hk' hins hini'
    (g := F0 m pc ls rest) rfl (by rw [hb]; exact d0) (Nat.le_refl _) (Nat.le_refl _)
  generalize hT1 : (T.setVm vm₁).pushCell { cls := cX, slots := kX.instanceTypes.map defaultValue, vm := .none } = T1 at X₁ st1
  have hcat : (Value.ref T.heap.size).category = 1 := rfl
  have hcellA : T1.heap[T.heap.size]? = some (freshCell cX kX) := by rw [← hT1]; exact State.heap_pushCell_size _ _
  have d3' : decode c.code (pc + 3) = .ok (.dup, 1) := by rw [hb]; exact d3
  have d4' : decode c.code (pc + 4) = .ok (.ldc is, 2) := by rw [hb]; exact d4
  have hstr' : vk_R own is text sa s' := vk_R.warm hW0 hstr
  obtain ⟨U, hsteps, hrun, hend, hW, hsame, ce, hce, hO⟩ := X₁.ctorThrowS hexec htr (own := own) (cls := cls) (names := names) (ic := ic) hown' hcls hnames h (fun x hx => nomatch hx) hfX hkX hcellA (by rw [hhp, hT]; exact Nat.le_refl _) (msg := .ref sa) rfl
    (g := { method := m, pc := pc + 6, locals := ls, stack := .ref sa :: .ref T.heap.size :: .ref T.heap.size :: rest, locked := none }) rfl hsize rfl rfl (rest := rest) rfl
    (by rw [hb]; exact d6) (by rw [hb]; exact d9) hout hRframes (by simp only [List.map_cons, List.sum_cons, hcat]; omega) hlocks
  obtain ⟨f1, f2⟩ := vx_frame hsame
  rw [hhp] at f1 f2
  have hWs : s.WarmedH U.vm := State.WarmedH.trans hW0 hW
  have hcl : s.vm.findClass cls = some ce.cls := by
    have h9 := hO.cls
    rw [hvm] at h9
    exact h9
  have hall : s.sameButNew ({ U with vm := s.vm } : State) locs mc ms := by
    subst hA
    obtain ⟨e1, e2⟩ := hsame
    rw [State.setFrames_setFrames] at e1
    have h2 : (T.setVm s.vm).sameButNew ({ U with vm := s.vm } : State) [] (0 + 1) (0 + 6) := ⟨e1, e2⟩
    have h3 := X.same.trans h2
    rw [List.append_nil] at h3
    exact h3.mono hc hs
  refine ⟨U, ?_, .threw T.heap.size, hrun, hend, Or.inr ⟨T.heap.size, rfl, cls, ce, locs, hx U hWs.alike f1 (fun q hq => f2 q hq (fun z hz => nomatch hz)), hce, hO.vm, hcl, hWs, hall, hf⟩⟩
  refine st1 _ ?_
  show Steps p.tables e below (T1.setTop { method := m, pc := pc + 3, locals := ls, stack := .ref T.heap.size :: rest, locked := none }) _
  jvm_step X₁.here [X₁.here.top, hexec, d3', Value.category]
  exact X₁.ldcString hexec (own := own) (text := text) (index := is) (a := sa) hown' hstr'.1 hstr'.2
    (g := { method := m, pc := pc + 4, locals := ls, stack := .ref T.heap.size :: .ref T.heap.size :: rest, locked := none }) rfl d4' _ hsteps
/-- 'throw new E("text")', the text by a wide index -/
theorem vx_throwSW {cc : ByteArray} {pc : Nat} (hexec : p.tables.exec = Jvm.exec) (hb : c.code = cc) (hl : l.stackTraces = false) {own cls text : String} {names : List String} {ik is ic mc ms sa : Nat} {A : Nat → Prop}
    (hown : s.vm.findClass own = some m.cls) (hcls : Bundle.fit cls = true) (hnames : ∀ n ∈ names, Bundle.fit n = true)
    (hk : (Cond.classLink own ik cls).before args s = true) (hini : (Cond.initialized cls).before args s = true) (hstr : vk_R own is text sa s) (hat : ∀ w ∈ vx_atS own ic cls names, w.before args s = true)
    (hgood : ∀ w ∈ Cond.classLink own ik cls :: Cond.initialized cls :: vx_atS own ic cls names, vx_ot w = true)
    (hU : vx_Zq Bundle.tN "UNASSIGNED_STACK" Bundle.steD A s s.heap) (hN : vx_Zq Bundle.tN "SUPPRESSED_SENTINEL" Bundle.listD A s s.heap) (hS : va_S A s.heap H locs) (hsize : ls.size = c.maxLocals)
    (d0 : decode cc pc = .ok (.new ik, 3)) (d3 : decode cc (pc + 3) = .ok (.dup, 1)) (d4 : decode cc (pc + 4) = .ok (.ldc_w is, 3)) (d7 : decode cc (pc + 7) = .ok (.invokespecial ic, 3)) (d10 : decode cc (pc + 10) = .ok (.athrow, 1))
    (hout : ∀ x ∈ c.exceptionTable.toList, covers x (pc + 10) = false)
    (hRframes : names.length + 3 < R.frames) (hRlocals : (rest.map fun v => v.category).sum + (13 * (names.length + 1) + 43) ≤ R.locals) (hRcells : cells + 1 ≤ R.cells) (hRslots : slots + 6 ≤ R.slots) (hlocks : meth.locks = false)
    (hx : ∀ t : State, s.vm.Alike t.vm → H.size ≤ t.heap.size → (∀ q : Nat, q < H.size → t.heap[q]? = H[q]?) → XC cls s t)
    (hf : ∀ z ∈ locs, free z.base) (hc : cells + 1 ≤ mc) (hs : slots + 6 ≤ ms) :
    W p l e R s m args below meth c H locs cells slots (vx_MQ below Qc XC args s mc ms free) (F0 m pc ls rest) := by
  intro T hT X
  have htr : e.platform.stackTraces = false := (show e.platform.stackTraces = l.stackTraces by rw [X.admits.platform]).trans hl
  have Y := vx_rebase X (R' := { frames := R.frames, locals := R.locals, cells := 1, slots := 6 }) (Nat.le_refl _) (Nat.le_refl _) hRcells hRslots
  obtain ⟨s', hA⟩ : ∃ z, z = (T.setVm s.vm).setFrames (.invoking m args :: below) := ⟨_, rfl⟩
  rw [← hA] at Y
  have hvm : s'.vm = s.vm := by rw [hA]; rfl
  have hhp : s'.heap = H := by rw [hA]; exact hT
  have hW0 : s.WarmedH s'.vm := by rw [hvm]; exact State.WarmedH.refl s
  have hat' : ∀ w ∈ vx_atS own ic cls names, w.before args s' = true := fun w hw => vx_ot_at hW0 hvm.symm (hgood w (List.mem_cons_of_mem _ (List.mem_cons_of_mem _ hw))) (hat w hw)
  have hk' : (Cond.classLink own ik cls).before args s' = true := vx_ot_at hW0 hvm.symm (hgood _ List.mem_cons_self) hk
  have hini' : (Cond.initialized cls).before args s' = true := vx_ot_at hW0 hvm.symm (hgood _ (List.mem_cons_of_mem _ List.mem_cons_self)) hini
  have hU' : vx_Zq Bundle.tN "UNASSIGNED_STACK" Bundle.steD A s' s'.heap := by rw [hhp]; exact vx_Zq.moved hW0.alike (hU.kept hS.2.1)
  have hN' : vx_Zq Bundle.tN "SUPPRESSED_SENTINEL" Bundle.listD A s' s'.heap := by rw [hhp]; exact vx_Zq.moved hW0.alike (hN.kept hS.2.1)
  have h : ∀ w ∈ Bundle.ownAtoms own ic cls names, w.before args s' = true := vx_own hat' (vx_isRefq hU'.1) (vx_isRefq hN'.1) hU'.2.word hN'.2.word
  have hown' : s'.vm.findClass own = some m.cls := by rw [hvm]; exact hown
  have hins : (Cond.instantiable cls 6).before args s' = true := h _ (by simp [Bundle.ownAtoms])
  obtain ⟨vm₁, cX, kX, hfX, hkX, -, -, X₁, st1⟩ := Y.newCold hexec (own := own) (C := cls) (index := ik) (n := 6) hown' hk' hins hini'
    (g := F0 m pc ls rest) rfl (by rw [hb]; exact d0) (Nat.le_refl _) (Nat.le_refl _)
  generalize hT1 : (T.setVm vm₁).pushCell { cls := cX, slots := kX.instanceTypes.map defaultValue, vm := .none } = T1 at X₁ st1
  have hcat : (Value.ref T.heap.size).category = 1 := rfl
  have hcellA : T1.heap[T.heap.size]? = some (freshCell cX kX) := by rw [← hT1]; exact State.heap_pushCell_size _ _
  have d3' : decode c.code (pc + 3) = .ok (.dup, 1) := by rw [hb]; exact d3
  have d4' : decode c.code (pc + 4) = .ok (.ldc_w is, 3) := by rw [hb]; exact d4
  have hstr' : vk_R own is text sa s' := vk_R.warm hW0 hstr
  obtain ⟨U, hsteps, hrun, hend, hW, hsame, ce, hce, hO⟩ := X₁.ctorThrowS hexec htr (own := own) (cls := cls) (names := names) (ic := ic) hown' hcls hnames h (fun x hx => nomatch hx) hfX hkX hcellA (by rw [hhp, hT]; exact Nat.le_refl _) (msg := .ref sa) rfl
    (g := { method := m, pc := pc + 7, locals := ls, stack := .ref sa :: .ref T.heap.size :: .ref T.heap.size :: rest, locked := none }) rfl hsize rfl rfl (rest := rest) rfl
    (by rw [hb]; exact d7) (by rw [hb]; exact d10) hout hRframes (by simp only [List.map_cons, List.sum_cons, hcat]; omega) hlocks
  obtain ⟨f1, f2⟩ := vx_frame hsame
  rw [hhp] at f1 f2
  have hWs : s.WarmedH U.vm := State.WarmedH.trans hW0 hW
  have hcl : s.vm.findClass cls = some ce.cls := by
    have h9 := hO.cls
    rw [hvm] at h9
    exact h9
  have hall : s.sameButNew ({ U with vm := s.vm } : State) locs mc ms := by
    subst hA
    obtain ⟨e1, e2⟩ := hsame
    rw [State.setFrames_setFrames] at e1
    have h2 : (T.setVm s.vm).sameButNew ({ U with vm := s.vm } : State) [] (0 + 1) (0 + 6) := ⟨e1, e2⟩
    have h3 := X.same.trans h2
    rw [List.append_nil] at h3
    exact h3.mono hc hs
  refine ⟨U, ?_, .threw T.heap.size, hrun, hend, Or.inr ⟨T.heap.size, rfl, cls, ce, locs, hx U hWs.alike f1 (fun q hq => f2 q hq (fun z hz => nomatch hz)), hce, hO.vm, hcl, hWs, hall, hf⟩⟩
  refine st1 _ ?_
  show Steps p.tables e below (T1.setTop { method := m, pc := pc + 3, locals := ls, stack := .ref T.heap.size :: rest, locked := none }) _
  jvm_step X₁.here [X₁.here.top, hexec, d3', Value.category]
  exact X₁.ldcStringW hexec (own := own) (text := text) (index := is) (a := sa) hown' hstr'.1 hstr'.2
    (g := { method := m, pc := pc + 4, locals := ls, stack := .ref T.heap.size :: .ref T.heap.size :: rest, locked := none }) rfl d4' _ hsteps
end Ends
section Bodies
variable {l : Launch}
theorem vx_ofW {y : MethodName} {ws ws' : List Cond} {rm : Room} {Pc : Array Value → State → Prop} {Qc : Array Value → State → Outcome → State → Prop} {XC : String → State → State → Prop} {mc ms : Nat} {free : Addr → Prop} {cc : ByteArray} {maxL : Nat} {ret : Option FieldType}
    (hy : plainName y.cls = true) (hw : ws = Cond.code y cc maxL ret :: ws')
    (body : ∀ p e s m args below meth c s₁, BodyLoose p l y (headSpec ws rm) cc maxL ret e s m args below meth c s₁ → c.maxLocals = maxL → (∀ x ∈ c.exceptionTable.toList, False) → Pc args s →
      W p l e (headSpec ws rm).room s m args below meth c s.heap [] 0 0 (vx_MQ below Qc XC args s mc ms free) (entryFrame m args maxL)) : vx_Met l y ws rm Pc Qc XC mc ms free := by
  refine MetFree.of_bodyS (code := cc) (maxLocals := maxL) (ret := ret) hy ?_ ?_
  · intro args s m h hn
    obtain ⟨meth, c, h1, h2, h3, h4, h5, h6, -, -⟩ := Cond.code_spec hn (atoms_spec (ws := ws) h _ (by rw [hw]; exact List.mem_cons_self))
    exact ⟨meth, c, h1, h2, h3, h4, h5, h6⟩
  · intro p e s m args below meth c s₁ B hml hP _
    have hh0 : s₁.heap = s.heap := by rw [B.state]; rfl
    have ht : ∀ x ∈ c.exceptionTable.toList, False := by
      obtain ⟨meth9, c9, h1, h2, -, -, -, -, h7, -⟩ := Cond.code_spec B.named (atoms_spec (ws := ws) B.pre _ (by rw [hw]; exact List.mem_cons_self))
      cases Option.some.inj (h1.symm.trans B.method)
      cases Option.some.inj (h2.symm.trans (Stand.of_body B).code)
      intro x hx
      rw [Array.isEmpty_iff.mp h7] at hx
      cases hx
    obtain ⟨t, a1, o, b1, b2, b3⟩ := body p e s m args below meth c s₁ B hml ht hP s₁ hh0 (Stand.of_body B)
    exact ⟨t, o, a1, b1, b2, b3⟩
/-- the table of a body with handlers -/
theorem vx_table {p : Program} {x y : MethodName} {S : Spec} {cc bytes : ByteArray} {maxL maxL' : Nat} {ret ret' : Option FieldType} {e : Env} {s s₁ : State} {m : MethodId} {args : Array Value} {below : List Frame} {meth : Method} {c : Code} {hh : List (Nat × Nat × Nat × Nat)}
    (B : BodyLoose p l y S cc maxL ret e s m args below meth c s₁) (h : (Cond.codeWith y bytes maxL' ret' hh).before args s = true) : c.exceptionTable.toList = tableOf hh := by
  obtain ⟨m9, meth9, c9, hn9, h1, h2, -, -, h6, -⟩ := Cond.codeWith_spec h
  cases Option.some.inj (hn9.symm.trans B.named)
  cases Option.some.inj (h1.symm.trans B.method)
  cases Option.some.inj (h2.symm.trans (Stand.of_body B).code)
  rw [← h6, table_eq]
end Bodies
end VXA
/-! ===== END ===== -/
/-! ===== BEGIN a static call of a method with an exception table ===== -/
section VXS
variable {p : Program} {l : Launch} {e : Env} {R : Room} {s : State} {m : MethodId} {args : Array Value} {below : List Frame} {meth : Method} {c : Code} {T : State} {H : Heap} {locs : List Loc} {cells slots : Nat}
abbrev vx_CSW (R : Room) (s : State) (args : Array Value) (own : String) (index : Nat) (y : MethodName) (bytes : ByteArray) (maxL : Nat) (ret : Option FieldType) (hh : List (Nat × Nat × Nat × Nat)) (ws : List Cond) (rm : Room) (mc ms n : Nat) : Prop :=
  (rm.cells = mc ∧ rm.slots = ms ∧ rm.frames + 1 ≤ R.frames ∧ 8 + (maxL + 11) + rm.locals ≤ R.locals ∧ (∀ w ∈ ws, ∀ (a' : Array Value) (U : State), s.WarmedH U.vm → w.before a' U = true) ∧ Cond.codeWith y bytes maxL ret hh ∈ ws) ∧
  (Cond.codeWith y bytes maxL ret hh).before args s = true ∧ (Cond.initialized y.cls).before args s = true ∧ (y.cls ≠ "java/lang/invoke/MethodHandle" ∧ y.cls ≠ "java/lang/invoke/VarHandle") ∧
  (∀ sig, parseMethodDescriptor y.desc = some sig → n = sig.parameters.length) ∧ (Cond.methodLink own index y).before args s = true ∧ (Cond.static y).before args s = true
theorem vx_cwSW {own : String} {index maxL mc ms : Nat} {y : MethodName} {bytes : ByteArray} {ret : Option FieldType} {hh : List (Nat × Nat × Nat × Nat)} {Ts ws ws' : List Cond} {rm : Room} (n : Nat) (ht : ∀ w ∈ Ts, w.before args s = true) (hT : GoodIn Ts (va_wsS own index y ws)) (hw : ws = Cond.codeWith y bytes maxL ret hh :: ws') (hrc : rm.cells = mc) (hrs : rm.slots = ms)
    (hd : y.cls ≠ "java/lang/invoke/MethodHandle" ∧ y.cls ≠ "java/lang/invoke/VarHandle" ∧ (parseMethodDescriptor y.desc).map (fun d => d.parameters.length) = some n) (hR : rm.frames + 1 ≤ R.frames ∧ 8 + (maxL + 11) + rm.locals ≤ R.locals) :
    vx_CSW R s args own index y bytes maxL ret hh ws rm mc ms n := by
  have ok : ∀ w ∈ va_wsS own index y ws, w.before args s = true := fun w h => ht w (hT w h).1
  have hG : GoodIn Ts ws := fun w h => hT w (by unfold va_wsS; exact List.mem_append_right _ h)
  have hc : Cond.codeWith y bytes maxL ret hh ∈ ws := by rw [hw]; exact List.mem_cons_self
  refine ⟨⟨hrc, hrs, hR.1, hR.2, pay_in ht hG, hc⟩, ht _ (hG _ hc).1, ok _ (by simp [va_wsS]), ⟨hd.1, hd.2.1⟩, fun sig h => ?_, ok _ (by simp [va_wsS]), ok _ (by simp [va_wsS])⟩
  have h2 := hd.2.2
  rw [h] at h2
  exact (Option.some.inj h2).symm
theorem vx_callSW (X : Stand p l e R s m args below meth c T locs cells slots) (hexec : p.tables.exec = Jvm.exec) {own : String} {index : Nat} {y : MethodName} {bytes : ByteArray} {maxL : Nat} {ret : Option FieldType} {hh : List (Nat × Nat × Nat × Nat)}
    (hown : s.vm.findClass own = some m.cls) (hlink : (Cond.methodLink own index y).before args s = true) (hstat : (Cond.static y).before args s = true) (hinit : (Cond.initialized y.cls).before args s = true)
    (hcode : (Cond.codeWith y bytes maxL ret hh).before args s = true) (hy : y.cls ≠ "java/lang/invoke/MethodHandle" ∧ y.cls ≠ "java/lang/invoke/VarHandle")
    {W9 : Nat} {Pre : Pt → Array Value → Prop} {Post : Pt → Array Value → Option Value → Pt → Prop} (hK : Back l R p e below s args y 3 W9 Pre Post)
    {g : JFrame} (hg : g.method = m) (hsize : g.locals.size = c.maxLocals) {argsL rest : List Value} (hlen : ∀ sig, parseMethodDescriptor y.desc = some sig → argsL.length = sig.parameters.length)
    (hstack : g.stack = argsL.reverse ++ rest) (hW : 2 * g.monitorRoom + (rest.map fun v => v.category).sum ≤ W9) (hdg : decode c.code g.pc = .ok (.invokestatic index, 3))
    (hpre : ∀ vm₁, s.WarmedH vm₁ → Pre ⟨T.setVm vm₁, locs, cells, slots⟩ argsL.toArray) :
    ∃ (v : Option Value) (vm₁ : Vm) (B : Pt), s.WarmedH vm₁ ∧ Stand p l e R s m args below meth c B.U B.locs B.cells B.slots ∧ Post ⟨T.setVm vm₁, locs, cells, slots⟩ argsL.toArray v B ∧
      ∀ target, Steps p.tables e below (B.U.setTop { g with pc := g.pc + 3, stack := v.toList ++ rest }) target → Steps p.tables e below (T.setTop g) target := by
  obtain ⟨mk, methM, cM, hnamed, hmethM, -, -, -, -, -, -, hsigM⟩ := Cond.codeWith_spec hcode
  have hstatic : methM.isStatic = true := Cond.static_spec hnamed hmethM hstat
  obtain ⟨kP, hkP, -⟩ := className_of_methodNamed hnamed
  have hinitP : kP.init = .initialized := Cond.initialized_spec (findClass_of_methodNamed hnamed) hkP hinit
  obtain ⟨vm₁, X₁, hstep₁⟩ := X.invokestatic hexec hown hlink hnamed hmethM hstatic hkP hinitP hy (g := g) hg (argsL := argsL) (rest := rest) (hlen _ hsigM) hstack hdg
  obtain ⟨v, B, X', hpost, hsteps⟩ := hK m meth c ⟨T.setVm vm₁, locs, cells, slots⟩ { g with stack := rest } (.invokestatic index) mk argsL.toArray X₁ hg hsize hdg hW (X₁.named hnamed) (hpre vm₁ X₁.warmed)
  exact ⟨v, vm₁, B, X₁.warmed, X', hpost, fun target h => hstep₁ _ fun acts => by rw [doInvoke_state]; exact hsteps.trans h⟩
theorem vx_runSW {y : MethodName} {bytes cc : ByteArray} {maxL nL mc ms n index : Nat} {ret : Option FieldType} {hh : List (Nat × Nat × Nat × Nat)} {ws : List Cond} {rm : Room} {Pc : Array Value → State → Prop} {Qc : Array Value → State → Outcome → State → Prop} {free : Addr → Prop} {Ts : List Cond} {own : String} {As rest : List Value} {g : JFrame}
    (S : CallFix p m c cc nL s args Ts own) (hM : Met l y ws rm Pc Qc mc ms free) (cw : vx_CSW R s args own index y bytes maxL ret hh ws rm mc ms n) (hp : PreS s H Pc As)
    (hg : g.method = m) (hn : As.length = n) (hsize : g.locals.size = nL) (hstack : g.stack = As.reverse ++ rest) (hW : 2 * g.monitorRoom + (rest.map fun v => v.category).sum ≤ 8) (hdg : decode cc g.pc = .ok (.invokestatic index, 3)) (hf : cells + mc ≤ R.cells ∧ slots + ms ≤ R.slots) :
    va_Run p l e R s m args below meth c H locs cells slots mc ms g rest (Qc As.toArray) (free) := by
  obtain ⟨⟨hrc, hrs, hfr, hlo, hws, hcw⟩, hcode, hini, hy, hlen, hl, hstt⟩ := cw
  have hK : Back l R p e below s args y 3 8 (PreOf R mc ms Pc) (PostOf Qc mc ms free) := va_backW (hh := hh) (bytes := bytes) (maxL := maxL) (ret := ret) hM hp.1 hrc hrs hfr hlo hws hcw (fun a' U hW => word_at hW (Or.inl (by first | rfl | simp [Cond.onTables, Cond.keeps, Cond.steady])) hini)
  obtain ⟨hx, hb, hml, ho, -⟩ := S
  intro T hT X
  obtain ⟨v, vm₁, ⟨U', l2, c2, s2⟩, hW₁, X', ⟨g', mk, t, L, e1, e2, hq, h1, hL, h2, h3⟩, st⟩ := vx_callSW X hx (hh := hh) (bytes := bytes) (maxL := maxL) (ret := ret) ho hl hstt hini hcode hy hK hg (hsize.trans hml.symm) (argsL := As) (rest := rest) (fun sig h => hn.trans (hlen sig h)) hstack hW (by rw [hb]; exact hdg)
    (fun vm₁ hW₁ => ⟨hf.1, hf.2, hp.2 (T.setVm vm₁) hT hW₁⟩)
  dsimp only [Pt.U, Pt.locs, Pt.cells, Pt.slots] at X' e1 e2 h1 h2 h3 st
  subst h1; subst h2; subst h3
  exact ⟨v, (T.setVm vm₁).calling g' mk As.toArray, t, U', L, hT, X', hL, e1, e2, hq, st⟩
/-- not caught here, past rows that name other classes: it goes on to the caller -/
theorem vx_outP {p : Program} {l : Launch} {e : Env} {R : Room} {s : State} {m : MethodId} {args : Array Value} {below : List Frame} {meth : Method} {c : Code} {H : Heap} {locs : List Loc} {cells slots : Nat} {free : Addr → Prop} {ls : Array Slot} {rest : List Value} {Qc : Array Value → State → Outcome → State → Prop} {XC : String → State → State → Prop}
    {pc : Nat} {own E : String} {ce : Cell} {q : Addr} {mc ms : Nat} (hown : s.vm.findClass own = some m.cls) (hlocks : meth.locks = false)
    (hpass : ∀ z ∈ c.exceptionTable.toList, covers z pc = false ∨ (z.catchType ≠ 0 ∧ ∃ nm : String, (Cond.classLink own z.catchType nm).before args s = true ∧ va_Nc E nm s)) (hcell : H[q]? = some ce) (hv : ce.vm = .none) (hcl : s.vm.findClass E = some ce.cls)
    (hx : ∀ t : State, t.heap = H → s.vm.Alike t.vm → XC E s t) (hf : ∀ z ∈ locs, free z.base) (hc : cells ≤ mc) (hs : slots ≤ ms) :
    vx_W p l e R s m args below meth c H locs cells slots (vx_MQ below Qc XC args s mc ms free) (F0 m pc ls rest) q := by
  intro T hT X
  have hpl : e.platform.magicAccessors = ({} : Platform).magicAccessors := by rw [X.admits.platform]
  obtain ⟨vm', hW', X', st⟩ := X.outThrough hlocks q (g := F0 m pc ls rest) rfl rfl rfl (cell := ce) (by rw [hT]; exact hcell) (by rw [hv]; rfl)
    (by obtain ⟨k9, h9, -⟩ := Vm.findClass_spec hcl; exact ⟨k9, h9⟩) (fun z hz => by
      rcases hpass z hz with h | ⟨hz0, nm, hl1, hn1⟩
      · exact Or.inl h
      · obtain ⟨c6, hc6, hcl6⟩ := Cond.classLink_spec hown hl1 e.platform hpl
        obtain ⟨a8, b8, h1, h2, h3⟩ := hn1
        cases Option.some.inj (h1.symm.trans hcl)
        cases Option.some.inj (h2.symm.trans hc6)
        exact Or.inr ⟨hz0, _, hcl6, h3⟩)
  obtain ⟨g₀, hfr⟩ := X'.frames_eq
  have hcell9 : ((T.setVm vm').setFrames (.throwing q :: below)).heap[q]? = some ce := by
    show T.heap[q]? = some ce
    rw [hT]; exact hcell
  have hend : Ended ((T.setVm vm').setFrames (.throwing q :: below)) below (.threw q) := State.frames_setFrames _ (State.cur_lt_of_frames hfr)
  refine ⟨(T.setVm vm').setFrames (.throwing q :: below), ?_, .threw q, X'.here.running, hend, Or.inr ⟨q, rfl, E, ce, locs, hx _ hT (X'.ends _).1.alike, hcell9, hv, hcl, (X'.ends _).1, (X'.ends _).2.mono hc hs, hf⟩⟩
  rw [X.pushThrowing_eq]
  exact st
/-- a thing of a world lies in the heap -/
theorem vx_lt {D : va_G} {cl : List vw_C} {ws : va_W} {H1 : Heap} (h : va_P D cl ws H1) {k : Nat} {q : Nat × va_E} (hk : ws[k]? = some q) : q.1 < H1.size := (h k q hk).lt
end VXS
/-! ===== END ===== -/
/-! ===== BEGIN methods with a table of their own: called by a name, returning or throwing ===== -/
section VXH
/-! vx_backW, vx_callVX, vx_callSX, vx_callVW, vx_runVW, vx_runVX, vx_runSX, vx_ofWH follow the same proofs as their sisters above (Free/Laws.lean, Shelf42/LK1.lean); vx_outP calls Shelf42/NT130.lean (outThrough). -/
section
variable {l : Launch} {R : Room} {p : Program} {e : Env} {below : List Frame} {s : State} {sargs : Array Value} {y : MethodName} {len W9 : Nat}
theorem vx_backW {ws : List Cond} {rm : Room} {Pc : Array Value → State → Prop} {Qc : Array Value → State → Outcome → State → Prop} {XC : String → State → State → Prop} {mc ms : Nat} {free : Addr → Prop} {bytes : ByteArray} {maxL : Nat} {ret : Option FieldType} {hh : List (Nat × Nat × Nat × Nat)}
    (hM : vx_Met l y ws rm Pc Qc XC mc ms free) (hblind : FrameBlind Pc) (hrc : rm.cells = mc) (hrs : rm.slots = ms)
    (hframes : rm.frames + 1 ≤ R.frames) (hlocals : W9 + (maxL + 11) + rm.locals ≤ R.locals)
    (hws : ∀ w ∈ ws, ∀ a' U, s.WarmedH U.vm → w.before a' U = true) (hcode : Cond.codeWith y bytes maxL ret hh ∈ ws) (hinit : ∀ a' U, s.WarmedH U.vm → (Cond.initialized y.cls).before a' U = true) :
    vx_Back l R p e below s sargs y len W9 (PreOf R mc ms Pc) (PostOf Qc mc ms free) (vx_Post XC mc ms free) := by
  intro m meth c A g ig mk a X hg hsize hdg hW hn hp
  have h1 : (headSpec ws rm).pre.before a A.U = true := atoms_intro fun w hw => hws w hw _ _ X.warmed
  have h2 : (Cond.codeWith y bytes maxL ret hh).before a A.U = true := hws _ hcode _ _ X.warmed
  have h3 : (Cond.initialized y.cls).before a A.U = true := hinit _ _ X.warmed
  have h4 : A.cells + (headSpec ws rm).room.cells ≤ R.cells := by rw [show (headSpec ws rm).room.cells = mc from hrc]; exact hp.1
  have h5 : A.slots + (headSpec ws rm).room.slots ≤ R.slots := by rw [show (headSpec ws rm).room.slots = ms from hrs]; exact hp.2.1
  have hPc : Pc a (A.U.calling g mk a) := hblind _ _ _ _ hp.2.2
  obtain ⟨U, Ls, c0, s0⟩ := A
  dsimp only [Pt.U, Pt.locs, Pt.cells, Pt.slots] at h1 h2 h3 h4 h5 X hn hPc ⊢
  obtain ⟨m9, methY, cY, hn9, hmY, hcY, -, hlY, -⟩ := Cond.codeWith_spec h2
  cases Option.some.inj (hn9.symm.trans hn)
  obtain ⟨kY, hkY, -⟩ := className_of_methodNamed hn
  have hinitY : kY.init = .initialized := Cond.initialized_spec (findClass_of_methodNamed hn) hkY h3
  have h : At U g.method c below := by rw [hg]; exact X.here
  have hlocals9 : W9 + (maxL + 11) + (headSpec ws rm).room.locals ≤ R.locals := hlocals
  have happ : (headSpec ws rm).appliesLoose y e.platform (U.calling g mk a) = true :=
    Spec.appliesLoose_calling (g := g) h hdg hn hkY hinitY
      (X.room_calling (g := g) (R' := (headSpec ws rm).room) hsize hmY hcY hframes (by rw [hlY]; omega) h4 h5) h1
  obtain ⟨mid, hmid⟩ := h.above
  have hfr : (U.setTop g).frames = (.java g :: mid) ++ below := by rw [State.frames_setTop' g h.top, hmid]; rfl
  obtain ⟨o, s₂, hsteps, -, hend, hq⟩ := Steps.callFree hM p X.admits X.cas X.clock (acts := []) hfr happ hPc trivial
  have hq' : vx_Q Qc XC mc ms free a (U.calling g mk a) o s₂ := hq
  rw [State.frames_setTop' g h.top] at hend
  obtain ⟨g₀, hg0⟩ := Option.isSome_iff_exists.mp h.top
  obtain ⟨r, hr⟩ := State.topJava?_eq_some.mp hg0
  have hr' : (({ U with heap := s₂.heap, slotsUsed := s₂.slotsUsed } : State).setVm s₂.vm).frames = .java g₀ :: r := hr
  rcases hq' with ⟨hqc, L, hfe, hL⟩ | ⟨q, rfl, E, ce, L, hx, hce, hcv, hcl, hW₂, hsm, hL⟩
  · obtain ⟨⟨v, rfl⟩, hW₂, e2, q2, q3, q4, q5, q6⟩ := id hfe
    have e3 : s₂ = ({ (U.calling g mk a).setFrames s₂.frames with heap := s₂.heap, slotsUsed := s₂.slotsUsed } : State).setVm s₂.vm := by
      have : s₂ = ({ s₂ with vm := (U.calling g mk a).vm } : State).setVm s₂.vm := rfl
      rw [e2] at this
      exact this
    obtain ⟨c₂, i₂, len₂, hc₂, hd₂, hf₂⟩ := hend
    have hW' : U.WarmedH s₂.vm := hW₂
    have hcc : c₂ = c := by
      have h1 : s₂.code? g.method = U.code? g.method := by
        rw [State.code?_eq, State.code?_eq, hW'.alike.method?]
      exact Option.some.inj (hc₂.symm.trans (h1.trans h.code))
    subst hcc
    have hlen : len₂ = len := by rw [hdg] at hd₂; cases hd₂; rfl
    subst hlen
    have hs₂ : s₂ = (({ U with heap := s₂.heap, slotsUsed := s₂.slotsUsed } : State).setVm s₂.vm).setTop { g with pc := g.pc + len₂, stack := v.toList ++ g.stack } := by
      refine e3.trans ?_
      rw [hf₂, State.calling_eq h.top, State.setFrames_setFrames, State.setTop_of_frames _ hr', hr]
      rfl
    have hsame : U.sameButNew ({ U with heap := s₂.heap, slotsUsed := s₂.slotsUsed } : State) L mc ms := by
      refine ⟨?_, q2, q3, q4, q5, q6⟩
      obtain ⟨t, ht, -⟩ := State.frames_cons hr
      show ({ U with heap := s₂.heap, slotsUsed := s₂.slotsUsed } : State) = { U.setFrames U.frames with heap := s₂.heap, slotsUsed := s₂.slotsUsed }
      rw [State.setFrames_self ht]
    subst hg
    refine Or.inl ⟨v, ⟨(({ U with heap := s₂.heap, slotsUsed := s₂.slotsUsed } : State).setVm s₂.vm), Ls ++ L, c0 + mc, s0 + ms⟩,
      ⟨X.admits, X.cas, X.clock, X.frames, X.room, X.hears, X.method, X.code, (X.here.setHeapUsed s₂.heap s₂.slotsUsed).setVm hW'.alike, X.tail, State.WarmedH.trans X.warmed hW', X.limits, X.bytes, X.same.trans (hsame.setVm s.vm)⟩,
      ⟨g, mk, s₂, L, rfl, rfl, hqc, rfl, hL, rfl, rfl⟩, ?_⟩
    show Steps p.tables e below _ ((({ U with heap := s₂.heap, slotsUsed := s₂.slotsUsed } : State).setVm s₂.vm).setTop { g with pc := g.pc + len₂, stack := v.toList ++ g.stack })
    rw [← hs₂]
    exact hsteps
  · obtain ⟨e2, q2, q3, q4, q5, q6⟩ := id hsm
    have e3 : s₂ = ({ (U.calling g mk a).setFrames s₂.frames with heap := s₂.heap, slotsUsed := s₂.slotsUsed } : State).setVm s₂.vm := by
      have : s₂ = ({ s₂ with vm := (U.calling g mk a).vm } : State).setVm s₂.vm := rfl
      rw [e2] at this
      exact this
    have hf₂ : s₂.frames = .throwing q :: .java g :: U.frames.tail := hend
    have hW' : U.WarmedH s₂.vm := hW₂
    have hs₂ : s₂ = ((({ U with heap := s₂.heap, slotsUsed := s₂.slotsUsed } : State).setVm s₂.vm).setTop g).pushFrame (.throwing q) := by
      refine e3.trans ?_
      rw [hf₂, State.calling_eq h.top, State.setFrames_setFrames, State.pushFrame, State.frames_setTop _ hr', State.setTop_of_frames _ hr', State.setFrames_setFrames, hr]
      rfl
    have hsame : U.sameButNew ({ U with heap := s₂.heap, slotsUsed := s₂.slotsUsed } : State) L mc ms := by
      refine ⟨?_, q2, q3, q4, q5, q6⟩
      obtain ⟨t, ht, -⟩ := State.frames_cons hr
      show ({ U with heap := s₂.heap, slotsUsed := s₂.slotsUsed } : State) = { U.setFrames U.frames with heap := s₂.heap, slotsUsed := s₂.slotsUsed }
      rw [State.setFrames_self ht]
    subst hg
    refine Or.inr ⟨q, ⟨(({ U with heap := s₂.heap, slotsUsed := s₂.slotsUsed } : State).setVm s₂.vm), Ls ++ L, c0 + mc, s0 + ms⟩,
      ⟨X.admits, X.cas, X.clock, X.frames, X.room, X.hears, X.method, X.code, (X.here.setHeapUsed s₂.heap s₂.slotsUsed).setVm hW'.alike, X.tail, State.WarmedH.trans X.warmed hW', X.limits, X.bytes, X.same.trans (hsame.setVm s.vm)⟩,
      ⟨g, mk, s₂, L, E, ce, rfl, rfl, hx, hce, hcv, hcl, rfl, hL, rfl, rfl⟩, ?_⟩
    show Steps p.tables e below _ (((({ U with heap := s₂.heap, slotsUsed := s₂.slotsUsed } : State).setVm s₂.vm).setTop g).pushFrame (.throwing q))
    rw [← hs₂]
    exact hsteps
end
variable {p : Program} {l : Launch} {e : Env} {R : Room} {s : State} {m : MethodId} {args : Array Value} {below : List Frame} {meth : Method} {c : Code} {T : State} {H : Heap} {locs : List Loc} {cells slots : Nat}
theorem vx_callVX (X : Stand p l e R s m args below meth c T locs cells slots) (hexec : p.tables.exec = Jvm.exec) {own C : String} {index : Nat} {y : MethodName} {bytes : ByteArray} {maxL : Nat} {ret : Option FieldType} {hh : List (Nat × Nat × Nat × Nat)}
    (hown : s.vm.findClass own = some m.cls) (hlink : (Cond.methodLink own index y).before args s = true) (hinst : (Cond.instanceMethod y).before args s = true) (hsel : (Cond.selects C y y).before args s = true)
    (hcode : (Cond.codeWith y bytes maxL ret hh).before args s = true) (hy : y.cls ≠ "java/lang/invoke/MethodHandle" ∧ y.cls ≠ "java/lang/invoke/VarHandle")
    {W9 : Nat} {Pre : Pt → Array Value → Prop} {Post : Pt → Array Value → Option Value → Pt → Prop} {PostX : Pt → Array Value → Addr → Pt → Prop} (hK : vx_Back l R p e below s args y 3 W9 Pre Post PostX)
    {b : Addr} {cellB : Cell} (hcell : T.heap[b]? = some cellB) (hobj : cellB.vm.isStatics = false) (hcls : s.vm.findClass C = some cellB.cls)
    {g : JFrame} (hg : g.method = m) (hsize : g.locals.size = c.maxLocals) {argsL rest : List Value} (hlen : ∀ sig, parseMethodDescriptor y.desc = some sig → argsL.length = sig.parameters.length)
    (hstack : g.stack = argsL.reverse ++ .ref b :: rest) (hW : 2 * g.monitorRoom + (rest.map fun v => v.category).sum ≤ W9) (hdg : decode c.code g.pc = .ok (.invokevirtual index, 3))
    (hpre : ∀ vm₁, s.WarmedH vm₁ → Pre ⟨T.setVm vm₁, locs, cells, slots⟩ (Value.ref b :: argsL).toArray) :
    (∃ (v : Option Value) (vm₁ : Vm) (B : Pt), s.WarmedH vm₁ ∧ Stand p l e R s m args below meth c B.U B.locs B.cells B.slots ∧ Post ⟨T.setVm vm₁, locs, cells, slots⟩ (Value.ref b :: argsL).toArray v B ∧
      ∀ target, Steps p.tables e below (B.U.setTop { g with pc := g.pc + 3, stack := v.toList ++ rest }) target → Steps p.tables e below (T.setTop g) target) ∨
    (∃ (q : Addr) (vm₁ : Vm) (B : Pt), s.WarmedH vm₁ ∧ Stand p l e R s m args below meth c B.U B.locs B.cells B.slots ∧ PostX ⟨T.setVm vm₁, locs, cells, slots⟩ (Value.ref b :: argsL).toArray q B ∧
      Steps p.tables e below (T.setTop g) ((B.U.setTop { g with stack := rest }).pushFrame (.throwing q))) := by
  obtain ⟨mk, methM, hnamed, hmethM, hstM, habM⟩ := Cond.instanceMethod_spec hinst
  obtain ⟨m8, methM', cM, hn8, hmethM', -, -, -, -, -, -, hsigM⟩ := Cond.codeWith_spec hcode
  cases Option.some.inj (hn8.symm.trans hnamed)
  cases hmethM.symm.trans hmethM'
  obtain ⟨c2, r2, m2, q1, q2, q3, q4, kP, hkP, hkPi⟩ := Cond.selects_spec hsel
  cases hcls.symm.trans q1
  cases (State.methodFound?_of_named hnamed hy).symm.trans q2
  cases hnamed.symm.trans q3
  have hselP : selectMethod e.platform s.vm cellB.cls mk = .method mk := by rw [Launch.admits_selectMethod X.admits]; exact q4
  obtain ⟨vm₁, X₁, hstep₁⟩ := X.invokevirtual hexec hown hlink hnamed hmethM hstM hkP hkPi hy (a := b) (cell := cellB) hcell
    (fun z h => by rw [h] at hobj; cases hobj) hselP hmethM habM hkP hkPi (g := g) hg (argsL := argsL) (rest := rest) (hlen _ hsigM) hstack hdg
  rcases hK m meth c ⟨T.setVm vm₁, locs, cells, slots⟩ { g with stack := rest } (.invokevirtual index) mk (Value.ref b :: argsL).toArray X₁ hg hsize hdg hW (X₁.named hnamed) (hpre vm₁ X₁.warmed) with ⟨v, B, X', hpost, hsteps⟩ | ⟨q, B, X', hpost, hsteps⟩
  · exact Or.inl ⟨v, vm₁, B, X₁.warmed, X', hpost, fun target h => hstep₁ _ fun acts => by rw [doInvoke_state]; exact hsteps.trans h⟩
  · exact Or.inr ⟨q, vm₁, B, X₁.warmed, X', hpost, hstep₁ _ fun acts => by rw [doInvoke_state]; exact hsteps⟩
theorem vx_callSX (X : Stand p l e R s m args below meth c T locs cells slots) (hexec : p.tables.exec = Jvm.exec) {own : String} {index : Nat} {y : MethodName} {bytes : ByteArray} {maxL : Nat} {ret : Option FieldType} {hh : List (Nat × Nat × Nat × Nat)}
    (hown : s.vm.findClass own = some m.cls) (hlink : (Cond.methodLink own index y).before args s = true) (hstat : (Cond.static y).before args s = true) (hinit : (Cond.initialized y.cls).before args s = true)
    (hcode : (Cond.codeWith y bytes maxL ret hh).before args s = true) (hy : y.cls ≠ "java/lang/invoke/MethodHandle" ∧ y.cls ≠ "java/lang/invoke/VarHandle")
    {W9 : Nat} {Pre : Pt → Array Value → Prop} {Post : Pt → Array Value → Option Value → Pt → Prop} {PostX : Pt → Array Value → Addr → Pt → Prop} (hK : vx_Back l R p e below s args y 3 W9 Pre Post PostX)
    {g : JFrame} (hg : g.method = m) (hsize : g.locals.size = c.maxLocals) {argsL rest : List Value} (hlen : ∀ sig, parseMethodDescriptor y.desc = some sig → argsL.length = sig.parameters.length)
    (hstack : g.stack = argsL.reverse ++ rest) (hW : 2 * g.monitorRoom + (rest.map fun v => v.category).sum ≤ W9) (hdg : decode c.code g.pc = .ok (.invokestatic index, 3))
    (hpre : ∀ vm₁, s.WarmedH vm₁ → Pre ⟨T.setVm vm₁, locs, cells, slots⟩ argsL.toArray) :
    (∃ (v : Option Value) (vm₁ : Vm) (B : Pt), s.WarmedH vm₁ ∧ Stand p l e R s m args below meth c B.U B.locs B.cells B.slots ∧ Post ⟨T.setVm vm₁, locs, cells, slots⟩ argsL.toArray v B ∧
      ∀ target, Steps p.tables e below (B.U.setTop { g with pc := g.pc + 3, stack := v.toList ++ rest }) target → Steps p.tables e below (T.setTop g) target) ∨
    (∃ (q : Addr) (vm₁ : Vm) (B : Pt), s.WarmedH vm₁ ∧ Stand p l e R s m args below meth c B.U B.locs B.cells B.slots ∧ PostX ⟨T.setVm vm₁, locs, cells, slots⟩ argsL.toArray q B ∧
      Steps p.tables e below (T.setTop g) ((B.U.setTop { g with stack := rest }).pushFrame (.throwing q))) := by
  obtain ⟨mk, methM, cM, hnamed, hmethM, -, -, -, -, -, -, hsigM⟩ := Cond.codeWith_spec hcode
  have hstatic : methM.isStatic = true := Cond.static_spec hnamed hmethM hstat
  obtain ⟨kP, hkP, -⟩ := className_of_methodNamed hnamed
  have hinitP : kP.init = .initialized := Cond.initialized_spec (findClass_of_methodNamed hnamed) hkP hinit
  obtain ⟨vm₁, X₁, hstep₁⟩ := X.invokestatic hexec hown hlink hnamed hmethM hstatic hkP hinitP hy (g := g) hg (argsL := argsL) (rest := rest) (hlen _ hsigM) hstack hdg
  rcases hK m meth c ⟨T.setVm vm₁, locs, cells, slots⟩ { g with stack := rest } (.invokestatic index) mk argsL.toArray X₁ hg hsize hdg hW (X₁.named hnamed) (hpre vm₁ X₁.warmed) with ⟨v, B, X', hpost, hsteps⟩ | ⟨q, B, X', hpost, hsteps⟩
  · exact Or.inl ⟨v, vm₁, B, X₁.warmed, X', hpost, fun target h => hstep₁ _ fun acts => by rw [doInvoke_state]; exact hsteps.trans h⟩
  · exact Or.inr ⟨q, vm₁, B, X₁.warmed, X', hpost, hstep₁ _ fun acts => by rw [doInvoke_state]; exact hsteps⟩
theorem vx_callVW (X : Stand p l e R s m args below meth c T locs cells slots) (hexec : p.tables.exec = Jvm.exec) {own C : String} {index : Nat} {y : MethodName} {bytes : ByteArray} {maxL : Nat} {ret : Option FieldType} {hh : List (Nat × Nat × Nat × Nat)}
    (hown : s.vm.findClass own = some m.cls) (hlink : (Cond.methodLink own index y).before args s = true) (hinst : (Cond.instanceMethod y).before args s = true) (hsel : (Cond.selects C y y).before args s = true)
    (hcode : (Cond.codeWith y bytes maxL ret hh).before args s = true) (hy : y.cls ≠ "java/lang/invoke/MethodHandle" ∧ y.cls ≠ "java/lang/invoke/VarHandle")
    {W9 : Nat} {Pre : Pt → Array Value → Prop} {Post : Pt → Array Value → Option Value → Pt → Prop} (hK : Back l R p e below s args y 3 W9 Pre Post)
    {b : Addr} {cellB : Cell} (hcell : T.heap[b]? = some cellB) (hobj : cellB.vm.isStatics = false) (hcls : s.vm.findClass C = some cellB.cls)
    {g : JFrame} (hg : g.method = m) (hsize : g.locals.size = c.maxLocals) {argsL rest : List Value} (hlen : ∀ sig, parseMethodDescriptor y.desc = some sig → argsL.length = sig.parameters.length)
    (hstack : g.stack = argsL.reverse ++ .ref b :: rest) (hW : 2 * g.monitorRoom + (rest.map fun v => v.category).sum ≤ W9) (hdg : decode c.code g.pc = .ok (.invokevirtual index, 3))
    (hpre : ∀ vm₁, s.WarmedH vm₁ → Pre ⟨T.setVm vm₁, locs, cells, slots⟩ (Value.ref b :: argsL).toArray) :
    ∃ (v : Option Value) (vm₁ : Vm) (B : Pt), s.WarmedH vm₁ ∧ Stand p l e R s m args below meth c B.U B.locs B.cells B.slots ∧ Post ⟨T.setVm vm₁, locs, cells, slots⟩ (Value.ref b :: argsL).toArray v B ∧
      ∀ target, Steps p.tables e below (B.U.setTop { g with pc := g.pc + 3, stack := v.toList ++ rest }) target → Steps p.tables e below (T.setTop g) target := by
  obtain ⟨mk, methM, hnamed, hmethM, hstM, habM⟩ := Cond.instanceMethod_spec hinst
  obtain ⟨m8, methM', cM, hn8, hmethM', -, -, -, -, -, -, hsigM⟩ := Cond.codeWith_spec hcode
  cases Option.some.inj (hn8.symm.trans hnamed)
  cases hmethM.symm.trans hmethM'
  obtain ⟨c2, r2, m2, q1, q2, q3, q4, kP, hkP, hkPi⟩ := Cond.selects_spec hsel
  cases hcls.symm.trans q1
  cases (State.methodFound?_of_named hnamed hy).symm.trans q2
  cases hnamed.symm.trans q3
  have hselP : selectMethod e.platform s.vm cellB.cls mk = .method mk := by rw [Launch.admits_selectMethod X.admits]; exact q4
  obtain ⟨vm₁, X₁, hstep₁⟩ := X.invokevirtual hexec hown hlink hnamed hmethM hstM hkP hkPi hy (a := b) (cell := cellB) hcell
    (fun z h => by rw [h] at hobj; cases hobj) hselP hmethM habM hkP hkPi (g := g) hg (argsL := argsL) (rest := rest) (hlen _ hsigM) hstack hdg
  obtain ⟨v, B, X', hpost, hsteps⟩ := hK m meth c ⟨T.setVm vm₁, locs, cells, slots⟩ { g with stack := rest } (.invokevirtual index) mk (Value.ref b :: argsL).toArray X₁ hg hsize hdg hW (X₁.named hnamed) (hpre vm₁ X₁.warmed)
  exact ⟨v, vm₁, B, X₁.warmed, X', hpost, fun target h => hstep₁ _ fun acts => by rw [doInvoke_state]; exact hsteps.trans h⟩
abbrev vx_CVW (R : Room) (s : State) (args : Array Value) (own C : String) (index : Nat) (y : MethodName) (bytes : ByteArray) (maxL : Nat) (ret : Option FieldType) (hh : List (Nat × Nat × Nat × Nat)) (ws : List Cond) (rm : Room) (mc ms n : Nat) : Prop :=
  (rm.cells = mc ∧ rm.slots = ms ∧ rm.frames + 1 ≤ R.frames ∧ 8 + (maxL + 11) + rm.locals ≤ R.locals ∧ (∀ w ∈ ws, ∀ (a' : Array Value) (U : State), s.WarmedH U.vm → w.before a' U = true) ∧ Cond.codeWith y bytes maxL ret hh ∈ ws) ∧
  (Cond.codeWith y bytes maxL ret hh).before args s = true ∧ (Cond.initialized y.cls).before args s = true ∧ (y.cls ≠ "java/lang/invoke/MethodHandle" ∧ y.cls ≠ "java/lang/invoke/VarHandle") ∧
  (∀ sig, parseMethodDescriptor y.desc = some sig → n = sig.parameters.length) ∧ (Cond.methodLink own index y).before args s = true ∧ (Cond.instanceMethod y).before args s = true ∧ (Cond.selects C y y).before args s = true
theorem vx_cwVW {own C : String} {index maxL mc ms : Nat} {y : MethodName} {bytes : ByteArray} {ret : Option FieldType} {hh : List (Nat × Nat × Nat × Nat)} {Ts ws ws' : List Cond} {rm : Room} (n : Nat) (ht : ∀ w ∈ Ts, w.before args s = true) (hT : GoodIn Ts (wsV own index C y ws)) (hw : ws = Cond.codeWith y bytes maxL ret hh :: ws') (hrc : rm.cells = mc) (hrs : rm.slots = ms)
    (hd : y.cls = C ∧ y.cls ≠ "java/lang/invoke/MethodHandle" ∧ y.cls ≠ "java/lang/invoke/VarHandle" ∧ (parseMethodDescriptor y.desc).map (fun d => d.parameters.length) = some n) (hR : rm.frames + 1 ≤ R.frames ∧ 8 + (maxL + 11) + rm.locals ≤ R.locals) :
    vx_CVW R s args own C index y bytes maxL ret hh ws rm mc ms n := by
  obtain ⟨hC, hd⟩ := hd
  subst hC
  have ok : ∀ w ∈ wsV own index y.cls y ws, w.before args s = true := fun w h => ht w (hT w h).1
  have hG : GoodIn Ts ws := fun w h => hT w (by unfold wsV; exact List.mem_append_right _ h)
  have hc : Cond.codeWith y bytes maxL ret hh ∈ ws := by rw [hw]; exact List.mem_cons_self
  refine ⟨⟨hrc, hrs, hR.1, hR.2, pay_in ht hG, hc⟩, ht _ (hG _ hc).1, ok _ (by simp [wsV]), ⟨hd.1, hd.2.1⟩, fun sig h => ?_, ok _ (by simp [wsV]), ok _ (by simp [wsV]), ok _ (by simp [wsV])⟩
  have h2 := hd.2.2
  rw [h] at h2
  exact (Option.some.inj h2).symm
theorem vx_runVW {y : MethodName} {bytes cc : ByteArray} {maxL nL mc ms n index : Nat} {ret : Option FieldType} {hh : List (Nat × Nat × Nat × Nat)} {ws : List Cond} {rm : Room} {Pc : Array Value → State → Prop} {Qc : Array Value → State → Outcome → State → Prop} {free : Addr → Prop} {Ts : List Cond} {own C : String} {b : Addr} {As rest : List Value} {g : JFrame}
    (S : CallFix p m c cc nL s args Ts own) (hM : Met l y ws rm Pc Qc mc ms free) (cw : vx_CVW R s args own C index y bytes maxL ret hh ws rm mc ms n) (hp : PreV s H C b Pc As)
    (hg : g.method = m) (hn : As.length = n) (hsize : g.locals.size = nL) (hstack : g.stack = As.reverse ++ .ref b :: rest) (hW : 2 * g.monitorRoom + (rest.map fun v => v.category).sum ≤ 8) (hdg : decode cc g.pc = .ok (.invokevirtual index, 3)) (hf : cells + mc ≤ R.cells ∧ slots + ms ≤ R.slots) :
    va_Run p l e R s m args below meth c H locs cells slots mc ms g rest (Qc (Value.ref b :: As).toArray) free := by
  obtain ⟨⟨hrc, hrs, hfr, hlo, hws, hcw⟩, hcode, hini, hy, hlen, hl, hin, hse⟩ := cw
  have hK : Back l R p e below s args y 3 8 (PreOf R mc ms Pc) (PostOf Qc mc ms free) := va_backW (hh := hh) (bytes := bytes) (maxL := maxL) (ret := ret) hM hp.1 hrc hrs hfr hlo hws hcw (fun a' U hW => word_at hW (Or.inl (by first | rfl | simp [Cond.onTables, Cond.keeps, Cond.steady])) hini)
  obtain ⟨hx, hb, hml, ho, -⟩ := S
  obtain ⟨-, ⟨cellB, hcB, hoB, hclB⟩, hPc⟩ := hp
  intro T hT X
  obtain ⟨v, vm₁, ⟨U', l2, c2, s2⟩, hW₁, X', ⟨g', mk, t, L, e1, e2, hq, h1, hL, h2, h3⟩, st⟩ := vx_callVW X hx (C := C) (hh := hh) (bytes := bytes) (maxL := maxL) (ret := ret) ho hl hin hse hcode hy hK (by rw [hT]; exact hcB) hoB hclB hg (hsize.trans hml.symm) (argsL := As) (rest := rest) (fun sig h => hn.trans (hlen sig h)) hstack hW (by rw [hb]; exact hdg)
    (fun vm₁ hW₁ => ⟨hf.1, hf.2, hPc (T.setVm vm₁) hT hW₁⟩)
  dsimp only [Pt.U, Pt.locs, Pt.cells, Pt.slots] at X' e1 e2 h1 h2 h3 st
  subst h1; subst h2; subst h3
  exact ⟨v, (T.setVm vm₁).calling g' mk (Value.ref b :: As).toArray, t, U', L, hT, X', hL, e1, e2, hq, st⟩
section
variable {y : MethodName} {bytes cc : ByteArray} {maxL nL mc ms n index : Nat} {ret : Option FieldType} {ws : List Cond} {rm : Room} {Pc : Array Value → State → Prop} {Qc : Array Value → State → Outcome → State → Prop} {XC : String → State → State → Prop} {free : Addr → Prop} {Ts : List Cond} {own C : String} {b : Addr} {As rest : List Value} {g : JFrame}
theorem vx_runVX {hh : List (Nat × Nat × Nat × Nat)} (S : CallFix p m c cc nL s args Ts own) (hM : vx_Met l y ws rm Pc Qc XC mc ms free) (cw : vx_CVW R s args own C index y bytes maxL ret hh ws rm mc ms n) (hp : PreV s H C b Pc As)
    (hg : g.method = m) (hn : As.length = n) (hsize : g.locals.size = nL) (hstack : g.stack = As.reverse ++ .ref b :: rest) (hW : 2 * g.monitorRoom + (rest.map fun v => v.category).sum ≤ 8) (hdg : decode cc g.pc = .ok (.invokevirtual index, 3)) (hf : cells + mc ≤ R.cells ∧ slots + ms ≤ R.slots) :
    vx_Run p l e R s m args below meth c H locs cells slots mc ms g rest (Qc (Value.ref b :: As).toArray) XC free := by
  obtain ⟨⟨hrc, hrs, hfr, hlo, hws, hcw⟩, hcode, hini, hy, hlen, hl, hin, hse⟩ := cw
  have hK : vx_Back l R p e below s args y 3 8 (PreOf R mc ms Pc) (PostOf Qc mc ms free) (vx_Post XC mc ms free) := vx_backW (hh := hh) (bytes := bytes) (maxL := maxL) (ret := ret) hM hp.1 hrc hrs hfr hlo hws hcw (fun a' U hW => word_at hW (Or.inl (by first | rfl | simp [Cond.onTables, Cond.keeps, Cond.steady])) hini)
  obtain ⟨hx, hb, hml, ho, -⟩ := S
  obtain ⟨-, ⟨cellB, hcB, hoB, hclB⟩, hPc⟩ := hp
  intro T hT X
  rcases vx_callVX X hx (C := C) (hh := hh) (bytes := bytes) (maxL := maxL) (ret := ret) ho hl hin hse hcode hy hK (by rw [hT]; exact hcB) hoB hclB hg (hsize.trans hml.symm) (argsL := As) (rest := rest) (fun sig h => hn.trans (hlen sig h)) hstack hW (by rw [hb]; exact hdg)
    (fun vm₁ hW₁ => ⟨hf.1, hf.2, hPc (T.setVm vm₁) hT hW₁⟩) with ⟨v, vm₁, ⟨U', l2, c2, s2⟩, hW₁, X', ⟨g', mk, t, L, e1, e2, hq, h1, hL, h2, h3⟩, st⟩ | ⟨q, vm₁, ⟨U', l2, c2, s2⟩, hW₁, X', ⟨g', mk, t, L, E, ce, e1, e2, hq, hce, hcv, hcl, h1, hL, h2, h3⟩, st⟩
  · dsimp only [Pt.U, Pt.locs, Pt.cells, Pt.slots] at X' e1 e2 h1 h2 h3 st
    subst h1; subst h2; subst h3
    exact Or.inl ⟨v, (T.setVm vm₁).calling g' mk (Value.ref b :: As).toArray, t, U', L, hT, X', hL, e1, e2, hq, st⟩
  · dsimp only [Pt.U, Pt.locs, Pt.cells, Pt.slots] at X' e1 e2 h1 h2 h3 st hcl
    subst h1; subst h2; subst h3
    exact Or.inr ⟨q, (T.setVm vm₁).calling g' mk (Value.ref b :: As).toArray, t, U', L, E, ce, hT, X', hL, e1, e2, hq, hce, hcv, vx_cls hW₁ hcl, st⟩
theorem vx_runSX {hh : List (Nat × Nat × Nat × Nat)} (S : CallFix p m c cc nL s args Ts own) (hM : vx_Met l y ws rm Pc Qc XC mc ms free) (cw : vx_CSW R s args own index y bytes maxL ret hh ws rm mc ms n) (hp : PreS s H Pc As)
    (hg : g.method = m) (hn : As.length = n) (hsize : g.locals.size = nL) (hstack : g.stack = As.reverse ++ rest) (hW : 2 * g.monitorRoom + (rest.map fun v => v.category).sum ≤ 8) (hdg : decode cc g.pc = .ok (.invokestatic index, 3)) (hf : cells + mc ≤ R.cells ∧ slots + ms ≤ R.slots) :
    vx_Run p l e R s m args below meth c H locs cells slots mc ms g rest (Qc As.toArray) XC free := by
  obtain ⟨⟨hrc, hrs, hfr, hlo, hws, hcw⟩, hcode, hini, hy, hlen, hl, hstt⟩ := cw
  have hK : vx_Back l R p e below s args y 3 8 (PreOf R mc ms Pc) (PostOf Qc mc ms free) (vx_Post XC mc ms free) := vx_backW (hh := hh) (bytes := bytes) (maxL := maxL) (ret := ret) hM hp.1 hrc hrs hfr hlo hws hcw (fun a' U hW => word_at hW (Or.inl (by first | rfl | simp [Cond.onTables, Cond.keeps, Cond.steady])) hini)
  obtain ⟨hx, hb, hml, ho, -⟩ := S
  intro T hT X
  rcases vx_callSX X hx (hh := hh) (bytes := bytes) (maxL := maxL) (ret := ret) ho hl hstt hini hcode hy hK hg (hsize.trans hml.symm) (argsL := As) (rest := rest) (fun sig h => hn.trans (hlen sig h)) hstack hW (by rw [hb]; exact hdg)
    (fun vm₁ hW₁ => ⟨hf.1, hf.2, hp.2 (T.setVm vm₁) hT hW₁⟩) with ⟨v, vm₁, ⟨U', l2, c2, s2⟩, hW₁, X', ⟨g', mk, t, L, e1, e2, hq, h1, hL, h2, h3⟩, st⟩ | ⟨q, vm₁, ⟨U', l2, c2, s2⟩, hW₁, X', ⟨g', mk, t, L, E, ce, e1, e2, hq, hce, hcv, hcl, h1, hL, h2, h3⟩, st⟩
  · dsimp only [Pt.U, Pt.locs, Pt.cells, Pt.slots] at X' e1 e2 h1 h2 h3 st
    subst h1; subst h2; subst h3
    exact Or.inl ⟨v, (T.setVm vm₁).calling g' mk As.toArray, t, U', L, hT, X', hL, e1, e2, hq, st⟩
  · dsimp only [Pt.U, Pt.locs, Pt.cells, Pt.slots] at X' e1 e2 h1 h2 h3 st hcl
    subst h1; subst h2; subst h3
    exact Or.inr ⟨q, (T.setVm vm₁).calling g' mk As.toArray, t, U', L, E, ce, hT, X', hL, e1, e2, hq, hce, hcv, vx_cls hW₁ hcl, st⟩
end
end VXH
theorem vx_ofWH {l : Launch} {y : MethodName} {ws ws' : List Cond} {rm : Room} {Pc : Array Value → State → Prop} {Qc : Array Value → State → Outcome → State → Prop} {XC : String → State → State → Prop} {mc ms : Nat} {free : Addr → Prop} {cc : ByteArray} {maxL : Nat} {ret : Option FieldType} {hh : List (Nat × Nat × Nat × Nat)}
    (hy : plainName y.cls = true) (hw : ws = Cond.codeWith y cc maxL ret hh :: ws')
    (body : ∀ p e s m args below meth c s₁, BodyLoose p l y (headSpec ws rm) cc maxL ret e s m args below meth c s₁ → c.maxLocals = maxL → Pc args s →
      W p l e (headSpec ws rm).room s m args below meth c s.heap [] 0 0 (vx_MQ below Qc XC args s mc ms free) (entryFrame m args maxL)) : vx_Met l y ws rm Pc Qc XC mc ms free := by
  refine MetFree.of_bodyS (code := cc) (maxLocals := maxL) (ret := ret) hy ?_ ?_
  · intro args s m h hn
    obtain ⟨m9, meth, c, hn9, h1, h2, h3, h4, -, h5, h6, -⟩ := Cond.codeWith_spec (atoms_spec (ws := ws) h _ (by rw [hw]; exact List.mem_cons_self))
    cases hn.symm.trans hn9
    exact ⟨meth, c, h1, h2, h3, h4, h5, h6⟩
  · intro p e s m args below meth c s₁ B hml hP _
    have hh0 : s₁.heap = s.heap := by rw [B.state]; rfl
    obtain ⟨t, a1, o, b1, b2, b3⟩ := body p e s m args below meth c s₁ B hml hP s₁ hh0 (Stand.of_body B)
    exact ⟨t, o, a1, b1, b2, b3⟩
/-! ===== END ===== -/

/-! ===== BEGIN printed: names, fields, word lists, decode rows ===== -/
def RX0 : String := "BunchTimes$Breakaway"
def TX0 : u_T := fun k => match k with
  | _ => ("", "", "", false)
def tyX0 : Nat → FieldType := fun k => match k with
  | _ => .int
abbrev wsX00 : List Cond := u_ws RX0 TX0 0
theorem nmX0 : ∀ a, a < 0 → ∀ b, b < 0 → a ≠ b → (TX0 a).2.1 ≠ (TX0 b).2.1 := by decide +kernel
theorem tyX0_ok : ∀ k, k < 0 → parseFieldDescriptor (TX0 k).2.2.1 = some (tyX0 k) := by decide +kernel
abbrev cX0_canBe : ByteArray := prog_2_method_2_code
def yX0_canBe : MethodName := ⟨RX0, "canBe", "(III)Z"⟩
abbrev cX0_pace : ByteArray := prog_2_method_3_code
def yX0_pace : MethodName := ⟨RX0, "pace", "(I)J"⟩
abbrev cX0_metresLeft : ByteArray := prog_2_method_4_code
def yX0_metresLeft : MethodName := ⟨RX0, "metresLeft", "(IIII)I"⟩
abbrev cX0_leastAhead : ByteArray := prog_2_method_5_code
def yX0_leastAhead : MethodName := ⟨RX0, "leastAhead", "(III)I"⟩
def RX1 : String := "BunchTimes$Course"
def TX1 : u_T := fun k => match k with
  | 0 => ("BunchTimes$Course", "kind", "I", false)
  | 1 => ("BunchTimes$Course", "length", "I", false)
  | 2 => ("BunchTimes$Course", "marks", "I", false)
  | 3 => ("BunchTimes$Course", "km", "[I", true)
  | 4 => ("BunchTimes$Course", "how", "[I", true)
  | 5 => ("BunchTimes$Course", "crossed", "[I", true)
  | _ => ("BunchTimes$Course", "crossing", "[I", true)
def tyX1 : Nat → FieldType := fun k => match k with
  | 0 => .int
  | 1 => .int
  | 2 => .int
  | 3 => .array .int
  | 4 => .array .int
  | 5 => .array .int
  | _ => .array .int
abbrev wsX10 : List Cond := u_ws RX1 TX1 7
theorem nmX1 : ∀ a, a < 7 → ∀ b, b < 7 → a ≠ b → (TX1 a).2.1 ≠ (TX1 b).2.1 := by decide +kernel
theorem tyX1_ok : ∀ k, k < 7 → parseFieldDescriptor (TX1 k).2.2.1 = some (tyX1 k) := by decide +kernel
abbrev cX1_init : ByteArray := prog_3_method_1_code
def yX1_init : MethodName := ⟨RX1, "<init>", "()V"⟩
abbrev cX1_begin : ByteArray := prog_3_method_2_code
def yX1_begin : MethodName := ⟨RX1, "begin", "(II)V"⟩
abbrev cX1_copyFrom : ByteArray := prog_3_method_3_code
def yX1_copyFrom : MethodName := ⟨RX1, "copyFrom", "(LBunchTimes$Course;)V"⟩
abbrev cX1_addMark : ByteArray := prog_3_method_4_code
def yX1_addMark : MethodName := ⟨RX1, "addMark", "(II)I"⟩
abbrev cX1_addCrossing : ByteArray := prog_3_method_5_code
def yX1_addCrossing : MethodName := ⟨RX1, "addCrossing", "(II)I"⟩
abbrev cX1_hasCrossed : ByteArray := prog_3_method_6_code
def yX1_hasCrossed : MethodName := ⟨RX1, "hasCrossed", "(II)Z"⟩
abbrev cX1_forget : ByteArray := prog_3_method_7_code
def yX1_forget : MethodName := ⟨RX1, "forget", "(I)V"⟩
def RX2 : String := "BunchTimes$Prizes"
def TX2 : u_T := fun k => match k with
  | 0 => ("BunchTimes$Prizes", "bonus", "[I", true)
  | 1 => ("BunchTimes$Prizes", "points", "[I", true)
  | _ => ("BunchTimes$Prizes", "dots", "[I", true)
def tyX2 : Nat → FieldType := fun k => match k with
  | 0 => .array .int
  | 1 => .array .int
  | _ => .array .int
abbrev wsX20 : List Cond := u_ws RX2 TX2 3
theorem nmX2 : ∀ a, a < 3 → ∀ b, b < 3 → a ≠ b → (TX2 a).2.1 ≠ (TX2 b).2.1 := by decide +kernel
theorem tyX2_ok : ∀ k, k < 3 → parseFieldDescriptor (TX2 k).2.2.1 = some (tyX2 k) := by decide +kernel
abbrev cX2_init : ByteArray := prog_4_method_1_code
def yX2_init : MethodName := ⟨RX2, "<init>", "()V"⟩
abbrev cX2_copyFrom : ByteArray := prog_4_method_2_code
def yX2_copyFrom : MethodName := ⟨RX2, "copyFrom", "(LBunchTimes$Prizes;)V"⟩
abbrev cX2_awardOrder : ByteArray := prog_4_method_3_code
def yX2_awardOrder : MethodName := ⟨RX2, "awardOrder", "(LBunchTimes$Stage;)V"⟩
abbrev cX2_awardMarks : ByteArray := prog_4_method_4_code
def yX2_awardMarks : MethodName := ⟨RX2, "awardMarks", "(LBunchTimes$Stage;)V"⟩
abbrev cX2_awardOver : ByteArray := prog_4_method_5_code
def yX2_awardOver : MethodName := ⟨RX2, "awardOver", "(IIIZ)V"⟩
def RX3 : String := "BunchTimes$Race"
def TX3 : u_T := fun k => match k with
  | 0 => ("BunchTimes$Race", "teams", "I", false)
  | 1 => ("BunchTimes$Race", "riders", "I", false)
  | 2 => ("BunchTimes$Race", "stages", "I", false)
  | 3 => ("BunchTimes$Race", "open", "Z", false)
  | 4 => ("BunchTimes$Race", "gap", "I", false)
  | 5 => ("BunchTimes$Race", "zone", "I", false)
  | 6 => ("BunchTimes$Race", "teamOf", "[I", true)
  | 7 => ("BunchTimes$Race", "age", "[I", true)
  | 8 => ("BunchTimes$Race", "in", "[Z", true)
  | _ => ("BunchTimes$Race", "all", "[LBunchTimes$Stage;", true)
def tyX3 : Nat → FieldType := fun k => match k with
  | 0 => .int
  | 1 => .int
  | 2 => .int
  | 3 => .boolean
  | 4 => .int
  | 5 => .int
  | 6 => .array .int
  | 7 => .array .int
  | 8 => .array .boolean
  | _ => .array (.object "BunchTimes$Stage")
abbrev wsX30 : List Cond := u_ws RX3 TX3 10
theorem nmX3 : ∀ a, a < 10 → ∀ b, b < 10 → a ≠ b → (TX3 a).2.1 ≠ (TX3 b).2.1 := by decide +kernel
theorem tyX3_ok : ∀ k, k < 10 → parseFieldDescriptor (TX3 k).2.2.1 = some (tyX3 k) := by decide +kernel
abbrev cX3_init : ByteArray := prog_5_method_1_code
def yX3_init : MethodName := ⟨RX3, "<init>", "()V"⟩
abbrev cX3_copyFrom : ByteArray := prog_5_method_2_code
def yX3_copyFrom : MethodName := ⟨RX3, "copyFrom", "(LBunchTimes$Race;)V"⟩
abbrev cX3_addTeam : ByteArray := prog_5_method_3_code
def yX3_addTeam : MethodName := ⟨RX3, "addTeam", "()I"⟩
abbrev cX3_addRider : ByteArray := prog_5_method_4_code
def yX3_addRider : MethodName := ⟨RX3, "addRider", "(II)I"⟩
abbrev cX3_openStage : ByteArray := prog_5_method_5_code
def yX3_openStage : MethodName := ⟨RX3, "openStage", "(II)I"⟩
abbrev cX3_addMark : ByteArray := prog_5_method_6_code
def yX3_addMark : MethodName := ⟨RX3, "addMark", "(II)I"⟩
abbrev cX3_addFinish : ByteArray := prog_5_method_7_code
def yX3_addFinish : MethodName := ⟨RX3, "addFinish", "(II)Z"⟩
abbrev cX3_addCrossing : ByteArray := prog_5_method_8_code
def yX3_addCrossing : MethodName := ⟨RX3, "addCrossing", "(II)I"⟩
abbrev cX3_addFall : ByteArray := prog_5_method_9_code
def yX3_addFall : MethodName := ⟨RX3, "addFall", "(III)Z"⟩
abbrev cX3_addJury : ByteArray := prog_5_method_10_code
def yX3_addJury : MethodName := ⟨RX3, "addJury", "(II)I"⟩
abbrev cX3_addGrace : ByteArray := prog_5_method_11_code
def yX3_addGrace : MethodName := ⟨RX3, "addGrace", "(I)Z"⟩
abbrev cX3_dropRider : ByteArray := prog_5_method_12_code
def yX3_dropRider : MethodName := ⟨RX3, "dropRider", "(I)Z"⟩
abbrev cX3_setGap : ByteArray := prog_5_method_13_code
def yX3_setGap : MethodName := ⟨RX3, "setGap", "(I)Z"⟩
abbrev cX3_setZone : ByteArray := prog_5_method_14_code
def yX3_setZone : MethodName := ⟨RX3, "setZone", "(I)Z"⟩
abbrev cX3_closeStage : ByteArray := prog_5_method_15_code
def yX3_closeStage : MethodName := ⟨RX3, "closeStage", "()I"⟩
abbrev cX3_sendOut : ByteArray := prog_5_method_16_code
def yX3_sendOut : MethodName := ⟨RX3, "sendOut", "(LBunchTimes$Stage;)I"⟩
abbrev cX3_hasRider : ByteArray := prog_5_method_17_code
def yX3_hasRider : MethodName := ⟨RX3, "hasRider", "(I)Z"⟩
abbrev cX3_isIn : ByteArray := prog_5_method_18_code
def yX3_isIn : MethodName := ⟨RX3, "isIn", "(I)Z"⟩
abbrev cX3_countIn : ByteArray := prog_5_method_19_code
def yX3_countIn : MethodName := ⟨RX3, "countIn", "()I"⟩
abbrev cX3_closed : ByteArray := prog_5_method_20_code
def yX3_closed : MethodName := ⟨RX3, "closed", "()I"⟩
abbrev cX3_closedStage : ByteArray := prog_5_method_21_code
def yX3_closedStage : MethodName := ⟨RX3, "closedStage", "(I)LBunchTimes$Stage;"⟩
abbrev cX3_latestMarks : ByteArray := prog_5_method_22_code
def yX3_latestMarks : MethodName := ⟨RX3, "latestMarks", "()I"⟩
abbrev cX3_latestFinishers : ByteArray := prog_5_method_23_code
def yX3_latestFinishers : MethodName := ⟨RX3, "latestFinishers", "()I"⟩
abbrev cX3_latestLength : ByteArray := prog_5_method_24_code
def yX3_latestLength : MethodName := ⟨RX3, "latestLength", "()I"⟩
abbrev cX3_gained : ByteArray := prog_5_method_25_code
def yX3_gained : MethodName := ⟨RX3, "gained", "(II)I"⟩
abbrev cX3_sumOf : ByteArray := prog_5_method_26_code
def yX3_sumOf : MethodName := ⟨RX3, "sumOf", "(II)I"⟩
abbrev cX3_placesOf : ByteArray := prog_5_method_27_code
def yX3_placesOf : MethodName := ⟨RX3, "placesOf", "(II)I"⟩
abbrev cX3_isRanked : ByteArray := prog_5_method_28_code
def yX3_isRanked : MethodName := ⟨RX3, "isRanked", "(I)Z"⟩
abbrev cX3_teamSum : ByteArray := prog_5_method_29_code
def yX3_teamSum : MethodName := ⟨RX3, "teamSum", "(I)I"⟩
def RX4 : String := "BunchTimes$Stage"
def TX4 : u_T := fun k => match k with
  | 0 => ("BunchTimes$Stage", "course", "LBunchTimes$Course;", true)
  | 1 => ("BunchTimes$Stage", "prizes", "LBunchTimes$Prizes;", true)
  | 2 => ("BunchTimes$Stage", "finish", "[I", true)
  | 3 => ("BunchTimes$Stage", "fallKm", "[I", true)
  | 4 => ("BunchTimes$Stage", "fallWith", "[I", true)
  | 5 => ("BunchTimes$Stage", "juried", "[I", true)
  | 6 => ("BunchTimes$Stage", "graced", "[Z", true)
  | 7 => ("BunchTimes$Stage", "finishers", "I", false)
  | 8 => ("BunchTimes$Stage", "order", "[I", true)
  | 9 => ("BunchTimes$Stage", "place", "[I", true)
  | 10 => ("BunchTimes$Stage", "bunch", "[I", true)
  | 11 => ("BunchTimes$Stage", "raw", "[I", true)
  | 12 => ("BunchTimes$Stage", "time", "[I", true)
  | 13 => ("BunchTimes$Stage", "late", "[Z", true)
  | 14 => ("BunchTimes$Stage", "bunches", "I", false)
  | 15 => ("BunchTimes$Stage", "best", "I", false)
  | 16 => ("BunchTimes$Stage", "speed", "I", false)
  | 17 => ("BunchTimes$Stage", "limit", "I", false)
  | 18 => ("BunchTimes$Stage", "lateOnes", "I", false)
  | _ => ("BunchTimes$Stage", "pardoned", "Z", false)
def tyX4 : Nat → FieldType := fun k => match k with
  | 0 => .object "BunchTimes$Course"
  | 1 => .object "BunchTimes$Prizes"
  | 2 => .array .int
  | 3 => .array .int
  | 4 => .array .int
  | 5 => .array .int
  | 6 => .array .boolean
  | 7 => .int
  | 8 => .array .int
  | 9 => .array .int
  | 10 => .array .int
  | 11 => .array .int
  | 12 => .array .int
  | 13 => .array .boolean
  | 14 => .int
  | 15 => .int
  | 16 => .int
  | 17 => .int
  | 18 => .int
  | _ => .boolean
abbrev wsX40 : List Cond := u_ws RX4 TX4 20
theorem nmX4 : ∀ a, a < 20 → ∀ b, b < 20 → a ≠ b → (TX4 a).2.1 ≠ (TX4 b).2.1 := by decide +kernel
theorem tyX4_ok : ∀ k, k < 20 → parseFieldDescriptor (TX4 k).2.2.1 = some (tyX4 k) := by decide +kernel
abbrev cX4_init : ByteArray := prog_6_method_1_code
def yX4_init : MethodName := ⟨RX4, "<init>", "()V"⟩
abbrev cX4_begin : ByteArray := prog_6_method_2_code
def yX4_begin : MethodName := ⟨RX4, "begin", "(II)V"⟩
abbrev cX4_copyFrom : ByteArray := prog_6_method_3_code
def yX4_copyFrom : MethodName := ⟨RX4, "copyFrom", "(LBunchTimes$Stage;)V"⟩
abbrev cX4_addFinish : ByteArray := prog_6_method_4_code
def yX4_addFinish : MethodName := ⟨RX4, "addFinish", "(II)Z"⟩
abbrev cX4_addFall : ByteArray := prog_6_method_5_code
def yX4_addFall : MethodName := ⟨RX4, "addFall", "(III)Z"⟩
abbrev cX4_addJury : ByteArray := prog_6_method_6_code
def yX4_addJury : MethodName := ⟨RX4, "addJury", "(II)I"⟩
abbrev cX4_addGrace : ByteArray := prog_6_method_7_code
def yX4_addGrace : MethodName := ⟨RX4, "addGrace", "(I)Z"⟩
abbrev cX4_forget : ByteArray := prog_6_method_8_code
def yX4_forget : MethodName := ⟨RX4, "forget", "(I)V"⟩
abbrev cX4_rank : ByteArray := prog_6_method_9_code
def yX4_rank : MethodName := ⟨RX4, "rank", "()V"⟩
abbrev cX4_beginsBunch : ByteArray := prog_6_method_10_code
def yX4_beginsBunch : MethodName := ⟨RX4, "beginsBunch", "(II)Z"⟩
abbrev cX4_space : ByteArray := prog_6_method_11_code
def yX4_space : MethodName := ⟨RX4, "space", "(I)I"⟩
abbrev cX4_split : ByteArray := prog_6_method_12_code
def yX4_split : MethodName := ⟨RX4, "split", "(I)V"⟩
abbrev cX4_takeTimes : ByteArray := prog_6_method_13_code
def yX4_takeTimes : MethodName := ⟨RX4, "takeTimes", "(I)V"⟩
abbrev cX4_leastRaw : ByteArray := prog_6_method_14_code
def yX4_leastRaw : MethodName := ⟨RX4, "leastRaw", "(II)I"⟩
abbrev cX4_hasFinish : ByteArray := prog_6_method_15_code
def yX4_hasFinish : MethodName := ⟨RX4, "hasFinish", "(I)Z"⟩
abbrev cX4_fallCounts : ByteArray := prog_6_method_16_code
def yX4_fallCounts : MethodName := ⟨RX4, "fallCounts", "(II)Z"⟩
abbrev cX4_judge : ByteArray := prog_6_method_17_code
def yX4_judge : MethodName := ⟨RX4, "judge", "()V"⟩
abbrev cX4_sendsOut : ByteArray := prog_6_method_18_code
def yX4_sendsOut : MethodName := ⟨RX4, "sendsOut", "(I)Z"⟩
abbrev cX4_fact : ByteArray := prog_6_method_19_code
def yX4_fact : MethodName := ⟨RX4, "fact", "(I)I"⟩
abbrev cX4_countHelped : ByteArray := prog_6_method_20_code
def yX4_countHelped : MethodName := ⟨RX4, "countHelped", "()I"⟩
abbrev cX4_sumHelped : ByteArray := prog_6_method_21_code
def yX4_sumHelped : MethodName := ⟨RX4, "sumHelped", "()I"⟩
abbrev cX4_resultOf : ByteArray := prog_6_method_22_code
def yX4_resultOf : MethodName := ⟨RX4, "resultOf", "(II)I"⟩
abbrev cX4_countBunches : ByteArray := prog_6_method_23_code
def yX4_countBunches : MethodName := ⟨RX4, "countBunches", "(I)I"⟩
abbrev cX4_joiningGap : ByteArray := prog_6_method_24_code
def yX4_joiningGap : MethodName := ⟨RX4, "joiningGap", "()I"⟩
abbrev cX4_aheadOfWidest : ByteArray := prog_6_method_25_code
def yX4_aheadOfWidest : MethodName := ⟨RX4, "aheadOfWidest", "()I"⟩
abbrev cX4_gainedBy : ByteArray := prog_6_method_26_code
def yX4_gainedBy : MethodName := ⟨RX4, "gainedBy", "(II)I"⟩
abbrev cX4_netTime : ByteArray := prog_6_method_27_code
def yX4_netTime : MethodName := ⟨RX4, "netTime", "(I)I"⟩
abbrev cX4_placeOf : ByteArray := prog_6_method_28_code
def yX4_placeOf : MethodName := ⟨RX4, "placeOf", "(I)I"⟩
abbrev cX4_teamTime : ByteArray := prog_6_method_29_code
def yX4_teamTime : MethodName := ⟨RX4, "teamTime", "([II)I"⟩
def RX5 : String := "BunchTimes$Standings"
def TX5 : u_T := fun k => match k with
  | 0 => ("BunchTimes$Standings", "order", "[I", true)
  | 1 => ("BunchTimes$Standings", "sums", "[I", true)
  | 2 => ("BunchTimes$Standings", "places", "[I", true)
  | 3 => ("BunchTimes$Standings", "worth", "[I", true)
  | _ => ("BunchTimes$Standings", "size", "I", false)
def tyX5 : Nat → FieldType := fun k => match k with
  | 0 => .array .int
  | 1 => .array .int
  | 2 => .array .int
  | 3 => .array .int
  | _ => .int
abbrev wsX50 : List Cond := u_ws RX5 TX5 5
theorem nmX5 : ∀ a, a < 5 → ∀ b, b < 5 → a ≠ b → (TX5 a).2.1 ≠ (TX5 b).2.1 := by decide +kernel
theorem tyX5_ok : ∀ k, k < 5 → parseFieldDescriptor (TX5 k).2.2.1 = some (tyX5 k) := by decide +kernel
abbrev cX5_init : ByteArray := prog_7_method_1_code
def yX5_init : MethodName := ⟨RX5, "<init>", "()V"⟩
abbrev cX5_entry : ByteArray := prog_7_method_2_code
def yX5_entry : MethodName := ⟨RX5, "entry", "(I)I"⟩
abbrev cX5_rankList : ByteArray := prog_7_method_3_code
def yX5_rankList : MethodName := ⟨RX5, "rankList", "(LBunchTimes$Race;I)V"⟩
abbrev cX5_rankRiders : ByteArray := prog_7_method_4_code
def yX5_rankRiders : MethodName := ⟨RX5, "rankRiders", "(LBunchTimes$Race;II)V"⟩
abbrev cX5_rankTeams : ByteArray := prog_7_method_5_code
def yX5_rankTeams : MethodName := ⟨RX5, "rankTeams", "(LBunchTimes$Race;)V"⟩
abbrev cX5_insert : ByteArray := prog_7_method_6_code
def yX5_insert : MethodName := ⟨RX5, "insert", "(I)V"⟩
abbrev cX5_isLess : ByteArray := prog_7_method_7_code
def yX5_isLess : MethodName := ⟨RX5, "isLess", "(II)Z"⟩
abbrev cX5_rankWorthy : ByteArray := prog_7_method_8_code
def yX5_rankWorthy : MethodName := ⟨RX5, "rankWorthy", "(LBunchTimes$Race;I)V"⟩
abbrev cX5_wearer : ByteArray := prog_7_method_9_code
def yX5_wearer : MethodName := ⟨RX5, "wearer", "(LBunchTimes$Race;I)I"⟩
abbrev cX5_firstBut : ByteArray := prog_7_method_10_code
def yX5_firstBut : MethodName := ⟨RX5, "firstBut", "(I)I"⟩
abbrev cX5_lacking : ByteArray := prog_7_method_11_code
def yX5_lacking : MethodName := ⟨RX5, "lacking", "(I)I"⟩
def RX6 : String := "BunchTimes$Tape"
def TX6 : u_T := fun k => match k with
  | 0 => ("BunchTimes$Tape", "bytes", "[B", true)
  | 1 => ("BunchTimes$Tape", "length", "I", false)
  | 2 => ("BunchTimes$Tape", "token", "I", false)
  | 3 => ("BunchTimes$Tape", "start", "I", false)
  | 4 => ("BunchTimes$Tape", "next", "I", false)
  | _ => ("BunchTimes$Tape", "fault", "I", false)
def tyX6 : Nat → FieldType := fun k => match k with
  | 0 => .array .byte
  | 1 => .int
  | 2 => .int
  | 3 => .int
  | 4 => .int
  | _ => .int
abbrev wsX60 : List Cond := u_ws RX6 TX6 6
theorem nmX6 : ∀ a, a < 6 → ∀ b, b < 6 → a ≠ b → (TX6 a).2.1 ≠ (TX6 b).2.1 := by decide +kernel
theorem tyX6_ok : ∀ k, k < 6 → parseFieldDescriptor (TX6 k).2.2.1 = some (tyX6 k) := by decide +kernel
abbrev cX6_init : ByteArray := prog_8_method_1_code
def yX6_init : MethodName := ⟨RX6, "<init>", "()V"⟩
abbrev cX6_putFour : ByteArray := prog_8_method_2_code
def yX6_putFour : MethodName := ⟨RX6, "putFour", "(I)V"⟩
abbrev cX6_begin : ByteArray := prog_8_method_3_code
def yX6_begin : MethodName := ⟨RX6, "begin", "()V"⟩
abbrev cX6_hasMore : ByteArray := prog_8_method_4_code
def yX6_hasMore : MethodName := ⟨RX6, "hasMore", "()Z"⟩
abbrev cX6_hasInt : ByteArray := prog_8_method_5_code
def yX6_hasInt : MethodName := ⟨RX6, "hasInt", "()Z"⟩
abbrev cX6_takes : ByteArray := prog_8_method_6_code
def yX6_takes : MethodName := ⟨RX6, "takes", "(Ljava/lang/String;)Z"⟩
abbrev cX6_takeInt : ByteArray := prog_8_method_7_code
def yX6_takeInt : MethodName := ⟨RX6, "takeInt", "(II)I"⟩
abbrev cX6_endStatement : ByteArray := prog_8_method_8_code
def yX6_endStatement : MethodName := ⟨RX6, "endStatement", "(IZ)V"⟩
abbrev cX6_cannotStand : ByteArray := prog_8_method_9_code
def yX6_cannotStand : MethodName := ⟨RX6, "cannotStand", "()I"⟩
abbrev cX6_advance : ByteArray := prog_8_method_10_code
def yX6_advance : MethodName := ⟨RX6, "advance", "()V"⟩
abbrev cX6_kindAt : ByteArray := prog_8_method_11_code
def yX6_kindAt : MethodName := ⟨RX6, "kindAt", "(I)I"⟩
def RX7 : String := "BunchTimes$Teller"
def TX7 : u_T := fun k => match k with
  | _ => ("", "", "", false)
def tyX7 : Nat → FieldType := fun k => match k with
  | _ => .int
abbrev wsX70 : List Cond := u_ws RX7 TX7 0
theorem nmX7 : ∀ a, a < 0 → ∀ b, b < 0 → a ≠ b → (TX7 a).2.1 ≠ (TX7 b).2.1 := by decide +kernel
theorem tyX7_ok : ∀ k, k < 0 → parseFieldDescriptor (TX7 k).2.2.1 = some (tyX7 k) := by decide +kernel
abbrev cX7_tellStatement : ByteArray := prog_9_method_2_code
def yX7_tellStatement : MethodName := ⟨RX7, "tellStatement", "(LBunchTimes$Race;LBunchTimes$Tape;)Z"⟩
abbrev cX7_tellRider : ByteArray := prog_9_method_3_code
def yX7_tellRider : MethodName := ⟨RX7, "tellRider", "(LBunchTimes$Race;LBunchTimes$Tape;)Z"⟩
abbrev cX7_tellStage : ByteArray := prog_9_method_4_code
def yX7_tellStage : MethodName := ⟨RX7, "tellStage", "(LBunchTimes$Race;LBunchTimes$Tape;)Z"⟩
abbrev cX7_takeKind : ByteArray := prog_9_method_5_code
def yX7_takeKind : MethodName := ⟨RX7, "takeKind", "(LBunchTimes$Tape;)I"⟩
abbrev cX7_takeHow : ByteArray := prog_9_method_6_code
def yX7_takeHow : MethodName := ⟨RX7, "takeHow", "(LBunchTimes$Tape;)I"⟩
abbrev cX7_tellFinishes : ByteArray := prog_9_method_7_code
def yX7_tellFinishes : MethodName := ⟨RX7, "tellFinishes", "(LBunchTimes$Race;LBunchTimes$Tape;)Z"⟩
abbrev cX7_tellCrossings : ByteArray := prog_9_method_8_code
def yX7_tellCrossings : MethodName := ⟨RX7, "tellCrossings", "(LBunchTimes$Race;LBunchTimes$Tape;)Z"⟩
abbrev cX7_tellFall : ByteArray := prog_9_method_9_code
def yX7_tellFall : MethodName := ⟨RX7, "tellFall", "(LBunchTimes$Race;LBunchTimes$Tape;)Z"⟩
abbrev cX7_tellJury : ByteArray := prog_9_method_10_code
def yX7_tellJury : MethodName := ⟨RX7, "tellJury", "(LBunchTimes$Race;LBunchTimes$Tape;)Z"⟩
abbrev cX7_takeRider : ByteArray := prog_9_method_11_code
def yX7_takeRider : MethodName := ⟨RX7, "takeRider", "(LBunchTimes$Race;LBunchTimes$Tape;)I"⟩
def RX8 : String := "BunchTimes"
def TX8 : u_T := fun k => match k with
  | 0 => ("BunchTimes", "race", "LBunchTimes$Race;", true)
  | 1 => ("BunchTimes", "ahead", "LBunchTimes$Race;", true)
  | 2 => ("BunchTimes", "kept", "[LBunchTimes$Race;", true)
  | 3 => ("BunchTimes", "standings", "LBunchTimes$Standings;", true)
  | _ => ("BunchTimes", "tape", "LBunchTimes$Tape;", true)
def tyX8 : Nat → FieldType := fun k => match k with
  | 0 => .object "BunchTimes$Race"
  | 1 => .object "BunchTimes$Race"
  | 2 => .array (.object "BunchTimes$Race")
  | 3 => .object "BunchTimes$Standings"
  | _ => .object "BunchTimes$Tape"
abbrev wsX80 : List Cond := u_ws RX8 TX8 5
theorem nmX8 : ∀ a, a < 5 → ∀ b, b < 5 → a ≠ b → (TX8 a).2.1 ≠ (TX8 b).2.1 := by decide +kernel
theorem tyX8_ok : ∀ k, k < 5 → parseFieldDescriptor (TX8 k).2.2.1 = some (tyX8 k) := by decide +kernel
abbrev cX8_init : ByteArray := prog_1_method_1_code
def yX8_init : MethodName := ⟨RX8, "<init>", "()V"⟩
abbrev cX8_feed : ByteArray := prog_1_method_2_code
def yX8_feed : MethodName := ⟨RX8, "feed", "(IIIII)I"⟩
abbrev cX8_end : ByteArray := prog_1_method_3_code
def yX8_end : MethodName := ⟨RX8, "end", "(I)Z"⟩
abbrev cX8_tell : ByteArray := prog_1_method_4_code
def yX8_tell : MethodName := ⟨RX8, "tell", "()I"⟩
abbrev cX8_fault : ByteArray := prog_1_method_5_code
def yX8_fault : MethodName := ⟨RX8, "fault", "()I"⟩
abbrev cX8_team : ByteArray := prog_1_method_6_code
def yX8_team : MethodName := ⟨RX8, "team", "()I"⟩
abbrev cX8_rider : ByteArray := prog_1_method_7_code
def yX8_rider : MethodName := ⟨RX8, "rider", "(II)I"⟩
abbrev cX8_stage : ByteArray := prog_1_method_8_code
def yX8_stage : MethodName := ⟨RX8, "stage", "(II)I"⟩
abbrev cX8_mark : ByteArray := prog_1_method_9_code
def yX8_mark : MethodName := ⟨RX8, "mark", "(II)I"⟩
abbrev cX8_finish : ByteArray := prog_1_method_10_code
def yX8_finish : MethodName := ⟨RX8, "finish", "(II)Z"⟩
abbrev cX8_over : ByteArray := prog_1_method_11_code
def yX8_over : MethodName := ⟨RX8, "over", "(II)I"⟩
abbrev cX8_fall : ByteArray := prog_1_method_12_code
def yX8_fall : MethodName := ⟨RX8, "fall", "(III)Z"⟩
abbrev cX8_jury : ByteArray := prog_1_method_13_code
def yX8_jury : MethodName := ⟨RX8, "jury", "(II)I"⟩
abbrev cX8_grace : ByteArray := prog_1_method_14_code
def yX8_grace : MethodName := ⟨RX8, "grace", "(I)Z"⟩
abbrev cX8_quit : ByteArray := prog_1_method_15_code
def yX8_quit : MethodName := ⟨RX8, "quit", "(I)Z"⟩
abbrev cX8_rule : ByteArray := prog_1_method_16_code
def yX8_rule : MethodName := ⟨RX8, "rule", "(II)Z"⟩
abbrev cX8_close : ByteArray := prog_1_method_17_code
def yX8_close : MethodName := ⟨RX8, "close", "()I"⟩
abbrev cX8_keep : ByteArray := prog_1_method_18_code
def yX8_keep : MethodName := ⟨RX8, "keep", "(I)Z"⟩
abbrev cX8_back : ByteArray := prog_1_method_19_code
def yX8_back : MethodName := ⟨RX8, "back", "(I)Z"⟩
abbrev cX8_count : ByteArray := prog_1_method_20_code
def yX8_count : MethodName := ⟨RX8, "count", "(I)I"⟩
abbrev cX8_of : ByteArray := prog_1_method_21_code
def yX8_of : MethodName := ⟨RX8, "of", "(II)I"⟩
abbrev cX8_told : ByteArray := prog_1_method_22_code
def yX8_told : MethodName := ⟨RX8, "told", "(II)I"⟩
abbrev cX8_order : ByteArray := prog_1_method_23_code
def yX8_order : MethodName := ⟨RX8, "order", "(II)I"⟩
abbrev cX8_result : ByteArray := prog_1_method_24_code
def yX8_result : MethodName := ⟨RX8, "result", "(III)I"⟩
abbrev cX8_parted : ByteArray := prog_1_method_25_code
def yX8_parted : MethodName := ⟨RX8, "parted", "(II)I"⟩
abbrev cX8_together : ByteArray := prog_1_method_26_code
def yX8_together : MethodName := ⟨RX8, "together", "(I)I"⟩
abbrev cX8_escaped : ByteArray := prog_1_method_27_code
def yX8_escaped : MethodName := ⟨RX8, "escaped", "(I)I"⟩
abbrev cX8_list : ByteArray := prog_1_method_28_code
def yX8_list : MethodName := ⟨RX8, "list", "(II)I"⟩
abbrev cX8_total : ByteArray := prog_1_method_29_code
def yX8_total : MethodName := ⟨RX8, "total", "(IZ)I"⟩
abbrev cX8_jersey : ByteArray := prog_1_method_30_code
def yX8_jersey : MethodName := ⟨RX8, "jersey", "(IZ)I"⟩
abbrev cX8_needs : ByteArray := prog_1_method_31_code
def yX8_needs : MethodName := ⟨RX8, "needs", "(I)I"⟩
abbrev cX8_without : ByteArray := prog_1_method_32_code
def yX8_without : MethodName := ⟨RX8, "without", "(I)I"⟩
abbrev cX8_caught : ByteArray := prog_1_method_33_code
def yX8_caught : MethodName := ⟨RX8, "caught", "(IIII)I"⟩
abbrev cX8_holds : ByteArray := prog_1_method_34_code
def yX8_holds : MethodName := ⟨RX8, "holds", "(III)I"⟩
abbrev cX8_chase : ByteArray := prog_1_method_35_code
def yX8_chase : MethodName := ⟨RX8, "chase", "(III)I"⟩
abbrev cX8_within : ByteArray := prog_1_method_36_code
def yX8_within : MethodName := ⟨RX8, "within", "(III)Z"⟩
def RX9 : String := "BunchTimesModel"
def TX9 : u_T := fun k => match k with
  | 0 => ("BunchTimesModel", "thrown", "I", false)
  | 1 => ("BunchTimesModel", "row", "[I", true)
  | 2 => ("BunchTimesModel", "keptRows", "[I", true)
  | 3 => ("BunchTimesModel", "before", "[I", true)
  | 4 => ("BunchTimesModel", "isKept", "[Z", true)
  | 5 => ("BunchTimesModel", "order", "[I", true)
  | 6 => ("BunchTimesModel", "orderMany", "I", false)
  | 7 => ("BunchTimesModel", "ranked", "[I", true)
  | 8 => ("BunchTimesModel", "rankedMany", "I", false)
  | 9 => ("BunchTimesModel", "least", "[I", true)
  | 10 => ("BunchTimesModel", "tape", "[B", true)
  | 11 => ("BunchTimesModel", "taped", "I", false)
  | 12 => ("BunchTimesModel", "length", "I", false)
  | 13 => ("BunchTimesModel", "place", "I", false)
  | 14 => ("BunchTimesModel", "from", "I", false)
  | 15 => ("BunchTimesModel", "fault", "I", false)
  | 16 => ("BunchTimesModel", "told", "[I", true)
  | _ => ("BunchTimesModel", "toldMany", "I", false)
def tyX9 : Nat → FieldType := fun k => match k with
  | 0 => .int
  | 1 => .array .int
  | 2 => .array .int
  | 3 => .array .int
  | 4 => .array .boolean
  | 5 => .array .int
  | 6 => .int
  | 7 => .array .int
  | 8 => .int
  | 9 => .array .int
  | 10 => .array .byte
  | 11 => .int
  | 12 => .int
  | 13 => .int
  | 14 => .int
  | 15 => .int
  | 16 => .array .int
  | _ => .int
abbrev wsX90 : List Cond := u_ws RX9 TX9 18
theorem nmX9 : ∀ a, a < 18 → ∀ b, b < 18 → a ≠ b → (TX9 a).2.1 ≠ (TX9 b).2.1 := by decide +kernel
theorem tyX9_ok : ∀ k, k < 18 → parseFieldDescriptor (TX9 k).2.2.1 = some (tyX9 k) := by decide +kernel
abbrev cX9_init : ByteArray := prog_11_method_1_code
def yX9_init : MethodName := ⟨RX9, "<init>", "()V"⟩
abbrev cX9_thrown : ByteArray := prog_11_method_2_code
def yX9_thrown : MethodName := ⟨RX9, "thrown", "()I"⟩
abbrev cX9_isIn : ByteArray := prog_11_method_3_code
def yX9_isIn : MethodName := ⟨RX9, "isIn", "(III)Z"⟩
abbrev cX9_isRider : ByteArray := prog_11_method_4_code
def yX9_isRider : MethodName := ⟨RX9, "isRider", "(I)Z"⟩
abbrev cX9_isThere : ByteArray := prog_11_method_5_code
def yX9_isThere : MethodName := ⟨RX9, "isThere", "(I)Z"⟩
abbrev cX9_isOpen : ByteArray := prog_11_method_6_code
def yX9_isOpen : MethodName := ⟨RX9, "isOpen", "()Z"⟩
abbrev cX9_closedMany : ByteArray := prog_11_method_7_code
def yX9_closedMany : MethodName := ⟨RX9, "closedMany", "()I"⟩
abbrev cX9_latest : ByteArray := prog_11_method_8_code
def yX9_latest : MethodName := ⟨RX9, "latest", "()I"⟩
abbrev cX9_at : ByteArray := prog_11_method_9_code
def yX9_at : MethodName := ⟨RX9, "at", "(II)I"⟩
abbrev cX9_at_ : ByteArray := prog_11_method_10_code
def yX9_at_ : MethodName := ⟨RX9, "at", "(III)I"⟩
abbrev cX9_mark : ByteArray := prog_11_method_11_code
def yX9_mark : MethodName := ⟨RX9, "mark", "(III)I"⟩
abbrev cX9_hasFinish : ByteArray := prog_11_method_12_code
def yX9_hasFinish : MethodName := ⟨RX9, "hasFinish", "(II)Z"⟩
abbrev cX9_finishes : ByteArray := prog_11_method_13_code
def yX9_finishes : MethodName := ⟨RX9, "finishes", "(I)I"⟩
abbrev cX9_there : ByteArray := prog_11_method_14_code
def yX9_there : MethodName := ⟨RX9, "there", "()I"⟩
abbrev cX9_team : ByteArray := prog_11_method_15_code
def yX9_team : MethodName := ⟨RX9, "team", "()I"⟩
abbrev cX9_teams : ByteArray := prog_11_method_16_code
def yX9_teams : MethodName := ⟨RX9, "teams", "()I"⟩
abbrev cX9_rider : ByteArray := prog_11_method_17_code
def yX9_rider : MethodName := ⟨RX9, "rider", "(II)I"⟩
abbrev cX9_comes : ByteArray := prog_11_method_18_code
def yX9_comes : MethodName := ⟨RX9, "comes", "(II)I"⟩
abbrev cX9_stage : ByteArray := prog_11_method_19_code
def yX9_stage : MethodName := ⟨RX9, "stage", "(II)I"⟩
abbrev cX9_stages : ByteArray := prog_11_method_20_code
def yX9_stages : MethodName := ⟨RX9, "stages", "(II)I"⟩
abbrev cX9_mark_ : ByteArray := prog_11_method_21_code
def yX9_mark_ : MethodName := ⟨RX9, "mark", "(II)I"⟩
abbrev cX9_marks : ByteArray := prog_11_method_22_code
def yX9_marks : MethodName := ⟨RX9, "marks", "(II)I"⟩
abbrev cX9_finish : ByteArray := prog_11_method_23_code
def yX9_finish : MethodName := ⟨RX9, "finish", "(II)Z"⟩
abbrev cX9_finishes_ : ByteArray := prog_11_method_24_code
def yX9_finishes_ : MethodName := ⟨RX9, "finishes", "(II)Z"⟩
abbrev cX9_over : ByteArray := prog_11_method_25_code
def yX9_over : MethodName := ⟨RX9, "over", "(II)I"⟩
abbrev cX9_overs : ByteArray := prog_11_method_26_code
def yX9_overs : MethodName := ⟨RX9, "overs", "(II)I"⟩
abbrev cX9_fall : ByteArray := prog_11_method_27_code
def yX9_fall : MethodName := ⟨RX9, "fall", "(III)Z"⟩
abbrev cX9_falls : ByteArray := prog_11_method_28_code
def yX9_falls : MethodName := ⟨RX9, "falls", "(III)Z"⟩
abbrev cX9_jury : ByteArray := prog_11_method_29_code
def yX9_jury : MethodName := ⟨RX9, "jury", "(II)I"⟩
abbrev cX9_juries : ByteArray := prog_11_method_30_code
def yX9_juries : MethodName := ⟨RX9, "juries", "(II)I"⟩
abbrev cX9_grace : ByteArray := prog_11_method_31_code
def yX9_grace : MethodName := ⟨RX9, "grace", "(I)Z"⟩
abbrev cX9_graces : ByteArray := prog_11_method_32_code
def yX9_graces : MethodName := ⟨RX9, "graces", "(I)Z"⟩
abbrev cX9_quit : ByteArray := prog_11_method_33_code
def yX9_quit : MethodName := ⟨RX9, "quit", "(I)Z"⟩
abbrev cX9_quits : ByteArray := prog_11_method_34_code
def yX9_quits : MethodName := ⟨RX9, "quits", "(I)Z"⟩
abbrev cX9_rule : ByteArray := prog_11_method_35_code
def yX9_rule : MethodName := ⟨RX9, "rule", "(II)Z"⟩
abbrev cX9_laysOrder : ByteArray := prog_11_method_36_code
def yX9_laysOrder : MethodName := ⟨RX9, "laysOrder", "(I)V"⟩
abbrev cX9_space : ByteArray := prog_11_method_37_code
def yX9_space : MethodName := ⟨RX9, "space", "(II)I"⟩
abbrev cX9_bunches : ByteArray := prog_11_method_38_code
def yX9_bunches : MethodName := ⟨RX9, "bunches", "(II)I"⟩
abbrev cX9_laysRaw : ByteArray := prog_11_method_39_code
def yX9_laysRaw : MethodName := ⟨RX9, "laysRaw", "(I)V"⟩
abbrev cX9_doesCount : ByteArray := prog_11_method_40_code
def yX9_doesCount : MethodName := ⟨RX9, "doesCount", "(II)Z"⟩
abbrev cX9_timeOf : ByteArray := prog_11_method_41_code
def yX9_timeOf : MethodName := ⟨RX9, "timeOf", "(II)I"⟩
abbrev cX9_isLate : ByteArray := prog_11_method_42_code
def yX9_isLate : MethodName := ⟨RX9, "isLate", "(II)Z"⟩
abbrev cX9_hundredths : ByteArray := prog_11_method_43_code
def yX9_hundredths : MethodName := ⟨RX9, "hundredths", "(I)I"⟩
abbrev cX9_laysLimit : ByteArray := prog_11_method_44_code
def yX9_laysLimit : MethodName := ⟨RX9, "laysLimit", "(I)V"⟩
abbrev cX9_pointsFor : ByteArray := prog_11_method_45_code
def yX9_pointsFor : MethodName := ⟨RX9, "pointsFor", "(II)I"⟩
abbrev cX9_dotsFor : ByteArray := prog_11_method_46_code
def yX9_dotsFor : MethodName := ⟨RX9, "dotsFor", "(II)I"⟩
abbrev cX9_adds : ByteArray := prog_11_method_47_code
def yX9_adds : MethodName := ⟨RX9, "adds", "(IIII)V"⟩
abbrev cX9_laysPrizes : ByteArray := prog_11_method_48_code
def yX9_laysPrizes : MethodName := ⟨RX9, "laysPrizes", "(I)V"⟩
abbrev cX9_close : ByteArray := prog_11_method_49_code
def yX9_close : MethodName := ⟨RX9, "close", "()I"⟩
abbrev cX9_closes : ByteArray := prog_11_method_50_code
def yX9_closes : MethodName := ⟨RX9, "closes", "()I"⟩
abbrev cX9_keep : ByteArray := prog_11_method_51_code
def yX9_keep : MethodName := ⟨RX9, "keep", "(I)Z"⟩
abbrev cX9_back : ByteArray := prog_11_method_52_code
def yX9_back : MethodName := ⟨RX9, "back", "(I)Z"⟩
abbrev cX9_count : ByteArray := prog_11_method_53_code
def yX9_count : MethodName := ⟨RX9, "count", "(I)I"⟩
abbrev cX9_allOf : ByteArray := prog_11_method_54_code
def yX9_allOf : MethodName := ⟨RX9, "allOf", "(II)I"⟩
abbrev cX9_of : ByteArray := prog_11_method_55_code
def yX9_of : MethodName := ⟨RX9, "of", "(II)I"⟩
abbrev cX9_isClosed : ByteArray := prog_11_method_56_code
def yX9_isClosed : MethodName := ⟨RX9, "isClosed", "(I)Z"⟩
abbrev cX9_lesser : ByteArray := prog_11_method_57_code
def yX9_lesser : MethodName := ⟨RX9, "lesser", "(IZ)I"⟩
abbrev cX9_told : ByteArray := prog_11_method_58_code
def yX9_told : MethodName := ⟨RX9, "told", "(II)I"⟩
abbrev cX9_order : ByteArray := prog_11_method_59_code
def yX9_order : MethodName := ⟨RX9, "order", "(II)I"⟩
abbrev cX9_result : ByteArray := prog_11_method_60_code
def yX9_result : MethodName := ⟨RX9, "result", "(III)I"⟩
abbrev cX9_parted : ByteArray := prog_11_method_61_code
def yX9_parted : MethodName := ⟨RX9, "parted", "(II)I"⟩
abbrev cX9_together : ByteArray := prog_11_method_62_code
def yX9_together : MethodName := ⟨RX9, "together", "(I)I"⟩
abbrev cX9_escaped : ByteArray := prog_11_method_63_code
def yX9_escaped : MethodName := ⟨RX9, "escaped", "(I)I"⟩
abbrev cX9_totalBut : ByteArray := prog_11_method_64_code
def yX9_totalBut : MethodName := ⟨RX9, "totalBut", "(II)I"⟩
abbrev cX9_placesBut : ByteArray := prog_11_method_65_code
def yX9_placesBut : MethodName := ⟨RX9, "placesBut", "(II)I"⟩
abbrev cX9_isAhead : ByteArray := prog_11_method_66_code
def yX9_isAhead : MethodName := ⟨RX9, "isAhead", "(IIII)Z"⟩
abbrev cX9_isOn : ByteArray := prog_11_method_67_code
def yX9_isOn : MethodName := ⟨RX9, "isOn", "(II)Z"⟩
abbrev cX9_isBefore : ByteArray := prog_11_method_68_code
def yX9_isBefore : MethodName := ⟨RX9, "isBefore", "(III)Z"⟩
abbrev cX9_ranks : ByteArray := prog_11_method_69_code
def yX9_ranks : MethodName := ⟨RX9, "ranks", "(I)V"⟩
abbrev cX9_isTeamOn : ByteArray := prog_11_method_70_code
def yX9_isTeamOn : MethodName := ⟨RX9, "isTeamOn", "(I)Z"⟩
abbrev cX9_threeOf : ByteArray := prog_11_method_71_code
def yX9_threeOf : MethodName := ⟨RX9, "threeOf", "(II)I"⟩
abbrev cX9_teamTotal : ByteArray := prog_11_method_72_code
def yX9_teamTotal : MethodName := ⟨RX9, "teamTotal", "(I)I"⟩
abbrev cX9_ranksTeams : ByteArray := prog_11_method_73_code
def yX9_ranksTeams : MethodName := ⟨RX9, "ranksTeams", "()V"⟩
abbrev cX9_list : ByteArray := prog_11_method_74_code
def yX9_list : MethodName := ⟨RX9, "list", "(II)I"⟩
abbrev cX9_total : ByteArray := prog_11_method_75_code
def yX9_total : MethodName := ⟨RX9, "total", "(IZ)I"⟩
abbrev cX9_firstFree : ByteArray := prog_11_method_76_code
def yX9_firstFree : MethodName := ⟨RX9, "firstFree", "(II)I"⟩
abbrev cX9_jersey : ByteArray := prog_11_method_77_code
def yX9_jersey : MethodName := ⟨RX9, "jersey", "(IZ)I"⟩
abbrev cX9_needs : ByteArray := prog_11_method_78_code
def yX9_needs : MethodName := ⟨RX9, "needs", "(I)I"⟩
abbrev cX9_without : ByteArray := prog_11_method_79_code
def yX9_without : MethodName := ⟨RX9, "without", "(I)I"⟩
abbrev cX9_metres : ByteArray := prog_11_method_80_code
def yX9_metres : MethodName := ⟨RX9, "metres", "(I)J"⟩
abbrev cX9_caughtAt : ByteArray := prog_11_method_81_code
def yX9_caughtAt : MethodName := ⟨RX9, "caughtAt", "(IIII)I"⟩
abbrev cX9_areRiders : ByteArray := prog_11_method_82_code
def yX9_areRiders : MethodName := ⟨RX9, "areRiders", "(I)Z"⟩
abbrev cX9_caught : ByteArray := prog_11_method_83_code
def yX9_caught : MethodName := ⟨RX9, "caught", "(IIII)I"⟩
abbrev cX9_holds : ByteArray := prog_11_method_84_code
def yX9_holds : MethodName := ⟨RX9, "holds", "(III)I"⟩
abbrev cX9_chase : ByteArray := prog_11_method_85_code
def yX9_chase : MethodName := ⟨RX9, "chase", "(III)I"⟩
abbrev cX9_put : ByteArray := prog_11_method_86_code
def yX9_put : MethodName := ⟨RX9, "put", "(I)V"⟩
abbrev cX9_feed : ByteArray := prog_11_method_87_code
def yX9_feed : MethodName := ⟨RX9, "feed", "(IIIII)I"⟩
abbrev cX9_end : ByteArray := prog_11_method_88_code
def yX9_end : MethodName := ⟨RX9, "end", "(I)Z"⟩
abbrev cX9_here : ByteArray := prog_11_method_89_code
def yX9_here : MethodName := ⟨RX9, "here", "()I"⟩
abbrev cX9_fails : ByteArray := prog_11_method_90_code
def yX9_fails : MethodName := ⟨RX9, "fails", "(II)V"⟩
abbrev cX9_isDigit : ByteArray := prog_11_method_91_code
def yX9_isDigit : MethodName := ⟨RX9, "isDigit", "()Z"⟩
abbrev cX9_number : ByteArray := prog_11_method_92_code
def yX9_number : MethodName := ⟨RX9, "number", "(II)V"⟩
abbrev cX9_word : ByteArray := prog_11_method_93_code
def yX9_word : MethodName := ⟨RX9, "word", "()J"⟩
abbrev cX9_isWord : ByteArray := prog_11_method_94_code
def yX9_isWord : MethodName := ⟨RX9, "isWord", "(J)Z"⟩
abbrev cX9_ends : ByteArray := prog_11_method_95_code
def yX9_ends : MethodName := ⟨RX9, "ends", "()Z"⟩
abbrev cX9_can : ByteArray := prog_11_method_96_code
def yX9_can : MethodName := ⟨RX9, "can", "(ZI)V"⟩
abbrev cX9_lastRider : ByteArray := prog_11_method_97_code
def yX9_lastRider : MethodName := ⟨RX9, "lastRider", "()I"⟩
abbrev cX9_stageTold : ByteArray := prog_11_method_98_code
def yX9_stageTold : MethodName := ⟨RX9, "stageTold", "(I)V"⟩
abbrev cX9_comeTold : ByteArray := prog_11_method_99_code
def yX9_comeTold : MethodName := ⟨RX9, "comeTold", "(I)V"⟩
abbrev cX9_overTold : ByteArray := prog_11_method_100_code
def yX9_overTold : MethodName := ⟨RX9, "overTold", "(I)V"⟩
abbrev cX9_fallTold : ByteArray := prog_11_method_101_code
def yX9_fallTold : MethodName := ⟨RX9, "fallTold", "(I)V"⟩
abbrev cX9_riderTold : ByteArray := prog_11_method_102_code
def yX9_riderTold : MethodName := ⟨RX9, "riderTold", "(I)V"⟩
abbrev cX9_juryTold : ByteArray := prog_11_method_103_code
def yX9_juryTold : MethodName := ⟨RX9, "juryTold", "(I)V"⟩
abbrev cX9_oneTold : ByteArray := prog_11_method_104_code
def yX9_oneTold : MethodName := ⟨RX9, "oneTold", "(IZ)V"⟩
abbrev cX9_ruleTold : ByteArray := prog_11_method_105_code
def yX9_ruleTold : MethodName := ⟨RX9, "ruleTold", "(III)V"⟩
abbrev cX9_statement : ByteArray := prog_11_method_106_code
def yX9_statement : MethodName := ⟨RX9, "statement", "()V"⟩
abbrev cX9_tell : ByteArray := prog_11_method_107_code
def yX9_tell : MethodName := ⟨RX9, "tell", "()I"⟩
abbrev cX9_fault : ByteArray := prog_11_method_108_code
def yX9_fault : MethodName := ⟨RX9, "fault", "()I"⟩
def RJx145de : String := "java/io/Serializable"
def TJx145de : u_T := fun k => match k with
  | _ => ("", "", "", false)
def tyJx145de : Nat → FieldType := fun k => match k with
  | _ => .int
abbrev wsJx145de0 : List Cond := u_ws RJx145de TJx145de 0
theorem nmJx145de : ∀ a, a < 0 → ∀ b, b < 0 → a ≠ b → (TJx145de a).2.1 ≠ (TJx145de b).2.1 := by decide +kernel
theorem tyJx145de_ok : ∀ k, k < 0 → parseFieldDescriptor (TJx145de k).2.2.1 = some (tyJx145de k) := by decide +kernel
def RJx9f9b0 : String := "java/lang/CharSequence"
def TJx9f9b0 : u_T := fun k => match k with
  | _ => ("", "", "", false)
def tyJx9f9b0 : Nat → FieldType := fun k => match k with
  | _ => .int
abbrev wsJx9f9b00 : List Cond := u_ws RJx9f9b0 TJx9f9b0 0
theorem nmJx9f9b0 : ∀ a, a < 0 → ∀ b, b < 0 → a ≠ b → (TJx9f9b0 a).2.1 ≠ (TJx9f9b0 b).2.1 := by decide +kernel
theorem tyJx9f9b0_ok : ∀ k, k < 0 → parseFieldDescriptor (TJx9f9b0 k).2.2.1 = some (tyJx9f9b0 k) := by decide +kernel
def RJxb160c : String := "java/lang/Comparable"
def TJxb160c : u_T := fun k => match k with
  | _ => ("", "", "", false)
def tyJxb160c : Nat → FieldType := fun k => match k with
  | _ => .int
abbrev wsJxb160c0 : List Cond := u_ws RJxb160c TJxb160c 0
theorem nmJxb160c : ∀ a, a < 0 → ∀ b, b < 0 → a ≠ b → (TJxb160c a).2.1 ≠ (TJxb160c b).2.1 := by decide +kernel
theorem tyJxb160c_ok : ∀ k, k < 0 → parseFieldDescriptor (TJxb160c k).2.2.1 = some (tyJxb160c k) := by decide +kernel
def RJ9 : String := "java/lang/Math"
def TJ9 : u_T := fun k => match k with
  | _ => ("", "", "", false)
def tyJ9 : Nat → FieldType := fun k => match k with
  | _ => .int
abbrev wsJ90 : List Cond := u_ws RJ9 TJ9 0
theorem nmJ9 : ∀ a, a < 0 → ∀ b, b < 0 → a ≠ b → (TJ9 a).2.1 ≠ (TJ9 b).2.1 := by decide +kernel
theorem tyJ9_ok : ∀ k, k < 0 → parseFieldDescriptor (TJ9 k).2.2.1 = some (tyJ9 k) := by decide +kernel
abbrev cJ9_max_7cf53 : ByteArray := prog_16_method_65_code
def yJ9_max_7cf53 : MethodName := ⟨RJ9, "max", "(II)I"⟩
abbrev cJ9_min_7cf53 : ByteArray := prog_16_method_69_code
def yJ9_min_7cf53 : MethodName := ⟨RJ9, "min", "(II)I"⟩
def RJ0 : String := "java/lang/String"
def TJ0 : u_T := fun k => match k with
  | _ => ("", "", "", false)
def tyJ0 : Nat → FieldType := fun k => match k with
  | _ => .int
abbrev wsJ00 : List Cond := u_ws RJ0 TJ0 0
theorem nmJ0 : ∀ a, a < 0 → ∀ b, b < 0 → a ≠ b → (TJ0 a).2.1 ≠ (TJ0 b).2.1 := by decide +kernel
theorem tyJ0_ok : ∀ k, k < 0 → parseFieldDescriptor (TJ0 k).2.2.1 = some (tyJ0 k) := by decide +kernel
abbrev cJ0_length_8abf5 : ByteArray := prog_18_method_54_code
def yJ0_length_8abf5 : MethodName := ⟨RJ0, "length", "()I"⟩
abbrev cJ0_charAt_5068e : ByteArray := prog_18_method_56_code
def yJ0_charAt_5068e : MethodName := ⟨RJ0, "charAt", "(I)C"⟩
abbrev cJ0_coder_7d493 : ByteArray := prog_18_method_152_code
def yJ0_coder_7d493 : MethodName := ⟨RJ0, "coder", "()B"⟩
abbrev cJ0_isLatin1_aae02 : ByteArray := prog_18_method_154_code
def yJ0_isLatin1_aae02 : MethodName := ⟨RJ0, "isLatin1", "()Z"⟩
abbrev cJ0_checkIndex_df160 : ByteArray := prog_18_method_155_code
def yJ0_checkIndex_df160 : MethodName := ⟨RJ0, "checkIndex", "(II)V"⟩
def RJ1 : String := "java/lang/StringLatin1"
def TJ1 : u_T := fun k => match k with
  | _ => ("", "", "", false)
def tyJ1 : Nat → FieldType := fun k => match k with
  | _ => .int
abbrev wsJ10 : List Cond := u_ws RJ1 TJ1 0
theorem nmJ1 : ∀ a, a < 0 → ∀ b, b < 0 → a ≠ b → (TJ1 a).2.1 ≠ (TJ1 b).2.1 := by decide +kernel
theorem tyJ1_ok : ∀ k, k < 0 → parseFieldDescriptor (TJ1 k).2.2.1 = some (tyJ1 k) := by decide +kernel
abbrev cJ1_charAt_3b067 : ByteArray := prog_19_method_2_code
def yJ1_charAt_3b067 : MethodName := ⟨RJ1, "charAt", "([BI)C"⟩
def RJ2 : String := "java/lang/StringUTF16"
def TJ2 : u_T := fun k => match k with
  | _ => ("", "", "", false)
def tyJ2 : Nat → FieldType := fun k => match k with
  | _ => .int
abbrev wsJ20 : List Cond := u_ws RJ2 TJ2 0
theorem nmJ2 : ∀ a, a < 0 → ∀ b, b < 0 → a ≠ b → (TJ2 a).2.1 ≠ (TJ2 b).2.1 := by decide +kernel
theorem tyJ2_ok : ∀ k, k < 0 → parseFieldDescriptor (TJ2 k).2.2.1 = some (tyJ2 k) := by decide +kernel
abbrev cJ2_getChar_3b067 : ByteArray := prog_20_method_5_code
def yJ2_getChar_3b067 : MethodName := ⟨RJ2, "getChar", "([BI)C"⟩
abbrev cJ2_length_9d52b : ByteArray := prog_20_method_6_code
def yJ2_length_9d52b : MethodName := ⟨RJ2, "length", "([B)I"⟩
abbrev cJ2_charAt_3b067 : ByteArray := prog_20_method_83_code
def yJ2_charAt_3b067 : MethodName := ⟨RJ2, "charAt", "([BI)C"⟩
abbrev cJ2_checkIndex_2214a : ByteArray := prog_20_method_91_code
def yJ2_checkIndex_2214a : MethodName := ⟨RJ2, "checkIndex", "(I[B)V"⟩
def RJ10 : String := "java/lang/System"
def TJ10 : u_T := fun k => match k with
  | _ => ("", "", "", false)
def tyJ10 : Nat → FieldType := fun k => match k with
  | _ => .int
abbrev wsJ100 : List Cond := u_ws RJ10 TJ10 0
theorem nmJ10 : ∀ a, a < 0 → ∀ b, b < 0 → a ≠ b → (TJ10 a).2.1 ≠ (TJ10 b).2.1 := by decide +kernel
theorem tyJ10_ok : ∀ k, k < 0 → parseFieldDescriptor (TJ10 k).2.2.1 = some (tyJ10 k) := by decide +kernel
def RJxfd54e : String := "java/lang/constant/Constable"
def TJxfd54e : u_T := fun k => match k with
  | _ => ("", "", "", false)
def tyJxfd54e : Nat → FieldType := fun k => match k with
  | _ => .int
abbrev wsJxfd54e0 : List Cond := u_ws RJxfd54e TJxfd54e 0
theorem nmJxfd54e : ∀ a, a < 0 → ∀ b, b < 0 → a ≠ b → (TJxfd54e a).2.1 ≠ (TJxfd54e b).2.1 := by decide +kernel
theorem tyJxfd54e_ok : ∀ k, k < 0 → parseFieldDescriptor (TJxfd54e k).2.2.1 = some (tyJxfd54e k) := by decide +kernel
def RJx3cf43 : String := "java/lang/constant/ConstantDesc"
def TJx3cf43 : u_T := fun k => match k with
  | _ => ("", "", "", false)
def tyJx3cf43 : Nat → FieldType := fun k => match k with
  | _ => .int
abbrev wsJx3cf430 : List Cond := u_ws RJx3cf43 TJx3cf43 0
theorem nmJx3cf43 : ∀ a, a < 0 → ∀ b, b < 0 → a ≠ b → (TJx3cf43 a).2.1 ≠ (TJx3cf43 b).2.1 := by decide +kernel
theorem tyJx3cf43_ok : ∀ k, k < 0 → parseFieldDescriptor (TJx3cf43 k).2.2.1 = some (tyJx3cf43 k) := by decide +kernel
def RJ3 : String := "jdk/internal/util/Preconditions"
def TJ3 : u_T := fun k => match k with
  | _ => ("", "", "", false)
def tyJ3 : Nat → FieldType := fun k => match k with
  | _ => .int
abbrev wsJ30 : List Cond := u_ws RJ3 TJ3 0
theorem nmJ3 : ∀ a, a < 0 → ∀ b, b < 0 → a ≠ b → (TJ3 a).2.1 ≠ (TJ3 b).2.1 := by decide +kernel
theorem tyJ3_ok : ∀ k, k < 0 → parseFieldDescriptor (TJ3 k).2.2.1 = some (tyJ3 k) := by decide +kernel
abbrev cJ3_checkIndex_8e157 : ByteArray := prog_26_method_11_code
def yJ3_checkIndex_8e157 : MethodName := ⟨RJ3, "checkIndex", "(IILjava/util/function/BiFunction;)I"⟩
def RL : String := "BunchTimesLaw"
abbrev cL_of : ByteArray := method_3_code
def yL_of : MethodName := ⟨RL, "of", "(LBunchTimes;II[J)I"⟩
abbrev cL_law : ByteArray := code
def yL_law : MethodName := ⟨RL, "law", "([I)Z"⟩
def wsX8_within : List Cond := .code yX8_within cX8_within 3 (some .boolean) :: ([])
def wsX0_canBe : List Cond := .code yX0_canBe cX0_canBe 3 (some .boolean) :: ([.static yX8_within, .initialized RX8, .code yX8_within cX8_within 3 (some .boolean)])
def wsX0_pace : List Cond := .code yX0_pace cX0_pace 1 (some .long) :: ([.constant RX0 13 (40000), .methodLink RX0 14 Lib.Math.max.name, .static Lib.Math.max.name, .initialized "java/lang/Math", .code Lib.Math.max.name Lib.Math.max.code 2 (some .int)])
def wsX0_metresLeft : List Cond := .code yX0_metresLeft cX0_metresLeft 12 (some .int) :: ([.constantLong RX0 26 (3600), .constantLong RX0 28 (1000), .methodLink RX0 20 yX0_pace, .static yX0_pace, .initialized RX0, .code yX0_pace cX0_pace 1 (some .long), .constant RX0 13 (40000), .methodLink RX0 14 Lib.Math.max.name, .static Lib.Math.max.name, .initialized "java/lang/Math", .code Lib.Math.max.name Lib.Math.max.code 2 (some .int)])
def wsX0_leastAhead : List Cond := .code yX0_leastAhead cX0_leastAhead 9 (some .int) :: ([.constantLong RX0 28 (1000), .constantLong RX0 26 (3600), .methodLink RX0 20 yX0_pace, .static yX0_pace, .initialized RX0, .code yX0_pace cX0_pace 1 (some .long), .constant RX0 13 (40000), .methodLink RX0 14 Lib.Math.max.name, .static Lib.Math.max.name, .initialized "java/lang/Math", .code Lib.Math.max.name Lib.Math.max.code 2 (some .int)])
def wsX1_init : List Cond := .code yX1_init cX1_init 1 none :: ([.methodLink RX1 3 objectInit, .instanceMethod objectInit, .code objectInit ⟨#[0xb1]⟩ 1 none, .arrayClass .int, .fieldLink RX1 9 "BunchTimes$Course" "km" "[I", .fieldLink RX1 15 "BunchTimes$Course" "how" "[I", .fieldLink RX1 18 "BunchTimes$Course" "crossed" "[I", .fieldLink RX1 21 "BunchTimes$Course" "crossing" "[I"] ++ wsX10)
def wsX1_begin : List Cond := .code yX1_begin cX1_begin 3 none :: ([.fieldLink RX1 24 "BunchTimes$Course" "kind" "I", .fieldLink RX1 28 "BunchTimes$Course" "length" "I", .fieldLink RX1 31 "BunchTimes$Course" "marks" "I"] ++ wsX10)
def wsX1_copyFrom : List Cond := .code yX1_copyFrom cX1_copyFrom 2 none :: ([.fieldLink RX1 24 "BunchTimes$Course" "kind" "I", .fieldLink RX1 28 "BunchTimes$Course" "length" "I", .fieldLink RX1 31 "BunchTimes$Course" "marks" "I", .fieldLink RX1 9 "BunchTimes$Course" "km" "[I", .methodLink RX1 34 arraycopyName, .native arraycopyName, .static arraycopyName, .initialized "java/lang/System", .fieldLink RX1 15 "BunchTimes$Course" "how" "[I", .fieldLink RX1 18 "BunchTimes$Course" "crossed" "[I", .fieldLink RX1 21 "BunchTimes$Course" "crossing" "[I"] ++ wsX10)
def wsX1_addMark : List Cond := .code yX1_addMark cX1_addMark 4 (some .int) :: ([.fieldLink RX1 31 "BunchTimes$Course" "marks" "I", .fieldLink RX1 9 "BunchTimes$Course" "km" "[I", .fieldLink RX1 28 "BunchTimes$Course" "length" "I", .fieldLink RX1 15 "BunchTimes$Course" "how" "[I", .fieldLink RX1 18 "BunchTimes$Course" "crossed" "[I", .static yX8_within, .initialized RX8, .code yX8_within cX8_within 3 (some .boolean)] ++ wsX10)
def wsX1_hasCrossed : List Cond := .code yX1_hasCrossed cX1_hasCrossed 4 (some .boolean) :: ([.fieldLink RX1 18 "BunchTimes$Course" "crossed" "[I", .fieldLink RX1 21 "BunchTimes$Course" "crossing" "[I"] ++ wsX10)
def wsX1_addCrossing : List Cond := .code yX1_addCrossing cX1_addCrossing 3 (some .int) :: ([.fieldLink RX1 31 "BunchTimes$Course" "marks" "I", .fieldLink RX1 18 "BunchTimes$Course" "crossed" "[I", .fieldLink RX1 21 "BunchTimes$Course" "crossing" "[I", .static yX8_within, .initialized RX8, .code yX8_within cX8_within 3 (some .boolean), .methodLink RX1 44 yX1_hasCrossed, .instanceMethod yX1_hasCrossed, .selects RX1 yX1_hasCrossed yX1_hasCrossed, .initialized RX1, .code yX1_hasCrossed cX1_hasCrossed 4 (some .boolean)] ++ wsX10)
def wsX1_forget : List Cond := .code yX1_forget cX1_forget 6 none :: ([.fieldLink RX1 31 "BunchTimes$Course" "marks" "I", .fieldLink RX1 18 "BunchTimes$Course" "crossed" "[I", .fieldLink RX1 21 "BunchTimes$Course" "crossing" "[I"] ++ wsX10)
def wsX2_init : List Cond := .code yX2_init cX2_init 1 none :: ([.methodLink RX2 3 objectInit, .instanceMethod objectInit, .code objectInit ⟨#[0xb1]⟩ 1 none, .arrayClass .int, .fieldLink RX2 9 "BunchTimes$Prizes" "bonus" "[I", .fieldLink RX2 15 "BunchTimes$Prizes" "points" "[I", .fieldLink RX2 18 "BunchTimes$Prizes" "dots" "[I"] ++ wsX20)
def wsX2_copyFrom : List Cond := .code yX2_copyFrom cX2_copyFrom 2 none :: ([.fieldLink RX2 9 "BunchTimes$Prizes" "bonus" "[I", .methodLink RX2 21 arraycopyName, .native arraycopyName, .static arraycopyName, .initialized "java/lang/System", .fieldLink RX2 15 "BunchTimes$Prizes" "points" "[I", .fieldLink RX2 18 "BunchTimes$Prizes" "dots" "[I"] ++ wsX20)
def wsX2_awardOrder : List Cond := .code yX2_awardOrder cX2_awardOrder 5 none :: ([.fieldLink RX2 9 "BunchTimes$Prizes" "bonus" "[I", .fieldLink RX2 15 "BunchTimes$Prizes" "points" "[I", .fieldLink RX2 18 "BunchTimes$Prizes" "dots" "[I", .fieldLink RX2 45 "BunchTimes$Prizes" "ORDER_BONUS" "[I", .fieldLink RX2 52 "BunchTimes$Prizes" "ORDER_POINTS" "[I"] ++ wsX20 ++ wsX40 ++ wsX10)
def wsX2_awardOver : List Cond := .code yX2_awardOver cX2_awardOver 5 none :: ([.fieldLink RX2 18 "BunchTimes$Prizes" "dots" "[I", .fieldLink RX2 74 "BunchTimes$Prizes" "CLIMB_DOTS" "[I", .fieldLink RX2 77 "BunchTimes$Prizes" "SPRINT_BONUS" "[I", .fieldLink RX2 9 "BunchTimes$Prizes" "bonus" "[I", .fieldLink RX2 80 "BunchTimes$Prizes" "SPRINT_POINTS" "[I", .fieldLink RX2 15 "BunchTimes$Prizes" "points" "[I"] ++ wsX20)
def wsX2_awardMarks : List Cond := .code yX2_awardMarks cX2_awardMarks 7 none :: ([.methodLink RX2 70 yX2_awardOver, .instanceMethod yX2_awardOver, .selects RX2 yX2_awardOver yX2_awardOver, .initialized RX2, .code yX2_awardOver cX2_awardOver 5 none, .fieldLink RX2 18 "BunchTimes$Prizes" "dots" "[I", .fieldLink RX2 74 "BunchTimes$Prizes" "CLIMB_DOTS" "[I", .fieldLink RX2 77 "BunchTimes$Prizes" "SPRINT_BONUS" "[I", .fieldLink RX2 9 "BunchTimes$Prizes" "bonus" "[I", .fieldLink RX2 80 "BunchTimes$Prizes" "SPRINT_POINTS" "[I", .fieldLink RX2 15 "BunchTimes$Prizes" "points" "[I"] ++ wsX40 ++ wsX10 ++ wsX20)
def wsX4_init_r1 : List Cond := [Cond.methodLink RX4 3 objectInit, Cond.instanceMethod objectInit, Cond.code objectInit ⟨#[0xb1]⟩ 1 none, Cond.classLink RX4 9 RX1, Cond.instantiable RX1 7, Cond.initialized RX1, Cond.fieldLink RX4 12 "BunchTimes$Stage" "course" "LBunchTimes$Course;", Cond.classLink RX4 18 RX2, Cond.instantiable RX2 3, Cond.initialized RX2, Cond.fieldLink RX4 21 "BunchTimes$Stage" "prizes" "LBunchTimes$Prizes;", Cond.arrayClass .int, Cond.fieldLink RX4 25 "BunchTimes$Stage" "finish" "[I", Cond.fieldLink RX4 29 "BunchTimes$Stage" "fallKm" "[I", Cond.fieldLink RX4 32 "BunchTimes$Stage" "fallWith" "[I", Cond.fieldLink RX4 35 "BunchTimes$Stage" "juried" "[I", Cond.arrayClass .boolean, Cond.fieldLink RX4 38 "BunchTimes$Stage" "graced" "[Z", Cond.fieldLink RX4 42 "BunchTimes$Stage" "order" "[I", Cond.fieldLink RX4 45 "BunchTimes$Stage" "place" "[I", Cond.fieldLink RX4 48 "BunchTimes$Stage" "bunch" "[I", Cond.fieldLink RX4 51 "BunchTimes$Stage" "raw" "[I", Cond.fieldLink RX4 54 "BunchTimes$Stage" "time" "[I", Cond.fieldLink RX4 57 "BunchTimes$Stage" "late" "[Z"]
def wsX4_init_r2 : List Cond := [Cond.instanceMethod yX1_init, Cond.code yX1_init cX1_init 1 none, Cond.methodLink RX1 3 objectInit, Cond.fieldLink RX1 9 "BunchTimes$Course" "km" "[I", Cond.fieldLink RX1 15 "BunchTimes$Course" "how" "[I", Cond.fieldLink RX1 18 "BunchTimes$Course" "crossed" "[I", Cond.fieldLink RX1 21 "BunchTimes$Course" "crossing" "[I", Cond.instanceMethod yX2_init, Cond.code yX2_init cX2_init 1 none, Cond.methodLink RX2 3 objectInit, Cond.fieldLink RX2 9 "BunchTimes$Prizes" "bonus" "[I", Cond.fieldLink RX2 15 "BunchTimes$Prizes" "points" "[I", Cond.fieldLink RX2 18 "BunchTimes$Prizes" "dots" "[I"]
def wsX4_init : List Cond := .code yX4_init cX4_init 1 none :: ((wsX4_init_r1 ++ wsX4_init_r2) ++ wsX10 ++ wsX40 ++ wsX20)
def wsX3_init_r1 : List Cond := [Cond.methodLink RX3 3 objectInit, Cond.instanceMethod objectInit, Cond.code objectInit ⟨#[0xb1]⟩ 1 none, Cond.fieldLink RX3 9 "BunchTimes$Race" "gap" "I", Cond.fieldLink RX3 15 "BunchTimes$Race" "zone" "I", Cond.arrayClass .int, Cond.fieldLink RX3 18 "BunchTimes$Race" "teamOf" "[I", Cond.fieldLink RX3 22 "BunchTimes$Race" "age" "[I", Cond.arrayClass .boolean, Cond.fieldLink RX3 25 "BunchTimes$Race" "in" "[Z", Cond.classLink RX3 29 RX4, Cond.fieldLink RX3 31 "BunchTimes$Race" "all" "[LBunchTimes$Stage;", Cond.instantiable RX4 20, Cond.initialized RX4, Cond.instanceMethod yX4_init, Cond.code yX4_init cX4_init 1 none, Cond.methodLink RX4 3 objectInit, Cond.classLink RX4 9 RX1, Cond.instantiable RX1 7, Cond.initialized RX1, Cond.fieldLink RX4 12 "BunchTimes$Stage" "course" "LBunchTimes$Course;", Cond.classLink RX4 18 RX2, Cond.instantiable RX2 3, Cond.initialized RX2]
def wsX3_init_r2 : List Cond := [Cond.fieldLink RX4 21 "BunchTimes$Stage" "prizes" "LBunchTimes$Prizes;", Cond.fieldLink RX4 25 "BunchTimes$Stage" "finish" "[I", Cond.fieldLink RX4 29 "BunchTimes$Stage" "fallKm" "[I", Cond.fieldLink RX4 32 "BunchTimes$Stage" "fallWith" "[I", Cond.fieldLink RX4 35 "BunchTimes$Stage" "juried" "[I", Cond.fieldLink RX4 38 "BunchTimes$Stage" "graced" "[Z", Cond.fieldLink RX4 42 "BunchTimes$Stage" "order" "[I", Cond.fieldLink RX4 45 "BunchTimes$Stage" "place" "[I", Cond.fieldLink RX4 48 "BunchTimes$Stage" "bunch" "[I", Cond.fieldLink RX4 51 "BunchTimes$Stage" "raw" "[I", Cond.fieldLink RX4 54 "BunchTimes$Stage" "time" "[I", Cond.fieldLink RX4 57 "BunchTimes$Stage" "late" "[Z", Cond.instanceMethod yX1_init, Cond.code yX1_init cX1_init 1 none, Cond.methodLink RX1 3 objectInit, Cond.fieldLink RX1 9 "BunchTimes$Course" "km" "[I", Cond.fieldLink RX1 15 "BunchTimes$Course" "how" "[I", Cond.fieldLink RX1 18 "BunchTimes$Course" "crossed" "[I", Cond.fieldLink RX1 21 "BunchTimes$Course" "crossing" "[I", Cond.instanceMethod yX2_init, Cond.code yX2_init cX2_init 1 none, Cond.methodLink RX2 3 objectInit, Cond.fieldLink RX2 9 "BunchTimes$Prizes" "bonus" "[I", Cond.fieldLink RX2 15 "BunchTimes$Prizes" "points" "[I"]
def wsX3_init_r3 : List Cond := [Cond.fieldLink RX2 18 "BunchTimes$Prizes" "dots" "[I"]
def wsX3_init : List Cond := .code yX3_init cX3_init 2 none :: ((wsX3_init_r1 ++ (wsX3_init_r2 ++ wsX3_init_r3)) ++ wsX30 ++ wsX40 ++ wsX10 ++ wsX20)
def wsX4_copyFrom_r1 : List Cond := [Cond.fieldLink RX4 12 "BunchTimes$Stage" "course" "LBunchTimes$Course;", Cond.fieldLink RX4 21 "BunchTimes$Stage" "prizes" "LBunchTimes$Prizes;", Cond.fieldLink RX4 25 "BunchTimes$Stage" "finish" "[I", Cond.methodLink RX4 79 arraycopyName, Cond.native arraycopyName, Cond.static arraycopyName, Cond.initialized "java/lang/System", Cond.fieldLink RX4 29 "BunchTimes$Stage" "fallKm" "[I", Cond.fieldLink RX4 32 "BunchTimes$Stage" "fallWith" "[I", Cond.fieldLink RX4 35 "BunchTimes$Stage" "juried" "[I", Cond.fieldLink RX4 38 "BunchTimes$Stage" "graced" "[Z", Cond.fieldLink RX4 68 "BunchTimes$Stage" "finishers" "I", Cond.fieldLink RX4 42 "BunchTimes$Stage" "order" "[I", Cond.fieldLink RX4 45 "BunchTimes$Stage" "place" "[I", Cond.fieldLink RX4 48 "BunchTimes$Stage" "bunch" "[I", Cond.fieldLink RX4 51 "BunchTimes$Stage" "raw" "[I", Cond.fieldLink RX4 54 "BunchTimes$Stage" "time" "[I", Cond.fieldLink RX4 57 "BunchTimes$Stage" "late" "[Z", Cond.fieldLink RX4 85 "BunchTimes$Stage" "bunches" "I", Cond.fieldLink RX4 88 "BunchTimes$Stage" "best" "I", Cond.fieldLink RX4 91 "BunchTimes$Stage" "speed" "I", Cond.fieldLink RX4 94 "BunchTimes$Stage" "limit" "I", Cond.fieldLink RX4 97 "BunchTimes$Stage" "lateOnes" "I", Cond.fieldLink RX4 100 "BunchTimes$Stage" "pardoned" "Z"]
def wsX4_copyFrom_r2 : List Cond := [Cond.instanceMethod yX1_copyFrom, Cond.initialized RX1, Cond.selects RX1 yX1_copyFrom yX1_copyFrom, Cond.code yX1_copyFrom cX1_copyFrom 2 none, Cond.fieldLink RX1 24 "BunchTimes$Course" "kind" "I", Cond.fieldLink RX1 28 "BunchTimes$Course" "length" "I", Cond.fieldLink RX1 31 "BunchTimes$Course" "marks" "I", Cond.fieldLink RX1 9 "BunchTimes$Course" "km" "[I", Cond.methodLink RX1 34 arraycopyName, Cond.fieldLink RX1 15 "BunchTimes$Course" "how" "[I", Cond.fieldLink RX1 18 "BunchTimes$Course" "crossed" "[I", Cond.fieldLink RX1 21 "BunchTimes$Course" "crossing" "[I", Cond.instanceMethod yX2_copyFrom, Cond.initialized RX2, Cond.selects RX2 yX2_copyFrom yX2_copyFrom, Cond.code yX2_copyFrom cX2_copyFrom 2 none, Cond.fieldLink RX2 9 "BunchTimes$Prizes" "bonus" "[I", Cond.methodLink RX2 21 arraycopyName, Cond.fieldLink RX2 15 "BunchTimes$Prizes" "points" "[I", Cond.fieldLink RX2 18 "BunchTimes$Prizes" "dots" "[I"]
def wsX4_copyFrom : List Cond := .code yX4_copyFrom cX4_copyFrom 2 none :: ((wsX4_copyFrom_r1 ++ wsX4_copyFrom_r2) ++ wsX40 ++ wsX10 ++ wsX20)
def wsX3_copyFrom_r1 : List Cond := [Cond.fieldLink RX3 36 "BunchTimes$Race" "teams" "I", Cond.fieldLink RX3 39 "BunchTimes$Race" "riders" "I", Cond.fieldLink RX3 42 "BunchTimes$Race" "stages" "I", Cond.fieldLink RX3 45 "BunchTimes$Race" "open" "Z", Cond.fieldLink RX3 9 "BunchTimes$Race" "gap" "I", Cond.fieldLink RX3 15 "BunchTimes$Race" "zone" "I", Cond.fieldLink RX3 18 "BunchTimes$Race" "teamOf" "[I", Cond.methodLink RX3 49 arraycopyName, Cond.native arraycopyName, Cond.static arraycopyName, Cond.initialized "java/lang/System", Cond.fieldLink RX3 22 "BunchTimes$Race" "age" "[I", Cond.fieldLink RX3 25 "BunchTimes$Race" "in" "[Z", Cond.fieldLink RX3 31 "BunchTimes$Race" "all" "[LBunchTimes$Stage;", Cond.instanceMethod yX4_copyFrom, Cond.initialized RX4, Cond.selects RX4 yX4_copyFrom yX4_copyFrom, Cond.code yX4_copyFrom cX4_copyFrom 2 none, Cond.fieldLink RX4 12 "BunchTimes$Stage" "course" "LBunchTimes$Course;", Cond.fieldLink RX4 21 "BunchTimes$Stage" "prizes" "LBunchTimes$Prizes;", Cond.fieldLink RX4 25 "BunchTimes$Stage" "finish" "[I", Cond.methodLink RX4 79 arraycopyName, Cond.fieldLink RX4 29 "BunchTimes$Stage" "fallKm" "[I", Cond.fieldLink RX4 32 "BunchTimes$Stage" "fallWith" "[I"]
def wsX3_copyFrom_r2 : List Cond := [Cond.fieldLink RX4 35 "BunchTimes$Stage" "juried" "[I", Cond.fieldLink RX4 38 "BunchTimes$Stage" "graced" "[Z", Cond.fieldLink RX4 68 "BunchTimes$Stage" "finishers" "I", Cond.fieldLink RX4 42 "BunchTimes$Stage" "order" "[I", Cond.fieldLink RX4 45 "BunchTimes$Stage" "place" "[I", Cond.fieldLink RX4 48 "BunchTimes$Stage" "bunch" "[I", Cond.fieldLink RX4 51 "BunchTimes$Stage" "raw" "[I", Cond.fieldLink RX4 54 "BunchTimes$Stage" "time" "[I", Cond.fieldLink RX4 57 "BunchTimes$Stage" "late" "[Z", Cond.fieldLink RX4 85 "BunchTimes$Stage" "bunches" "I", Cond.fieldLink RX4 88 "BunchTimes$Stage" "best" "I", Cond.fieldLink RX4 91 "BunchTimes$Stage" "speed" "I", Cond.fieldLink RX4 94 "BunchTimes$Stage" "limit" "I", Cond.fieldLink RX4 97 "BunchTimes$Stage" "lateOnes" "I", Cond.fieldLink RX4 100 "BunchTimes$Stage" "pardoned" "Z", Cond.instanceMethod yX1_copyFrom, Cond.initialized RX1, Cond.selects RX1 yX1_copyFrom yX1_copyFrom, Cond.code yX1_copyFrom cX1_copyFrom 2 none, Cond.fieldLink RX1 24 "BunchTimes$Course" "kind" "I", Cond.fieldLink RX1 28 "BunchTimes$Course" "length" "I", Cond.fieldLink RX1 31 "BunchTimes$Course" "marks" "I", Cond.fieldLink RX1 9 "BunchTimes$Course" "km" "[I", Cond.methodLink RX1 34 arraycopyName]
def wsX3_copyFrom_r3 : List Cond := [Cond.fieldLink RX1 15 "BunchTimes$Course" "how" "[I", Cond.fieldLink RX1 18 "BunchTimes$Course" "crossed" "[I", Cond.fieldLink RX1 21 "BunchTimes$Course" "crossing" "[I", Cond.instanceMethod yX2_copyFrom, Cond.initialized RX2, Cond.selects RX2 yX2_copyFrom yX2_copyFrom, Cond.code yX2_copyFrom cX2_copyFrom 2 none, Cond.fieldLink RX2 9 "BunchTimes$Prizes" "bonus" "[I", Cond.methodLink RX2 21 arraycopyName, Cond.fieldLink RX2 15 "BunchTimes$Prizes" "points" "[I", Cond.fieldLink RX2 18 "BunchTimes$Prizes" "dots" "[I"]
def wsX3_copyFrom : List Cond := .code yX3_copyFrom cX3_copyFrom 3 none :: ((wsX3_copyFrom_r1 ++ (wsX3_copyFrom_r2 ++ wsX3_copyFrom_r3)) ++ wsX30 ++ wsX40 ++ wsX10 ++ wsX20)
def wsX3_addTeam : List Cond := .code yX3_addTeam cX3_addTeam 1 (some .int) :: ([.fieldLink RX3 36 "BunchTimes$Race" "teams" "I"] ++ wsX30)
def wsX3_latestFinishers : List Cond := .code yX3_latestFinishers cX3_latestFinishers 1 (some .int) :: ([.fieldLink RX3 42 "BunchTimes$Race" "stages" "I", .fieldLink RX3 31 "BunchTimes$Race" "all" "[LBunchTimes$Stage;"] ++ wsX30 ++ wsX40)
def wsX3_addRider : List Cond := .code yX3_addRider cX3_addRider 3 (some .int) :: ([.fieldLink RX3 39 "BunchTimes$Race" "riders" "I", .fieldLink RX3 36 "BunchTimes$Race" "teams" "I", .fieldLink RX3 45 "BunchTimes$Race" "open" "Z", .fieldLink RX3 18 "BunchTimes$Race" "teamOf" "[I", .fieldLink RX3 22 "BunchTimes$Race" "age" "[I", .fieldLink RX3 25 "BunchTimes$Race" "in" "[Z", .static yX8_within, .initialized RX8, .code yX8_within cX8_within 3 (some .boolean), .methodLink RX3 63 yX3_latestFinishers, .instanceMethod yX3_latestFinishers, .selects RX3 yX3_latestFinishers yX3_latestFinishers, .initialized RX3, .code yX3_latestFinishers cX3_latestFinishers 1 (some .int), .fieldLink RX3 42 "BunchTimes$Race" "stages" "I", .fieldLink RX3 31 "BunchTimes$Race" "all" "[LBunchTimes$Stage;"] ++ wsX30 ++ wsX40)
def wsX3_countIn : List Cond := .code yX3_countIn cX3_countIn 3 (some .int) :: ([.fieldLink RX3 39 "BunchTimes$Race" "riders" "I", .fieldLink RX3 25 "BunchTimes$Race" "in" "[Z"] ++ wsX30)
def wsX4_forget : List Cond := .code yX4_forget cX4_forget 2 none :: ([.fieldLink RX4 25 "BunchTimes$Stage" "finish" "[I", .fieldLink RX4 68 "BunchTimes$Stage" "finishers" "I", .fieldLink RX4 29 "BunchTimes$Stage" "fallKm" "[I", .fieldLink RX4 32 "BunchTimes$Stage" "fallWith" "[I", .fieldLink RX4 35 "BunchTimes$Stage" "juried" "[I", .fieldLink RX4 38 "BunchTimes$Stage" "graced" "[Z", .fieldLink RX4 12 "BunchTimes$Stage" "course" "LBunchTimes$Course;", .instanceMethod yX1_forget, .initialized RX1, .selects RX1 yX1_forget yX1_forget, .code yX1_forget cX1_forget 6 none, .fieldLink RX1 31 "BunchTimes$Course" "marks" "I", .fieldLink RX1 18 "BunchTimes$Course" "crossed" "[I", .fieldLink RX1 21 "BunchTimes$Course" "crossing" "[I"] ++ wsX40 ++ wsX10)
def wsX4_begin : List Cond := .code yX4_begin cX4_begin 4 none :: ([.fieldLink RX4 12 "BunchTimes$Stage" "course" "LBunchTimes$Course;", .fieldLink RX4 68 "BunchTimes$Stage" "finishers" "I", .instanceMethod yX1_begin, .initialized RX1, .selects RX1 yX1_begin yX1_begin, .code yX1_begin cX1_begin 3 none, .fieldLink RX1 24 "BunchTimes$Course" "kind" "I", .fieldLink RX1 28 "BunchTimes$Course" "length" "I", .fieldLink RX1 31 "BunchTimes$Course" "marks" "I", .methodLink RX4 64 yX4_forget, .instanceMethod yX4_forget, .selects RX4 yX4_forget yX4_forget, .initialized RX4, .code yX4_forget cX4_forget 2 none, .fieldLink RX4 25 "BunchTimes$Stage" "finish" "[I", .fieldLink RX4 29 "BunchTimes$Stage" "fallKm" "[I", .fieldLink RX4 32 "BunchTimes$Stage" "fallWith" "[I", .fieldLink RX4 35 "BunchTimes$Stage" "juried" "[I", .fieldLink RX4 38 "BunchTimes$Stage" "graced" "[Z", .instanceMethod yX1_forget, .selects RX1 yX1_forget yX1_forget, .code yX1_forget cX1_forget 6 none, .fieldLink RX1 18 "BunchTimes$Course" "crossed" "[I", .fieldLink RX1 21 "BunchTimes$Course" "crossing" "[I"] ++ wsX40 ++ wsX10)
def wsX3_openStage_r1 : List Cond := [Cond.fieldLink RX3 42 "BunchTimes$Race" "stages" "I", Cond.fieldLink RX3 45 "BunchTimes$Race" "open" "Z", Cond.fieldLink RX3 31 "BunchTimes$Race" "all" "[LBunchTimes$Stage;", Cond.static yX8_within, Cond.initialized RX8, Cond.code yX8_within cX8_within 3 (some .boolean), Cond.methodLink RX3 67 yX3_countIn, Cond.instanceMethod yX3_countIn, Cond.selects RX3 yX3_countIn yX3_countIn, Cond.initialized RX3, Cond.code yX3_countIn cX3_countIn 3 (some .int), Cond.fieldLink RX3 39 "BunchTimes$Race" "riders" "I", Cond.fieldLink RX3 25 "BunchTimes$Race" "in" "[Z", Cond.instanceMethod yX4_begin, Cond.initialized RX4, Cond.selects RX4 yX4_begin yX4_begin, Cond.code yX4_begin cX4_begin 4 none, Cond.fieldLink RX4 12 "BunchTimes$Stage" "course" "LBunchTimes$Course;", Cond.fieldLink RX4 68 "BunchTimes$Stage" "finishers" "I", Cond.instanceMethod yX1_begin, Cond.initialized RX1, Cond.selects RX1 yX1_begin yX1_begin, Cond.code yX1_begin cX1_begin 3 none, Cond.fieldLink RX1 24 "BunchTimes$Course" "kind" "I"]
def wsX3_openStage_r2 : List Cond := [Cond.fieldLink RX1 28 "BunchTimes$Course" "length" "I", Cond.fieldLink RX1 31 "BunchTimes$Course" "marks" "I", Cond.methodLink RX4 64 yX4_forget, Cond.instanceMethod yX4_forget, Cond.selects RX4 yX4_forget yX4_forget, Cond.code yX4_forget cX4_forget 2 none, Cond.fieldLink RX4 25 "BunchTimes$Stage" "finish" "[I", Cond.fieldLink RX4 29 "BunchTimes$Stage" "fallKm" "[I", Cond.fieldLink RX4 32 "BunchTimes$Stage" "fallWith" "[I", Cond.fieldLink RX4 35 "BunchTimes$Stage" "juried" "[I", Cond.fieldLink RX4 38 "BunchTimes$Stage" "graced" "[Z", Cond.instanceMethod yX1_forget, Cond.selects RX1 yX1_forget yX1_forget, Cond.code yX1_forget cX1_forget 6 none, Cond.fieldLink RX1 18 "BunchTimes$Course" "crossed" "[I", Cond.fieldLink RX1 21 "BunchTimes$Course" "crossing" "[I"]
def wsX3_openStage : List Cond := .code yX3_openStage cX3_openStage 3 (some .int) :: ((wsX3_openStage_r1 ++ wsX3_openStage_r2) ++ wsX30 ++ wsX40 ++ wsX10)
def wsX3_addMark : List Cond := .code yX3_addMark cX3_addMark 3 (some .int) :: ([.fieldLink RX3 45 "BunchTimes$Race" "open" "Z", .fieldLink RX3 31 "BunchTimes$Race" "all" "[LBunchTimes$Stage;", .fieldLink RX3 42 "BunchTimes$Race" "stages" "I", .instanceMethod yX1_addMark, .initialized RX1, .selects RX1 yX1_addMark yX1_addMark, .code yX1_addMark cX1_addMark 4 (some .int), .fieldLink RX1 31 "BunchTimes$Course" "marks" "I", .fieldLink RX1 9 "BunchTimes$Course" "km" "[I", .fieldLink RX1 28 "BunchTimes$Course" "length" "I", .fieldLink RX1 15 "BunchTimes$Course" "how" "[I", .fieldLink RX1 18 "BunchTimes$Course" "crossed" "[I", .static yX8_within, .initialized RX8, .code yX8_within cX8_within 3 (some .boolean)] ++ wsX30 ++ wsX40 ++ wsX10)
def wsX3_hasRider : List Cond := .code yX3_hasRider cX3_hasRider 2 (some .boolean) :: ([.fieldLink RX3 39 "BunchTimes$Race" "riders" "I", .static yX8_within, .initialized RX8, .code yX8_within cX8_within 3 (some .boolean)] ++ wsX30)
def wsX3_isIn : List Cond := .code yX3_isIn cX3_isIn 2 (some .boolean) :: ([.fieldLink RX3 25 "BunchTimes$Race" "in" "[Z", .methodLink RX3 142 yX3_hasRider, .instanceMethod yX3_hasRider, .selects RX3 yX3_hasRider yX3_hasRider, .initialized RX3, .code yX3_hasRider cX3_hasRider 2 (some .boolean), .fieldLink RX3 39 "BunchTimes$Race" "riders" "I", .static yX8_within, .initialized RX8, .code yX8_within cX8_within 3 (some .boolean)] ++ wsX30)
def wsX4_addFinish : List Cond := .code yX4_addFinish cX4_addFinish 3 (some .boolean) :: ([.fieldLink RX4 25 "BunchTimes$Stage" "finish" "[I", .constant RX4 104 (999999), .fieldLink RX4 68 "BunchTimes$Stage" "finishers" "I", .static yX8_within, .initialized RX8, .code yX8_within cX8_within 3 (some .boolean)] ++ wsX40)
def wsX3_addFinish : List Cond := .code yX3_addFinish cX3_addFinish 3 (some .boolean) :: ([.fieldLink RX3 45 "BunchTimes$Race" "open" "Z", .fieldLink RX3 31 "BunchTimes$Race" "all" "[LBunchTimes$Stage;", .fieldLink RX3 42 "BunchTimes$Race" "stages" "I", .methodLink RX3 84 yX3_isIn, .instanceMethod yX3_isIn, .selects RX3 yX3_isIn yX3_isIn, .initialized RX3, .code yX3_isIn cX3_isIn 2 (some .boolean), .fieldLink RX3 25 "BunchTimes$Race" "in" "[Z", .methodLink RX3 142 yX3_hasRider, .instanceMethod yX3_hasRider, .selects RX3 yX3_hasRider yX3_hasRider, .code yX3_hasRider cX3_hasRider 2 (some .boolean), .fieldLink RX3 39 "BunchTimes$Race" "riders" "I", .static yX8_within, .initialized RX8, .code yX8_within cX8_within 3 (some .boolean), .instanceMethod yX4_addFinish, .initialized RX4, .selects RX4 yX4_addFinish yX4_addFinish, .code yX4_addFinish cX4_addFinish 3 (some .boolean), .fieldLink RX4 25 "BunchTimes$Stage" "finish" "[I", .constant RX4 104 (999999), .fieldLink RX4 68 "BunchTimes$Stage" "finishers" "I"] ++ wsX30 ++ wsX40)
def wsX3_addCrossing_r1 : List Cond := [Cond.fieldLink RX3 45 "BunchTimes$Race" "open" "Z", Cond.fieldLink RX3 31 "BunchTimes$Race" "all" "[LBunchTimes$Stage;", Cond.fieldLink RX3 42 "BunchTimes$Race" "stages" "I", Cond.methodLink RX3 84 yX3_isIn, Cond.instanceMethod yX3_isIn, Cond.selects RX3 yX3_isIn yX3_isIn, Cond.initialized RX3, Cond.code yX3_isIn cX3_isIn 2 (some .boolean), Cond.fieldLink RX3 25 "BunchTimes$Race" "in" "[Z", Cond.methodLink RX3 142 yX3_hasRider, Cond.instanceMethod yX3_hasRider, Cond.selects RX3 yX3_hasRider yX3_hasRider, Cond.code yX3_hasRider cX3_hasRider 2 (some .boolean), Cond.fieldLink RX3 39 "BunchTimes$Race" "riders" "I", Cond.static yX8_within, Cond.initialized RX8, Cond.code yX8_within cX8_within 3 (some .boolean), Cond.instanceMethod yX1_addCrossing, Cond.initialized RX1, Cond.selects RX1 yX1_addCrossing yX1_addCrossing, Cond.code yX1_addCrossing cX1_addCrossing 3 (some .int), Cond.fieldLink RX1 31 "BunchTimes$Course" "marks" "I", Cond.fieldLink RX1 18 "BunchTimes$Course" "crossed" "[I", Cond.fieldLink RX1 21 "BunchTimes$Course" "crossing" "[I"]
def wsX3_addCrossing_r2 : List Cond := [Cond.methodLink RX1 44 yX1_hasCrossed, Cond.instanceMethod yX1_hasCrossed, Cond.selects RX1 yX1_hasCrossed yX1_hasCrossed, Cond.code yX1_hasCrossed cX1_hasCrossed 4 (some .boolean)]
def wsX3_addCrossing : List Cond := .code yX3_addCrossing cX3_addCrossing 3 (some .int) :: ((wsX3_addCrossing_r1 ++ wsX3_addCrossing_r2) ++ wsX30 ++ wsX40 ++ wsX10)
def wsX4_addFall : List Cond := .code yX4_addFall cX4_addFall 4 (some .boolean) :: ([.fieldLink RX4 29 "BunchTimes$Stage" "fallKm" "[I", .fieldLink RX4 12 "BunchTimes$Stage" "course" "LBunchTimes$Course;", .fieldLink RX4 32 "BunchTimes$Stage" "fallWith" "[I", .static yX8_within, .initialized RX8, .code yX8_within cX8_within 3 (some .boolean)] ++ wsX40 ++ wsX10)
def wsX3_addFall : List Cond := .code yX3_addFall cX3_addFall 4 (some .boolean) :: ([.fieldLink RX3 45 "BunchTimes$Race" "open" "Z", .fieldLink RX3 31 "BunchTimes$Race" "all" "[LBunchTimes$Stage;", .fieldLink RX3 42 "BunchTimes$Race" "stages" "I", .methodLink RX3 84 yX3_isIn, .instanceMethod yX3_isIn, .selects RX3 yX3_isIn yX3_isIn, .initialized RX3, .code yX3_isIn cX3_isIn 2 (some .boolean), .fieldLink RX3 25 "BunchTimes$Race" "in" "[Z", .methodLink RX3 142 yX3_hasRider, .instanceMethod yX3_hasRider, .selects RX3 yX3_hasRider yX3_hasRider, .code yX3_hasRider cX3_hasRider 2 (some .boolean), .fieldLink RX3 39 "BunchTimes$Race" "riders" "I", .static yX8_within, .initialized RX8, .code yX8_within cX8_within 3 (some .boolean), .instanceMethod yX4_addFall, .initialized RX4, .selects RX4 yX4_addFall yX4_addFall, .code yX4_addFall cX4_addFall 4 (some .boolean), .fieldLink RX4 29 "BunchTimes$Stage" "fallKm" "[I", .fieldLink RX4 12 "BunchTimes$Stage" "course" "LBunchTimes$Course;", .fieldLink RX4 32 "BunchTimes$Stage" "fallWith" "[I"] ++ wsX30 ++ wsX40 ++ wsX10)
def wsX4_addJury : List Cond := .code yX4_addJury cX4_addJury 3 (some .int) :: ([.fieldLink RX4 35 "BunchTimes$Stage" "juried" "[I", .constant RX4 112 (99999), .static yX8_within, .initialized RX8, .code yX8_within cX8_within 3 (some .boolean)] ++ wsX40)
def wsX3_addJury : List Cond := .code yX3_addJury cX3_addJury 3 (some .int) :: ([.fieldLink RX3 45 "BunchTimes$Race" "open" "Z", .fieldLink RX3 31 "BunchTimes$Race" "all" "[LBunchTimes$Stage;", .fieldLink RX3 42 "BunchTimes$Race" "stages" "I", .methodLink RX3 84 yX3_isIn, .instanceMethod yX3_isIn, .selects RX3 yX3_isIn yX3_isIn, .initialized RX3, .code yX3_isIn cX3_isIn 2 (some .boolean), .fieldLink RX3 25 "BunchTimes$Race" "in" "[Z", .methodLink RX3 142 yX3_hasRider, .instanceMethod yX3_hasRider, .selects RX3 yX3_hasRider yX3_hasRider, .code yX3_hasRider cX3_hasRider 2 (some .boolean), .fieldLink RX3 39 "BunchTimes$Race" "riders" "I", .static yX8_within, .initialized RX8, .code yX8_within cX8_within 3 (some .boolean), .instanceMethod yX4_addJury, .initialized RX4, .selects RX4 yX4_addJury yX4_addJury, .code yX4_addJury cX4_addJury 3 (some .int), .fieldLink RX4 35 "BunchTimes$Stage" "juried" "[I", .constant RX4 112 (99999)] ++ wsX30 ++ wsX40)
def wsX4_addGrace : List Cond := .code yX4_addGrace cX4_addGrace 2 (some .boolean) :: ([.fieldLink RX4 38 "BunchTimes$Stage" "graced" "[Z"] ++ wsX40)
def wsX3_addGrace : List Cond := .code yX3_addGrace cX3_addGrace 2 (some .boolean) :: ([.fieldLink RX3 45 "BunchTimes$Race" "open" "Z", .fieldLink RX3 31 "BunchTimes$Race" "all" "[LBunchTimes$Stage;", .fieldLink RX3 42 "BunchTimes$Race" "stages" "I", .methodLink RX3 84 yX3_isIn, .instanceMethod yX3_isIn, .selects RX3 yX3_isIn yX3_isIn, .initialized RX3, .code yX3_isIn cX3_isIn 2 (some .boolean), .fieldLink RX3 25 "BunchTimes$Race" "in" "[Z", .methodLink RX3 142 yX3_hasRider, .instanceMethod yX3_hasRider, .selects RX3 yX3_hasRider yX3_hasRider, .code yX3_hasRider cX3_hasRider 2 (some .boolean), .fieldLink RX3 39 "BunchTimes$Race" "riders" "I", .static yX8_within, .initialized RX8, .code yX8_within cX8_within 3 (some .boolean), .instanceMethod yX4_addGrace, .initialized RX4, .selects RX4 yX4_addGrace yX4_addGrace, .code yX4_addGrace cX4_addGrace 2 (some .boolean), .fieldLink RX4 38 "BunchTimes$Stage" "graced" "[Z"] ++ wsX30 ++ wsX40)
def wsX3_dropRider_r1 : List Cond := [Cond.fieldLink RX3 45 "BunchTimes$Race" "open" "Z", Cond.fieldLink RX3 31 "BunchTimes$Race" "all" "[LBunchTimes$Stage;", Cond.fieldLink RX3 42 "BunchTimes$Race" "stages" "I", Cond.fieldLink RX3 25 "BunchTimes$Race" "in" "[Z", Cond.methodLink RX3 84 yX3_isIn, Cond.instanceMethod yX3_isIn, Cond.selects RX3 yX3_isIn yX3_isIn, Cond.initialized RX3, Cond.code yX3_isIn cX3_isIn 2 (some .boolean), Cond.methodLink RX3 142 yX3_hasRider, Cond.instanceMethod yX3_hasRider, Cond.selects RX3 yX3_hasRider yX3_hasRider, Cond.code yX3_hasRider cX3_hasRider 2 (some .boolean), Cond.fieldLink RX3 39 "BunchTimes$Race" "riders" "I", Cond.static yX8_within, Cond.initialized RX8, Cond.code yX8_within cX8_within 3 (some .boolean), Cond.instanceMethod yX4_forget, Cond.initialized RX4, Cond.selects RX4 yX4_forget yX4_forget, Cond.code yX4_forget cX4_forget 2 none, Cond.fieldLink RX4 25 "BunchTimes$Stage" "finish" "[I", Cond.fieldLink RX4 68 "BunchTimes$Stage" "finishers" "I", Cond.fieldLink RX4 29 "BunchTimes$Stage" "fallKm" "[I"]
def wsX3_dropRider_r2 : List Cond := [Cond.fieldLink RX4 32 "BunchTimes$Stage" "fallWith" "[I", Cond.fieldLink RX4 35 "BunchTimes$Stage" "juried" "[I", Cond.fieldLink RX4 38 "BunchTimes$Stage" "graced" "[Z", Cond.fieldLink RX4 12 "BunchTimes$Stage" "course" "LBunchTimes$Course;", Cond.instanceMethod yX1_forget, Cond.initialized RX1, Cond.selects RX1 yX1_forget yX1_forget, Cond.code yX1_forget cX1_forget 6 none, Cond.fieldLink RX1 31 "BunchTimes$Course" "marks" "I", Cond.fieldLink RX1 18 "BunchTimes$Course" "crossed" "[I", Cond.fieldLink RX1 21 "BunchTimes$Course" "crossing" "[I"]
def wsX3_dropRider : List Cond := .code yX3_dropRider cX3_dropRider 2 (some .boolean) :: ((wsX3_dropRider_r1 ++ wsX3_dropRider_r2) ++ wsX30 ++ wsX40 ++ wsX10)
def wsX3_setGap : List Cond := .code yX3_setGap cX3_setGap 2 (some .boolean) :: ([.fieldLink RX3 9 "BunchTimes$Race" "gap" "I", .static yX8_within, .initialized RX8, .code yX8_within cX8_within 3 (some .boolean)] ++ wsX30)
def wsX3_setZone : List Cond := .code yX3_setZone cX3_setZone 2 (some .boolean) :: ([.fieldLink RX3 15 "BunchTimes$Race" "zone" "I", .static yX8_within, .initialized RX8, .code yX8_within cX8_within 3 (some .boolean)] ++ wsX30)
def wsX4_rank : List Cond := .code yX4_rank cX4_rank 4 none :: ([.fieldLink RX4 25 "BunchTimes$Stage" "finish" "[I", .fieldLink RX4 42 "BunchTimes$Stage" "order" "[I", .fieldLink RX4 45 "BunchTimes$Stage" "place" "[I"] ++ wsX40)
def wsX4_space : List Cond := .code yX4_space cX4_space 2 (some .int) :: ([.fieldLink RX4 25 "BunchTimes$Stage" "finish" "[I", .fieldLink RX4 42 "BunchTimes$Stage" "order" "[I"] ++ wsX40)
def wsX4_beginsBunch : List Cond := .code yX4_beginsBunch cX4_beginsBunch 3 (some .boolean) :: ([.fieldLink RX4 12 "BunchTimes$Stage" "course" "LBunchTimes$Course;", .methodLink RX4 117 yX4_space, .instanceMethod yX4_space, .selects RX4 yX4_space yX4_space, .initialized RX4, .code yX4_space cX4_space 2 (some .int), .fieldLink RX4 25 "BunchTimes$Stage" "finish" "[I", .fieldLink RX4 42 "BunchTimes$Stage" "order" "[I"] ++ wsX40 ++ wsX10)
def wsX4_split : List Cond := .code yX4_split cX4_split 5 none :: ([.fieldLink RX4 85 "BunchTimes$Stage" "bunches" "I", .fieldLink RX4 42 "BunchTimes$Stage" "order" "[I", .fieldLink RX4 68 "BunchTimes$Stage" "finishers" "I", .fieldLink RX4 48 "BunchTimes$Stage" "bunch" "[I", .fieldLink RX4 51 "BunchTimes$Stage" "raw" "[I", .fieldLink RX4 25 "BunchTimes$Stage" "finish" "[I", .methodLink RX4 121 yX4_beginsBunch, .instanceMethod yX4_beginsBunch, .selects RX4 yX4_beginsBunch yX4_beginsBunch, .initialized RX4, .code yX4_beginsBunch cX4_beginsBunch 3 (some .boolean), .fieldLink RX4 12 "BunchTimes$Stage" "course" "LBunchTimes$Course;", .methodLink RX4 117 yX4_space, .instanceMethod yX4_space, .selects RX4 yX4_space yX4_space, .code yX4_space cX4_space 2 (some .int)] ++ wsX40 ++ wsX10)
def wsX4_fallCounts : List Cond := .code yX4_fallCounts cX4_fallCounts 4 (some .boolean) :: ([.fieldLink RX4 12 "BunchTimes$Stage" "course" "LBunchTimes$Course;", .fieldLink RX4 29 "BunchTimes$Stage" "fallKm" "[I"] ++ wsX40 ++ wsX10)
def wsX4_hasFinish : List Cond := .code yX4_hasFinish cX4_hasFinish 2 (some .boolean) :: ([.fieldLink RX4 25 "BunchTimes$Stage" "finish" "[I", .static yX8_within, .initialized RX8, .code yX8_within cX8_within 3 (some .boolean)] ++ wsX40)
def wsX4_leastRaw : List Cond := .code yX4_leastRaw cX4_leastRaw 6 (some .int) :: ([.fieldLink RX4 51 "BunchTimes$Stage" "raw" "[I", .fieldLink RX4 32 "BunchTimes$Stage" "fallWith" "[I", .methodLink RX4 130 Lib.Math.min.name, .static Lib.Math.min.name, .initialized "java/lang/Math", .code Lib.Math.min.name Lib.Math.min.code 2 (some .int), .methodLink RX4 135 yX4_fallCounts, .instanceMethod yX4_fallCounts, .selects RX4 yX4_fallCounts yX4_fallCounts, .initialized RX4, .code yX4_fallCounts cX4_fallCounts 4 (some .boolean), .fieldLink RX4 12 "BunchTimes$Stage" "course" "LBunchTimes$Course;", .fieldLink RX4 29 "BunchTimes$Stage" "fallKm" "[I", .methodLink RX4 138 yX4_hasFinish, .instanceMethod yX4_hasFinish, .selects RX4 yX4_hasFinish yX4_hasFinish, .code yX4_hasFinish cX4_hasFinish 2 (some .boolean), .fieldLink RX4 25 "BunchTimes$Stage" "finish" "[I", .static yX8_within, .initialized RX8, .code yX8_within cX8_within 3 (some .boolean)] ++ wsX40 ++ wsX10)
def wsX4_takeTimes_r1 : List Cond := [Cond.constant RX4 125 (1000000), Cond.fieldLink RX4 88 "BunchTimes$Stage" "best" "I", Cond.fieldLink RX4 68 "BunchTimes$Stage" "finishers" "I", Cond.fieldLink RX4 42 "BunchTimes$Stage" "order" "[I", Cond.fieldLink RX4 54 "BunchTimes$Stage" "time" "[I", Cond.methodLink RX4 130 Lib.Math.min.name, Cond.static Lib.Math.min.name, Cond.initialized "java/lang/Math", Cond.code Lib.Math.min.name Lib.Math.min.code 2 (some .int), Cond.methodLink RX4 126 yX4_leastRaw, Cond.instanceMethod yX4_leastRaw, Cond.selects RX4 yX4_leastRaw yX4_leastRaw, Cond.initialized RX4, Cond.code yX4_leastRaw cX4_leastRaw 6 (some .int), Cond.fieldLink RX4 51 "BunchTimes$Stage" "raw" "[I", Cond.fieldLink RX4 32 "BunchTimes$Stage" "fallWith" "[I", Cond.methodLink RX4 135 yX4_fallCounts, Cond.instanceMethod yX4_fallCounts, Cond.selects RX4 yX4_fallCounts yX4_fallCounts, Cond.code yX4_fallCounts cX4_fallCounts 4 (some .boolean), Cond.fieldLink RX4 12 "BunchTimes$Stage" "course" "LBunchTimes$Course;", Cond.fieldLink RX4 29 "BunchTimes$Stage" "fallKm" "[I", Cond.methodLink RX4 138 yX4_hasFinish, Cond.instanceMethod yX4_hasFinish]
def wsX4_takeTimes_r2 : List Cond := [Cond.selects RX4 yX4_hasFinish yX4_hasFinish, Cond.code yX4_hasFinish cX4_hasFinish 2 (some .boolean), Cond.fieldLink RX4 25 "BunchTimes$Stage" "finish" "[I", Cond.static yX8_within, Cond.initialized RX8, Cond.code yX8_within cX8_within 3 (some .boolean)]
def wsX4_takeTimes : List Cond := .code yX4_takeTimes cX4_takeTimes 4 none :: ((wsX4_takeTimes_r1 ++ wsX4_takeTimes_r2) ++ wsX40 ++ wsX10)
def wsX4_judge : List Cond := .code yX4_judge cX4_judge 3 none :: ([.fieldLink RX4 12 "BunchTimes$Stage" "course" "LBunchTimes$Course;", .fieldLink RX4 88 "BunchTimes$Stage" "best" "I", .methodLink RX4 142 Lib.Math.max.name, .static Lib.Math.max.name, .initialized "java/lang/Math", .code Lib.Math.max.name Lib.Math.max.code 2 (some .int), .fieldLink RX4 91 "BunchTimes$Stage" "speed" "I", .methodLink RX4 130 Lib.Math.min.name, .static Lib.Math.min.name, .code Lib.Math.min.name Lib.Math.min.code 2 (some .int), .fieldLink RX4 145 "BunchTimes$Stage" "LIMIT_HUNDREDTHS" "[I", .fieldLink RX4 94 "BunchTimes$Stage" "limit" "I", .fieldLink RX4 97 "BunchTimes$Stage" "lateOnes" "I", .fieldLink RX4 57 "BunchTimes$Stage" "late" "[Z", .fieldLink RX4 25 "BunchTimes$Stage" "finish" "[I", .fieldLink RX4 54 "BunchTimes$Stage" "time" "[I", .fieldLink RX4 38 "BunchTimes$Stage" "graced" "[Z", .fieldLink RX4 68 "BunchTimes$Stage" "finishers" "I", .fieldLink RX4 100 "BunchTimes$Stage" "pardoned" "Z"] ++ wsX40 ++ wsX10)
def wsX4_sendsOut : List Cond := .code yX4_sendsOut cX4_sendsOut 2 (some .boolean) :: ([.fieldLink RX4 25 "BunchTimes$Stage" "finish" "[I", .fieldLink RX4 57 "BunchTimes$Stage" "late" "[Z", .fieldLink RX4 100 "BunchTimes$Stage" "pardoned" "Z"] ++ wsX40)
def wsX3_sendOut : List Cond := .code yX3_sendOut cX3_sendOut 4 (some .int) :: ([.fieldLink RX3 39 "BunchTimes$Race" "riders" "I", .fieldLink RX3 25 "BunchTimes$Race" "in" "[Z", .instanceMethod yX4_sendsOut, .initialized RX4, .selects RX4 yX4_sendsOut yX4_sendsOut, .code yX4_sendsOut cX4_sendsOut 2 (some .boolean), .fieldLink RX4 25 "BunchTimes$Stage" "finish" "[I", .fieldLink RX4 57 "BunchTimes$Stage" "late" "[Z", .fieldLink RX4 100 "BunchTimes$Stage" "pardoned" "Z"] ++ wsX30 ++ wsX40)
def wsX3_closeStage_r1 : List Cond := [Cond.fieldLink RX3 45 "BunchTimes$Race" "open" "Z", Cond.fieldLink RX3 31 "BunchTimes$Race" "all" "[LBunchTimes$Stage;", Cond.fieldLink RX3 42 "BunchTimes$Race" "stages" "I", Cond.fieldLink RX3 9 "BunchTimes$Race" "gap" "I", Cond.fieldLink RX3 15 "BunchTimes$Race" "zone" "I", Cond.instanceMethod yX4_rank, Cond.initialized RX4, Cond.selects RX4 yX4_rank yX4_rank, Cond.code yX4_rank cX4_rank 4 none, Cond.fieldLink RX4 25 "BunchTimes$Stage" "finish" "[I", Cond.fieldLink RX4 42 "BunchTimes$Stage" "order" "[I", Cond.fieldLink RX4 45 "BunchTimes$Stage" "place" "[I", Cond.instanceMethod yX4_split, Cond.selects RX4 yX4_split yX4_split, Cond.code yX4_split cX4_split 5 none, Cond.fieldLink RX4 85 "BunchTimes$Stage" "bunches" "I", Cond.fieldLink RX4 68 "BunchTimes$Stage" "finishers" "I", Cond.fieldLink RX4 48 "BunchTimes$Stage" "bunch" "[I", Cond.fieldLink RX4 51 "BunchTimes$Stage" "raw" "[I", Cond.methodLink RX4 121 yX4_beginsBunch, Cond.instanceMethod yX4_beginsBunch, Cond.selects RX4 yX4_beginsBunch yX4_beginsBunch, Cond.code yX4_beginsBunch cX4_beginsBunch 3 (some .boolean), Cond.fieldLink RX4 12 "BunchTimes$Stage" "course" "LBunchTimes$Course;"]
def wsX3_closeStage_r2 : List Cond := [Cond.methodLink RX4 117 yX4_space, Cond.instanceMethod yX4_space, Cond.selects RX4 yX4_space yX4_space, Cond.code yX4_space cX4_space 2 (some .int), Cond.instanceMethod yX4_takeTimes, Cond.selects RX4 yX4_takeTimes yX4_takeTimes, Cond.code yX4_takeTimes cX4_takeTimes 4 none, Cond.constant RX4 125 (1000000), Cond.fieldLink RX4 88 "BunchTimes$Stage" "best" "I", Cond.fieldLink RX4 54 "BunchTimes$Stage" "time" "[I", Cond.methodLink RX4 130 Lib.Math.min.name, Cond.static Lib.Math.min.name, Cond.initialized "java/lang/Math", Cond.code Lib.Math.min.name Lib.Math.min.code 2 (some .int), Cond.methodLink RX4 126 yX4_leastRaw, Cond.instanceMethod yX4_leastRaw, Cond.selects RX4 yX4_leastRaw yX4_leastRaw, Cond.code yX4_leastRaw cX4_leastRaw 6 (some .int), Cond.fieldLink RX4 32 "BunchTimes$Stage" "fallWith" "[I", Cond.methodLink RX4 135 yX4_fallCounts, Cond.instanceMethod yX4_fallCounts, Cond.selects RX4 yX4_fallCounts yX4_fallCounts, Cond.code yX4_fallCounts cX4_fallCounts 4 (some .boolean), Cond.fieldLink RX4 29 "BunchTimes$Stage" "fallKm" "[I"]
def wsX3_closeStage_r3 : List Cond := [Cond.methodLink RX4 138 yX4_hasFinish, Cond.instanceMethod yX4_hasFinish, Cond.selects RX4 yX4_hasFinish yX4_hasFinish, Cond.code yX4_hasFinish cX4_hasFinish 2 (some .boolean), Cond.static yX8_within, Cond.initialized RX8, Cond.code yX8_within cX8_within 3 (some .boolean), Cond.instanceMethod yX4_judge, Cond.selects RX4 yX4_judge yX4_judge, Cond.code yX4_judge cX4_judge 3 none, Cond.methodLink RX4 142 Lib.Math.max.name, Cond.static Lib.Math.max.name, Cond.code Lib.Math.max.name Lib.Math.max.code 2 (some .int), Cond.fieldLink RX4 91 "BunchTimes$Stage" "speed" "I", Cond.fieldLink RX4 145 "BunchTimes$Stage" "LIMIT_HUNDREDTHS" "[I", Cond.fieldLink RX4 94 "BunchTimes$Stage" "limit" "I", Cond.fieldLink RX4 97 "BunchTimes$Stage" "lateOnes" "I", Cond.fieldLink RX4 57 "BunchTimes$Stage" "late" "[Z", Cond.fieldLink RX4 38 "BunchTimes$Stage" "graced" "[Z", Cond.fieldLink RX4 100 "BunchTimes$Stage" "pardoned" "Z", Cond.instanceMethod yX2_awardOrder, Cond.initialized RX2, Cond.selects RX2 yX2_awardOrder yX2_awardOrder, Cond.code yX2_awardOrder cX2_awardOrder 5 none]
def wsX3_closeStage_r4 : List Cond := [Cond.fieldLink RX2 9 "BunchTimes$Prizes" "bonus" "[I", Cond.fieldLink RX2 15 "BunchTimes$Prizes" "points" "[I", Cond.fieldLink RX2 18 "BunchTimes$Prizes" "dots" "[I", Cond.fieldLink RX2 45 "BunchTimes$Prizes" "ORDER_BONUS" "[I", Cond.fieldLink RX2 52 "BunchTimes$Prizes" "ORDER_POINTS" "[I", Cond.instanceMethod yX2_awardMarks, Cond.selects RX2 yX2_awardMarks yX2_awardMarks, Cond.code yX2_awardMarks cX2_awardMarks 7 none, Cond.methodLink RX2 70 yX2_awardOver, Cond.instanceMethod yX2_awardOver, Cond.selects RX2 yX2_awardOver yX2_awardOver, Cond.code yX2_awardOver cX2_awardOver 5 none, Cond.fieldLink RX2 74 "BunchTimes$Prizes" "CLIMB_DOTS" "[I", Cond.fieldLink RX2 77 "BunchTimes$Prizes" "SPRINT_BONUS" "[I", Cond.fieldLink RX2 80 "BunchTimes$Prizes" "SPRINT_POINTS" "[I", Cond.methodLink RX3 135 yX3_sendOut, Cond.instanceMethod yX3_sendOut, Cond.selects RX3 yX3_sendOut yX3_sendOut, Cond.initialized RX3, Cond.code yX3_sendOut cX3_sendOut 4 (some .int), Cond.fieldLink RX3 39 "BunchTimes$Race" "riders" "I", Cond.fieldLink RX3 25 "BunchTimes$Race" "in" "[Z", Cond.instanceMethod yX4_sendsOut, Cond.selects RX4 yX4_sendsOut yX4_sendsOut]
def wsX3_closeStage_r5 : List Cond := [Cond.code yX4_sendsOut cX4_sendsOut 2 (some .boolean)]
def wsX3_closeStage : List Cond := .code yX3_closeStage cX3_closeStage 2 (some .int) :: ((wsX3_closeStage_r1 ++ (wsX3_closeStage_r2 ++ (wsX3_closeStage_r3 ++ (wsX3_closeStage_r4 ++ wsX3_closeStage_r5)))) ++ wsX30 ++ wsX40 ++ wsX10 ++ wsX20)
def wsX3_closed : List Cond := .code yX3_closed cX3_closed 1 (some .int) :: ([.fieldLink RX3 45 "BunchTimes$Race" "open" "Z", .fieldLink RX3 42 "BunchTimes$Race" "stages" "I"] ++ wsX30)
def wsX3_closedStage : List Cond := .code yX3_closedStage cX3_closedStage 2 (some (.object "BunchTimes$Stage")) :: ([.fieldLink RX3 31 "BunchTimes$Race" "all" "[LBunchTimes$Stage;", .methodLink RX3 145 yX3_closed, .instanceMethod yX3_closed, .selects RX3 yX3_closed yX3_closed, .initialized RX3, .code yX3_closed cX3_closed 1 (some .int), .fieldLink RX3 45 "BunchTimes$Race" "open" "Z", .fieldLink RX3 42 "BunchTimes$Race" "stages" "I", .static yX8_within, .initialized RX8, .code yX8_within cX8_within 3 (some .boolean)] ++ wsX30)
def wsX3_latestMarks : List Cond := .code yX3_latestMarks cX3_latestMarks 1 (some .int) :: ([.fieldLink RX3 42 "BunchTimes$Race" "stages" "I", .fieldLink RX3 31 "BunchTimes$Race" "all" "[LBunchTimes$Stage;"] ++ wsX30 ++ wsX40 ++ wsX10)
def wsX3_latestLength : List Cond := .code yX3_latestLength cX3_latestLength 1 (some .int) :: ([.fieldLink RX3 42 "BunchTimes$Race" "stages" "I", .fieldLink RX3 31 "BunchTimes$Race" "all" "[LBunchTimes$Stage;"] ++ wsX30 ++ wsX40 ++ wsX10)
def wsX4_gainedBy : List Cond := .code yX4_gainedBy cX4_gainedBy 3 (some .int) :: ([.fieldLink RX4 21 "BunchTimes$Stage" "prizes" "LBunchTimes$Prizes;", .fieldLink RX4 35 "BunchTimes$Stage" "juried" "[I"] ++ wsX40 ++ wsX20)
def wsX3_gained : List Cond := .code yX3_gained cX3_gained 5 (some .int) :: ([.fieldLink RX3 31 "BunchTimes$Race" "all" "[LBunchTimes$Stage;", .methodLink RX3 145 yX3_closed, .instanceMethod yX3_closed, .selects RX3 yX3_closed yX3_closed, .initialized RX3, .code yX3_closed cX3_closed 1 (some .int), .fieldLink RX3 45 "BunchTimes$Race" "open" "Z", .fieldLink RX3 42 "BunchTimes$Race" "stages" "I", .instanceMethod yX4_gainedBy, .initialized RX4, .selects RX4 yX4_gainedBy yX4_gainedBy, .code yX4_gainedBy cX4_gainedBy 3 (some .int), .fieldLink RX4 21 "BunchTimes$Stage" "prizes" "LBunchTimes$Prizes;", .fieldLink RX4 35 "BunchTimes$Stage" "juried" "[I"] ++ wsX30 ++ wsX40 ++ wsX20)
def wsX4_netTime : List Cond := .code yX4_netTime cX4_netTime 2 (some .int) :: ([.fieldLink RX4 25 "BunchTimes$Stage" "finish" "[I", .fieldLink RX4 94 "BunchTimes$Stage" "limit" "I", .fieldLink RX4 54 "BunchTimes$Stage" "time" "[I", .fieldLink RX4 35 "BunchTimes$Stage" "juried" "[I", .fieldLink RX4 21 "BunchTimes$Stage" "prizes" "LBunchTimes$Prizes;"] ++ wsX40 ++ wsX20)
def wsX3_sumOf : List Cond := .code yX3_sumOf cX3_sumOf 5 (some .int) :: ([.fieldLink RX3 31 "BunchTimes$Race" "all" "[LBunchTimes$Stage;", .methodLink RX3 145 yX3_closed, .instanceMethod yX3_closed, .selects RX3 yX3_closed yX3_closed, .initialized RX3, .code yX3_closed cX3_closed 1 (some .int), .fieldLink RX3 45 "BunchTimes$Race" "open" "Z", .fieldLink RX3 42 "BunchTimes$Race" "stages" "I", .instanceMethod yX4_netTime, .initialized RX4, .selects RX4 yX4_netTime yX4_netTime, .code yX4_netTime cX4_netTime 2 (some .int), .fieldLink RX4 25 "BunchTimes$Stage" "finish" "[I", .fieldLink RX4 94 "BunchTimes$Stage" "limit" "I", .fieldLink RX4 54 "BunchTimes$Stage" "time" "[I", .fieldLink RX4 35 "BunchTimes$Stage" "juried" "[I", .fieldLink RX4 21 "BunchTimes$Stage" "prizes" "LBunchTimes$Prizes;"] ++ wsX30 ++ wsX40 ++ wsX20)
def wsX4_placeOf : List Cond := .code yX4_placeOf cX4_placeOf 2 (some .int) :: ([.fieldLink RX4 25 "BunchTimes$Stage" "finish" "[I", .fieldLink RX4 45 "BunchTimes$Stage" "place" "[I"] ++ wsX40)
def wsX3_placesOf : List Cond := .code yX3_placesOf cX3_placesOf 5 (some .int) :: ([.fieldLink RX3 31 "BunchTimes$Race" "all" "[LBunchTimes$Stage;", .methodLink RX3 145 yX3_closed, .instanceMethod yX3_closed, .selects RX3 yX3_closed yX3_closed, .initialized RX3, .code yX3_closed cX3_closed 1 (some .int), .fieldLink RX3 45 "BunchTimes$Race" "open" "Z", .fieldLink RX3 42 "BunchTimes$Race" "stages" "I", .instanceMethod yX4_placeOf, .initialized RX4, .selects RX4 yX4_placeOf yX4_placeOf, .code yX4_placeOf cX4_placeOf 2 (some .int), .fieldLink RX4 25 "BunchTimes$Stage" "finish" "[I", .fieldLink RX4 45 "BunchTimes$Stage" "place" "[I"] ++ wsX30 ++ wsX40)
def wsX3_isRanked : List Cond := .code yX3_isRanked cX3_isRanked 4 (some .boolean) :: ([.fieldLink RX3 36 "BunchTimes$Race" "teams" "I", .fieldLink RX3 39 "BunchTimes$Race" "riders" "I", .fieldLink RX3 25 "BunchTimes$Race" "in" "[Z", .fieldLink RX3 18 "BunchTimes$Race" "teamOf" "[I", .methodLink RX3 145 yX3_closed, .instanceMethod yX3_closed, .selects RX3 yX3_closed yX3_closed, .initialized RX3, .code yX3_closed cX3_closed 1 (some .int), .fieldLink RX3 45 "BunchTimes$Race" "open" "Z", .fieldLink RX3 42 "BunchTimes$Race" "stages" "I", .static yX8_within, .initialized RX8, .code yX8_within cX8_within 3 (some .boolean)] ++ wsX30)
def wsX4_teamTime : List Cond := .code yX4_teamTime cX4_teamTime 9 (some .int) :: ([.constant RX4 125 (1000000), .fieldLink RX4 68 "BunchTimes$Stage" "finishers" "I", .fieldLink RX4 42 "BunchTimes$Stage" "order" "[I", .fieldLink RX4 54 "BunchTimes$Stage" "time" "[I", .methodLink RX4 142 Lib.Math.max.name, .static Lib.Math.max.name, .initialized "java/lang/Math", .code Lib.Math.max.name Lib.Math.max.code 2 (some .int), .methodLink RX4 130 Lib.Math.min.name, .static Lib.Math.min.name, .code Lib.Math.min.name Lib.Math.min.code 2 (some .int), .fieldLink RX4 94 "BunchTimes$Stage" "limit" "I"] ++ wsX40)
def wsX3_teamSum_r1 : List Cond := [Cond.fieldLink RX3 31 "BunchTimes$Race" "all" "[LBunchTimes$Stage;", Cond.fieldLink RX3 18 "BunchTimes$Race" "teamOf" "[I", Cond.methodLink RX3 145 yX3_closed, Cond.instanceMethod yX3_closed, Cond.selects RX3 yX3_closed yX3_closed, Cond.initialized RX3, Cond.code yX3_closed cX3_closed 1 (some .int), Cond.fieldLink RX3 45 "BunchTimes$Race" "open" "Z", Cond.fieldLink RX3 42 "BunchTimes$Race" "stages" "I", Cond.instanceMethod yX4_teamTime, Cond.initialized RX4, Cond.selects RX4 yX4_teamTime yX4_teamTime, Cond.code yX4_teamTime cX4_teamTime 9 (some .int), Cond.constant RX4 125 (1000000), Cond.fieldLink RX4 68 "BunchTimes$Stage" "finishers" "I", Cond.fieldLink RX4 42 "BunchTimes$Stage" "order" "[I", Cond.fieldLink RX4 54 "BunchTimes$Stage" "time" "[I", Cond.methodLink RX4 142 Lib.Math.max.name, Cond.static Lib.Math.max.name, Cond.initialized "java/lang/Math", Cond.code Lib.Math.max.name Lib.Math.max.code 2 (some .int), Cond.methodLink RX4 130 Lib.Math.min.name, Cond.static Lib.Math.min.name, Cond.code Lib.Math.min.name Lib.Math.min.code 2 (some .int)]
def wsX3_teamSum_r2 : List Cond := [Cond.fieldLink RX4 94 "BunchTimes$Stage" "limit" "I"]
def wsX3_teamSum : List Cond := .code yX3_teamSum cX3_teamSum 4 (some .int) :: ((wsX3_teamSum_r1 ++ wsX3_teamSum_r2) ++ wsX30 ++ wsX40)
def wsX4_countHelped : List Cond := .code yX4_countHelped cX4_countHelped 3 (some .int) :: ([.fieldLink RX4 68 "BunchTimes$Stage" "finishers" "I", .fieldLink RX4 54 "BunchTimes$Stage" "time" "[I", .fieldLink RX4 42 "BunchTimes$Stage" "order" "[I", .fieldLink RX4 51 "BunchTimes$Stage" "raw" "[I"] ++ wsX40)
def wsX4_sumHelped : List Cond := .code yX4_sumHelped cX4_sumHelped 3 (some .int) :: ([.fieldLink RX4 68 "BunchTimes$Stage" "finishers" "I", .fieldLink RX4 51 "BunchTimes$Stage" "raw" "[I", .fieldLink RX4 42 "BunchTimes$Stage" "order" "[I", .fieldLink RX4 54 "BunchTimes$Stage" "time" "[I"] ++ wsX40)
def wsX4_fact : List Cond := .code yX4_fact cX4_fact 2 (some .int) :: ([.fieldLink RX4 12 "BunchTimes$Stage" "course" "LBunchTimes$Course;", .fieldLink RX4 68 "BunchTimes$Stage" "finishers" "I", .fieldLink RX4 85 "BunchTimes$Stage" "bunches" "I", .fieldLink RX4 88 "BunchTimes$Stage" "best" "I", .fieldLink RX4 91 "BunchTimes$Stage" "speed" "I", .fieldLink RX4 94 "BunchTimes$Stage" "limit" "I", .fieldLink RX4 97 "BunchTimes$Stage" "lateOnes" "I", .fieldLink RX4 100 "BunchTimes$Stage" "pardoned" "Z", .methodLink RX4 148 yX4_countHelped, .instanceMethod yX4_countHelped, .selects RX4 yX4_countHelped yX4_countHelped, .initialized RX4, .code yX4_countHelped cX4_countHelped 3 (some .int), .fieldLink RX4 54 "BunchTimes$Stage" "time" "[I", .fieldLink RX4 42 "BunchTimes$Stage" "order" "[I", .fieldLink RX4 51 "BunchTimes$Stage" "raw" "[I", .methodLink RX4 152 yX4_sumHelped, .instanceMethod yX4_sumHelped, .selects RX4 yX4_sumHelped yX4_sumHelped, .code yX4_sumHelped cX4_sumHelped 3 (some .int)] ++ wsX40 ++ wsX10)
def wsX4_resultOf : List Cond := .code yX4_resultOf cX4_resultOf 3 (some .int) :: ([.fieldLink RX4 25 "BunchTimes$Stage" "finish" "[I", .fieldLink RX4 51 "BunchTimes$Stage" "raw" "[I", .fieldLink RX4 54 "BunchTimes$Stage" "time" "[I", .fieldLink RX4 48 "BunchTimes$Stage" "bunch" "[I", .fieldLink RX4 45 "BunchTimes$Stage" "place" "[I", .fieldLink RX4 21 "BunchTimes$Stage" "prizes" "LBunchTimes$Prizes;"] ++ wsX40 ++ wsX20)
def wsX4_countBunches : List Cond := .code yX4_countBunches cX4_countBunches 4 (some .int) :: ([.fieldLink RX4 68 "BunchTimes$Stage" "finishers" "I", .methodLink RX4 121 yX4_beginsBunch, .instanceMethod yX4_beginsBunch, .selects RX4 yX4_beginsBunch yX4_beginsBunch, .initialized RX4, .code yX4_beginsBunch cX4_beginsBunch 3 (some .boolean), .fieldLink RX4 12 "BunchTimes$Stage" "course" "LBunchTimes$Course;", .methodLink RX4 117 yX4_space, .instanceMethod yX4_space, .selects RX4 yX4_space yX4_space, .code yX4_space cX4_space 2 (some .int), .fieldLink RX4 25 "BunchTimes$Stage" "finish" "[I", .fieldLink RX4 42 "BunchTimes$Stage" "order" "[I"] ++ wsX40 ++ wsX10)
def wsX4_joiningGap : List Cond := .code yX4_joiningGap cX4_joiningGap 3 (some .int) :: ([.fieldLink RX4 12 "BunchTimes$Stage" "course" "LBunchTimes$Course;", .fieldLink RX4 68 "BunchTimes$Stage" "finishers" "I", .methodLink RX4 142 Lib.Math.max.name, .static Lib.Math.max.name, .initialized "java/lang/Math", .code Lib.Math.max.name Lib.Math.max.code 2 (some .int), .methodLink RX4 117 yX4_space, .instanceMethod yX4_space, .selects RX4 yX4_space yX4_space, .initialized RX4, .code yX4_space cX4_space 2 (some .int), .fieldLink RX4 25 "BunchTimes$Stage" "finish" "[I", .fieldLink RX4 42 "BunchTimes$Stage" "order" "[I"] ++ wsX40 ++ wsX10)
def wsX4_aheadOfWidest : List Cond := .code yX4_aheadOfWidest cX4_aheadOfWidest 4 (some .int) :: ([.fieldLink RX4 68 "BunchTimes$Stage" "finishers" "I", .methodLink RX4 117 yX4_space, .instanceMethod yX4_space, .selects RX4 yX4_space yX4_space, .initialized RX4, .code yX4_space cX4_space 2 (some .int), .fieldLink RX4 25 "BunchTimes$Stage" "finish" "[I", .fieldLink RX4 42 "BunchTimes$Stage" "order" "[I"] ++ wsX40)
def wsX5_init : List Cond := .code yX5_init cX5_init 1 none :: ([.methodLink RX5 3 objectInit, .instanceMethod objectInit, .code objectInit ⟨#[0xb1]⟩ 1 none, .arrayClass .int, .fieldLink RX5 9 "BunchTimes$Standings" "order" "[I", .fieldLink RX5 15 "BunchTimes$Standings" "sums" "[I", .fieldLink RX5 18 "BunchTimes$Standings" "places" "[I", .fieldLink RX5 21 "BunchTimes$Standings" "worth" "[I"] ++ wsX50)
def wsX5_entry : List Cond := .code yX5_entry cX5_entry 2 (some .int) :: ([.fieldLink RX5 24 "BunchTimes$Standings" "size" "I", .fieldLink RX5 9 "BunchTimes$Standings" "order" "[I", .static yX8_within, .initialized RX8, .code yX8_within cX8_within 3 (some .boolean)] ++ wsX50)
def wsX5_isLess : List Cond := .code yX5_isLess cX5_isLess 3 (some .boolean) :: ([.fieldLink RX5 15 "BunchTimes$Standings" "sums" "[I", .fieldLink RX5 18 "BunchTimes$Standings" "places" "[I"] ++ wsX50)
def wsX5_insert : List Cond := .code yX5_insert cX5_insert 3 none :: ([.fieldLink RX5 24 "BunchTimes$Standings" "size" "I", .fieldLink RX5 9 "BunchTimes$Standings" "order" "[I", .methodLink RX5 82 yX5_isLess, .instanceMethod yX5_isLess, .selects RX5 yX5_isLess yX5_isLess, .initialized RX5, .code yX5_isLess cX5_isLess 3 (some .boolean), .fieldLink RX5 15 "BunchTimes$Standings" "sums" "[I", .fieldLink RX5 18 "BunchTimes$Standings" "places" "[I"] ++ wsX50)
def wsX5_rankRiders_r1 : List Cond := [Cond.fieldLink RX5 24 "BunchTimes$Standings" "size" "I", Cond.fieldLink RX5 15 "BunchTimes$Standings" "sums" "[I", Cond.fieldLink RX5 18 "BunchTimes$Standings" "places" "[I", Cond.instanceMethod yX3_sumOf, Cond.initialized RX3, Cond.selects RX3 yX3_sumOf yX3_sumOf, Cond.code yX3_sumOf cX3_sumOf 5 (some .int), Cond.fieldLink RX3 31 "BunchTimes$Race" "all" "[LBunchTimes$Stage;", Cond.methodLink RX3 145 yX3_closed, Cond.instanceMethod yX3_closed, Cond.selects RX3 yX3_closed yX3_closed, Cond.code yX3_closed cX3_closed 1 (some .int), Cond.fieldLink RX3 45 "BunchTimes$Race" "open" "Z", Cond.fieldLink RX3 42 "BunchTimes$Race" "stages" "I", Cond.instanceMethod yX4_netTime, Cond.initialized RX4, Cond.selects RX4 yX4_netTime yX4_netTime, Cond.code yX4_netTime cX4_netTime 2 (some .int), Cond.fieldLink RX4 25 "BunchTimes$Stage" "finish" "[I", Cond.fieldLink RX4 94 "BunchTimes$Stage" "limit" "I", Cond.fieldLink RX4 54 "BunchTimes$Stage" "time" "[I", Cond.fieldLink RX4 35 "BunchTimes$Stage" "juried" "[I", Cond.fieldLink RX4 21 "BunchTimes$Stage" "prizes" "LBunchTimes$Prizes;", Cond.instanceMethod yX3_placesOf]
def wsX5_rankRiders_r2 : List Cond := [Cond.selects RX3 yX3_placesOf yX3_placesOf, Cond.code yX3_placesOf cX3_placesOf 5 (some .int), Cond.instanceMethod yX4_placeOf, Cond.selects RX4 yX4_placeOf yX4_placeOf, Cond.code yX4_placeOf cX4_placeOf 2 (some .int), Cond.fieldLink RX4 45 "BunchTimes$Stage" "place" "[I", Cond.methodLink RX5 67 yX5_insert, Cond.instanceMethod yX5_insert, Cond.selects RX5 yX5_insert yX5_insert, Cond.initialized RX5, Cond.code yX5_insert cX5_insert 3 none, Cond.fieldLink RX5 9 "BunchTimes$Standings" "order" "[I", Cond.methodLink RX5 82 yX5_isLess, Cond.instanceMethod yX5_isLess, Cond.selects RX5 yX5_isLess yX5_isLess, Cond.code yX5_isLess cX5_isLess 3 (some .boolean)]
def wsX5_rankRiders : List Cond := .code yX5_rankRiders cX5_rankRiders 5 none :: ((wsX5_rankRiders_r1 ++ wsX5_rankRiders_r2) ++ wsX50 ++ wsX30 ++ wsX40 ++ wsX20)
def wsX5_rankWorthy_r1 : List Cond := [Cond.fieldLink RX5 24 "BunchTimes$Standings" "size" "I", Cond.fieldLink RX5 9 "BunchTimes$Standings" "order" "[I", Cond.fieldLink RX5 21 "BunchTimes$Standings" "worth" "[I", Cond.methodLink RX5 38 yX5_rankRiders, Cond.instanceMethod yX5_rankRiders, Cond.selects RX5 yX5_rankRiders yX5_rankRiders, Cond.initialized RX5, Cond.code yX5_rankRiders cX5_rankRiders 5 none, Cond.fieldLink RX5 15 "BunchTimes$Standings" "sums" "[I", Cond.fieldLink RX5 18 "BunchTimes$Standings" "places" "[I", Cond.instanceMethod yX3_sumOf, Cond.initialized RX3, Cond.selects RX3 yX3_sumOf yX3_sumOf, Cond.code yX3_sumOf cX3_sumOf 5 (some .int), Cond.fieldLink RX3 31 "BunchTimes$Race" "all" "[LBunchTimes$Stage;", Cond.methodLink RX3 145 yX3_closed, Cond.instanceMethod yX3_closed, Cond.selects RX3 yX3_closed yX3_closed, Cond.code yX3_closed cX3_closed 1 (some .int), Cond.fieldLink RX3 45 "BunchTimes$Race" "open" "Z", Cond.fieldLink RX3 42 "BunchTimes$Race" "stages" "I", Cond.instanceMethod yX4_netTime, Cond.initialized RX4, Cond.selects RX4 yX4_netTime yX4_netTime]
def wsX5_rankWorthy_r2 : List Cond := [Cond.code yX4_netTime cX4_netTime 2 (some .int), Cond.fieldLink RX4 25 "BunchTimes$Stage" "finish" "[I", Cond.fieldLink RX4 94 "BunchTimes$Stage" "limit" "I", Cond.fieldLink RX4 54 "BunchTimes$Stage" "time" "[I", Cond.fieldLink RX4 35 "BunchTimes$Stage" "juried" "[I", Cond.fieldLink RX4 21 "BunchTimes$Stage" "prizes" "LBunchTimes$Prizes;", Cond.instanceMethod yX3_placesOf, Cond.selects RX3 yX3_placesOf yX3_placesOf, Cond.code yX3_placesOf cX3_placesOf 5 (some .int), Cond.instanceMethod yX4_placeOf, Cond.selects RX4 yX4_placeOf yX4_placeOf, Cond.code yX4_placeOf cX4_placeOf 2 (some .int), Cond.fieldLink RX4 45 "BunchTimes$Stage" "place" "[I", Cond.methodLink RX5 67 yX5_insert, Cond.instanceMethod yX5_insert, Cond.selects RX5 yX5_insert yX5_insert, Cond.code yX5_insert cX5_insert 3 none, Cond.methodLink RX5 82 yX5_isLess, Cond.instanceMethod yX5_isLess, Cond.selects RX5 yX5_isLess yX5_isLess, Cond.code yX5_isLess cX5_isLess 3 (some .boolean), Cond.instanceMethod yX3_gained, Cond.selects RX3 yX3_gained yX3_gained, Cond.code yX3_gained cX3_gained 5 (some .int)]
def wsX5_rankWorthy_r3 : List Cond := [Cond.instanceMethod yX4_gainedBy, Cond.selects RX4 yX4_gainedBy yX4_gainedBy, Cond.code yX4_gainedBy cX4_gainedBy 3 (some .int)]
def wsX5_rankWorthy : List Cond := .code yX5_rankWorthy cX5_rankWorthy 7 none :: ((wsX5_rankWorthy_r1 ++ (wsX5_rankWorthy_r2 ++ wsX5_rankWorthy_r3)) ++ wsX50 ++ wsX30 ++ wsX40 ++ wsX20)
def wsX5_rankTeams_r1 : List Cond := [Cond.fieldLink RX5 15 "BunchTimes$Standings" "sums" "[I", Cond.fieldLink RX5 18 "BunchTimes$Standings" "places" "[I", Cond.instanceMethod yX3_isRanked, Cond.initialized RX3, Cond.selects RX3 yX3_isRanked yX3_isRanked, Cond.code yX3_isRanked cX3_isRanked 4 (some .boolean), Cond.fieldLink RX3 36 "BunchTimes$Race" "teams" "I", Cond.fieldLink RX3 39 "BunchTimes$Race" "riders" "I", Cond.fieldLink RX3 25 "BunchTimes$Race" "in" "[Z", Cond.fieldLink RX3 18 "BunchTimes$Race" "teamOf" "[I", Cond.methodLink RX3 145 yX3_closed, Cond.instanceMethod yX3_closed, Cond.selects RX3 yX3_closed yX3_closed, Cond.code yX3_closed cX3_closed 1 (some .int), Cond.fieldLink RX3 45 "BunchTimes$Race" "open" "Z", Cond.fieldLink RX3 42 "BunchTimes$Race" "stages" "I", Cond.static yX8_within, Cond.initialized RX8, Cond.code yX8_within cX8_within 3 (some .boolean), Cond.instanceMethod yX3_teamSum, Cond.selects RX3 yX3_teamSum yX3_teamSum, Cond.code yX3_teamSum cX3_teamSum 4 (some .int), Cond.fieldLink RX3 31 "BunchTimes$Race" "all" "[LBunchTimes$Stage;", Cond.instanceMethod yX4_teamTime]
def wsX5_rankTeams_r2 : List Cond := [Cond.initialized RX4, Cond.selects RX4 yX4_teamTime yX4_teamTime, Cond.code yX4_teamTime cX4_teamTime 9 (some .int), Cond.constant RX4 125 (1000000), Cond.fieldLink RX4 68 "BunchTimes$Stage" "finishers" "I", Cond.fieldLink RX4 42 "BunchTimes$Stage" "order" "[I", Cond.fieldLink RX4 54 "BunchTimes$Stage" "time" "[I", Cond.methodLink RX4 142 Lib.Math.max.name, Cond.static Lib.Math.max.name, Cond.initialized "java/lang/Math", Cond.code Lib.Math.max.name Lib.Math.max.code 2 (some .int), Cond.methodLink RX4 130 Lib.Math.min.name, Cond.static Lib.Math.min.name, Cond.code Lib.Math.min.name Lib.Math.min.code 2 (some .int), Cond.fieldLink RX4 94 "BunchTimes$Stage" "limit" "I", Cond.methodLink RX5 67 yX5_insert, Cond.instanceMethod yX5_insert, Cond.selects RX5 yX5_insert yX5_insert, Cond.initialized RX5, Cond.code yX5_insert cX5_insert 3 none, Cond.fieldLink RX5 24 "BunchTimes$Standings" "size" "I", Cond.fieldLink RX5 9 "BunchTimes$Standings" "order" "[I", Cond.methodLink RX5 82 yX5_isLess, Cond.instanceMethod yX5_isLess]
def wsX5_rankTeams_r3 : List Cond := [Cond.selects RX5 yX5_isLess yX5_isLess, Cond.code yX5_isLess cX5_isLess 3 (some .boolean)]
def wsX5_rankTeams : List Cond := .code yX5_rankTeams cX5_rankTeams 3 none :: ((wsX5_rankTeams_r1 ++ (wsX5_rankTeams_r2 ++ wsX5_rankTeams_r3)) ++ wsX30 ++ wsX50 ++ wsX40)
def wsX5_rankList_r1 : List Cond := [Cond.fieldLink RX5 24 "BunchTimes$Standings" "size" "I", Cond.instanceMethod yX3_closed, Cond.initialized RX3, Cond.selects RX3 yX3_closed yX3_closed, Cond.code yX3_closed cX3_closed 1 (some .int), Cond.fieldLink RX3 45 "BunchTimes$Race" "open" "Z", Cond.fieldLink RX3 42 "BunchTimes$Race" "stages" "I", Cond.methodLink RX5 38 yX5_rankRiders, Cond.instanceMethod yX5_rankRiders, Cond.selects RX5 yX5_rankRiders yX5_rankRiders, Cond.initialized RX5, Cond.code yX5_rankRiders cX5_rankRiders 5 none, Cond.fieldLink RX5 15 "BunchTimes$Standings" "sums" "[I", Cond.fieldLink RX5 18 "BunchTimes$Standings" "places" "[I", Cond.instanceMethod yX3_sumOf, Cond.selects RX3 yX3_sumOf yX3_sumOf, Cond.code yX3_sumOf cX3_sumOf 5 (some .int), Cond.fieldLink RX3 31 "BunchTimes$Race" "all" "[LBunchTimes$Stage;", Cond.methodLink RX3 145 yX3_closed, Cond.instanceMethod yX4_netTime, Cond.initialized RX4, Cond.selects RX4 yX4_netTime yX4_netTime, Cond.code yX4_netTime cX4_netTime 2 (some .int), Cond.fieldLink RX4 25 "BunchTimes$Stage" "finish" "[I"]
def wsX5_rankList_r2 : List Cond := [Cond.fieldLink RX4 94 "BunchTimes$Stage" "limit" "I", Cond.fieldLink RX4 54 "BunchTimes$Stage" "time" "[I", Cond.fieldLink RX4 35 "BunchTimes$Stage" "juried" "[I", Cond.fieldLink RX4 21 "BunchTimes$Stage" "prizes" "LBunchTimes$Prizes;", Cond.instanceMethod yX3_placesOf, Cond.selects RX3 yX3_placesOf yX3_placesOf, Cond.code yX3_placesOf cX3_placesOf 5 (some .int), Cond.instanceMethod yX4_placeOf, Cond.selects RX4 yX4_placeOf yX4_placeOf, Cond.code yX4_placeOf cX4_placeOf 2 (some .int), Cond.fieldLink RX4 45 "BunchTimes$Stage" "place" "[I", Cond.methodLink RX5 67 yX5_insert, Cond.instanceMethod yX5_insert, Cond.selects RX5 yX5_insert yX5_insert, Cond.code yX5_insert cX5_insert 3 none, Cond.fieldLink RX5 9 "BunchTimes$Standings" "order" "[I", Cond.methodLink RX5 82 yX5_isLess, Cond.instanceMethod yX5_isLess, Cond.selects RX5 yX5_isLess yX5_isLess, Cond.code yX5_isLess cX5_isLess 3 (some .boolean), Cond.methodLink RX5 42 yX5_rankWorthy, Cond.instanceMethod yX5_rankWorthy, Cond.selects RX5 yX5_rankWorthy yX5_rankWorthy, Cond.code yX5_rankWorthy cX5_rankWorthy 7 none]
def wsX5_rankList_r3 : List Cond := [Cond.fieldLink RX5 21 "BunchTimes$Standings" "worth" "[I", Cond.instanceMethod yX3_gained, Cond.selects RX3 yX3_gained yX3_gained, Cond.code yX3_gained cX3_gained 5 (some .int), Cond.instanceMethod yX4_gainedBy, Cond.selects RX4 yX4_gainedBy yX4_gainedBy, Cond.code yX4_gainedBy cX4_gainedBy 3 (some .int), Cond.methodLink RX5 46 yX5_rankTeams, Cond.instanceMethod yX5_rankTeams, Cond.selects RX5 yX5_rankTeams yX5_rankTeams, Cond.code yX5_rankTeams cX5_rankTeams 3 none, Cond.instanceMethod yX3_isRanked, Cond.selects RX3 yX3_isRanked yX3_isRanked, Cond.code yX3_isRanked cX3_isRanked 4 (some .boolean), Cond.fieldLink RX3 36 "BunchTimes$Race" "teams" "I", Cond.fieldLink RX3 39 "BunchTimes$Race" "riders" "I", Cond.fieldLink RX3 25 "BunchTimes$Race" "in" "[Z", Cond.fieldLink RX3 18 "BunchTimes$Race" "teamOf" "[I", Cond.static yX8_within, Cond.initialized RX8, Cond.code yX8_within cX8_within 3 (some .boolean), Cond.instanceMethod yX3_teamSum, Cond.selects RX3 yX3_teamSum yX3_teamSum, Cond.code yX3_teamSum cX3_teamSum 4 (some .int)]
def wsX5_rankList_r4 : List Cond := [Cond.instanceMethod yX4_teamTime, Cond.selects RX4 yX4_teamTime yX4_teamTime, Cond.code yX4_teamTime cX4_teamTime 9 (some .int), Cond.constant RX4 125 (1000000), Cond.fieldLink RX4 68 "BunchTimes$Stage" "finishers" "I", Cond.fieldLink RX4 42 "BunchTimes$Stage" "order" "[I", Cond.methodLink RX4 142 Lib.Math.max.name, Cond.static Lib.Math.max.name, Cond.initialized "java/lang/Math", Cond.code Lib.Math.max.name Lib.Math.max.code 2 (some .int), Cond.methodLink RX4 130 Lib.Math.min.name, Cond.static Lib.Math.min.name, Cond.code Lib.Math.min.name Lib.Math.min.code 2 (some .int)]
def wsX5_rankList : List Cond := .code yX5_rankList cX5_rankList 3 none :: ((wsX5_rankList_r1 ++ (wsX5_rankList_r2 ++ (wsX5_rankList_r3 ++ wsX5_rankList_r4))) ++ wsX50 ++ wsX30 ++ wsX40 ++ wsX20)
def wsX5_firstBut : List Cond := .code yX5_firstBut cX5_firstBut 3 (some .int) :: ([.fieldLink RX5 24 "BunchTimes$Standings" "size" "I", .fieldLink RX5 9 "BunchTimes$Standings" "order" "[I"] ++ wsX50)
def wsX5_wearer_r1 : List Cond := [Cond.methodLink RX5 89 yX5_rankList, Cond.instanceMethod yX5_rankList, Cond.selects RX5 yX5_rankList yX5_rankList, Cond.initialized RX5, Cond.code yX5_rankList cX5_rankList 3 none, Cond.fieldLink RX5 24 "BunchTimes$Standings" "size" "I", Cond.instanceMethod yX3_closed, Cond.initialized RX3, Cond.selects RX3 yX3_closed yX3_closed, Cond.code yX3_closed cX3_closed 1 (some .int), Cond.fieldLink RX3 45 "BunchTimes$Race" "open" "Z", Cond.fieldLink RX3 42 "BunchTimes$Race" "stages" "I", Cond.methodLink RX5 38 yX5_rankRiders, Cond.instanceMethod yX5_rankRiders, Cond.selects RX5 yX5_rankRiders yX5_rankRiders, Cond.code yX5_rankRiders cX5_rankRiders 5 none, Cond.fieldLink RX5 15 "BunchTimes$Standings" "sums" "[I", Cond.fieldLink RX5 18 "BunchTimes$Standings" "places" "[I", Cond.instanceMethod yX3_sumOf, Cond.selects RX3 yX3_sumOf yX3_sumOf, Cond.code yX3_sumOf cX3_sumOf 5 (some .int), Cond.fieldLink RX3 31 "BunchTimes$Race" "all" "[LBunchTimes$Stage;", Cond.methodLink RX3 145 yX3_closed, Cond.instanceMethod yX4_netTime]
def wsX5_wearer_r2 : List Cond := [Cond.initialized RX4, Cond.selects RX4 yX4_netTime yX4_netTime, Cond.code yX4_netTime cX4_netTime 2 (some .int), Cond.fieldLink RX4 25 "BunchTimes$Stage" "finish" "[I", Cond.fieldLink RX4 94 "BunchTimes$Stage" "limit" "I", Cond.fieldLink RX4 54 "BunchTimes$Stage" "time" "[I", Cond.fieldLink RX4 35 "BunchTimes$Stage" "juried" "[I", Cond.fieldLink RX4 21 "BunchTimes$Stage" "prizes" "LBunchTimes$Prizes;", Cond.instanceMethod yX3_placesOf, Cond.selects RX3 yX3_placesOf yX3_placesOf, Cond.code yX3_placesOf cX3_placesOf 5 (some .int), Cond.instanceMethod yX4_placeOf, Cond.selects RX4 yX4_placeOf yX4_placeOf, Cond.code yX4_placeOf cX4_placeOf 2 (some .int), Cond.fieldLink RX4 45 "BunchTimes$Stage" "place" "[I", Cond.methodLink RX5 67 yX5_insert, Cond.instanceMethod yX5_insert, Cond.selects RX5 yX5_insert yX5_insert, Cond.code yX5_insert cX5_insert 3 none, Cond.fieldLink RX5 9 "BunchTimes$Standings" "order" "[I", Cond.methodLink RX5 82 yX5_isLess, Cond.instanceMethod yX5_isLess, Cond.selects RX5 yX5_isLess yX5_isLess, Cond.code yX5_isLess cX5_isLess 3 (some .boolean)]
def wsX5_wearer_r3 : List Cond := [Cond.methodLink RX5 42 yX5_rankWorthy, Cond.instanceMethod yX5_rankWorthy, Cond.selects RX5 yX5_rankWorthy yX5_rankWorthy, Cond.code yX5_rankWorthy cX5_rankWorthy 7 none, Cond.fieldLink RX5 21 "BunchTimes$Standings" "worth" "[I", Cond.instanceMethod yX3_gained, Cond.selects RX3 yX3_gained yX3_gained, Cond.code yX3_gained cX3_gained 5 (some .int), Cond.instanceMethod yX4_gainedBy, Cond.selects RX4 yX4_gainedBy yX4_gainedBy, Cond.code yX4_gainedBy cX4_gainedBy 3 (some .int), Cond.methodLink RX5 46 yX5_rankTeams, Cond.instanceMethod yX5_rankTeams, Cond.selects RX5 yX5_rankTeams yX5_rankTeams, Cond.code yX5_rankTeams cX5_rankTeams 3 none, Cond.instanceMethod yX3_isRanked, Cond.selects RX3 yX3_isRanked yX3_isRanked, Cond.code yX3_isRanked cX3_isRanked 4 (some .boolean), Cond.fieldLink RX3 36 "BunchTimes$Race" "teams" "I", Cond.fieldLink RX3 39 "BunchTimes$Race" "riders" "I", Cond.fieldLink RX3 25 "BunchTimes$Race" "in" "[Z", Cond.fieldLink RX3 18 "BunchTimes$Race" "teamOf" "[I", Cond.static yX8_within, Cond.initialized RX8]
def wsX5_wearer_r4 : List Cond := [Cond.code yX8_within cX8_within 3 (some .boolean), Cond.instanceMethod yX3_teamSum, Cond.selects RX3 yX3_teamSum yX3_teamSum, Cond.code yX3_teamSum cX3_teamSum 4 (some .int), Cond.instanceMethod yX4_teamTime, Cond.selects RX4 yX4_teamTime yX4_teamTime, Cond.code yX4_teamTime cX4_teamTime 9 (some .int), Cond.constant RX4 125 (1000000), Cond.fieldLink RX4 68 "BunchTimes$Stage" "finishers" "I", Cond.fieldLink RX4 42 "BunchTimes$Stage" "order" "[I", Cond.methodLink RX4 142 Lib.Math.max.name, Cond.static Lib.Math.max.name, Cond.initialized "java/lang/Math", Cond.code Lib.Math.max.name Lib.Math.max.code 2 (some .int), Cond.methodLink RX4 130 Lib.Math.min.name, Cond.static Lib.Math.min.name, Cond.code Lib.Math.min.name Lib.Math.min.code 2 (some .int), Cond.methodLink RX5 92 yX5_firstBut, Cond.instanceMethod yX5_firstBut, Cond.selects RX5 yX5_firstBut yX5_firstBut, Cond.code yX5_firstBut cX5_firstBut 3 (some .int)]
def wsX5_wearer : List Cond := .code yX5_wearer cX5_wearer 6 (some .int) :: ((wsX5_wearer_r1 ++ (wsX5_wearer_r2 ++ (wsX5_wearer_r3 ++ wsX5_wearer_r4))) ++ wsX50 ++ wsX30 ++ wsX40 ++ wsX20)
def wsX5_lacking : List Cond := .code yX5_lacking cX5_lacking 5 (some .int) :: ([.fieldLink RX5 15 "BunchTimes$Standings" "sums" "[I", .fieldLink RX5 18 "BunchTimes$Standings" "places" "[I", .methodLink RX5 95 yX5_entry, .instanceMethod yX5_entry, .selects RX5 yX5_entry yX5_entry, .initialized RX5, .code yX5_entry cX5_entry 2 (some .int), .fieldLink RX5 24 "BunchTimes$Standings" "size" "I", .fieldLink RX5 9 "BunchTimes$Standings" "order" "[I", .static yX8_within, .initialized RX8, .code yX8_within cX8_within 3 (some .boolean)] ++ wsX50)
def wsX6_init : List Cond := .code yX6_init cX6_init 1 none :: ([.methodLink RX6 3 objectInit, .instanceMethod objectInit, .code objectInit ⟨#[0xb1]⟩ 1 none, .arrayClass .byte, .fieldLink RX6 9 "BunchTimes$Tape" "bytes" "[B"] ++ wsX60)
def wsX6_putFour : List Cond := .code yX6_putFour cX6_putFour 3 none :: ([.fieldLink RX6 15 "BunchTimes$Tape" "length" "I", .fieldLink RX6 9 "BunchTimes$Tape" "bytes" "[B"] ++ wsX60)
def wsX6_kindAt : List Cond := .code yX6_kindAt cX6_kindAt 3 (some .int) :: ([.fieldLink RX6 15 "BunchTimes$Tape" "length" "I", .fieldLink RX6 9 "BunchTimes$Tape" "bytes" "[B"] ++ wsX60)
def wsX6_advance : List Cond := .code yX6_advance cX6_advance 1 none :: ([.fieldLink RX6 22 "BunchTimes$Tape" "next" "I", .fieldLink RX6 15 "BunchTimes$Tape" "length" "I", .fieldLink RX6 31 "BunchTimes$Tape" "start" "I", .fieldLink RX6 28 "BunchTimes$Tape" "token" "I", .methodLink RX6 50 yX6_kindAt, .instanceMethod yX6_kindAt, .selects RX6 yX6_kindAt yX6_kindAt, .initialized RX6, .code yX6_kindAt cX6_kindAt 3 (some .int), .fieldLink RX6 9 "BunchTimes$Tape" "bytes" "[B"] ++ wsX60)
def wsX6_begin : List Cond := .code yX6_begin cX6_begin 1 none :: ([.fieldLink RX6 19 "BunchTimes$Tape" "fault" "I", .fieldLink RX6 22 "BunchTimes$Tape" "next" "I", .methodLink RX6 25 yX6_advance, .instanceMethod yX6_advance, .selects RX6 yX6_advance yX6_advance, .initialized RX6, .code yX6_advance cX6_advance 1 none, .fieldLink RX6 15 "BunchTimes$Tape" "length" "I", .fieldLink RX6 31 "BunchTimes$Tape" "start" "I", .fieldLink RX6 28 "BunchTimes$Tape" "token" "I", .methodLink RX6 50 yX6_kindAt, .instanceMethod yX6_kindAt, .selects RX6 yX6_kindAt yX6_kindAt, .code yX6_kindAt cX6_kindAt 3 (some .int), .fieldLink RX6 9 "BunchTimes$Tape" "bytes" "[B"] ++ wsX60)
def wsX6_hasMore : List Cond := .code yX6_hasMore cX6_hasMore 1 (some .boolean) :: ([.fieldLink RX6 19 "BunchTimes$Tape" "fault" "I", .fieldLink RX6 28 "BunchTimes$Tape" "token" "I"] ++ wsX60)
def wsX6_hasInt : List Cond := .code yX6_hasInt cX6_hasInt 1 (some .boolean) :: ([.fieldLink RX6 19 "BunchTimes$Tape" "fault" "I", .fieldLink RX6 28 "BunchTimes$Tape" "token" "I"] ++ wsX60)
def wsJ0_coder_7d493 : List Cond := .code yJ0_coder_7d493 cJ0_coder_7d493 1 (some .byte) :: ([.fieldLink RJ0 38 "java/lang/String" "COMPACT_STRINGS" "Z", .fieldLink RJ0 15 "java/lang/String" "coder" "B"])
def wsJ0_length_8abf5 : List Cond := .code yJ0_length_8abf5 cJ0_length_8abf5 1 (some .int) :: ([.fieldLink RJ0 9 "java/lang/String" "value" "[B", .methodLink RJ0 335 yJ0_coder_7d493, .instanceMethod yJ0_coder_7d493, .selects RJ0 yJ0_coder_7d493 yJ0_coder_7d493, .initialized RJ0, .code yJ0_coder_7d493 cJ0_coder_7d493 1 (some .byte), .fieldLink RJ0 38 "java/lang/String" "COMPACT_STRINGS" "Z", .fieldLink RJ0 15 "java/lang/String" "coder" "B"])
def wsJ0_isLatin1_aae02 : List Cond := .code yJ0_isLatin1_aae02 cJ0_isLatin1_aae02 1 (some .boolean) :: ([.fieldLink RJ0 38 "java/lang/String" "COMPACT_STRINGS" "Z", .fieldLink RJ0 15 "java/lang/String" "coder" "B"])
def wsJ3_checkIndex_8e157 : List Cond := .code yJ3_checkIndex_8e157 cJ3_checkIndex_8e157 3 (some .int) :: ([])
def wsJ0_checkIndex_df160 : List Cond := .code yJ0_checkIndex_df160 cJ0_checkIndex_df160 2 none :: ([.fieldLink RJ0 1053 "jdk/internal/util/Preconditions" "SIOOBE_FORMATTER" "Ljava/util/function/BiFunction;", .methodLink RJ0 1059 yJ3_checkIndex_8e157, .static yJ3_checkIndex_8e157, .initialized RJ3, .code yJ3_checkIndex_8e157 cJ3_checkIndex_8e157 3 (some .int)])
def wsJ1_charAt_3b067 : List Cond := .code yJ1_charAt_3b067 cJ1_charAt_3b067 2 (some .char) :: ([.methodLink RJ1 9 yJ0_checkIndex_df160, .static yJ0_checkIndex_df160, .initialized RJ0, .code yJ0_checkIndex_df160 cJ0_checkIndex_df160 2 none, .fieldLink RJ0 1053 "jdk/internal/util/Preconditions" "SIOOBE_FORMATTER" "Ljava/util/function/BiFunction;", .methodLink RJ0 1059 yJ3_checkIndex_8e157, .static yJ3_checkIndex_8e157, .initialized RJ3, .code yJ3_checkIndex_8e157 cJ3_checkIndex_8e157 3 (some .int)])
def wsJ2_length_9d52b : List Cond := .code yJ2_length_9d52b cJ2_length_9d52b 1 (some .int) :: ([])
def wsJ2_checkIndex_2214a : List Cond := .code yJ2_checkIndex_2214a cJ2_checkIndex_2214a 2 none :: ([.methodLink RJ2 48 yJ2_length_9d52b, .static yJ2_length_9d52b, .initialized RJ2, .code yJ2_length_9d52b cJ2_length_9d52b 1 (some .int), .methodLink RJ2 414 yJ0_checkIndex_df160, .static yJ0_checkIndex_df160, .initialized RJ0, .code yJ0_checkIndex_df160 cJ0_checkIndex_df160 2 none, .fieldLink RJ0 1053 "jdk/internal/util/Preconditions" "SIOOBE_FORMATTER" "Ljava/util/function/BiFunction;", .methodLink RJ0 1059 yJ3_checkIndex_8e157, .static yJ3_checkIndex_8e157, .initialized RJ3, .code yJ3_checkIndex_8e157 cJ3_checkIndex_8e157 3 (some .int)])
def wsJ2_getChar_3b067 : List Cond := .code yJ2_getChar_3b067 cJ2_getChar_3b067 2 (some .char) :: ([.fieldLink RJ2 44 "java/lang/StringUTF16" "$assertionsDisabled" "Z", .fieldLink RJ2 59 "java/lang/StringUTF16" "HI_BYTE_SHIFT" "I", .fieldLink RJ2 63 "java/lang/StringUTF16" "LO_BYTE_SHIFT" "I", .methodLink RJ2 48 yJ2_length_9d52b, .static yJ2_length_9d52b, .initialized RJ2, .code yJ2_length_9d52b cJ2_length_9d52b 1 (some .int)])
def wsJ2_charAt_3b067 : List Cond := .code yJ2_charAt_3b067 cJ2_charAt_3b067 2 (some .char) :: ([.methodLink RJ2 67 yJ2_checkIndex_2214a, .static yJ2_checkIndex_2214a, .initialized RJ2, .code yJ2_checkIndex_2214a cJ2_checkIndex_2214a 2 none, .methodLink RJ2 48 yJ2_length_9d52b, .static yJ2_length_9d52b, .code yJ2_length_9d52b cJ2_length_9d52b 1 (some .int), .methodLink RJ2 414 yJ0_checkIndex_df160, .static yJ0_checkIndex_df160, .initialized RJ0, .code yJ0_checkIndex_df160 cJ0_checkIndex_df160 2 none, .fieldLink RJ0 1053 "jdk/internal/util/Preconditions" "SIOOBE_FORMATTER" "Ljava/util/function/BiFunction;", .methodLink RJ0 1059 yJ3_checkIndex_8e157, .static yJ3_checkIndex_8e157, .initialized RJ3, .code yJ3_checkIndex_8e157 cJ3_checkIndex_8e157 3 (some .int), .methodLink RJ2 71 yJ2_getChar_3b067, .static yJ2_getChar_3b067, .code yJ2_getChar_3b067 cJ2_getChar_3b067 2 (some .char), .fieldLink RJ2 44 "java/lang/StringUTF16" "$assertionsDisabled" "Z", .fieldLink RJ2 59 "java/lang/StringUTF16" "HI_BYTE_SHIFT" "I", .fieldLink RJ2 63 "java/lang/StringUTF16" "LO_BYTE_SHIFT" "I"])
def wsJ0_charAt_5068e_r1 : List Cond := [Cond.fieldLink RJ0 9 "java/lang/String" "value" "[B", Cond.methodLink RJ0 492 yJ0_isLatin1_aae02, Cond.instanceMethod yJ0_isLatin1_aae02, Cond.selects RJ0 yJ0_isLatin1_aae02 yJ0_isLatin1_aae02, Cond.initialized RJ0, Cond.code yJ0_isLatin1_aae02 cJ0_isLatin1_aae02 1 (some .boolean), Cond.fieldLink RJ0 38 "java/lang/String" "COMPACT_STRINGS" "Z", Cond.fieldLink RJ0 15 "java/lang/String" "coder" "B", Cond.methodLink RJ0 495 yJ1_charAt_3b067, Cond.static yJ1_charAt_3b067, Cond.initialized RJ1, Cond.code yJ1_charAt_3b067 cJ1_charAt_3b067 2 (some .char), Cond.methodLink RJ1 9 yJ0_checkIndex_df160, Cond.static yJ0_checkIndex_df160, Cond.code yJ0_checkIndex_df160 cJ0_checkIndex_df160 2 none, Cond.fieldLink RJ0 1053 "jdk/internal/util/Preconditions" "SIOOBE_FORMATTER" "Ljava/util/function/BiFunction;", Cond.methodLink RJ0 1059 yJ3_checkIndex_8e157, Cond.static yJ3_checkIndex_8e157, Cond.initialized RJ3, Cond.code yJ3_checkIndex_8e157 cJ3_checkIndex_8e157 3 (some .int), Cond.methodLink RJ0 498 yJ2_charAt_3b067, Cond.static yJ2_charAt_3b067, Cond.initialized RJ2, Cond.code yJ2_charAt_3b067 cJ2_charAt_3b067 2 (some .char)]
def wsJ0_charAt_5068e_r2 : List Cond := [Cond.methodLink RJ2 67 yJ2_checkIndex_2214a, Cond.static yJ2_checkIndex_2214a, Cond.code yJ2_checkIndex_2214a cJ2_checkIndex_2214a 2 none, Cond.methodLink RJ2 48 yJ2_length_9d52b, Cond.static yJ2_length_9d52b, Cond.code yJ2_length_9d52b cJ2_length_9d52b 1 (some .int), Cond.methodLink RJ2 414 yJ0_checkIndex_df160, Cond.methodLink RJ2 71 yJ2_getChar_3b067, Cond.static yJ2_getChar_3b067, Cond.code yJ2_getChar_3b067 cJ2_getChar_3b067 2 (some .char), Cond.fieldLink RJ2 44 "java/lang/StringUTF16" "$assertionsDisabled" "Z", Cond.fieldLink RJ2 59 "java/lang/StringUTF16" "HI_BYTE_SHIFT" "I", Cond.fieldLink RJ2 63 "java/lang/StringUTF16" "LO_BYTE_SHIFT" "I"]
def wsJ0_charAt_5068e : List Cond := .code yJ0_charAt_5068e cJ0_charAt_5068e 2 (some .char) :: ((wsJ0_charAt_5068e_r1 ++ wsJ0_charAt_5068e_r2))
def wsX6_takes_r1 : List Cond := [Cond.fieldLink RX6 19 "BunchTimes$Tape" "fault" "I", Cond.fieldLink RX6 28 "BunchTimes$Tape" "token" "I", Cond.fieldLink RX6 22 "BunchTimes$Tape" "next" "I", Cond.fieldLink RX6 31 "BunchTimes$Tape" "start" "I", Cond.fieldLink RX6 9 "BunchTimes$Tape" "bytes" "[B", Cond.methodLink RX6 34 yJ0_length_8abf5, Cond.instanceMethod yJ0_length_8abf5, Cond.selects RJ0 yJ0_length_8abf5 yJ0_length_8abf5, Cond.initialized RJ0, Cond.code yJ0_length_8abf5 cJ0_length_8abf5 1 (some .int), Cond.fieldLink RJ0 9 "java/lang/String" "value" "[B", Cond.methodLink RJ0 335 yJ0_coder_7d493, Cond.instanceMethod yJ0_coder_7d493, Cond.selects RJ0 yJ0_coder_7d493 yJ0_coder_7d493, Cond.code yJ0_coder_7d493 cJ0_coder_7d493 1 (some .byte), Cond.fieldLink RJ0 38 "java/lang/String" "COMPACT_STRINGS" "Z", Cond.fieldLink RJ0 15 "java/lang/String" "coder" "B", Cond.methodLink RX6 39 yJ0_charAt_5068e, Cond.instanceMethod yJ0_charAt_5068e, Cond.selects RJ0 yJ0_charAt_5068e yJ0_charAt_5068e, Cond.code yJ0_charAt_5068e cJ0_charAt_5068e 2 (some .char), Cond.methodLink RJ0 492 yJ0_isLatin1_aae02, Cond.instanceMethod yJ0_isLatin1_aae02, Cond.selects RJ0 yJ0_isLatin1_aae02 yJ0_isLatin1_aae02]
def wsX6_takes_r2 : List Cond := [Cond.code yJ0_isLatin1_aae02 cJ0_isLatin1_aae02 1 (some .boolean), Cond.methodLink RJ0 495 yJ1_charAt_3b067, Cond.static yJ1_charAt_3b067, Cond.initialized RJ1, Cond.code yJ1_charAt_3b067 cJ1_charAt_3b067 2 (some .char), Cond.methodLink RJ1 9 yJ0_checkIndex_df160, Cond.static yJ0_checkIndex_df160, Cond.code yJ0_checkIndex_df160 cJ0_checkIndex_df160 2 none, Cond.fieldLink RJ0 1053 "jdk/internal/util/Preconditions" "SIOOBE_FORMATTER" "Ljava/util/function/BiFunction;", Cond.methodLink RJ0 1059 yJ3_checkIndex_8e157, Cond.static yJ3_checkIndex_8e157, Cond.initialized RJ3, Cond.code yJ3_checkIndex_8e157 cJ3_checkIndex_8e157 3 (some .int), Cond.methodLink RJ0 498 yJ2_charAt_3b067, Cond.static yJ2_charAt_3b067, Cond.initialized RJ2, Cond.code yJ2_charAt_3b067 cJ2_charAt_3b067 2 (some .char), Cond.methodLink RJ2 67 yJ2_checkIndex_2214a, Cond.static yJ2_checkIndex_2214a, Cond.code yJ2_checkIndex_2214a cJ2_checkIndex_2214a 2 none, Cond.methodLink RJ2 48 yJ2_length_9d52b, Cond.static yJ2_length_9d52b, Cond.code yJ2_length_9d52b cJ2_length_9d52b 1 (some .int), Cond.methodLink RJ2 414 yJ0_checkIndex_df160]
def wsX6_takes_r3 : List Cond := [Cond.methodLink RJ2 71 yJ2_getChar_3b067, Cond.static yJ2_getChar_3b067, Cond.code yJ2_getChar_3b067 cJ2_getChar_3b067 2 (some .char), Cond.fieldLink RJ2 44 "java/lang/StringUTF16" "$assertionsDisabled" "Z", Cond.fieldLink RJ2 59 "java/lang/StringUTF16" "HI_BYTE_SHIFT" "I", Cond.fieldLink RJ2 63 "java/lang/StringUTF16" "LO_BYTE_SHIFT" "I", Cond.methodLink RX6 25 yX6_advance, Cond.instanceMethod yX6_advance, Cond.selects RX6 yX6_advance yX6_advance, Cond.initialized RX6, Cond.code yX6_advance cX6_advance 1 none, Cond.fieldLink RX6 15 "BunchTimes$Tape" "length" "I", Cond.methodLink RX6 50 yX6_kindAt, Cond.instanceMethod yX6_kindAt, Cond.selects RX6 yX6_kindAt yX6_kindAt, Cond.code yX6_kindAt cX6_kindAt 3 (some .int)]
def wsX6_takes : List Cond := .code yX6_takes cX6_takes 3 (some .boolean) :: ((wsX6_takes_r1 ++ (wsX6_takes_r2 ++ wsX6_takes_r3)) ++ wsX60)
def wsX6_cannotStand : List Cond := .code yX6_cannotStand cX6_cannotStand 1 (some .int) :: ([.fieldLink RX6 19 "BunchTimes$Tape" "fault" "I", .fieldLink RX6 31 "BunchTimes$Tape" "start" "I"] ++ wsX60)
def wsX6_takeInt : List Cond := .code yX6_takeInt cX6_takeInt 5 (some .int) :: ([.fieldLink RX6 19 "BunchTimes$Tape" "fault" "I", .fieldLink RX6 28 "BunchTimes$Tape" "token" "I", .fieldLink RX6 31 "BunchTimes$Tape" "start" "I", .fieldLink RX6 22 "BunchTimes$Tape" "next" "I", .fieldLink RX6 9 "BunchTimes$Tape" "bytes" "[B", .methodLink RX6 43 yX6_cannotStand, .instanceMethod yX6_cannotStand, .selects RX6 yX6_cannotStand yX6_cannotStand, .initialized RX6, .code yX6_cannotStand cX6_cannotStand 1 (some .int), .static yX8_within, .initialized RX8, .code yX8_within cX8_within 3 (some .boolean), .methodLink RX6 25 yX6_advance, .instanceMethod yX6_advance, .selects RX6 yX6_advance yX6_advance, .code yX6_advance cX6_advance 1 none, .fieldLink RX6 15 "BunchTimes$Tape" "length" "I", .methodLink RX6 50 yX6_kindAt, .instanceMethod yX6_kindAt, .selects RX6 yX6_kindAt yX6_kindAt, .code yX6_kindAt cX6_kindAt 3 (some .int)] ++ wsX60)
def wsX6_endStatement : List Cond := .code yX6_endStatement cX6_endStatement 3 none :: ([.fieldLink RX6 19 "BunchTimes$Tape" "fault" "I", .fieldLink RX6 28 "BunchTimes$Tape" "token" "I", .methodLink RX6 43 yX6_cannotStand, .instanceMethod yX6_cannotStand, .selects RX6 yX6_cannotStand yX6_cannotStand, .initialized RX6, .code yX6_cannotStand cX6_cannotStand 1 (some .int), .fieldLink RX6 31 "BunchTimes$Tape" "start" "I", .methodLink RX6 25 yX6_advance, .instanceMethod yX6_advance, .selects RX6 yX6_advance yX6_advance, .code yX6_advance cX6_advance 1 none, .fieldLink RX6 22 "BunchTimes$Tape" "next" "I", .fieldLink RX6 15 "BunchTimes$Tape" "length" "I", .methodLink RX6 50 yX6_kindAt, .instanceMethod yX6_kindAt, .selects RX6 yX6_kindAt yX6_kindAt, .code yX6_kindAt cX6_kindAt 3 (some .int), .fieldLink RX6 9 "BunchTimes$Tape" "bytes" "[B"] ++ wsX60)
def wsX7_tellRider_r1 : List Cond := [Cond.instanceMethod yX6_takeInt, Cond.initialized RX6, Cond.selects RX6 yX6_takeInt yX6_takeInt, Cond.code yX6_takeInt cX6_takeInt 5 (some .int), Cond.fieldLink RX6 19 "BunchTimes$Tape" "fault" "I", Cond.fieldLink RX6 28 "BunchTimes$Tape" "token" "I", Cond.fieldLink RX6 31 "BunchTimes$Tape" "start" "I", Cond.fieldLink RX6 22 "BunchTimes$Tape" "next" "I", Cond.fieldLink RX6 9 "BunchTimes$Tape" "bytes" "[B", Cond.methodLink RX6 43 yX6_cannotStand, Cond.instanceMethod yX6_cannotStand, Cond.selects RX6 yX6_cannotStand yX6_cannotStand, Cond.code yX6_cannotStand cX6_cannotStand 1 (some .int), Cond.static yX8_within, Cond.initialized RX8, Cond.code yX8_within cX8_within 3 (some .boolean), Cond.methodLink RX6 25 yX6_advance, Cond.instanceMethod yX6_advance, Cond.selects RX6 yX6_advance yX6_advance, Cond.code yX6_advance cX6_advance 1 none, Cond.fieldLink RX6 15 "BunchTimes$Tape" "length" "I", Cond.methodLink RX6 50 yX6_kindAt, Cond.instanceMethod yX6_kindAt, Cond.selects RX6 yX6_kindAt yX6_kindAt]
def wsX7_tellRider_r2 : List Cond := [Cond.code yX6_kindAt cX6_kindAt 3 (some .int), Cond.instanceMethod yX3_addRider, Cond.initialized RX3, Cond.selects RX3 yX3_addRider yX3_addRider, Cond.code yX3_addRider cX3_addRider 3 (some .int), Cond.fieldLink RX3 39 "BunchTimes$Race" "riders" "I", Cond.fieldLink RX3 36 "BunchTimes$Race" "teams" "I", Cond.fieldLink RX3 45 "BunchTimes$Race" "open" "Z", Cond.fieldLink RX3 18 "BunchTimes$Race" "teamOf" "[I", Cond.fieldLink RX3 22 "BunchTimes$Race" "age" "[I", Cond.fieldLink RX3 25 "BunchTimes$Race" "in" "[Z", Cond.methodLink RX3 63 yX3_latestFinishers, Cond.instanceMethod yX3_latestFinishers, Cond.selects RX3 yX3_latestFinishers yX3_latestFinishers, Cond.code yX3_latestFinishers cX3_latestFinishers 1 (some .int), Cond.fieldLink RX3 42 "BunchTimes$Race" "stages" "I", Cond.fieldLink RX3 31 "BunchTimes$Race" "all" "[LBunchTimes$Stage;"]
def wsX7_tellRider : List Cond := .code yX7_tellRider cX7_tellRider 4 (some .boolean) :: ((wsX7_tellRider_r1 ++ wsX7_tellRider_r2) ++ wsX30 ++ wsX60 ++ wsX40)
def wsX7_takeKind_r1 : List Cond := [Cond.instanceMethod yX6_takes, Cond.initialized RX6, Cond.selects RX6 yX6_takes yX6_takes, Cond.code yX6_takes cX6_takes 3 (some .boolean), Cond.fieldLink RX6 19 "BunchTimes$Tape" "fault" "I", Cond.fieldLink RX6 28 "BunchTimes$Tape" "token" "I", Cond.fieldLink RX6 22 "BunchTimes$Tape" "next" "I", Cond.fieldLink RX6 31 "BunchTimes$Tape" "start" "I", Cond.fieldLink RX6 9 "BunchTimes$Tape" "bytes" "[B", Cond.methodLink RX6 34 yJ0_length_8abf5, Cond.instanceMethod yJ0_length_8abf5, Cond.selects RJ0 yJ0_length_8abf5 yJ0_length_8abf5, Cond.initialized RJ0, Cond.code yJ0_length_8abf5 cJ0_length_8abf5 1 (some .int), Cond.fieldLink RJ0 9 "java/lang/String" "value" "[B", Cond.methodLink RJ0 335 yJ0_coder_7d493, Cond.instanceMethod yJ0_coder_7d493, Cond.selects RJ0 yJ0_coder_7d493 yJ0_coder_7d493, Cond.code yJ0_coder_7d493 cJ0_coder_7d493 1 (some .byte), Cond.fieldLink RJ0 38 "java/lang/String" "COMPACT_STRINGS" "Z", Cond.fieldLink RJ0 15 "java/lang/String" "coder" "B", Cond.methodLink RX6 39 yJ0_charAt_5068e, Cond.instanceMethod yJ0_charAt_5068e, Cond.selects RJ0 yJ0_charAt_5068e yJ0_charAt_5068e]
def wsX7_takeKind_r2 : List Cond := [Cond.code yJ0_charAt_5068e cJ0_charAt_5068e 2 (some .char), Cond.methodLink RJ0 492 yJ0_isLatin1_aae02, Cond.instanceMethod yJ0_isLatin1_aae02, Cond.selects RJ0 yJ0_isLatin1_aae02 yJ0_isLatin1_aae02, Cond.code yJ0_isLatin1_aae02 cJ0_isLatin1_aae02 1 (some .boolean), Cond.methodLink RJ0 495 yJ1_charAt_3b067, Cond.static yJ1_charAt_3b067, Cond.initialized RJ1, Cond.code yJ1_charAt_3b067 cJ1_charAt_3b067 2 (some .char), Cond.methodLink RJ1 9 yJ0_checkIndex_df160, Cond.static yJ0_checkIndex_df160, Cond.code yJ0_checkIndex_df160 cJ0_checkIndex_df160 2 none, Cond.fieldLink RJ0 1053 "jdk/internal/util/Preconditions" "SIOOBE_FORMATTER" "Ljava/util/function/BiFunction;", Cond.methodLink RJ0 1059 yJ3_checkIndex_8e157, Cond.static yJ3_checkIndex_8e157, Cond.initialized RJ3, Cond.code yJ3_checkIndex_8e157 cJ3_checkIndex_8e157 3 (some .int), Cond.methodLink RJ0 498 yJ2_charAt_3b067, Cond.static yJ2_charAt_3b067, Cond.initialized RJ2, Cond.code yJ2_charAt_3b067 cJ2_charAt_3b067 2 (some .char), Cond.methodLink RJ2 67 yJ2_checkIndex_2214a, Cond.static yJ2_checkIndex_2214a, Cond.code yJ2_checkIndex_2214a cJ2_checkIndex_2214a 2 none]
def wsX7_takeKind_r3 : List Cond := [Cond.methodLink RJ2 48 yJ2_length_9d52b, Cond.static yJ2_length_9d52b, Cond.code yJ2_length_9d52b cJ2_length_9d52b 1 (some .int), Cond.methodLink RJ2 414 yJ0_checkIndex_df160, Cond.methodLink RJ2 71 yJ2_getChar_3b067, Cond.static yJ2_getChar_3b067, Cond.code yJ2_getChar_3b067 cJ2_getChar_3b067 2 (some .char), Cond.fieldLink RJ2 44 "java/lang/StringUTF16" "$assertionsDisabled" "Z", Cond.fieldLink RJ2 59 "java/lang/StringUTF16" "HI_BYTE_SHIFT" "I", Cond.fieldLink RJ2 63 "java/lang/StringUTF16" "LO_BYTE_SHIFT" "I", Cond.methodLink RX6 25 yX6_advance, Cond.instanceMethod yX6_advance, Cond.selects RX6 yX6_advance yX6_advance, Cond.code yX6_advance cX6_advance 1 none, Cond.fieldLink RX6 15 "BunchTimes$Tape" "length" "I", Cond.methodLink RX6 50 yX6_kindAt, Cond.instanceMethod yX6_kindAt, Cond.selects RX6 yX6_kindAt yX6_kindAt, Cond.code yX6_kindAt cX6_kindAt 3 (some .int), Cond.instanceMethod yX6_cannotStand, Cond.selects RX6 yX6_cannotStand yX6_cannotStand, Cond.code yX6_cannotStand cX6_cannotStand 1 (some .int)]
def wsX7_takeKind : List Cond := .code yX7_takeKind cX7_takeKind 1 (some .int) :: ((wsX7_takeKind_r1 ++ (wsX7_takeKind_r2 ++ wsX7_takeKind_r3)) ++ wsX60)
def wsX7_takeHow_r1 : List Cond := [Cond.instanceMethod yX6_takes, Cond.initialized RX6, Cond.selects RX6 yX6_takes yX6_takes, Cond.code yX6_takes cX6_takes 3 (some .boolean), Cond.fieldLink RX6 19 "BunchTimes$Tape" "fault" "I", Cond.fieldLink RX6 28 "BunchTimes$Tape" "token" "I", Cond.fieldLink RX6 22 "BunchTimes$Tape" "next" "I", Cond.fieldLink RX6 31 "BunchTimes$Tape" "start" "I", Cond.fieldLink RX6 9 "BunchTimes$Tape" "bytes" "[B", Cond.methodLink RX6 34 yJ0_length_8abf5, Cond.instanceMethod yJ0_length_8abf5, Cond.selects RJ0 yJ0_length_8abf5 yJ0_length_8abf5, Cond.initialized RJ0, Cond.code yJ0_length_8abf5 cJ0_length_8abf5 1 (some .int), Cond.fieldLink RJ0 9 "java/lang/String" "value" "[B", Cond.methodLink RJ0 335 yJ0_coder_7d493, Cond.instanceMethod yJ0_coder_7d493, Cond.selects RJ0 yJ0_coder_7d493 yJ0_coder_7d493, Cond.code yJ0_coder_7d493 cJ0_coder_7d493 1 (some .byte), Cond.fieldLink RJ0 38 "java/lang/String" "COMPACT_STRINGS" "Z", Cond.fieldLink RJ0 15 "java/lang/String" "coder" "B", Cond.methodLink RX6 39 yJ0_charAt_5068e, Cond.instanceMethod yJ0_charAt_5068e, Cond.selects RJ0 yJ0_charAt_5068e yJ0_charAt_5068e]
def wsX7_takeHow_r2 : List Cond := [Cond.code yJ0_charAt_5068e cJ0_charAt_5068e 2 (some .char), Cond.methodLink RJ0 492 yJ0_isLatin1_aae02, Cond.instanceMethod yJ0_isLatin1_aae02, Cond.selects RJ0 yJ0_isLatin1_aae02 yJ0_isLatin1_aae02, Cond.code yJ0_isLatin1_aae02 cJ0_isLatin1_aae02 1 (some .boolean), Cond.methodLink RJ0 495 yJ1_charAt_3b067, Cond.static yJ1_charAt_3b067, Cond.initialized RJ1, Cond.code yJ1_charAt_3b067 cJ1_charAt_3b067 2 (some .char), Cond.methodLink RJ1 9 yJ0_checkIndex_df160, Cond.static yJ0_checkIndex_df160, Cond.code yJ0_checkIndex_df160 cJ0_checkIndex_df160 2 none, Cond.fieldLink RJ0 1053 "jdk/internal/util/Preconditions" "SIOOBE_FORMATTER" "Ljava/util/function/BiFunction;", Cond.methodLink RJ0 1059 yJ3_checkIndex_8e157, Cond.static yJ3_checkIndex_8e157, Cond.initialized RJ3, Cond.code yJ3_checkIndex_8e157 cJ3_checkIndex_8e157 3 (some .int), Cond.methodLink RJ0 498 yJ2_charAt_3b067, Cond.static yJ2_charAt_3b067, Cond.initialized RJ2, Cond.code yJ2_charAt_3b067 cJ2_charAt_3b067 2 (some .char), Cond.methodLink RJ2 67 yJ2_checkIndex_2214a, Cond.static yJ2_checkIndex_2214a, Cond.code yJ2_checkIndex_2214a cJ2_checkIndex_2214a 2 none]
def wsX7_takeHow_r3 : List Cond := [Cond.methodLink RJ2 48 yJ2_length_9d52b, Cond.static yJ2_length_9d52b, Cond.code yJ2_length_9d52b cJ2_length_9d52b 1 (some .int), Cond.methodLink RJ2 414 yJ0_checkIndex_df160, Cond.methodLink RJ2 71 yJ2_getChar_3b067, Cond.static yJ2_getChar_3b067, Cond.code yJ2_getChar_3b067 cJ2_getChar_3b067 2 (some .char), Cond.fieldLink RJ2 44 "java/lang/StringUTF16" "$assertionsDisabled" "Z", Cond.fieldLink RJ2 59 "java/lang/StringUTF16" "HI_BYTE_SHIFT" "I", Cond.fieldLink RJ2 63 "java/lang/StringUTF16" "LO_BYTE_SHIFT" "I", Cond.methodLink RX6 25 yX6_advance, Cond.instanceMethod yX6_advance, Cond.selects RX6 yX6_advance yX6_advance, Cond.code yX6_advance cX6_advance 1 none, Cond.fieldLink RX6 15 "BunchTimes$Tape" "length" "I", Cond.methodLink RX6 50 yX6_kindAt, Cond.instanceMethod yX6_kindAt, Cond.selects RX6 yX6_kindAt yX6_kindAt, Cond.code yX6_kindAt cX6_kindAt 3 (some .int), Cond.instanceMethod yX6_takeInt, Cond.selects RX6 yX6_takeInt yX6_takeInt, Cond.code yX6_takeInt cX6_takeInt 5 (some .int), Cond.methodLink RX6 43 yX6_cannotStand, Cond.instanceMethod yX6_cannotStand]
def wsX7_takeHow_r4 : List Cond := [Cond.selects RX6 yX6_cannotStand yX6_cannotStand, Cond.code yX6_cannotStand cX6_cannotStand 1 (some .int), Cond.static yX8_within, Cond.initialized RX8, Cond.code yX8_within cX8_within 3 (some .boolean)]
def wsX7_takeHow : List Cond := .code yX7_takeHow cX7_takeHow 1 (some .int) :: ((wsX7_takeHow_r1 ++ (wsX7_takeHow_r2 ++ (wsX7_takeHow_r3 ++ wsX7_takeHow_r4))) ++ wsX60)
def wsX7_tellStage_r1 : List Cond := [Cond.methodLink RX7 100 yX7_takeKind, Cond.static yX7_takeKind, Cond.initialized RX7, Cond.code yX7_takeKind cX7_takeKind 1 (some .int), Cond.instanceMethod yX6_takes, Cond.initialized RX6, Cond.selects RX6 yX6_takes yX6_takes, Cond.code yX6_takes cX6_takes 3 (some .boolean), Cond.fieldLink RX6 19 "BunchTimes$Tape" "fault" "I", Cond.fieldLink RX6 28 "BunchTimes$Tape" "token" "I", Cond.fieldLink RX6 22 "BunchTimes$Tape" "next" "I", Cond.fieldLink RX6 31 "BunchTimes$Tape" "start" "I", Cond.fieldLink RX6 9 "BunchTimes$Tape" "bytes" "[B", Cond.methodLink RX6 34 yJ0_length_8abf5, Cond.instanceMethod yJ0_length_8abf5, Cond.selects RJ0 yJ0_length_8abf5 yJ0_length_8abf5, Cond.initialized RJ0, Cond.code yJ0_length_8abf5 cJ0_length_8abf5 1 (some .int), Cond.fieldLink RJ0 9 "java/lang/String" "value" "[B", Cond.methodLink RJ0 335 yJ0_coder_7d493, Cond.instanceMethod yJ0_coder_7d493, Cond.selects RJ0 yJ0_coder_7d493 yJ0_coder_7d493, Cond.code yJ0_coder_7d493 cJ0_coder_7d493 1 (some .byte), Cond.fieldLink RJ0 38 "java/lang/String" "COMPACT_STRINGS" "Z"]
def wsX7_tellStage_r2 : List Cond := [Cond.fieldLink RJ0 15 "java/lang/String" "coder" "B", Cond.methodLink RX6 39 yJ0_charAt_5068e, Cond.instanceMethod yJ0_charAt_5068e, Cond.selects RJ0 yJ0_charAt_5068e yJ0_charAt_5068e, Cond.code yJ0_charAt_5068e cJ0_charAt_5068e 2 (some .char), Cond.methodLink RJ0 492 yJ0_isLatin1_aae02, Cond.instanceMethod yJ0_isLatin1_aae02, Cond.selects RJ0 yJ0_isLatin1_aae02 yJ0_isLatin1_aae02, Cond.code yJ0_isLatin1_aae02 cJ0_isLatin1_aae02 1 (some .boolean), Cond.methodLink RJ0 495 yJ1_charAt_3b067, Cond.static yJ1_charAt_3b067, Cond.initialized RJ1, Cond.code yJ1_charAt_3b067 cJ1_charAt_3b067 2 (some .char), Cond.methodLink RJ1 9 yJ0_checkIndex_df160, Cond.static yJ0_checkIndex_df160, Cond.code yJ0_checkIndex_df160 cJ0_checkIndex_df160 2 none, Cond.fieldLink RJ0 1053 "jdk/internal/util/Preconditions" "SIOOBE_FORMATTER" "Ljava/util/function/BiFunction;", Cond.methodLink RJ0 1059 yJ3_checkIndex_8e157, Cond.static yJ3_checkIndex_8e157, Cond.initialized RJ3, Cond.code yJ3_checkIndex_8e157 cJ3_checkIndex_8e157 3 (some .int), Cond.methodLink RJ0 498 yJ2_charAt_3b067, Cond.static yJ2_charAt_3b067, Cond.initialized RJ2]
def wsX7_tellStage_r3 : List Cond := [Cond.code yJ2_charAt_3b067 cJ2_charAt_3b067 2 (some .char), Cond.methodLink RJ2 67 yJ2_checkIndex_2214a, Cond.static yJ2_checkIndex_2214a, Cond.code yJ2_checkIndex_2214a cJ2_checkIndex_2214a 2 none, Cond.methodLink RJ2 48 yJ2_length_9d52b, Cond.static yJ2_length_9d52b, Cond.code yJ2_length_9d52b cJ2_length_9d52b 1 (some .int), Cond.methodLink RJ2 414 yJ0_checkIndex_df160, Cond.methodLink RJ2 71 yJ2_getChar_3b067, Cond.static yJ2_getChar_3b067, Cond.code yJ2_getChar_3b067 cJ2_getChar_3b067 2 (some .char), Cond.fieldLink RJ2 44 "java/lang/StringUTF16" "$assertionsDisabled" "Z", Cond.fieldLink RJ2 59 "java/lang/StringUTF16" "HI_BYTE_SHIFT" "I", Cond.fieldLink RJ2 63 "java/lang/StringUTF16" "LO_BYTE_SHIFT" "I", Cond.methodLink RX6 25 yX6_advance, Cond.instanceMethod yX6_advance, Cond.selects RX6 yX6_advance yX6_advance, Cond.code yX6_advance cX6_advance 1 none, Cond.fieldLink RX6 15 "BunchTimes$Tape" "length" "I", Cond.methodLink RX6 50 yX6_kindAt, Cond.instanceMethod yX6_kindAt, Cond.selects RX6 yX6_kindAt yX6_kindAt, Cond.code yX6_kindAt cX6_kindAt 3 (some .int), Cond.instanceMethod yX6_cannotStand]
def wsX7_tellStage_r4 : List Cond := [Cond.selects RX6 yX6_cannotStand yX6_cannotStand, Cond.code yX6_cannotStand cX6_cannotStand 1 (some .int), Cond.instanceMethod yX6_takeInt, Cond.selects RX6 yX6_takeInt yX6_takeInt, Cond.code yX6_takeInt cX6_takeInt 5 (some .int), Cond.methodLink RX6 43 yX6_cannotStand, Cond.static yX8_within, Cond.initialized RX8, Cond.code yX8_within cX8_within 3 (some .boolean), Cond.instanceMethod yX3_openStage, Cond.initialized RX3, Cond.selects RX3 yX3_openStage yX3_openStage, Cond.code yX3_openStage cX3_openStage 3 (some .int), Cond.fieldLink RX3 42 "BunchTimes$Race" "stages" "I", Cond.fieldLink RX3 45 "BunchTimes$Race" "open" "Z", Cond.fieldLink RX3 31 "BunchTimes$Race" "all" "[LBunchTimes$Stage;", Cond.methodLink RX3 67 yX3_countIn, Cond.instanceMethod yX3_countIn, Cond.selects RX3 yX3_countIn yX3_countIn, Cond.code yX3_countIn cX3_countIn 3 (some .int), Cond.fieldLink RX3 39 "BunchTimes$Race" "riders" "I", Cond.fieldLink RX3 25 "BunchTimes$Race" "in" "[Z", Cond.instanceMethod yX4_begin, Cond.initialized RX4]
def wsX7_tellStage_r5 : List Cond := [Cond.selects RX4 yX4_begin yX4_begin, Cond.code yX4_begin cX4_begin 4 none, Cond.fieldLink RX4 12 "BunchTimes$Stage" "course" "LBunchTimes$Course;", Cond.fieldLink RX4 68 "BunchTimes$Stage" "finishers" "I", Cond.instanceMethod yX1_begin, Cond.initialized RX1, Cond.selects RX1 yX1_begin yX1_begin, Cond.code yX1_begin cX1_begin 3 none, Cond.fieldLink RX1 24 "BunchTimes$Course" "kind" "I", Cond.fieldLink RX1 28 "BunchTimes$Course" "length" "I", Cond.fieldLink RX1 31 "BunchTimes$Course" "marks" "I", Cond.methodLink RX4 64 yX4_forget, Cond.instanceMethod yX4_forget, Cond.selects RX4 yX4_forget yX4_forget, Cond.code yX4_forget cX4_forget 2 none, Cond.fieldLink RX4 25 "BunchTimes$Stage" "finish" "[I", Cond.fieldLink RX4 29 "BunchTimes$Stage" "fallKm" "[I", Cond.fieldLink RX4 32 "BunchTimes$Stage" "fallWith" "[I", Cond.fieldLink RX4 35 "BunchTimes$Stage" "juried" "[I", Cond.fieldLink RX4 38 "BunchTimes$Stage" "graced" "[Z", Cond.instanceMethod yX1_forget, Cond.selects RX1 yX1_forget yX1_forget, Cond.code yX1_forget cX1_forget 6 none, Cond.fieldLink RX1 18 "BunchTimes$Course" "crossed" "[I"]
def wsX7_tellStage_r6 : List Cond := [Cond.fieldLink RX1 21 "BunchTimes$Course" "crossing" "[I", Cond.methodLink RX7 109 yX7_takeHow, Cond.static yX7_takeHow, Cond.code yX7_takeHow cX7_takeHow 1 (some .int), Cond.instanceMethod yX3_addMark, Cond.selects RX3 yX3_addMark yX3_addMark, Cond.code yX3_addMark cX3_addMark 3 (some .int), Cond.instanceMethod yX1_addMark, Cond.selects RX1 yX1_addMark yX1_addMark, Cond.code yX1_addMark cX1_addMark 4 (some .int), Cond.fieldLink RX1 9 "BunchTimes$Course" "km" "[I", Cond.fieldLink RX1 15 "BunchTimes$Course" "how" "[I"]
def wsX7_tellStage : List Cond := .code yX7_tellStage cX7_tellStage 9 (some .boolean) :: ((wsX7_tellStage_r1 ++ (wsX7_tellStage_r2 ++ (wsX7_tellStage_r3 ++ (wsX7_tellStage_r4 ++ (wsX7_tellStage_r5 ++ wsX7_tellStage_r6))))) ++ wsX60 ++ wsX30 ++ wsX40 ++ wsX10)
def wsX7_takeRider_r1 : List Cond := [Cond.instanceMethod yX6_takeInt, Cond.initialized RX6, Cond.selects RX6 yX6_takeInt yX6_takeInt, Cond.code yX6_takeInt cX6_takeInt 5 (some .int), Cond.fieldLink RX6 19 "BunchTimes$Tape" "fault" "I", Cond.fieldLink RX6 28 "BunchTimes$Tape" "token" "I", Cond.fieldLink RX6 31 "BunchTimes$Tape" "start" "I", Cond.fieldLink RX6 22 "BunchTimes$Tape" "next" "I", Cond.fieldLink RX6 9 "BunchTimes$Tape" "bytes" "[B", Cond.methodLink RX6 43 yX6_cannotStand, Cond.instanceMethod yX6_cannotStand, Cond.selects RX6 yX6_cannotStand yX6_cannotStand, Cond.code yX6_cannotStand cX6_cannotStand 1 (some .int), Cond.static yX8_within, Cond.initialized RX8, Cond.code yX8_within cX8_within 3 (some .boolean), Cond.methodLink RX6 25 yX6_advance, Cond.instanceMethod yX6_advance, Cond.selects RX6 yX6_advance yX6_advance, Cond.code yX6_advance cX6_advance 1 none, Cond.fieldLink RX6 15 "BunchTimes$Tape" "length" "I", Cond.methodLink RX6 50 yX6_kindAt, Cond.instanceMethod yX6_kindAt, Cond.selects RX6 yX6_kindAt yX6_kindAt]
def wsX7_takeRider_r2 : List Cond := [Cond.code yX6_kindAt cX6_kindAt 3 (some .int)]
def wsX7_takeRider : List Cond := .code yX7_takeRider cX7_takeRider 2 (some .int) :: ((wsX7_takeRider_r1 ++ wsX7_takeRider_r2) ++ wsX30 ++ wsX60)
def wsX7_tellFinishes_r1 : List Cond := [Cond.constant RX7 131 (999999), Cond.instanceMethod yX6_hasInt, Cond.initialized RX6, Cond.selects RX6 yX6_hasInt yX6_hasInt, Cond.code yX6_hasInt cX6_hasInt 1 (some .boolean), Cond.fieldLink RX6 19 "BunchTimes$Tape" "fault" "I", Cond.fieldLink RX6 28 "BunchTimes$Tape" "token" "I", Cond.methodLink RX7 58 yX7_takeRider, Cond.static yX7_takeRider, Cond.initialized RX7, Cond.code yX7_takeRider cX7_takeRider 2 (some .int), Cond.instanceMethod yX6_takeInt, Cond.selects RX6 yX6_takeInt yX6_takeInt, Cond.code yX6_takeInt cX6_takeInt 5 (some .int), Cond.fieldLink RX6 31 "BunchTimes$Tape" "start" "I", Cond.fieldLink RX6 22 "BunchTimes$Tape" "next" "I", Cond.fieldLink RX6 9 "BunchTimes$Tape" "bytes" "[B", Cond.methodLink RX6 43 yX6_cannotStand, Cond.instanceMethod yX6_cannotStand, Cond.selects RX6 yX6_cannotStand yX6_cannotStand, Cond.code yX6_cannotStand cX6_cannotStand 1 (some .int), Cond.static yX8_within, Cond.initialized RX8, Cond.code yX8_within cX8_within 3 (some .boolean)]
def wsX7_tellFinishes_r2 : List Cond := [Cond.methodLink RX6 25 yX6_advance, Cond.instanceMethod yX6_advance, Cond.selects RX6 yX6_advance yX6_advance, Cond.code yX6_advance cX6_advance 1 none, Cond.fieldLink RX6 15 "BunchTimes$Tape" "length" "I", Cond.methodLink RX6 50 yX6_kindAt, Cond.instanceMethod yX6_kindAt, Cond.selects RX6 yX6_kindAt yX6_kindAt, Cond.code yX6_kindAt cX6_kindAt 3 (some .int), Cond.instanceMethod yX3_addFinish, Cond.initialized RX3, Cond.selects RX3 yX3_addFinish yX3_addFinish, Cond.code yX3_addFinish cX3_addFinish 3 (some .boolean), Cond.fieldLink RX3 45 "BunchTimes$Race" "open" "Z", Cond.fieldLink RX3 31 "BunchTimes$Race" "all" "[LBunchTimes$Stage;", Cond.fieldLink RX3 42 "BunchTimes$Race" "stages" "I", Cond.methodLink RX3 84 yX3_isIn, Cond.instanceMethod yX3_isIn, Cond.selects RX3 yX3_isIn yX3_isIn, Cond.code yX3_isIn cX3_isIn 2 (some .boolean), Cond.fieldLink RX3 25 "BunchTimes$Race" "in" "[Z", Cond.methodLink RX3 142 yX3_hasRider, Cond.instanceMethod yX3_hasRider, Cond.selects RX3 yX3_hasRider yX3_hasRider]
def wsX7_tellFinishes_r3 : List Cond := [Cond.code yX3_hasRider cX3_hasRider 2 (some .boolean), Cond.fieldLink RX3 39 "BunchTimes$Race" "riders" "I", Cond.instanceMethod yX4_addFinish, Cond.initialized RX4, Cond.selects RX4 yX4_addFinish yX4_addFinish, Cond.code yX4_addFinish cX4_addFinish 3 (some .boolean), Cond.fieldLink RX4 25 "BunchTimes$Stage" "finish" "[I", Cond.constant RX4 104 (999999), Cond.fieldLink RX4 68 "BunchTimes$Stage" "finishers" "I"]
def wsX7_tellFinishes : List Cond := .code yX7_tellFinishes cX7_tellFinishes 6 (some .boolean) :: ((wsX7_tellFinishes_r1 ++ (wsX7_tellFinishes_r2 ++ wsX7_tellFinishes_r3)) ++ wsX60 ++ wsX30 ++ wsX40)
def wsX7_tellCrossings_r1 : List Cond := [Cond.instanceMethod yX3_latestMarks, Cond.initialized RX3, Cond.selects RX3 yX3_latestMarks yX3_latestMarks, Cond.code yX3_latestMarks cX3_latestMarks 1 (some .int), Cond.fieldLink RX3 42 "BunchTimes$Race" "stages" "I", Cond.fieldLink RX3 31 "BunchTimes$Race" "all" "[LBunchTimes$Stage;", Cond.instanceMethod yX6_takeInt, Cond.initialized RX6, Cond.selects RX6 yX6_takeInt yX6_takeInt, Cond.code yX6_takeInt cX6_takeInt 5 (some .int), Cond.fieldLink RX6 19 "BunchTimes$Tape" "fault" "I", Cond.fieldLink RX6 28 "BunchTimes$Tape" "token" "I", Cond.fieldLink RX6 31 "BunchTimes$Tape" "start" "I", Cond.fieldLink RX6 22 "BunchTimes$Tape" "next" "I", Cond.fieldLink RX6 9 "BunchTimes$Tape" "bytes" "[B", Cond.methodLink RX6 43 yX6_cannotStand, Cond.instanceMethod yX6_cannotStand, Cond.selects RX6 yX6_cannotStand yX6_cannotStand, Cond.code yX6_cannotStand cX6_cannotStand 1 (some .int), Cond.static yX8_within, Cond.initialized RX8, Cond.code yX8_within cX8_within 3 (some .boolean), Cond.methodLink RX6 25 yX6_advance, Cond.instanceMethod yX6_advance]
def wsX7_tellCrossings_r2 : List Cond := [Cond.selects RX6 yX6_advance yX6_advance, Cond.code yX6_advance cX6_advance 1 none, Cond.fieldLink RX6 15 "BunchTimes$Tape" "length" "I", Cond.methodLink RX6 50 yX6_kindAt, Cond.instanceMethod yX6_kindAt, Cond.selects RX6 yX6_kindAt yX6_kindAt, Cond.code yX6_kindAt cX6_kindAt 3 (some .int), Cond.instanceMethod yX6_hasInt, Cond.selects RX6 yX6_hasInt yX6_hasInt, Cond.code yX6_hasInt cX6_hasInt 1 (some .boolean), Cond.methodLink RX7 58 yX7_takeRider, Cond.static yX7_takeRider, Cond.initialized RX7, Cond.code yX7_takeRider cX7_takeRider 2 (some .int), Cond.instanceMethod yX3_addCrossing, Cond.selects RX3 yX3_addCrossing yX3_addCrossing, Cond.code yX3_addCrossing cX3_addCrossing 3 (some .int), Cond.fieldLink RX3 45 "BunchTimes$Race" "open" "Z", Cond.methodLink RX3 84 yX3_isIn, Cond.instanceMethod yX3_isIn, Cond.selects RX3 yX3_isIn yX3_isIn, Cond.code yX3_isIn cX3_isIn 2 (some .boolean), Cond.fieldLink RX3 25 "BunchTimes$Race" "in" "[Z", Cond.methodLink RX3 142 yX3_hasRider]
def wsX7_tellCrossings_r3 : List Cond := [Cond.instanceMethod yX3_hasRider, Cond.selects RX3 yX3_hasRider yX3_hasRider, Cond.code yX3_hasRider cX3_hasRider 2 (some .boolean), Cond.fieldLink RX3 39 "BunchTimes$Race" "riders" "I", Cond.instanceMethod yX1_addCrossing, Cond.initialized RX1, Cond.selects RX1 yX1_addCrossing yX1_addCrossing, Cond.code yX1_addCrossing cX1_addCrossing 3 (some .int), Cond.fieldLink RX1 31 "BunchTimes$Course" "marks" "I", Cond.fieldLink RX1 18 "BunchTimes$Course" "crossed" "[I", Cond.fieldLink RX1 21 "BunchTimes$Course" "crossing" "[I", Cond.methodLink RX1 44 yX1_hasCrossed, Cond.instanceMethod yX1_hasCrossed, Cond.selects RX1 yX1_hasCrossed yX1_hasCrossed, Cond.code yX1_hasCrossed cX1_hasCrossed 4 (some .boolean)]
def wsX7_tellCrossings : List Cond := .code yX7_tellCrossings cX7_tellCrossings 5 (some .boolean) :: ((wsX7_tellCrossings_r1 ++ (wsX7_tellCrossings_r2 ++ wsX7_tellCrossings_r3)) ++ wsX30 ++ wsX40 ++ wsX10 ++ wsX60)
def wsX7_tellFall_r1 : List Cond := [Cond.methodLink RX7 58 yX7_takeRider, Cond.static yX7_takeRider, Cond.initialized RX7, Cond.code yX7_takeRider cX7_takeRider 2 (some .int), Cond.instanceMethod yX6_takeInt, Cond.initialized RX6, Cond.selects RX6 yX6_takeInt yX6_takeInt, Cond.code yX6_takeInt cX6_takeInt 5 (some .int), Cond.fieldLink RX6 19 "BunchTimes$Tape" "fault" "I", Cond.fieldLink RX6 28 "BunchTimes$Tape" "token" "I", Cond.fieldLink RX6 31 "BunchTimes$Tape" "start" "I", Cond.fieldLink RX6 22 "BunchTimes$Tape" "next" "I", Cond.fieldLink RX6 9 "BunchTimes$Tape" "bytes" "[B", Cond.methodLink RX6 43 yX6_cannotStand, Cond.instanceMethod yX6_cannotStand, Cond.selects RX6 yX6_cannotStand yX6_cannotStand, Cond.code yX6_cannotStand cX6_cannotStand 1 (some .int), Cond.static yX8_within, Cond.initialized RX8, Cond.code yX8_within cX8_within 3 (some .boolean), Cond.methodLink RX6 25 yX6_advance, Cond.instanceMethod yX6_advance, Cond.selects RX6 yX6_advance yX6_advance, Cond.code yX6_advance cX6_advance 1 none]
def wsX7_tellFall_r2 : List Cond := [Cond.fieldLink RX6 15 "BunchTimes$Tape" "length" "I", Cond.methodLink RX6 50 yX6_kindAt, Cond.instanceMethod yX6_kindAt, Cond.selects RX6 yX6_kindAt yX6_kindAt, Cond.code yX6_kindAt cX6_kindAt 3 (some .int), Cond.instanceMethod yX3_latestLength, Cond.initialized RX3, Cond.selects RX3 yX3_latestLength yX3_latestLength, Cond.code yX3_latestLength cX3_latestLength 1 (some .int), Cond.fieldLink RX3 42 "BunchTimes$Race" "stages" "I", Cond.fieldLink RX3 31 "BunchTimes$Race" "all" "[LBunchTimes$Stage;", Cond.instanceMethod yX6_takes, Cond.selects RX6 yX6_takes yX6_takes, Cond.code yX6_takes cX6_takes 3 (some .boolean), Cond.methodLink RX6 34 yJ0_length_8abf5, Cond.instanceMethod yJ0_length_8abf5, Cond.selects RJ0 yJ0_length_8abf5 yJ0_length_8abf5, Cond.initialized RJ0, Cond.code yJ0_length_8abf5 cJ0_length_8abf5 1 (some .int), Cond.fieldLink RJ0 9 "java/lang/String" "value" "[B", Cond.methodLink RJ0 335 yJ0_coder_7d493, Cond.instanceMethod yJ0_coder_7d493, Cond.selects RJ0 yJ0_coder_7d493 yJ0_coder_7d493, Cond.code yJ0_coder_7d493 cJ0_coder_7d493 1 (some .byte)]
def wsX7_tellFall_r3 : List Cond := [Cond.fieldLink RJ0 38 "java/lang/String" "COMPACT_STRINGS" "Z", Cond.fieldLink RJ0 15 "java/lang/String" "coder" "B", Cond.methodLink RX6 39 yJ0_charAt_5068e, Cond.instanceMethod yJ0_charAt_5068e, Cond.selects RJ0 yJ0_charAt_5068e yJ0_charAt_5068e, Cond.code yJ0_charAt_5068e cJ0_charAt_5068e 2 (some .char), Cond.methodLink RJ0 492 yJ0_isLatin1_aae02, Cond.instanceMethod yJ0_isLatin1_aae02, Cond.selects RJ0 yJ0_isLatin1_aae02 yJ0_isLatin1_aae02, Cond.code yJ0_isLatin1_aae02 cJ0_isLatin1_aae02 1 (some .boolean), Cond.methodLink RJ0 495 yJ1_charAt_3b067, Cond.static yJ1_charAt_3b067, Cond.initialized RJ1, Cond.code yJ1_charAt_3b067 cJ1_charAt_3b067 2 (some .char), Cond.methodLink RJ1 9 yJ0_checkIndex_df160, Cond.static yJ0_checkIndex_df160, Cond.code yJ0_checkIndex_df160 cJ0_checkIndex_df160 2 none, Cond.fieldLink RJ0 1053 "jdk/internal/util/Preconditions" "SIOOBE_FORMATTER" "Ljava/util/function/BiFunction;", Cond.methodLink RJ0 1059 yJ3_checkIndex_8e157, Cond.static yJ3_checkIndex_8e157, Cond.initialized RJ3, Cond.code yJ3_checkIndex_8e157 cJ3_checkIndex_8e157 3 (some .int), Cond.methodLink RJ0 498 yJ2_charAt_3b067, Cond.static yJ2_charAt_3b067]
def wsX7_tellFall_r4 : List Cond := [Cond.initialized RJ2, Cond.code yJ2_charAt_3b067 cJ2_charAt_3b067 2 (some .char), Cond.methodLink RJ2 67 yJ2_checkIndex_2214a, Cond.static yJ2_checkIndex_2214a, Cond.code yJ2_checkIndex_2214a cJ2_checkIndex_2214a 2 none, Cond.methodLink RJ2 48 yJ2_length_9d52b, Cond.static yJ2_length_9d52b, Cond.code yJ2_length_9d52b cJ2_length_9d52b 1 (some .int), Cond.methodLink RJ2 414 yJ0_checkIndex_df160, Cond.methodLink RJ2 71 yJ2_getChar_3b067, Cond.static yJ2_getChar_3b067, Cond.code yJ2_getChar_3b067 cJ2_getChar_3b067 2 (some .char), Cond.fieldLink RJ2 44 "java/lang/StringUTF16" "$assertionsDisabled" "Z", Cond.fieldLink RJ2 59 "java/lang/StringUTF16" "HI_BYTE_SHIFT" "I", Cond.fieldLink RJ2 63 "java/lang/StringUTF16" "LO_BYTE_SHIFT" "I", Cond.instanceMethod yX3_addFall, Cond.selects RX3 yX3_addFall yX3_addFall, Cond.code yX3_addFall cX3_addFall 4 (some .boolean), Cond.fieldLink RX3 45 "BunchTimes$Race" "open" "Z", Cond.methodLink RX3 84 yX3_isIn, Cond.instanceMethod yX3_isIn, Cond.selects RX3 yX3_isIn yX3_isIn, Cond.code yX3_isIn cX3_isIn 2 (some .boolean), Cond.fieldLink RX3 25 "BunchTimes$Race" "in" "[Z"]
def wsX7_tellFall_r5 : List Cond := [Cond.methodLink RX3 142 yX3_hasRider, Cond.instanceMethod yX3_hasRider, Cond.selects RX3 yX3_hasRider yX3_hasRider, Cond.code yX3_hasRider cX3_hasRider 2 (some .boolean), Cond.fieldLink RX3 39 "BunchTimes$Race" "riders" "I", Cond.instanceMethod yX4_addFall, Cond.initialized RX4, Cond.selects RX4 yX4_addFall yX4_addFall, Cond.code yX4_addFall cX4_addFall 4 (some .boolean), Cond.fieldLink RX4 29 "BunchTimes$Stage" "fallKm" "[I", Cond.fieldLink RX4 12 "BunchTimes$Stage" "course" "LBunchTimes$Course;", Cond.fieldLink RX4 32 "BunchTimes$Stage" "fallWith" "[I"]
def wsX7_tellFall : List Cond := .code yX7_tellFall cX7_tellFall 5 (some .boolean) :: ((wsX7_tellFall_r1 ++ (wsX7_tellFall_r2 ++ (wsX7_tellFall_r3 ++ (wsX7_tellFall_r4 ++ wsX7_tellFall_r5)))) ++ wsX30 ++ wsX60 ++ wsX40 ++ wsX10)
def wsX7_tellJury_r1 : List Cond := [Cond.methodLink RX7 58 yX7_takeRider, Cond.static yX7_takeRider, Cond.initialized RX7, Cond.code yX7_takeRider cX7_takeRider 2 (some .int), Cond.instanceMethod yX6_takeInt, Cond.initialized RX6, Cond.selects RX6 yX6_takeInt yX6_takeInt, Cond.code yX6_takeInt cX6_takeInt 5 (some .int), Cond.fieldLink RX6 19 "BunchTimes$Tape" "fault" "I", Cond.fieldLink RX6 28 "BunchTimes$Tape" "token" "I", Cond.fieldLink RX6 31 "BunchTimes$Tape" "start" "I", Cond.fieldLink RX6 22 "BunchTimes$Tape" "next" "I", Cond.fieldLink RX6 9 "BunchTimes$Tape" "bytes" "[B", Cond.methodLink RX6 43 yX6_cannotStand, Cond.instanceMethod yX6_cannotStand, Cond.selects RX6 yX6_cannotStand yX6_cannotStand, Cond.code yX6_cannotStand cX6_cannotStand 1 (some .int), Cond.static yX8_within, Cond.initialized RX8, Cond.code yX8_within cX8_within 3 (some .boolean), Cond.methodLink RX6 25 yX6_advance, Cond.instanceMethod yX6_advance, Cond.selects RX6 yX6_advance yX6_advance, Cond.code yX6_advance cX6_advance 1 none]
def wsX7_tellJury_r2 : List Cond := [Cond.fieldLink RX6 15 "BunchTimes$Tape" "length" "I", Cond.methodLink RX6 50 yX6_kindAt, Cond.instanceMethod yX6_kindAt, Cond.selects RX6 yX6_kindAt yX6_kindAt, Cond.code yX6_kindAt cX6_kindAt 3 (some .int), Cond.instanceMethod yX3_addJury, Cond.initialized RX3, Cond.selects RX3 yX3_addJury yX3_addJury, Cond.code yX3_addJury cX3_addJury 3 (some .int), Cond.fieldLink RX3 45 "BunchTimes$Race" "open" "Z", Cond.fieldLink RX3 31 "BunchTimes$Race" "all" "[LBunchTimes$Stage;", Cond.fieldLink RX3 42 "BunchTimes$Race" "stages" "I", Cond.methodLink RX3 84 yX3_isIn, Cond.instanceMethod yX3_isIn, Cond.selects RX3 yX3_isIn yX3_isIn, Cond.code yX3_isIn cX3_isIn 2 (some .boolean), Cond.fieldLink RX3 25 "BunchTimes$Race" "in" "[Z", Cond.methodLink RX3 142 yX3_hasRider, Cond.instanceMethod yX3_hasRider, Cond.selects RX3 yX3_hasRider yX3_hasRider, Cond.code yX3_hasRider cX3_hasRider 2 (some .boolean), Cond.fieldLink RX3 39 "BunchTimes$Race" "riders" "I", Cond.instanceMethod yX4_addJury, Cond.initialized RX4]
def wsX7_tellJury_r3 : List Cond := [Cond.selects RX4 yX4_addJury yX4_addJury, Cond.code yX4_addJury cX4_addJury 3 (some .int), Cond.fieldLink RX4 35 "BunchTimes$Stage" "juried" "[I", Cond.constant RX4 112 (99999)]
def wsX7_tellJury : List Cond := .code yX7_tellJury cX7_tellJury 4 (some .boolean) :: ((wsX7_tellJury_r1 ++ (wsX7_tellJury_r2 ++ wsX7_tellJury_r3)) ++ wsX30 ++ wsX60 ++ wsX40)
def wsX7_tellStatement_r1 : List Cond := [Cond.instanceMethod yX6_takes, Cond.initialized RX6, Cond.selects RX6 yX6_takes yX6_takes, Cond.code yX6_takes cX6_takes 3 (some .boolean), Cond.fieldLink RX6 19 "BunchTimes$Tape" "fault" "I", Cond.fieldLink RX6 28 "BunchTimes$Tape" "token" "I", Cond.fieldLink RX6 22 "BunchTimes$Tape" "next" "I", Cond.fieldLink RX6 31 "BunchTimes$Tape" "start" "I", Cond.fieldLink RX6 9 "BunchTimes$Tape" "bytes" "[B", Cond.methodLink RX6 34 yJ0_length_8abf5, Cond.instanceMethod yJ0_length_8abf5, Cond.selects RJ0 yJ0_length_8abf5 yJ0_length_8abf5, Cond.initialized RJ0, Cond.code yJ0_length_8abf5 cJ0_length_8abf5 1 (some .int), Cond.fieldLink RJ0 9 "java/lang/String" "value" "[B", Cond.methodLink RJ0 335 yJ0_coder_7d493, Cond.instanceMethod yJ0_coder_7d493, Cond.selects RJ0 yJ0_coder_7d493 yJ0_coder_7d493, Cond.code yJ0_coder_7d493 cJ0_coder_7d493 1 (some .byte), Cond.fieldLink RJ0 38 "java/lang/String" "COMPACT_STRINGS" "Z", Cond.fieldLink RJ0 15 "java/lang/String" "coder" "B", Cond.methodLink RX6 39 yJ0_charAt_5068e, Cond.instanceMethod yJ0_charAt_5068e, Cond.selects RJ0 yJ0_charAt_5068e yJ0_charAt_5068e]
def wsX7_tellStatement_r2 : List Cond := [Cond.code yJ0_charAt_5068e cJ0_charAt_5068e 2 (some .char), Cond.methodLink RJ0 492 yJ0_isLatin1_aae02, Cond.instanceMethod yJ0_isLatin1_aae02, Cond.selects RJ0 yJ0_isLatin1_aae02 yJ0_isLatin1_aae02, Cond.code yJ0_isLatin1_aae02 cJ0_isLatin1_aae02 1 (some .boolean), Cond.methodLink RJ0 495 yJ1_charAt_3b067, Cond.static yJ1_charAt_3b067, Cond.initialized RJ1, Cond.code yJ1_charAt_3b067 cJ1_charAt_3b067 2 (some .char), Cond.methodLink RJ1 9 yJ0_checkIndex_df160, Cond.static yJ0_checkIndex_df160, Cond.code yJ0_checkIndex_df160 cJ0_checkIndex_df160 2 none, Cond.fieldLink RJ0 1053 "jdk/internal/util/Preconditions" "SIOOBE_FORMATTER" "Ljava/util/function/BiFunction;", Cond.methodLink RJ0 1059 yJ3_checkIndex_8e157, Cond.static yJ3_checkIndex_8e157, Cond.initialized RJ3, Cond.code yJ3_checkIndex_8e157 cJ3_checkIndex_8e157 3 (some .int), Cond.methodLink RJ0 498 yJ2_charAt_3b067, Cond.static yJ2_charAt_3b067, Cond.initialized RJ2, Cond.code yJ2_charAt_3b067 cJ2_charAt_3b067 2 (some .char), Cond.methodLink RJ2 67 yJ2_checkIndex_2214a, Cond.static yJ2_checkIndex_2214a, Cond.code yJ2_checkIndex_2214a cJ2_checkIndex_2214a 2 none]
def wsX7_tellStatement_r3 : List Cond := [Cond.methodLink RJ2 48 yJ2_length_9d52b, Cond.static yJ2_length_9d52b, Cond.code yJ2_length_9d52b cJ2_length_9d52b 1 (some .int), Cond.methodLink RJ2 414 yJ0_checkIndex_df160, Cond.methodLink RJ2 71 yJ2_getChar_3b067, Cond.static yJ2_getChar_3b067, Cond.code yJ2_getChar_3b067 cJ2_getChar_3b067 2 (some .char), Cond.fieldLink RJ2 44 "java/lang/StringUTF16" "$assertionsDisabled" "Z", Cond.fieldLink RJ2 59 "java/lang/StringUTF16" "HI_BYTE_SHIFT" "I", Cond.fieldLink RJ2 63 "java/lang/StringUTF16" "LO_BYTE_SHIFT" "I", Cond.methodLink RX6 25 yX6_advance, Cond.instanceMethod yX6_advance, Cond.selects RX6 yX6_advance yX6_advance, Cond.code yX6_advance cX6_advance 1 none, Cond.fieldLink RX6 15 "BunchTimes$Tape" "length" "I", Cond.methodLink RX6 50 yX6_kindAt, Cond.instanceMethod yX6_kindAt, Cond.selects RX6 yX6_kindAt yX6_kindAt, Cond.code yX6_kindAt cX6_kindAt 3 (some .int), Cond.instanceMethod yX3_addTeam, Cond.initialized RX3, Cond.selects RX3 yX3_addTeam yX3_addTeam, Cond.code yX3_addTeam cX3_addTeam 1 (some .int), Cond.fieldLink RX3 36 "BunchTimes$Race" "teams" "I"]
def wsX7_tellStatement_r4 : List Cond := [Cond.methodLink RX7 25 yX7_tellRider, Cond.static yX7_tellRider, Cond.initialized RX7, Cond.code yX7_tellRider cX7_tellRider 4 (some .boolean), Cond.instanceMethod yX6_takeInt, Cond.selects RX6 yX6_takeInt yX6_takeInt, Cond.code yX6_takeInt cX6_takeInt 5 (some .int), Cond.methodLink RX6 43 yX6_cannotStand, Cond.instanceMethod yX6_cannotStand, Cond.selects RX6 yX6_cannotStand yX6_cannotStand, Cond.code yX6_cannotStand cX6_cannotStand 1 (some .int), Cond.static yX8_within, Cond.initialized RX8, Cond.code yX8_within cX8_within 3 (some .boolean), Cond.instanceMethod yX3_addRider, Cond.selects RX3 yX3_addRider yX3_addRider, Cond.code yX3_addRider cX3_addRider 3 (some .int), Cond.fieldLink RX3 39 "BunchTimes$Race" "riders" "I", Cond.fieldLink RX3 45 "BunchTimes$Race" "open" "Z", Cond.fieldLink RX3 18 "BunchTimes$Race" "teamOf" "[I", Cond.fieldLink RX3 22 "BunchTimes$Race" "age" "[I", Cond.fieldLink RX3 25 "BunchTimes$Race" "in" "[Z", Cond.methodLink RX3 63 yX3_latestFinishers, Cond.instanceMethod yX3_latestFinishers]
def wsX7_tellStatement_r5 : List Cond := [Cond.selects RX3 yX3_latestFinishers yX3_latestFinishers, Cond.code yX3_latestFinishers cX3_latestFinishers 1 (some .int), Cond.fieldLink RX3 42 "BunchTimes$Race" "stages" "I", Cond.fieldLink RX3 31 "BunchTimes$Race" "all" "[LBunchTimes$Stage;", Cond.methodLink RX7 33 yX7_tellStage, Cond.static yX7_tellStage, Cond.code yX7_tellStage cX7_tellStage 9 (some .boolean), Cond.methodLink RX7 100 yX7_takeKind, Cond.static yX7_takeKind, Cond.code yX7_takeKind cX7_takeKind 1 (some .int), Cond.instanceMethod yX3_openStage, Cond.selects RX3 yX3_openStage yX3_openStage, Cond.code yX3_openStage cX3_openStage 3 (some .int), Cond.methodLink RX3 67 yX3_countIn, Cond.instanceMethod yX3_countIn, Cond.selects RX3 yX3_countIn yX3_countIn, Cond.code yX3_countIn cX3_countIn 3 (some .int), Cond.instanceMethod yX4_begin, Cond.initialized RX4, Cond.selects RX4 yX4_begin yX4_begin, Cond.code yX4_begin cX4_begin 4 none, Cond.fieldLink RX4 12 "BunchTimes$Stage" "course" "LBunchTimes$Course;", Cond.fieldLink RX4 68 "BunchTimes$Stage" "finishers" "I", Cond.instanceMethod yX1_begin]
def wsX7_tellStatement_r6 : List Cond := [Cond.initialized RX1, Cond.selects RX1 yX1_begin yX1_begin, Cond.code yX1_begin cX1_begin 3 none, Cond.fieldLink RX1 24 "BunchTimes$Course" "kind" "I", Cond.fieldLink RX1 28 "BunchTimes$Course" "length" "I", Cond.fieldLink RX1 31 "BunchTimes$Course" "marks" "I", Cond.methodLink RX4 64 yX4_forget, Cond.instanceMethod yX4_forget, Cond.selects RX4 yX4_forget yX4_forget, Cond.code yX4_forget cX4_forget 2 none, Cond.fieldLink RX4 25 "BunchTimes$Stage" "finish" "[I", Cond.fieldLink RX4 29 "BunchTimes$Stage" "fallKm" "[I", Cond.fieldLink RX4 32 "BunchTimes$Stage" "fallWith" "[I", Cond.fieldLink RX4 35 "BunchTimes$Stage" "juried" "[I", Cond.fieldLink RX4 38 "BunchTimes$Stage" "graced" "[Z", Cond.instanceMethod yX1_forget, Cond.selects RX1 yX1_forget yX1_forget, Cond.code yX1_forget cX1_forget 6 none, Cond.fieldLink RX1 18 "BunchTimes$Course" "crossed" "[I", Cond.fieldLink RX1 21 "BunchTimes$Course" "crossing" "[I", Cond.methodLink RX7 109 yX7_takeHow, Cond.static yX7_takeHow, Cond.code yX7_takeHow cX7_takeHow 1 (some .int), Cond.instanceMethod yX3_addMark]
def wsX7_tellStatement_r7 : List Cond := [Cond.selects RX3 yX3_addMark yX3_addMark, Cond.code yX3_addMark cX3_addMark 3 (some .int), Cond.instanceMethod yX1_addMark, Cond.selects RX1 yX1_addMark yX1_addMark, Cond.code yX1_addMark cX1_addMark 4 (some .int), Cond.fieldLink RX1 9 "BunchTimes$Course" "km" "[I", Cond.fieldLink RX1 15 "BunchTimes$Course" "how" "[I", Cond.methodLink RX7 38 yX7_tellFinishes, Cond.static yX7_tellFinishes, Cond.code yX7_tellFinishes cX7_tellFinishes 6 (some .boolean), Cond.constant RX7 131 (999999), Cond.instanceMethod yX6_hasInt, Cond.selects RX6 yX6_hasInt yX6_hasInt, Cond.code yX6_hasInt cX6_hasInt 1 (some .boolean), Cond.methodLink RX7 58 yX7_takeRider, Cond.static yX7_takeRider, Cond.code yX7_takeRider cX7_takeRider 2 (some .int), Cond.instanceMethod yX3_addFinish, Cond.selects RX3 yX3_addFinish yX3_addFinish, Cond.code yX3_addFinish cX3_addFinish 3 (some .boolean), Cond.methodLink RX3 84 yX3_isIn, Cond.instanceMethod yX3_isIn, Cond.selects RX3 yX3_isIn yX3_isIn, Cond.code yX3_isIn cX3_isIn 2 (some .boolean)]
def wsX7_tellStatement_r8 : List Cond := [Cond.methodLink RX3 142 yX3_hasRider, Cond.instanceMethod yX3_hasRider, Cond.selects RX3 yX3_hasRider yX3_hasRider, Cond.code yX3_hasRider cX3_hasRider 2 (some .boolean), Cond.instanceMethod yX4_addFinish, Cond.selects RX4 yX4_addFinish yX4_addFinish, Cond.code yX4_addFinish cX4_addFinish 3 (some .boolean), Cond.constant RX4 104 (999999), Cond.methodLink RX7 43 yX7_tellCrossings, Cond.static yX7_tellCrossings, Cond.code yX7_tellCrossings cX7_tellCrossings 5 (some .boolean), Cond.instanceMethod yX3_latestMarks, Cond.selects RX3 yX3_latestMarks yX3_latestMarks, Cond.code yX3_latestMarks cX3_latestMarks 1 (some .int), Cond.instanceMethod yX3_addCrossing, Cond.selects RX3 yX3_addCrossing yX3_addCrossing, Cond.code yX3_addCrossing cX3_addCrossing 3 (some .int), Cond.instanceMethod yX1_addCrossing, Cond.selects RX1 yX1_addCrossing yX1_addCrossing, Cond.code yX1_addCrossing cX1_addCrossing 3 (some .int), Cond.methodLink RX1 44 yX1_hasCrossed, Cond.instanceMethod yX1_hasCrossed, Cond.selects RX1 yX1_hasCrossed yX1_hasCrossed, Cond.code yX1_hasCrossed cX1_hasCrossed 4 (some .boolean)]
def wsX7_tellStatement_r9 : List Cond := [Cond.methodLink RX7 48 yX7_tellFall, Cond.static yX7_tellFall, Cond.code yX7_tellFall cX7_tellFall 5 (some .boolean), Cond.instanceMethod yX3_latestLength, Cond.selects RX3 yX3_latestLength yX3_latestLength, Cond.code yX3_latestLength cX3_latestLength 1 (some .int), Cond.instanceMethod yX3_addFall, Cond.selects RX3 yX3_addFall yX3_addFall, Cond.code yX3_addFall cX3_addFall 4 (some .boolean), Cond.instanceMethod yX4_addFall, Cond.selects RX4 yX4_addFall yX4_addFall, Cond.code yX4_addFall cX4_addFall 4 (some .boolean), Cond.methodLink RX7 53 yX7_tellJury, Cond.static yX7_tellJury, Cond.code yX7_tellJury cX7_tellJury 4 (some .boolean), Cond.instanceMethod yX3_addJury, Cond.selects RX3 yX3_addJury yX3_addJury, Cond.code yX3_addJury cX3_addJury 3 (some .int), Cond.instanceMethod yX4_addJury, Cond.selects RX4 yX4_addJury yX4_addJury, Cond.code yX4_addJury cX4_addJury 3 (some .int), Cond.constant RX4 112 (99999), Cond.instanceMethod yX3_addGrace, Cond.selects RX3 yX3_addGrace yX3_addGrace]
def wsX7_tellStatement_r10 : List Cond := [Cond.code yX3_addGrace cX3_addGrace 2 (some .boolean), Cond.instanceMethod yX4_addGrace, Cond.selects RX4 yX4_addGrace yX4_addGrace, Cond.code yX4_addGrace cX4_addGrace 2 (some .boolean), Cond.instanceMethod yX3_dropRider, Cond.selects RX3 yX3_dropRider yX3_dropRider, Cond.code yX3_dropRider cX3_dropRider 2 (some .boolean), Cond.instanceMethod yX3_setGap, Cond.selects RX3 yX3_setGap yX3_setGap, Cond.code yX3_setGap cX3_setGap 2 (some .boolean), Cond.fieldLink RX3 9 "BunchTimes$Race" "gap" "I", Cond.instanceMethod yX3_setZone, Cond.selects RX3 yX3_setZone yX3_setZone, Cond.code yX3_setZone cX3_setZone 2 (some .boolean), Cond.fieldLink RX3 15 "BunchTimes$Race" "zone" "I", Cond.instanceMethod yX3_closeStage, Cond.selects RX3 yX3_closeStage yX3_closeStage, Cond.code yX3_closeStage cX3_closeStage 2 (some .int), Cond.instanceMethod yX4_rank, Cond.selects RX4 yX4_rank yX4_rank, Cond.code yX4_rank cX4_rank 4 none, Cond.fieldLink RX4 42 "BunchTimes$Stage" "order" "[I", Cond.fieldLink RX4 45 "BunchTimes$Stage" "place" "[I", Cond.instanceMethod yX4_split]
def wsX7_tellStatement_r11 : List Cond := [Cond.selects RX4 yX4_split yX4_split, Cond.code yX4_split cX4_split 5 none, Cond.fieldLink RX4 85 "BunchTimes$Stage" "bunches" "I", Cond.fieldLink RX4 48 "BunchTimes$Stage" "bunch" "[I", Cond.fieldLink RX4 51 "BunchTimes$Stage" "raw" "[I", Cond.methodLink RX4 121 yX4_beginsBunch, Cond.instanceMethod yX4_beginsBunch, Cond.selects RX4 yX4_beginsBunch yX4_beginsBunch, Cond.code yX4_beginsBunch cX4_beginsBunch 3 (some .boolean), Cond.methodLink RX4 117 yX4_space, Cond.instanceMethod yX4_space, Cond.selects RX4 yX4_space yX4_space, Cond.code yX4_space cX4_space 2 (some .int), Cond.instanceMethod yX4_takeTimes, Cond.selects RX4 yX4_takeTimes yX4_takeTimes, Cond.code yX4_takeTimes cX4_takeTimes 4 none, Cond.constant RX4 125 (1000000), Cond.fieldLink RX4 88 "BunchTimes$Stage" "best" "I", Cond.fieldLink RX4 54 "BunchTimes$Stage" "time" "[I", Cond.methodLink RX4 130 Lib.Math.min.name, Cond.static Lib.Math.min.name, Cond.initialized "java/lang/Math", Cond.code Lib.Math.min.name Lib.Math.min.code 2 (some .int), Cond.methodLink RX4 126 yX4_leastRaw]
def wsX7_tellStatement_r12 : List Cond := [Cond.instanceMethod yX4_leastRaw, Cond.selects RX4 yX4_leastRaw yX4_leastRaw, Cond.code yX4_leastRaw cX4_leastRaw 6 (some .int), Cond.methodLink RX4 135 yX4_fallCounts, Cond.instanceMethod yX4_fallCounts, Cond.selects RX4 yX4_fallCounts yX4_fallCounts, Cond.code yX4_fallCounts cX4_fallCounts 4 (some .boolean), Cond.methodLink RX4 138 yX4_hasFinish, Cond.instanceMethod yX4_hasFinish, Cond.selects RX4 yX4_hasFinish yX4_hasFinish, Cond.code yX4_hasFinish cX4_hasFinish 2 (some .boolean), Cond.instanceMethod yX4_judge, Cond.selects RX4 yX4_judge yX4_judge, Cond.code yX4_judge cX4_judge 3 none, Cond.methodLink RX4 142 Lib.Math.max.name, Cond.static Lib.Math.max.name, Cond.code Lib.Math.max.name Lib.Math.max.code 2 (some .int), Cond.fieldLink RX4 91 "BunchTimes$Stage" "speed" "I", Cond.fieldLink RX4 145 "BunchTimes$Stage" "LIMIT_HUNDREDTHS" "[I", Cond.fieldLink RX4 94 "BunchTimes$Stage" "limit" "I", Cond.fieldLink RX4 97 "BunchTimes$Stage" "lateOnes" "I", Cond.fieldLink RX4 57 "BunchTimes$Stage" "late" "[Z", Cond.fieldLink RX4 100 "BunchTimes$Stage" "pardoned" "Z", Cond.instanceMethod yX2_awardOrder]
def wsX7_tellStatement_r13 : List Cond := [Cond.initialized RX2, Cond.selects RX2 yX2_awardOrder yX2_awardOrder, Cond.code yX2_awardOrder cX2_awardOrder 5 none, Cond.fieldLink RX2 9 "BunchTimes$Prizes" "bonus" "[I", Cond.fieldLink RX2 15 "BunchTimes$Prizes" "points" "[I", Cond.fieldLink RX2 18 "BunchTimes$Prizes" "dots" "[I", Cond.fieldLink RX2 45 "BunchTimes$Prizes" "ORDER_BONUS" "[I", Cond.fieldLink RX2 52 "BunchTimes$Prizes" "ORDER_POINTS" "[I", Cond.instanceMethod yX2_awardMarks, Cond.selects RX2 yX2_awardMarks yX2_awardMarks, Cond.code yX2_awardMarks cX2_awardMarks 7 none, Cond.methodLink RX2 70 yX2_awardOver, Cond.instanceMethod yX2_awardOver, Cond.selects RX2 yX2_awardOver yX2_awardOver, Cond.code yX2_awardOver cX2_awardOver 5 none, Cond.fieldLink RX2 74 "BunchTimes$Prizes" "CLIMB_DOTS" "[I", Cond.fieldLink RX2 77 "BunchTimes$Prizes" "SPRINT_BONUS" "[I", Cond.fieldLink RX2 80 "BunchTimes$Prizes" "SPRINT_POINTS" "[I", Cond.methodLink RX3 135 yX3_sendOut, Cond.instanceMethod yX3_sendOut, Cond.selects RX3 yX3_sendOut yX3_sendOut, Cond.code yX3_sendOut cX3_sendOut 4 (some .int), Cond.instanceMethod yX4_sendsOut, Cond.selects RX4 yX4_sendsOut yX4_sendsOut]
def wsX7_tellStatement_r14 : List Cond := [Cond.code yX4_sendsOut cX4_sendsOut 2 (some .boolean)]
def wsX7_tellStatement : List Cond := .code yX7_tellStatement cX7_tellStatement 2 (some .boolean) :: ((wsX7_tellStatement_r1 ++ (wsX7_tellStatement_r2 ++ (wsX7_tellStatement_r3 ++ (wsX7_tellStatement_r4 ++ (wsX7_tellStatement_r5 ++ (wsX7_tellStatement_r6 ++ (wsX7_tellStatement_r7 ++ (wsX7_tellStatement_r8 ++ (wsX7_tellStatement_r9 ++ (wsX7_tellStatement_r10 ++ (wsX7_tellStatement_r11 ++ (wsX7_tellStatement_r12 ++ (wsX7_tellStatement_r13 ++ wsX7_tellStatement_r14))))))))))))) ++ wsX60 ++ wsX30 ++ wsX40 ++ wsX10 ++ wsX20)
def wsX8_init_r1 : List Cond := [Cond.methodLink RX8 1 objectInit, Cond.instanceMethod objectInit, Cond.code objectInit ⟨#[0xb1]⟩ 1 none, Cond.classLink RX8 7 RX3, Cond.instantiable RX3 10, Cond.initialized RX3, Cond.fieldLink RX8 10 "BunchTimes" "race" "LBunchTimes$Race;", Cond.fieldLink RX8 16 "BunchTimes" "ahead" "LBunchTimes$Race;", Cond.fieldLink RX8 19 "BunchTimes" "kept" "[LBunchTimes$Race;", Cond.classLink RX8 23 RX5, Cond.instantiable RX5 5, Cond.initialized RX5, Cond.fieldLink RX8 26 "BunchTimes" "standings" "LBunchTimes$Standings;", Cond.classLink RX8 30 RX6, Cond.instantiable RX6 6, Cond.initialized RX6, Cond.fieldLink RX8 33 "BunchTimes" "tape" "LBunchTimes$Tape;", Cond.instanceMethod yX3_init, Cond.code yX3_init cX3_init 2 none, Cond.methodLink RX3 3 objectInit, Cond.fieldLink RX3 9 "BunchTimes$Race" "gap" "I", Cond.fieldLink RX3 15 "BunchTimes$Race" "zone" "I", Cond.arrayClass .int, Cond.fieldLink RX3 18 "BunchTimes$Race" "teamOf" "[I"]
def wsX8_init_r2 : List Cond := [Cond.fieldLink RX3 22 "BunchTimes$Race" "age" "[I", Cond.arrayClass .boolean, Cond.fieldLink RX3 25 "BunchTimes$Race" "in" "[Z", Cond.classLink RX3 29 RX4, Cond.fieldLink RX3 31 "BunchTimes$Race" "all" "[LBunchTimes$Stage;", Cond.instantiable RX4 20, Cond.initialized RX4, Cond.instanceMethod yX4_init, Cond.code yX4_init cX4_init 1 none, Cond.methodLink RX4 3 objectInit, Cond.classLink RX4 9 RX1, Cond.instantiable RX1 7, Cond.initialized RX1, Cond.fieldLink RX4 12 "BunchTimes$Stage" "course" "LBunchTimes$Course;", Cond.classLink RX4 18 RX2, Cond.instantiable RX2 3, Cond.initialized RX2, Cond.fieldLink RX4 21 "BunchTimes$Stage" "prizes" "LBunchTimes$Prizes;", Cond.fieldLink RX4 25 "BunchTimes$Stage" "finish" "[I", Cond.fieldLink RX4 29 "BunchTimes$Stage" "fallKm" "[I", Cond.fieldLink RX4 32 "BunchTimes$Stage" "fallWith" "[I", Cond.fieldLink RX4 35 "BunchTimes$Stage" "juried" "[I", Cond.fieldLink RX4 38 "BunchTimes$Stage" "graced" "[Z", Cond.fieldLink RX4 42 "BunchTimes$Stage" "order" "[I"]
def wsX8_init_r3 : List Cond := [Cond.fieldLink RX4 45 "BunchTimes$Stage" "place" "[I", Cond.fieldLink RX4 48 "BunchTimes$Stage" "bunch" "[I", Cond.fieldLink RX4 51 "BunchTimes$Stage" "raw" "[I", Cond.fieldLink RX4 54 "BunchTimes$Stage" "time" "[I", Cond.fieldLink RX4 57 "BunchTimes$Stage" "late" "[Z", Cond.instanceMethod yX1_init, Cond.code yX1_init cX1_init 1 none, Cond.methodLink RX1 3 objectInit, Cond.fieldLink RX1 9 "BunchTimes$Course" "km" "[I", Cond.fieldLink RX1 15 "BunchTimes$Course" "how" "[I", Cond.fieldLink RX1 18 "BunchTimes$Course" "crossed" "[I", Cond.fieldLink RX1 21 "BunchTimes$Course" "crossing" "[I", Cond.instanceMethod yX2_init, Cond.code yX2_init cX2_init 1 none, Cond.methodLink RX2 3 objectInit, Cond.fieldLink RX2 9 "BunchTimes$Prizes" "bonus" "[I", Cond.fieldLink RX2 15 "BunchTimes$Prizes" "points" "[I", Cond.fieldLink RX2 18 "BunchTimes$Prizes" "dots" "[I", Cond.instanceMethod yX5_init, Cond.code yX5_init cX5_init 1 none, Cond.methodLink RX5 3 objectInit, Cond.fieldLink RX5 9 "BunchTimes$Standings" "order" "[I", Cond.fieldLink RX5 15 "BunchTimes$Standings" "sums" "[I", Cond.fieldLink RX5 18 "BunchTimes$Standings" "places" "[I"]
def wsX8_init_r4 : List Cond := [Cond.fieldLink RX5 21 "BunchTimes$Standings" "worth" "[I", Cond.instanceMethod yX6_init, Cond.code yX6_init cX6_init 1 none, Cond.methodLink RX6 3 objectInit, Cond.arrayClass .byte, Cond.fieldLink RX6 9 "BunchTimes$Tape" "bytes" "[B"]
def wsX8_init : List Cond := .code yX8_init cX8_init 1 none :: ((wsX8_init_r1 ++ (wsX8_init_r2 ++ (wsX8_init_r3 ++ wsX8_init_r4))) ++ wsX30 ++ wsX80 ++ wsX50 ++ wsX60 ++ wsX40 ++ wsX10 ++ wsX20)
def wsX8_feed : List Cond := .code yX8_feed cX8_feed 6 (some .int) :: ([.fieldLink RX8 33 "BunchTimes" "tape" "LBunchTimes$Tape;", .instanceMethod yX6_putFour, .initialized RX6, .selects RX6 yX6_putFour yX6_putFour, .code yX6_putFour cX6_putFour 3 none, .fieldLink RX6 15 "BunchTimes$Tape" "length" "I", .fieldLink RX6 9 "BunchTimes$Tape" "bytes" "[B"] ++ wsX80 ++ wsX60)
def wsX8_end : List Cond := .code yX8_end cX8_end 2 (some .boolean) :: ([.fieldLink RX8 33 "BunchTimes" "tape" "LBunchTimes$Tape;", .methodLink RX8 45 yX8_within, .static yX8_within, .initialized RX8, .code yX8_within cX8_within 3 (some .boolean)] ++ wsX80 ++ wsX60)
def wsX8_tell_r1 : List Cond := [Cond.fieldLink RX8 16 "BunchTimes" "ahead" "LBunchTimes$Race;", Cond.fieldLink RX8 10 "BunchTimes" "race" "LBunchTimes$Race;", Cond.fieldLink RX8 33 "BunchTimes" "tape" "LBunchTimes$Tape;", Cond.instanceMethod yX3_copyFrom, Cond.initialized RX3, Cond.selects RX3 yX3_copyFrom yX3_copyFrom, Cond.code yX3_copyFrom cX3_copyFrom 3 none, Cond.fieldLink RX3 36 "BunchTimes$Race" "teams" "I", Cond.fieldLink RX3 39 "BunchTimes$Race" "riders" "I", Cond.fieldLink RX3 42 "BunchTimes$Race" "stages" "I", Cond.fieldLink RX3 45 "BunchTimes$Race" "open" "Z", Cond.fieldLink RX3 9 "BunchTimes$Race" "gap" "I", Cond.fieldLink RX3 15 "BunchTimes$Race" "zone" "I", Cond.fieldLink RX3 18 "BunchTimes$Race" "teamOf" "[I", Cond.methodLink RX3 49 arraycopyName, Cond.native arraycopyName, Cond.static arraycopyName, Cond.initialized "java/lang/System", Cond.fieldLink RX3 22 "BunchTimes$Race" "age" "[I", Cond.fieldLink RX3 25 "BunchTimes$Race" "in" "[Z", Cond.fieldLink RX3 31 "BunchTimes$Race" "all" "[LBunchTimes$Stage;", Cond.instanceMethod yX4_copyFrom, Cond.initialized RX4, Cond.selects RX4 yX4_copyFrom yX4_copyFrom]
def wsX8_tell_r2 : List Cond := [Cond.code yX4_copyFrom cX4_copyFrom 2 none, Cond.fieldLink RX4 12 "BunchTimes$Stage" "course" "LBunchTimes$Course;", Cond.fieldLink RX4 21 "BunchTimes$Stage" "prizes" "LBunchTimes$Prizes;", Cond.fieldLink RX4 25 "BunchTimes$Stage" "finish" "[I", Cond.methodLink RX4 79 arraycopyName, Cond.fieldLink RX4 29 "BunchTimes$Stage" "fallKm" "[I", Cond.fieldLink RX4 32 "BunchTimes$Stage" "fallWith" "[I", Cond.fieldLink RX4 35 "BunchTimes$Stage" "juried" "[I", Cond.fieldLink RX4 38 "BunchTimes$Stage" "graced" "[Z", Cond.fieldLink RX4 68 "BunchTimes$Stage" "finishers" "I", Cond.fieldLink RX4 42 "BunchTimes$Stage" "order" "[I", Cond.fieldLink RX4 45 "BunchTimes$Stage" "place" "[I", Cond.fieldLink RX4 48 "BunchTimes$Stage" "bunch" "[I", Cond.fieldLink RX4 51 "BunchTimes$Stage" "raw" "[I", Cond.fieldLink RX4 54 "BunchTimes$Stage" "time" "[I", Cond.fieldLink RX4 57 "BunchTimes$Stage" "late" "[Z", Cond.fieldLink RX4 85 "BunchTimes$Stage" "bunches" "I", Cond.fieldLink RX4 88 "BunchTimes$Stage" "best" "I", Cond.fieldLink RX4 91 "BunchTimes$Stage" "speed" "I", Cond.fieldLink RX4 94 "BunchTimes$Stage" "limit" "I", Cond.fieldLink RX4 97 "BunchTimes$Stage" "lateOnes" "I", Cond.fieldLink RX4 100 "BunchTimes$Stage" "pardoned" "Z", Cond.instanceMethod yX1_copyFrom, Cond.initialized RX1]
def wsX8_tell_r3 : List Cond := [Cond.selects RX1 yX1_copyFrom yX1_copyFrom, Cond.code yX1_copyFrom cX1_copyFrom 2 none, Cond.fieldLink RX1 24 "BunchTimes$Course" "kind" "I", Cond.fieldLink RX1 28 "BunchTimes$Course" "length" "I", Cond.fieldLink RX1 31 "BunchTimes$Course" "marks" "I", Cond.fieldLink RX1 9 "BunchTimes$Course" "km" "[I", Cond.methodLink RX1 34 arraycopyName, Cond.fieldLink RX1 15 "BunchTimes$Course" "how" "[I", Cond.fieldLink RX1 18 "BunchTimes$Course" "crossed" "[I", Cond.fieldLink RX1 21 "BunchTimes$Course" "crossing" "[I", Cond.instanceMethod yX2_copyFrom, Cond.initialized RX2, Cond.selects RX2 yX2_copyFrom yX2_copyFrom, Cond.code yX2_copyFrom cX2_copyFrom 2 none, Cond.fieldLink RX2 9 "BunchTimes$Prizes" "bonus" "[I", Cond.methodLink RX2 21 arraycopyName, Cond.fieldLink RX2 15 "BunchTimes$Prizes" "points" "[I", Cond.fieldLink RX2 18 "BunchTimes$Prizes" "dots" "[I", Cond.instanceMethod yX6_begin, Cond.initialized RX6, Cond.selects RX6 yX6_begin yX6_begin, Cond.code yX6_begin cX6_begin 1 none, Cond.fieldLink RX6 19 "BunchTimes$Tape" "fault" "I", Cond.fieldLink RX6 22 "BunchTimes$Tape" "next" "I"]
def wsX8_tell_r4 : List Cond := [Cond.methodLink RX6 25 yX6_advance, Cond.instanceMethod yX6_advance, Cond.selects RX6 yX6_advance yX6_advance, Cond.code yX6_advance cX6_advance 1 none, Cond.fieldLink RX6 15 "BunchTimes$Tape" "length" "I", Cond.fieldLink RX6 31 "BunchTimes$Tape" "start" "I", Cond.fieldLink RX6 28 "BunchTimes$Tape" "token" "I", Cond.methodLink RX6 50 yX6_kindAt, Cond.instanceMethod yX6_kindAt, Cond.selects RX6 yX6_kindAt yX6_kindAt, Cond.code yX6_kindAt cX6_kindAt 3 (some .int), Cond.fieldLink RX6 9 "BunchTimes$Tape" "bytes" "[B", Cond.instanceMethod yX6_hasMore, Cond.selects RX6 yX6_hasMore yX6_hasMore, Cond.code yX6_hasMore cX6_hasMore 1 (some .boolean), Cond.static yX7_tellStatement, Cond.initialized RX7, Cond.code yX7_tellStatement cX7_tellStatement 2 (some .boolean), Cond.instanceMethod yX6_takes, Cond.selects RX6 yX6_takes yX6_takes, Cond.code yX6_takes cX6_takes 3 (some .boolean), Cond.methodLink RX6 34 yJ0_length_8abf5, Cond.instanceMethod yJ0_length_8abf5, Cond.selects RJ0 yJ0_length_8abf5 yJ0_length_8abf5]
def wsX8_tell_r5 : List Cond := [Cond.initialized RJ0, Cond.code yJ0_length_8abf5 cJ0_length_8abf5 1 (some .int), Cond.fieldLink RJ0 9 "java/lang/String" "value" "[B", Cond.methodLink RJ0 335 yJ0_coder_7d493, Cond.instanceMethod yJ0_coder_7d493, Cond.selects RJ0 yJ0_coder_7d493 yJ0_coder_7d493, Cond.code yJ0_coder_7d493 cJ0_coder_7d493 1 (some .byte), Cond.fieldLink RJ0 38 "java/lang/String" "COMPACT_STRINGS" "Z", Cond.fieldLink RJ0 15 "java/lang/String" "coder" "B", Cond.methodLink RX6 39 yJ0_charAt_5068e, Cond.instanceMethod yJ0_charAt_5068e, Cond.selects RJ0 yJ0_charAt_5068e yJ0_charAt_5068e, Cond.code yJ0_charAt_5068e cJ0_charAt_5068e 2 (some .char), Cond.methodLink RJ0 492 yJ0_isLatin1_aae02, Cond.instanceMethod yJ0_isLatin1_aae02, Cond.selects RJ0 yJ0_isLatin1_aae02 yJ0_isLatin1_aae02, Cond.code yJ0_isLatin1_aae02 cJ0_isLatin1_aae02 1 (some .boolean), Cond.methodLink RJ0 495 yJ1_charAt_3b067, Cond.static yJ1_charAt_3b067, Cond.initialized RJ1, Cond.code yJ1_charAt_3b067 cJ1_charAt_3b067 2 (some .char), Cond.methodLink RJ1 9 yJ0_checkIndex_df160, Cond.static yJ0_checkIndex_df160, Cond.code yJ0_checkIndex_df160 cJ0_checkIndex_df160 2 none]
def wsX8_tell_r6 : List Cond := [Cond.fieldLink RJ0 1053 "jdk/internal/util/Preconditions" "SIOOBE_FORMATTER" "Ljava/util/function/BiFunction;", Cond.methodLink RJ0 1059 yJ3_checkIndex_8e157, Cond.static yJ3_checkIndex_8e157, Cond.initialized RJ3, Cond.code yJ3_checkIndex_8e157 cJ3_checkIndex_8e157 3 (some .int), Cond.methodLink RJ0 498 yJ2_charAt_3b067, Cond.static yJ2_charAt_3b067, Cond.initialized RJ2, Cond.code yJ2_charAt_3b067 cJ2_charAt_3b067 2 (some .char), Cond.methodLink RJ2 67 yJ2_checkIndex_2214a, Cond.static yJ2_checkIndex_2214a, Cond.code yJ2_checkIndex_2214a cJ2_checkIndex_2214a 2 none, Cond.methodLink RJ2 48 yJ2_length_9d52b, Cond.static yJ2_length_9d52b, Cond.code yJ2_length_9d52b cJ2_length_9d52b 1 (some .int), Cond.methodLink RJ2 414 yJ0_checkIndex_df160, Cond.methodLink RJ2 71 yJ2_getChar_3b067, Cond.static yJ2_getChar_3b067, Cond.code yJ2_getChar_3b067 cJ2_getChar_3b067 2 (some .char), Cond.fieldLink RJ2 44 "java/lang/StringUTF16" "$assertionsDisabled" "Z", Cond.fieldLink RJ2 59 "java/lang/StringUTF16" "HI_BYTE_SHIFT" "I", Cond.fieldLink RJ2 63 "java/lang/StringUTF16" "LO_BYTE_SHIFT" "I", Cond.instanceMethod yX3_addTeam, Cond.selects RX3 yX3_addTeam yX3_addTeam]
def wsX8_tell_r7 : List Cond := [Cond.code yX3_addTeam cX3_addTeam 1 (some .int), Cond.methodLink RX7 25 yX7_tellRider, Cond.static yX7_tellRider, Cond.code yX7_tellRider cX7_tellRider 4 (some .boolean), Cond.instanceMethod yX6_takeInt, Cond.selects RX6 yX6_takeInt yX6_takeInt, Cond.code yX6_takeInt cX6_takeInt 5 (some .int), Cond.methodLink RX6 43 yX6_cannotStand, Cond.instanceMethod yX6_cannotStand, Cond.selects RX6 yX6_cannotStand yX6_cannotStand, Cond.code yX6_cannotStand cX6_cannotStand 1 (some .int), Cond.static yX8_within, Cond.initialized RX8, Cond.code yX8_within cX8_within 3 (some .boolean), Cond.instanceMethod yX3_addRider, Cond.selects RX3 yX3_addRider yX3_addRider, Cond.code yX3_addRider cX3_addRider 3 (some .int), Cond.methodLink RX3 63 yX3_latestFinishers, Cond.instanceMethod yX3_latestFinishers, Cond.selects RX3 yX3_latestFinishers yX3_latestFinishers, Cond.code yX3_latestFinishers cX3_latestFinishers 1 (some .int), Cond.methodLink RX7 33 yX7_tellStage, Cond.static yX7_tellStage, Cond.code yX7_tellStage cX7_tellStage 9 (some .boolean)]
def wsX8_tell_r8 : List Cond := [Cond.methodLink RX7 100 yX7_takeKind, Cond.static yX7_takeKind, Cond.code yX7_takeKind cX7_takeKind 1 (some .int), Cond.instanceMethod yX3_openStage, Cond.selects RX3 yX3_openStage yX3_openStage, Cond.code yX3_openStage cX3_openStage 3 (some .int), Cond.methodLink RX3 67 yX3_countIn, Cond.instanceMethod yX3_countIn, Cond.selects RX3 yX3_countIn yX3_countIn, Cond.code yX3_countIn cX3_countIn 3 (some .int), Cond.instanceMethod yX4_begin, Cond.selects RX4 yX4_begin yX4_begin, Cond.code yX4_begin cX4_begin 4 none, Cond.instanceMethod yX1_begin, Cond.selects RX1 yX1_begin yX1_begin, Cond.code yX1_begin cX1_begin 3 none, Cond.methodLink RX4 64 yX4_forget, Cond.instanceMethod yX4_forget, Cond.selects RX4 yX4_forget yX4_forget, Cond.code yX4_forget cX4_forget 2 none, Cond.instanceMethod yX1_forget, Cond.selects RX1 yX1_forget yX1_forget, Cond.code yX1_forget cX1_forget 6 none, Cond.methodLink RX7 109 yX7_takeHow]
def wsX8_tell_r9 : List Cond := [Cond.static yX7_takeHow, Cond.code yX7_takeHow cX7_takeHow 1 (some .int), Cond.instanceMethod yX3_addMark, Cond.selects RX3 yX3_addMark yX3_addMark, Cond.code yX3_addMark cX3_addMark 3 (some .int), Cond.instanceMethod yX1_addMark, Cond.selects RX1 yX1_addMark yX1_addMark, Cond.code yX1_addMark cX1_addMark 4 (some .int), Cond.methodLink RX7 38 yX7_tellFinishes, Cond.static yX7_tellFinishes, Cond.code yX7_tellFinishes cX7_tellFinishes 6 (some .boolean), Cond.constant RX7 131 (999999), Cond.instanceMethod yX6_hasInt, Cond.selects RX6 yX6_hasInt yX6_hasInt, Cond.code yX6_hasInt cX6_hasInt 1 (some .boolean), Cond.methodLink RX7 58 yX7_takeRider, Cond.static yX7_takeRider, Cond.code yX7_takeRider cX7_takeRider 2 (some .int), Cond.instanceMethod yX3_addFinish, Cond.selects RX3 yX3_addFinish yX3_addFinish, Cond.code yX3_addFinish cX3_addFinish 3 (some .boolean), Cond.methodLink RX3 84 yX3_isIn, Cond.instanceMethod yX3_isIn, Cond.selects RX3 yX3_isIn yX3_isIn]
def wsX8_tell_r10 : List Cond := [Cond.code yX3_isIn cX3_isIn 2 (some .boolean), Cond.methodLink RX3 142 yX3_hasRider, Cond.instanceMethod yX3_hasRider, Cond.selects RX3 yX3_hasRider yX3_hasRider, Cond.code yX3_hasRider cX3_hasRider 2 (some .boolean), Cond.instanceMethod yX4_addFinish, Cond.selects RX4 yX4_addFinish yX4_addFinish, Cond.code yX4_addFinish cX4_addFinish 3 (some .boolean), Cond.constant RX4 104 (999999), Cond.methodLink RX7 43 yX7_tellCrossings, Cond.static yX7_tellCrossings, Cond.code yX7_tellCrossings cX7_tellCrossings 5 (some .boolean), Cond.instanceMethod yX3_latestMarks, Cond.selects RX3 yX3_latestMarks yX3_latestMarks, Cond.code yX3_latestMarks cX3_latestMarks 1 (some .int), Cond.instanceMethod yX3_addCrossing, Cond.selects RX3 yX3_addCrossing yX3_addCrossing, Cond.code yX3_addCrossing cX3_addCrossing 3 (some .int), Cond.instanceMethod yX1_addCrossing, Cond.selects RX1 yX1_addCrossing yX1_addCrossing, Cond.code yX1_addCrossing cX1_addCrossing 3 (some .int), Cond.methodLink RX1 44 yX1_hasCrossed, Cond.instanceMethod yX1_hasCrossed, Cond.selects RX1 yX1_hasCrossed yX1_hasCrossed]
def wsX8_tell_r11 : List Cond := [Cond.code yX1_hasCrossed cX1_hasCrossed 4 (some .boolean), Cond.methodLink RX7 48 yX7_tellFall, Cond.static yX7_tellFall, Cond.code yX7_tellFall cX7_tellFall 5 (some .boolean), Cond.instanceMethod yX3_latestLength, Cond.selects RX3 yX3_latestLength yX3_latestLength, Cond.code yX3_latestLength cX3_latestLength 1 (some .int), Cond.instanceMethod yX3_addFall, Cond.selects RX3 yX3_addFall yX3_addFall, Cond.code yX3_addFall cX3_addFall 4 (some .boolean), Cond.instanceMethod yX4_addFall, Cond.selects RX4 yX4_addFall yX4_addFall, Cond.code yX4_addFall cX4_addFall 4 (some .boolean), Cond.methodLink RX7 53 yX7_tellJury, Cond.static yX7_tellJury, Cond.code yX7_tellJury cX7_tellJury 4 (some .boolean), Cond.instanceMethod yX3_addJury, Cond.selects RX3 yX3_addJury yX3_addJury, Cond.code yX3_addJury cX3_addJury 3 (some .int), Cond.instanceMethod yX4_addJury, Cond.selects RX4 yX4_addJury yX4_addJury, Cond.code yX4_addJury cX4_addJury 3 (some .int), Cond.constant RX4 112 (99999), Cond.instanceMethod yX3_addGrace]
def wsX8_tell_r12 : List Cond := [Cond.selects RX3 yX3_addGrace yX3_addGrace, Cond.code yX3_addGrace cX3_addGrace 2 (some .boolean), Cond.instanceMethod yX4_addGrace, Cond.selects RX4 yX4_addGrace yX4_addGrace, Cond.code yX4_addGrace cX4_addGrace 2 (some .boolean), Cond.instanceMethod yX3_dropRider, Cond.selects RX3 yX3_dropRider yX3_dropRider, Cond.code yX3_dropRider cX3_dropRider 2 (some .boolean), Cond.instanceMethod yX3_setGap, Cond.selects RX3 yX3_setGap yX3_setGap, Cond.code yX3_setGap cX3_setGap 2 (some .boolean), Cond.instanceMethod yX3_setZone, Cond.selects RX3 yX3_setZone yX3_setZone, Cond.code yX3_setZone cX3_setZone 2 (some .boolean), Cond.instanceMethod yX3_closeStage, Cond.selects RX3 yX3_closeStage yX3_closeStage, Cond.code yX3_closeStage cX3_closeStage 2 (some .int), Cond.instanceMethod yX4_rank, Cond.selects RX4 yX4_rank yX4_rank, Cond.code yX4_rank cX4_rank 4 none, Cond.instanceMethod yX4_split, Cond.selects RX4 yX4_split yX4_split, Cond.code yX4_split cX4_split 5 none, Cond.methodLink RX4 121 yX4_beginsBunch]
def wsX8_tell_r13 : List Cond := [Cond.instanceMethod yX4_beginsBunch, Cond.selects RX4 yX4_beginsBunch yX4_beginsBunch, Cond.code yX4_beginsBunch cX4_beginsBunch 3 (some .boolean), Cond.methodLink RX4 117 yX4_space, Cond.instanceMethod yX4_space, Cond.selects RX4 yX4_space yX4_space, Cond.code yX4_space cX4_space 2 (some .int), Cond.instanceMethod yX4_takeTimes, Cond.selects RX4 yX4_takeTimes yX4_takeTimes, Cond.code yX4_takeTimes cX4_takeTimes 4 none, Cond.constant RX4 125 (1000000), Cond.methodLink RX4 130 Lib.Math.min.name, Cond.static Lib.Math.min.name, Cond.initialized "java/lang/Math", Cond.code Lib.Math.min.name Lib.Math.min.code 2 (some .int), Cond.methodLink RX4 126 yX4_leastRaw, Cond.instanceMethod yX4_leastRaw, Cond.selects RX4 yX4_leastRaw yX4_leastRaw, Cond.code yX4_leastRaw cX4_leastRaw 6 (some .int), Cond.methodLink RX4 135 yX4_fallCounts, Cond.instanceMethod yX4_fallCounts, Cond.selects RX4 yX4_fallCounts yX4_fallCounts, Cond.code yX4_fallCounts cX4_fallCounts 4 (some .boolean), Cond.methodLink RX4 138 yX4_hasFinish]
def wsX8_tell_r14 : List Cond := [Cond.instanceMethod yX4_hasFinish, Cond.selects RX4 yX4_hasFinish yX4_hasFinish, Cond.code yX4_hasFinish cX4_hasFinish 2 (some .boolean), Cond.instanceMethod yX4_judge, Cond.selects RX4 yX4_judge yX4_judge, Cond.code yX4_judge cX4_judge 3 none, Cond.methodLink RX4 142 Lib.Math.max.name, Cond.static Lib.Math.max.name, Cond.code Lib.Math.max.name Lib.Math.max.code 2 (some .int), Cond.fieldLink RX4 145 "BunchTimes$Stage" "LIMIT_HUNDREDTHS" "[I", Cond.instanceMethod yX2_awardOrder, Cond.selects RX2 yX2_awardOrder yX2_awardOrder, Cond.code yX2_awardOrder cX2_awardOrder 5 none, Cond.fieldLink RX2 45 "BunchTimes$Prizes" "ORDER_BONUS" "[I", Cond.fieldLink RX2 52 "BunchTimes$Prizes" "ORDER_POINTS" "[I", Cond.instanceMethod yX2_awardMarks, Cond.selects RX2 yX2_awardMarks yX2_awardMarks, Cond.code yX2_awardMarks cX2_awardMarks 7 none, Cond.methodLink RX2 70 yX2_awardOver, Cond.instanceMethod yX2_awardOver, Cond.selects RX2 yX2_awardOver yX2_awardOver, Cond.code yX2_awardOver cX2_awardOver 5 none, Cond.fieldLink RX2 74 "BunchTimes$Prizes" "CLIMB_DOTS" "[I", Cond.fieldLink RX2 77 "BunchTimes$Prizes" "SPRINT_BONUS" "[I"]
def wsX8_tell_r15 : List Cond := [Cond.fieldLink RX2 80 "BunchTimes$Prizes" "SPRINT_POINTS" "[I", Cond.methodLink RX3 135 yX3_sendOut, Cond.instanceMethod yX3_sendOut, Cond.selects RX3 yX3_sendOut yX3_sendOut, Cond.code yX3_sendOut cX3_sendOut 4 (some .int), Cond.instanceMethod yX4_sendsOut, Cond.selects RX4 yX4_sendsOut yX4_sendsOut, Cond.code yX4_sendsOut cX4_sendsOut 2 (some .boolean), Cond.instanceMethod yX6_endStatement, Cond.selects RX6 yX6_endStatement yX6_endStatement, Cond.code yX6_endStatement cX6_endStatement 3 none]
def wsX8_tell : List Cond := .code yX8_tell cX8_tell 3 (some .int) :: ((wsX8_tell_r1 ++ (wsX8_tell_r2 ++ (wsX8_tell_r3 ++ (wsX8_tell_r4 ++ (wsX8_tell_r5 ++ (wsX8_tell_r6 ++ (wsX8_tell_r7 ++ (wsX8_tell_r8 ++ (wsX8_tell_r9 ++ (wsX8_tell_r10 ++ (wsX8_tell_r11 ++ (wsX8_tell_r12 ++ (wsX8_tell_r13 ++ (wsX8_tell_r14 ++ wsX8_tell_r15)))))))))))))) ++ wsX80 ++ wsX60 ++ wsX30 ++ wsX40 ++ wsX10 ++ wsX20)
def wsX8_fault : List Cond := .code yX8_fault cX8_fault 1 (some .int) :: ([.fieldLink RX8 33 "BunchTimes" "tape" "LBunchTimes$Tape;"] ++ wsX80 ++ wsX60)
def wsX8_team : List Cond := .code yX8_team cX8_team 1 (some .int) :: ([.fieldLink RX8 10 "BunchTimes" "race" "LBunchTimes$Race;", .instanceMethod yX3_addTeam, .initialized RX3, .selects RX3 yX3_addTeam yX3_addTeam, .code yX3_addTeam cX3_addTeam 1 (some .int), .fieldLink RX3 36 "BunchTimes$Race" "teams" "I"] ++ wsX80 ++ wsX30)
def wsX8_rider : List Cond := .code yX8_rider cX8_rider 3 (some .int) :: ([.fieldLink RX8 10 "BunchTimes" "race" "LBunchTimes$Race;", .instanceMethod yX3_addRider, .initialized RX3, .selects RX3 yX3_addRider yX3_addRider, .code yX3_addRider cX3_addRider 3 (some .int), .fieldLink RX3 39 "BunchTimes$Race" "riders" "I", .fieldLink RX3 36 "BunchTimes$Race" "teams" "I", .fieldLink RX3 45 "BunchTimes$Race" "open" "Z", .fieldLink RX3 18 "BunchTimes$Race" "teamOf" "[I", .fieldLink RX3 22 "BunchTimes$Race" "age" "[I", .fieldLink RX3 25 "BunchTimes$Race" "in" "[Z", .static yX8_within, .initialized RX8, .code yX8_within cX8_within 3 (some .boolean), .methodLink RX3 63 yX3_latestFinishers, .instanceMethod yX3_latestFinishers, .selects RX3 yX3_latestFinishers yX3_latestFinishers, .code yX3_latestFinishers cX3_latestFinishers 1 (some .int), .fieldLink RX3 42 "BunchTimes$Race" "stages" "I", .fieldLink RX3 31 "BunchTimes$Race" "all" "[LBunchTimes$Stage;"] ++ wsX80 ++ wsX30 ++ wsX40)
def wsX8_stage_r1 : List Cond := [Cond.fieldLink RX8 10 "BunchTimes" "race" "LBunchTimes$Race;", Cond.instanceMethod yX3_openStage, Cond.initialized RX3, Cond.selects RX3 yX3_openStage yX3_openStage, Cond.code yX3_openStage cX3_openStage 3 (some .int), Cond.fieldLink RX3 42 "BunchTimes$Race" "stages" "I", Cond.fieldLink RX3 45 "BunchTimes$Race" "open" "Z", Cond.fieldLink RX3 31 "BunchTimes$Race" "all" "[LBunchTimes$Stage;", Cond.static yX8_within, Cond.initialized RX8, Cond.code yX8_within cX8_within 3 (some .boolean), Cond.methodLink RX3 67 yX3_countIn, Cond.instanceMethod yX3_countIn, Cond.selects RX3 yX3_countIn yX3_countIn, Cond.code yX3_countIn cX3_countIn 3 (some .int), Cond.fieldLink RX3 39 "BunchTimes$Race" "riders" "I", Cond.fieldLink RX3 25 "BunchTimes$Race" "in" "[Z", Cond.instanceMethod yX4_begin, Cond.initialized RX4, Cond.selects RX4 yX4_begin yX4_begin, Cond.code yX4_begin cX4_begin 4 none, Cond.fieldLink RX4 12 "BunchTimes$Stage" "course" "LBunchTimes$Course;", Cond.fieldLink RX4 68 "BunchTimes$Stage" "finishers" "I", Cond.instanceMethod yX1_begin]
def wsX8_stage_r2 : List Cond := [Cond.initialized RX1, Cond.selects RX1 yX1_begin yX1_begin, Cond.code yX1_begin cX1_begin 3 none, Cond.fieldLink RX1 24 "BunchTimes$Course" "kind" "I", Cond.fieldLink RX1 28 "BunchTimes$Course" "length" "I", Cond.fieldLink RX1 31 "BunchTimes$Course" "marks" "I", Cond.methodLink RX4 64 yX4_forget, Cond.instanceMethod yX4_forget, Cond.selects RX4 yX4_forget yX4_forget, Cond.code yX4_forget cX4_forget 2 none, Cond.fieldLink RX4 25 "BunchTimes$Stage" "finish" "[I", Cond.fieldLink RX4 29 "BunchTimes$Stage" "fallKm" "[I", Cond.fieldLink RX4 32 "BunchTimes$Stage" "fallWith" "[I", Cond.fieldLink RX4 35 "BunchTimes$Stage" "juried" "[I", Cond.fieldLink RX4 38 "BunchTimes$Stage" "graced" "[Z", Cond.instanceMethod yX1_forget, Cond.selects RX1 yX1_forget yX1_forget, Cond.code yX1_forget cX1_forget 6 none, Cond.fieldLink RX1 18 "BunchTimes$Course" "crossed" "[I", Cond.fieldLink RX1 21 "BunchTimes$Course" "crossing" "[I"]
def wsX8_stage : List Cond := .code yX8_stage cX8_stage 3 (some .int) :: ((wsX8_stage_r1 ++ wsX8_stage_r2) ++ wsX80 ++ wsX30 ++ wsX40 ++ wsX10)
def wsX8_mark : List Cond := .code yX8_mark cX8_mark 3 (some .int) :: ([.fieldLink RX8 10 "BunchTimes" "race" "LBunchTimes$Race;", .instanceMethod yX3_addMark, .initialized RX3, .selects RX3 yX3_addMark yX3_addMark, .code yX3_addMark cX3_addMark 3 (some .int), .fieldLink RX3 45 "BunchTimes$Race" "open" "Z", .fieldLink RX3 31 "BunchTimes$Race" "all" "[LBunchTimes$Stage;", .fieldLink RX3 42 "BunchTimes$Race" "stages" "I", .instanceMethod yX1_addMark, .initialized RX1, .selects RX1 yX1_addMark yX1_addMark, .code yX1_addMark cX1_addMark 4 (some .int), .fieldLink RX1 31 "BunchTimes$Course" "marks" "I", .fieldLink RX1 9 "BunchTimes$Course" "km" "[I", .fieldLink RX1 28 "BunchTimes$Course" "length" "I", .fieldLink RX1 15 "BunchTimes$Course" "how" "[I", .fieldLink RX1 18 "BunchTimes$Course" "crossed" "[I", .static yX8_within, .initialized RX8, .code yX8_within cX8_within 3 (some .boolean)] ++ wsX80 ++ wsX30 ++ wsX40 ++ wsX10)
def wsX8_finish_r1 : List Cond := [Cond.fieldLink RX8 10 "BunchTimes" "race" "LBunchTimes$Race;", Cond.instanceMethod yX3_addFinish, Cond.initialized RX3, Cond.selects RX3 yX3_addFinish yX3_addFinish, Cond.code yX3_addFinish cX3_addFinish 3 (some .boolean), Cond.fieldLink RX3 45 "BunchTimes$Race" "open" "Z", Cond.fieldLink RX3 31 "BunchTimes$Race" "all" "[LBunchTimes$Stage;", Cond.fieldLink RX3 42 "BunchTimes$Race" "stages" "I", Cond.methodLink RX3 84 yX3_isIn, Cond.instanceMethod yX3_isIn, Cond.selects RX3 yX3_isIn yX3_isIn, Cond.code yX3_isIn cX3_isIn 2 (some .boolean), Cond.fieldLink RX3 25 "BunchTimes$Race" "in" "[Z", Cond.methodLink RX3 142 yX3_hasRider, Cond.instanceMethod yX3_hasRider, Cond.selects RX3 yX3_hasRider yX3_hasRider, Cond.code yX3_hasRider cX3_hasRider 2 (some .boolean), Cond.fieldLink RX3 39 "BunchTimes$Race" "riders" "I", Cond.static yX8_within, Cond.initialized RX8, Cond.code yX8_within cX8_within 3 (some .boolean), Cond.instanceMethod yX4_addFinish, Cond.initialized RX4, Cond.selects RX4 yX4_addFinish yX4_addFinish]
def wsX8_finish_r2 : List Cond := [Cond.code yX4_addFinish cX4_addFinish 3 (some .boolean), Cond.fieldLink RX4 25 "BunchTimes$Stage" "finish" "[I", Cond.constant RX4 104 (999999), Cond.fieldLink RX4 68 "BunchTimes$Stage" "finishers" "I"]
def wsX8_finish : List Cond := .code yX8_finish cX8_finish 3 (some .boolean) :: ((wsX8_finish_r1 ++ wsX8_finish_r2) ++ wsX80 ++ wsX30 ++ wsX40)
def wsX8_over_r1 : List Cond := [Cond.fieldLink RX8 10 "BunchTimes" "race" "LBunchTimes$Race;", Cond.instanceMethod yX3_addCrossing, Cond.initialized RX3, Cond.selects RX3 yX3_addCrossing yX3_addCrossing, Cond.code yX3_addCrossing cX3_addCrossing 3 (some .int), Cond.fieldLink RX3 45 "BunchTimes$Race" "open" "Z", Cond.fieldLink RX3 31 "BunchTimes$Race" "all" "[LBunchTimes$Stage;", Cond.fieldLink RX3 42 "BunchTimes$Race" "stages" "I", Cond.methodLink RX3 84 yX3_isIn, Cond.instanceMethod yX3_isIn, Cond.selects RX3 yX3_isIn yX3_isIn, Cond.code yX3_isIn cX3_isIn 2 (some .boolean), Cond.fieldLink RX3 25 "BunchTimes$Race" "in" "[Z", Cond.methodLink RX3 142 yX3_hasRider, Cond.instanceMethod yX3_hasRider, Cond.selects RX3 yX3_hasRider yX3_hasRider, Cond.code yX3_hasRider cX3_hasRider 2 (some .boolean), Cond.fieldLink RX3 39 "BunchTimes$Race" "riders" "I", Cond.static yX8_within, Cond.initialized RX8, Cond.code yX8_within cX8_within 3 (some .boolean), Cond.instanceMethod yX1_addCrossing, Cond.initialized RX1, Cond.selects RX1 yX1_addCrossing yX1_addCrossing]
def wsX8_over_r2 : List Cond := [Cond.code yX1_addCrossing cX1_addCrossing 3 (some .int), Cond.fieldLink RX1 31 "BunchTimes$Course" "marks" "I", Cond.fieldLink RX1 18 "BunchTimes$Course" "crossed" "[I", Cond.fieldLink RX1 21 "BunchTimes$Course" "crossing" "[I", Cond.methodLink RX1 44 yX1_hasCrossed, Cond.instanceMethod yX1_hasCrossed, Cond.selects RX1 yX1_hasCrossed yX1_hasCrossed, Cond.code yX1_hasCrossed cX1_hasCrossed 4 (some .boolean)]
def wsX8_over : List Cond := .code yX8_over cX8_over 3 (some .int) :: ((wsX8_over_r1 ++ wsX8_over_r2) ++ wsX80 ++ wsX30 ++ wsX40 ++ wsX10)
def wsX8_fall_r1 : List Cond := [Cond.fieldLink RX8 10 "BunchTimes" "race" "LBunchTimes$Race;", Cond.instanceMethod yX3_addFall, Cond.initialized RX3, Cond.selects RX3 yX3_addFall yX3_addFall, Cond.code yX3_addFall cX3_addFall 4 (some .boolean), Cond.fieldLink RX3 45 "BunchTimes$Race" "open" "Z", Cond.fieldLink RX3 31 "BunchTimes$Race" "all" "[LBunchTimes$Stage;", Cond.fieldLink RX3 42 "BunchTimes$Race" "stages" "I", Cond.methodLink RX3 84 yX3_isIn, Cond.instanceMethod yX3_isIn, Cond.selects RX3 yX3_isIn yX3_isIn, Cond.code yX3_isIn cX3_isIn 2 (some .boolean), Cond.fieldLink RX3 25 "BunchTimes$Race" "in" "[Z", Cond.methodLink RX3 142 yX3_hasRider, Cond.instanceMethod yX3_hasRider, Cond.selects RX3 yX3_hasRider yX3_hasRider, Cond.code yX3_hasRider cX3_hasRider 2 (some .boolean), Cond.fieldLink RX3 39 "BunchTimes$Race" "riders" "I", Cond.static yX8_within, Cond.initialized RX8, Cond.code yX8_within cX8_within 3 (some .boolean), Cond.instanceMethod yX4_addFall, Cond.initialized RX4, Cond.selects RX4 yX4_addFall yX4_addFall]
def wsX8_fall_r2 : List Cond := [Cond.code yX4_addFall cX4_addFall 4 (some .boolean), Cond.fieldLink RX4 29 "BunchTimes$Stage" "fallKm" "[I", Cond.fieldLink RX4 12 "BunchTimes$Stage" "course" "LBunchTimes$Course;", Cond.fieldLink RX4 32 "BunchTimes$Stage" "fallWith" "[I"]
def wsX8_fall : List Cond := .code yX8_fall cX8_fall 4 (some .boolean) :: ((wsX8_fall_r1 ++ wsX8_fall_r2) ++ wsX80 ++ wsX30 ++ wsX40 ++ wsX10)
def wsX8_jury_r1 : List Cond := [Cond.fieldLink RX8 10 "BunchTimes" "race" "LBunchTimes$Race;", Cond.instanceMethod yX3_addJury, Cond.initialized RX3, Cond.selects RX3 yX3_addJury yX3_addJury, Cond.code yX3_addJury cX3_addJury 3 (some .int), Cond.fieldLink RX3 45 "BunchTimes$Race" "open" "Z", Cond.fieldLink RX3 31 "BunchTimes$Race" "all" "[LBunchTimes$Stage;", Cond.fieldLink RX3 42 "BunchTimes$Race" "stages" "I", Cond.methodLink RX3 84 yX3_isIn, Cond.instanceMethod yX3_isIn, Cond.selects RX3 yX3_isIn yX3_isIn, Cond.code yX3_isIn cX3_isIn 2 (some .boolean), Cond.fieldLink RX3 25 "BunchTimes$Race" "in" "[Z", Cond.methodLink RX3 142 yX3_hasRider, Cond.instanceMethod yX3_hasRider, Cond.selects RX3 yX3_hasRider yX3_hasRider, Cond.code yX3_hasRider cX3_hasRider 2 (some .boolean), Cond.fieldLink RX3 39 "BunchTimes$Race" "riders" "I", Cond.static yX8_within, Cond.initialized RX8, Cond.code yX8_within cX8_within 3 (some .boolean), Cond.instanceMethod yX4_addJury, Cond.initialized RX4, Cond.selects RX4 yX4_addJury yX4_addJury]
def wsX8_jury_r2 : List Cond := [Cond.code yX4_addJury cX4_addJury 3 (some .int), Cond.fieldLink RX4 35 "BunchTimes$Stage" "juried" "[I", Cond.constant RX4 112 (99999)]
def wsX8_jury : List Cond := .code yX8_jury cX8_jury 3 (some .int) :: ((wsX8_jury_r1 ++ wsX8_jury_r2) ++ wsX80 ++ wsX30 ++ wsX40)
def wsX8_grace_r1 : List Cond := [Cond.fieldLink RX8 10 "BunchTimes" "race" "LBunchTimes$Race;", Cond.instanceMethod yX3_addGrace, Cond.initialized RX3, Cond.selects RX3 yX3_addGrace yX3_addGrace, Cond.code yX3_addGrace cX3_addGrace 2 (some .boolean), Cond.fieldLink RX3 45 "BunchTimes$Race" "open" "Z", Cond.fieldLink RX3 31 "BunchTimes$Race" "all" "[LBunchTimes$Stage;", Cond.fieldLink RX3 42 "BunchTimes$Race" "stages" "I", Cond.methodLink RX3 84 yX3_isIn, Cond.instanceMethod yX3_isIn, Cond.selects RX3 yX3_isIn yX3_isIn, Cond.code yX3_isIn cX3_isIn 2 (some .boolean), Cond.fieldLink RX3 25 "BunchTimes$Race" "in" "[Z", Cond.methodLink RX3 142 yX3_hasRider, Cond.instanceMethod yX3_hasRider, Cond.selects RX3 yX3_hasRider yX3_hasRider, Cond.code yX3_hasRider cX3_hasRider 2 (some .boolean), Cond.fieldLink RX3 39 "BunchTimes$Race" "riders" "I", Cond.static yX8_within, Cond.initialized RX8, Cond.code yX8_within cX8_within 3 (some .boolean), Cond.instanceMethod yX4_addGrace, Cond.initialized RX4, Cond.selects RX4 yX4_addGrace yX4_addGrace]
def wsX8_grace_r2 : List Cond := [Cond.code yX4_addGrace cX4_addGrace 2 (some .boolean), Cond.fieldLink RX4 38 "BunchTimes$Stage" "graced" "[Z"]
def wsX8_grace : List Cond := .code yX8_grace cX8_grace 2 (some .boolean) :: ((wsX8_grace_r1 ++ wsX8_grace_r2) ++ wsX80 ++ wsX30 ++ wsX40)
def wsX8_quit_r1 : List Cond := [Cond.fieldLink RX8 10 "BunchTimes" "race" "LBunchTimes$Race;", Cond.instanceMethod yX3_dropRider, Cond.initialized RX3, Cond.selects RX3 yX3_dropRider yX3_dropRider, Cond.code yX3_dropRider cX3_dropRider 2 (some .boolean), Cond.fieldLink RX3 45 "BunchTimes$Race" "open" "Z", Cond.fieldLink RX3 31 "BunchTimes$Race" "all" "[LBunchTimes$Stage;", Cond.fieldLink RX3 42 "BunchTimes$Race" "stages" "I", Cond.fieldLink RX3 25 "BunchTimes$Race" "in" "[Z", Cond.methodLink RX3 84 yX3_isIn, Cond.instanceMethod yX3_isIn, Cond.selects RX3 yX3_isIn yX3_isIn, Cond.code yX3_isIn cX3_isIn 2 (some .boolean), Cond.methodLink RX3 142 yX3_hasRider, Cond.instanceMethod yX3_hasRider, Cond.selects RX3 yX3_hasRider yX3_hasRider, Cond.code yX3_hasRider cX3_hasRider 2 (some .boolean), Cond.fieldLink RX3 39 "BunchTimes$Race" "riders" "I", Cond.static yX8_within, Cond.initialized RX8, Cond.code yX8_within cX8_within 3 (some .boolean), Cond.instanceMethod yX4_forget, Cond.initialized RX4, Cond.selects RX4 yX4_forget yX4_forget]
def wsX8_quit_r2 : List Cond := [Cond.code yX4_forget cX4_forget 2 none, Cond.fieldLink RX4 25 "BunchTimes$Stage" "finish" "[I", Cond.fieldLink RX4 68 "BunchTimes$Stage" "finishers" "I", Cond.fieldLink RX4 29 "BunchTimes$Stage" "fallKm" "[I", Cond.fieldLink RX4 32 "BunchTimes$Stage" "fallWith" "[I", Cond.fieldLink RX4 35 "BunchTimes$Stage" "juried" "[I", Cond.fieldLink RX4 38 "BunchTimes$Stage" "graced" "[Z", Cond.fieldLink RX4 12 "BunchTimes$Stage" "course" "LBunchTimes$Course;", Cond.instanceMethod yX1_forget, Cond.initialized RX1, Cond.selects RX1 yX1_forget yX1_forget, Cond.code yX1_forget cX1_forget 6 none, Cond.fieldLink RX1 31 "BunchTimes$Course" "marks" "I", Cond.fieldLink RX1 18 "BunchTimes$Course" "crossed" "[I", Cond.fieldLink RX1 21 "BunchTimes$Course" "crossing" "[I"]
def wsX8_quit : List Cond := .code yX8_quit cX8_quit 2 (some .boolean) :: ((wsX8_quit_r1 ++ wsX8_quit_r2) ++ wsX80 ++ wsX30 ++ wsX40 ++ wsX10)
def wsX8_rule : List Cond := .code yX8_rule cX8_rule 3 (some .boolean) :: ([.fieldLink RX8 10 "BunchTimes" "race" "LBunchTimes$Race;", .instanceMethod yX3_setGap, .initialized RX3, .selects RX3 yX3_setGap yX3_setGap, .code yX3_setGap cX3_setGap 2 (some .boolean), .fieldLink RX3 9 "BunchTimes$Race" "gap" "I", .static yX8_within, .initialized RX8, .code yX8_within cX8_within 3 (some .boolean), .instanceMethod yX3_setZone, .selects RX3 yX3_setZone yX3_setZone, .code yX3_setZone cX3_setZone 2 (some .boolean), .fieldLink RX3 15 "BunchTimes$Race" "zone" "I"] ++ wsX80 ++ wsX30)
def wsX8_close_r1 : List Cond := [Cond.fieldLink RX8 10 "BunchTimes" "race" "LBunchTimes$Race;", Cond.instanceMethod yX3_closeStage, Cond.initialized RX3, Cond.selects RX3 yX3_closeStage yX3_closeStage, Cond.code yX3_closeStage cX3_closeStage 2 (some .int), Cond.fieldLink RX3 45 "BunchTimes$Race" "open" "Z", Cond.fieldLink RX3 31 "BunchTimes$Race" "all" "[LBunchTimes$Stage;", Cond.fieldLink RX3 42 "BunchTimes$Race" "stages" "I", Cond.fieldLink RX3 9 "BunchTimes$Race" "gap" "I", Cond.fieldLink RX3 15 "BunchTimes$Race" "zone" "I", Cond.instanceMethod yX4_rank, Cond.initialized RX4, Cond.selects RX4 yX4_rank yX4_rank, Cond.code yX4_rank cX4_rank 4 none, Cond.fieldLink RX4 25 "BunchTimes$Stage" "finish" "[I", Cond.fieldLink RX4 42 "BunchTimes$Stage" "order" "[I", Cond.fieldLink RX4 45 "BunchTimes$Stage" "place" "[I", Cond.instanceMethod yX4_split, Cond.selects RX4 yX4_split yX4_split, Cond.code yX4_split cX4_split 5 none, Cond.fieldLink RX4 85 "BunchTimes$Stage" "bunches" "I", Cond.fieldLink RX4 68 "BunchTimes$Stage" "finishers" "I", Cond.fieldLink RX4 48 "BunchTimes$Stage" "bunch" "[I", Cond.fieldLink RX4 51 "BunchTimes$Stage" "raw" "[I"]
def wsX8_close_r2 : List Cond := [Cond.methodLink RX4 121 yX4_beginsBunch, Cond.instanceMethod yX4_beginsBunch, Cond.selects RX4 yX4_beginsBunch yX4_beginsBunch, Cond.code yX4_beginsBunch cX4_beginsBunch 3 (some .boolean), Cond.fieldLink RX4 12 "BunchTimes$Stage" "course" "LBunchTimes$Course;", Cond.methodLink RX4 117 yX4_space, Cond.instanceMethod yX4_space, Cond.selects RX4 yX4_space yX4_space, Cond.code yX4_space cX4_space 2 (some .int), Cond.instanceMethod yX4_takeTimes, Cond.selects RX4 yX4_takeTimes yX4_takeTimes, Cond.code yX4_takeTimes cX4_takeTimes 4 none, Cond.constant RX4 125 (1000000), Cond.fieldLink RX4 88 "BunchTimes$Stage" "best" "I", Cond.fieldLink RX4 54 "BunchTimes$Stage" "time" "[I", Cond.methodLink RX4 130 Lib.Math.min.name, Cond.static Lib.Math.min.name, Cond.initialized "java/lang/Math", Cond.code Lib.Math.min.name Lib.Math.min.code 2 (some .int), Cond.methodLink RX4 126 yX4_leastRaw, Cond.instanceMethod yX4_leastRaw, Cond.selects RX4 yX4_leastRaw yX4_leastRaw, Cond.code yX4_leastRaw cX4_leastRaw 6 (some .int), Cond.fieldLink RX4 32 "BunchTimes$Stage" "fallWith" "[I"]
def wsX8_close_r3 : List Cond := [Cond.methodLink RX4 135 yX4_fallCounts, Cond.instanceMethod yX4_fallCounts, Cond.selects RX4 yX4_fallCounts yX4_fallCounts, Cond.code yX4_fallCounts cX4_fallCounts 4 (some .boolean), Cond.fieldLink RX4 29 "BunchTimes$Stage" "fallKm" "[I", Cond.methodLink RX4 138 yX4_hasFinish, Cond.instanceMethod yX4_hasFinish, Cond.selects RX4 yX4_hasFinish yX4_hasFinish, Cond.code yX4_hasFinish cX4_hasFinish 2 (some .boolean), Cond.static yX8_within, Cond.initialized RX8, Cond.code yX8_within cX8_within 3 (some .boolean), Cond.instanceMethod yX4_judge, Cond.selects RX4 yX4_judge yX4_judge, Cond.code yX4_judge cX4_judge 3 none, Cond.methodLink RX4 142 Lib.Math.max.name, Cond.static Lib.Math.max.name, Cond.code Lib.Math.max.name Lib.Math.max.code 2 (some .int), Cond.fieldLink RX4 91 "BunchTimes$Stage" "speed" "I", Cond.fieldLink RX4 145 "BunchTimes$Stage" "LIMIT_HUNDREDTHS" "[I", Cond.fieldLink RX4 94 "BunchTimes$Stage" "limit" "I", Cond.fieldLink RX4 97 "BunchTimes$Stage" "lateOnes" "I", Cond.fieldLink RX4 57 "BunchTimes$Stage" "late" "[Z", Cond.fieldLink RX4 38 "BunchTimes$Stage" "graced" "[Z"]
def wsX8_close_r4 : List Cond := [Cond.fieldLink RX4 100 "BunchTimes$Stage" "pardoned" "Z", Cond.instanceMethod yX2_awardOrder, Cond.initialized RX2, Cond.selects RX2 yX2_awardOrder yX2_awardOrder, Cond.code yX2_awardOrder cX2_awardOrder 5 none, Cond.fieldLink RX2 9 "BunchTimes$Prizes" "bonus" "[I", Cond.fieldLink RX2 15 "BunchTimes$Prizes" "points" "[I", Cond.fieldLink RX2 18 "BunchTimes$Prizes" "dots" "[I", Cond.fieldLink RX2 45 "BunchTimes$Prizes" "ORDER_BONUS" "[I", Cond.fieldLink RX2 52 "BunchTimes$Prizes" "ORDER_POINTS" "[I", Cond.instanceMethod yX2_awardMarks, Cond.selects RX2 yX2_awardMarks yX2_awardMarks, Cond.code yX2_awardMarks cX2_awardMarks 7 none, Cond.methodLink RX2 70 yX2_awardOver, Cond.instanceMethod yX2_awardOver, Cond.selects RX2 yX2_awardOver yX2_awardOver, Cond.code yX2_awardOver cX2_awardOver 5 none, Cond.fieldLink RX2 74 "BunchTimes$Prizes" "CLIMB_DOTS" "[I", Cond.fieldLink RX2 77 "BunchTimes$Prizes" "SPRINT_BONUS" "[I", Cond.fieldLink RX2 80 "BunchTimes$Prizes" "SPRINT_POINTS" "[I", Cond.methodLink RX3 135 yX3_sendOut, Cond.instanceMethod yX3_sendOut, Cond.selects RX3 yX3_sendOut yX3_sendOut, Cond.code yX3_sendOut cX3_sendOut 4 (some .int)]
def wsX8_close_r5 : List Cond := [Cond.fieldLink RX3 39 "BunchTimes$Race" "riders" "I", Cond.fieldLink RX3 25 "BunchTimes$Race" "in" "[Z", Cond.instanceMethod yX4_sendsOut, Cond.selects RX4 yX4_sendsOut yX4_sendsOut, Cond.code yX4_sendsOut cX4_sendsOut 2 (some .boolean)]
def wsX8_close : List Cond := .code yX8_close cX8_close 1 (some .int) :: ((wsX8_close_r1 ++ (wsX8_close_r2 ++ (wsX8_close_r3 ++ (wsX8_close_r4 ++ wsX8_close_r5)))) ++ wsX80 ++ wsX30 ++ wsX40 ++ wsX10 ++ wsX20)
def wsX8_keep_r1 : List Cond := [Cond.fieldLink RX8 19 "BunchTimes" "kept" "[LBunchTimes$Race;", Cond.classLink RX8 7 RX3, Cond.instantiable RX3 10, Cond.initialized RX3, Cond.fieldLink RX8 10 "BunchTimes" "race" "LBunchTimes$Race;", Cond.methodLink RX8 45 yX8_within, Cond.static yX8_within, Cond.initialized RX8, Cond.code yX8_within cX8_within 3 (some .boolean), Cond.instanceMethod yX3_init, Cond.code yX3_init cX3_init 2 none, Cond.methodLink RX3 3 objectInit, Cond.instanceMethod objectInit, Cond.code objectInit ⟨#[0xb1]⟩ 1 none, Cond.fieldLink RX3 9 "BunchTimes$Race" "gap" "I", Cond.fieldLink RX3 15 "BunchTimes$Race" "zone" "I", Cond.arrayClass .int, Cond.fieldLink RX3 18 "BunchTimes$Race" "teamOf" "[I", Cond.fieldLink RX3 22 "BunchTimes$Race" "age" "[I", Cond.arrayClass .boolean, Cond.fieldLink RX3 25 "BunchTimes$Race" "in" "[Z", Cond.classLink RX3 29 RX4, Cond.fieldLink RX3 31 "BunchTimes$Race" "all" "[LBunchTimes$Stage;", Cond.instantiable RX4 20]
def wsX8_keep_r2 : List Cond := [Cond.initialized RX4, Cond.instanceMethod yX4_init, Cond.code yX4_init cX4_init 1 none, Cond.methodLink RX4 3 objectInit, Cond.classLink RX4 9 RX1, Cond.instantiable RX1 7, Cond.initialized RX1, Cond.fieldLink RX4 12 "BunchTimes$Stage" "course" "LBunchTimes$Course;", Cond.classLink RX4 18 RX2, Cond.instantiable RX2 3, Cond.initialized RX2, Cond.fieldLink RX4 21 "BunchTimes$Stage" "prizes" "LBunchTimes$Prizes;", Cond.fieldLink RX4 25 "BunchTimes$Stage" "finish" "[I", Cond.fieldLink RX4 29 "BunchTimes$Stage" "fallKm" "[I", Cond.fieldLink RX4 32 "BunchTimes$Stage" "fallWith" "[I", Cond.fieldLink RX4 35 "BunchTimes$Stage" "juried" "[I", Cond.fieldLink RX4 38 "BunchTimes$Stage" "graced" "[Z", Cond.fieldLink RX4 42 "BunchTimes$Stage" "order" "[I", Cond.fieldLink RX4 45 "BunchTimes$Stage" "place" "[I", Cond.fieldLink RX4 48 "BunchTimes$Stage" "bunch" "[I", Cond.fieldLink RX4 51 "BunchTimes$Stage" "raw" "[I", Cond.fieldLink RX4 54 "BunchTimes$Stage" "time" "[I", Cond.fieldLink RX4 57 "BunchTimes$Stage" "late" "[Z", Cond.instanceMethod yX1_init]
def wsX8_keep_r3 : List Cond := [Cond.code yX1_init cX1_init 1 none, Cond.methodLink RX1 3 objectInit, Cond.fieldLink RX1 9 "BunchTimes$Course" "km" "[I", Cond.fieldLink RX1 15 "BunchTimes$Course" "how" "[I", Cond.fieldLink RX1 18 "BunchTimes$Course" "crossed" "[I", Cond.fieldLink RX1 21 "BunchTimes$Course" "crossing" "[I", Cond.instanceMethod yX2_init, Cond.code yX2_init cX2_init 1 none, Cond.methodLink RX2 3 objectInit, Cond.fieldLink RX2 9 "BunchTimes$Prizes" "bonus" "[I", Cond.fieldLink RX2 15 "BunchTimes$Prizes" "points" "[I", Cond.fieldLink RX2 18 "BunchTimes$Prizes" "dots" "[I", Cond.instanceMethod yX3_copyFrom, Cond.selects RX3 yX3_copyFrom yX3_copyFrom, Cond.code yX3_copyFrom cX3_copyFrom 3 none, Cond.fieldLink RX3 36 "BunchTimes$Race" "teams" "I", Cond.fieldLink RX3 39 "BunchTimes$Race" "riders" "I", Cond.fieldLink RX3 42 "BunchTimes$Race" "stages" "I", Cond.fieldLink RX3 45 "BunchTimes$Race" "open" "Z", Cond.methodLink RX3 49 arraycopyName, Cond.native arraycopyName, Cond.static arraycopyName, Cond.initialized "java/lang/System", Cond.instanceMethod yX4_copyFrom]
def wsX8_keep_r4 : List Cond := [Cond.selects RX4 yX4_copyFrom yX4_copyFrom, Cond.code yX4_copyFrom cX4_copyFrom 2 none, Cond.methodLink RX4 79 arraycopyName, Cond.fieldLink RX4 68 "BunchTimes$Stage" "finishers" "I", Cond.fieldLink RX4 85 "BunchTimes$Stage" "bunches" "I", Cond.fieldLink RX4 88 "BunchTimes$Stage" "best" "I", Cond.fieldLink RX4 91 "BunchTimes$Stage" "speed" "I", Cond.fieldLink RX4 94 "BunchTimes$Stage" "limit" "I", Cond.fieldLink RX4 97 "BunchTimes$Stage" "lateOnes" "I", Cond.fieldLink RX4 100 "BunchTimes$Stage" "pardoned" "Z", Cond.instanceMethod yX1_copyFrom, Cond.selects RX1 yX1_copyFrom yX1_copyFrom, Cond.code yX1_copyFrom cX1_copyFrom 2 none, Cond.fieldLink RX1 24 "BunchTimes$Course" "kind" "I", Cond.fieldLink RX1 28 "BunchTimes$Course" "length" "I", Cond.fieldLink RX1 31 "BunchTimes$Course" "marks" "I", Cond.methodLink RX1 34 arraycopyName, Cond.instanceMethod yX2_copyFrom, Cond.selects RX2 yX2_copyFrom yX2_copyFrom, Cond.code yX2_copyFrom cX2_copyFrom 2 none, Cond.methodLink RX2 21 arraycopyName]
def wsX8_keep : List Cond := .code yX8_keep cX8_keep 2 (some .boolean) :: ((wsX8_keep_r1 ++ (wsX8_keep_r2 ++ (wsX8_keep_r3 ++ wsX8_keep_r4))) ++ wsX80 ++ wsX30 ++ wsX40 ++ wsX10 ++ wsX20)
def wsX8_back_r1 : List Cond := [Cond.fieldLink RX8 19 "BunchTimes" "kept" "[LBunchTimes$Race;", Cond.fieldLink RX8 10 "BunchTimes" "race" "LBunchTimes$Race;", Cond.methodLink RX8 45 yX8_within, Cond.static yX8_within, Cond.initialized RX8, Cond.code yX8_within cX8_within 3 (some .boolean), Cond.instanceMethod yX3_copyFrom, Cond.initialized RX3, Cond.selects RX3 yX3_copyFrom yX3_copyFrom, Cond.code yX3_copyFrom cX3_copyFrom 3 none, Cond.fieldLink RX3 36 "BunchTimes$Race" "teams" "I", Cond.fieldLink RX3 39 "BunchTimes$Race" "riders" "I", Cond.fieldLink RX3 42 "BunchTimes$Race" "stages" "I", Cond.fieldLink RX3 45 "BunchTimes$Race" "open" "Z", Cond.fieldLink RX3 9 "BunchTimes$Race" "gap" "I", Cond.fieldLink RX3 15 "BunchTimes$Race" "zone" "I", Cond.fieldLink RX3 18 "BunchTimes$Race" "teamOf" "[I", Cond.methodLink RX3 49 arraycopyName, Cond.native arraycopyName, Cond.static arraycopyName, Cond.initialized "java/lang/System", Cond.fieldLink RX3 22 "BunchTimes$Race" "age" "[I", Cond.fieldLink RX3 25 "BunchTimes$Race" "in" "[Z", Cond.fieldLink RX3 31 "BunchTimes$Race" "all" "[LBunchTimes$Stage;"]
def wsX8_back_r2 : List Cond := [Cond.instanceMethod yX4_copyFrom, Cond.initialized RX4, Cond.selects RX4 yX4_copyFrom yX4_copyFrom, Cond.code yX4_copyFrom cX4_copyFrom 2 none, Cond.fieldLink RX4 12 "BunchTimes$Stage" "course" "LBunchTimes$Course;", Cond.fieldLink RX4 21 "BunchTimes$Stage" "prizes" "LBunchTimes$Prizes;", Cond.fieldLink RX4 25 "BunchTimes$Stage" "finish" "[I", Cond.methodLink RX4 79 arraycopyName, Cond.fieldLink RX4 29 "BunchTimes$Stage" "fallKm" "[I", Cond.fieldLink RX4 32 "BunchTimes$Stage" "fallWith" "[I", Cond.fieldLink RX4 35 "BunchTimes$Stage" "juried" "[I", Cond.fieldLink RX4 38 "BunchTimes$Stage" "graced" "[Z", Cond.fieldLink RX4 68 "BunchTimes$Stage" "finishers" "I", Cond.fieldLink RX4 42 "BunchTimes$Stage" "order" "[I", Cond.fieldLink RX4 45 "BunchTimes$Stage" "place" "[I", Cond.fieldLink RX4 48 "BunchTimes$Stage" "bunch" "[I", Cond.fieldLink RX4 51 "BunchTimes$Stage" "raw" "[I", Cond.fieldLink RX4 54 "BunchTimes$Stage" "time" "[I", Cond.fieldLink RX4 57 "BunchTimes$Stage" "late" "[Z", Cond.fieldLink RX4 85 "BunchTimes$Stage" "bunches" "I", Cond.fieldLink RX4 88 "BunchTimes$Stage" "best" "I", Cond.fieldLink RX4 91 "BunchTimes$Stage" "speed" "I", Cond.fieldLink RX4 94 "BunchTimes$Stage" "limit" "I", Cond.fieldLink RX4 97 "BunchTimes$Stage" "lateOnes" "I"]
def wsX8_back_r3 : List Cond := [Cond.fieldLink RX4 100 "BunchTimes$Stage" "pardoned" "Z", Cond.instanceMethod yX1_copyFrom, Cond.initialized RX1, Cond.selects RX1 yX1_copyFrom yX1_copyFrom, Cond.code yX1_copyFrom cX1_copyFrom 2 none, Cond.fieldLink RX1 24 "BunchTimes$Course" "kind" "I", Cond.fieldLink RX1 28 "BunchTimes$Course" "length" "I", Cond.fieldLink RX1 31 "BunchTimes$Course" "marks" "I", Cond.fieldLink RX1 9 "BunchTimes$Course" "km" "[I", Cond.methodLink RX1 34 arraycopyName, Cond.fieldLink RX1 15 "BunchTimes$Course" "how" "[I", Cond.fieldLink RX1 18 "BunchTimes$Course" "crossed" "[I", Cond.fieldLink RX1 21 "BunchTimes$Course" "crossing" "[I", Cond.instanceMethod yX2_copyFrom, Cond.initialized RX2, Cond.selects RX2 yX2_copyFrom yX2_copyFrom, Cond.code yX2_copyFrom cX2_copyFrom 2 none, Cond.fieldLink RX2 9 "BunchTimes$Prizes" "bonus" "[I", Cond.methodLink RX2 21 arraycopyName, Cond.fieldLink RX2 15 "BunchTimes$Prizes" "points" "[I", Cond.fieldLink RX2 18 "BunchTimes$Prizes" "dots" "[I"]
def wsX8_back : List Cond := .code yX8_back cX8_back 2 (some .boolean) :: ((wsX8_back_r1 ++ (wsX8_back_r2 ++ wsX8_back_r3)) ++ wsX80 ++ wsX30 ++ wsX40 ++ wsX10 ++ wsX20)
def wsX8_count : List Cond := .code yX8_count cX8_count 2 (some .int) :: ([.fieldLink RX8 10 "BunchTimes" "race" "LBunchTimes$Race;", .fieldLink RX8 33 "BunchTimes" "tape" "LBunchTimes$Tape;", .instanceMethod yX3_countIn, .initialized RX3, .selects RX3 yX3_countIn yX3_countIn, .code yX3_countIn cX3_countIn 3 (some .int), .fieldLink RX3 39 "BunchTimes$Race" "riders" "I", .fieldLink RX3 25 "BunchTimes$Race" "in" "[Z", .instanceMethod yX3_closed, .selects RX3 yX3_closed yX3_closed, .code yX3_closed cX3_closed 1 (some .int), .fieldLink RX3 45 "BunchTimes$Race" "open" "Z", .fieldLink RX3 42 "BunchTimes$Race" "stages" "I", .instanceMethod yX3_latestMarks, .selects RX3 yX3_latestMarks yX3_latestMarks, .code yX3_latestMarks cX3_latestMarks 1 (some .int), .fieldLink RX3 31 "BunchTimes$Race" "all" "[LBunchTimes$Stage;", .instanceMethod yX3_latestFinishers, .selects RX3 yX3_latestFinishers yX3_latestFinishers, .code yX3_latestFinishers cX3_latestFinishers 1 (some .int)] ++ wsX80 ++ wsX30 ++ wsX60 ++ wsX40 ++ wsX10)
def wsX8_of_r1 : List Cond := [Cond.classLink RX8 149 "java/util/NoSuchElementException", Cond.initialized "java/util/NoSuchElementException", Cond.fieldLink RX8 10 "BunchTimes" "race" "LBunchTimes$Race;", Cond.instanceMethod yX3_hasRider, Cond.initialized RX3, Cond.selects RX3 yX3_hasRider yX3_hasRider, Cond.code yX3_hasRider cX3_hasRider 2 (some .boolean), Cond.fieldLink RX3 39 "BunchTimes$Race" "riders" "I", Cond.static yX8_within, Cond.initialized RX8, Cond.code yX8_within cX8_within 3 (some .boolean), Cond.methodLink RX8 45 yX8_within, Cond.instanceMethod yX3_gained, Cond.selects RX3 yX3_gained yX3_gained, Cond.code yX3_gained cX3_gained 5 (some .int), Cond.fieldLink RX3 31 "BunchTimes$Race" "all" "[LBunchTimes$Stage;", Cond.methodLink RX3 145 yX3_closed, Cond.instanceMethod yX3_closed, Cond.selects RX3 yX3_closed yX3_closed, Cond.code yX3_closed cX3_closed 1 (some .int), Cond.fieldLink RX3 45 "BunchTimes$Race" "open" "Z", Cond.fieldLink RX3 42 "BunchTimes$Race" "stages" "I", Cond.instanceMethod yX4_gainedBy, Cond.initialized RX4]
def wsX8_of_r2 : List Cond := [Cond.selects RX4 yX4_gainedBy yX4_gainedBy, Cond.code yX4_gainedBy cX4_gainedBy 3 (some .int), Cond.fieldLink RX4 21 "BunchTimes$Stage" "prizes" "LBunchTimes$Prizes;", Cond.fieldLink RX4 35 "BunchTimes$Stage" "juried" "[I"]
def wsX8_of : List Cond := .code yX8_of cX8_of 3 (some .int) :: ((wsX8_of_r1 ++ wsX8_of_r2) ++ wsX80 ++ wsX30 ++ wsX40 ++ wsX20 ++ (vx_at0 RX8 151 "java/util/NoSuchElementException" ["java/lang/RuntimeException", "java/lang/Exception"]).filter goodWord)
def wsX8_told_r1 : List Cond := [Cond.fieldLink RX8 10 "BunchTimes" "race" "LBunchTimes$Race;", Cond.instanceMethod yX3_closedStage, Cond.initialized RX3, Cond.selects RX3 yX3_closedStage yX3_closedStage, Cond.code yX3_closedStage cX3_closedStage 2 (some (.object "BunchTimes$Stage")), Cond.fieldLink RX3 31 "BunchTimes$Race" "all" "[LBunchTimes$Stage;", Cond.methodLink RX3 145 yX3_closed, Cond.instanceMethod yX3_closed, Cond.selects RX3 yX3_closed yX3_closed, Cond.code yX3_closed cX3_closed 1 (some .int), Cond.fieldLink RX3 45 "BunchTimes$Race" "open" "Z", Cond.fieldLink RX3 42 "BunchTimes$Race" "stages" "I", Cond.static yX8_within, Cond.initialized RX8, Cond.code yX8_within cX8_within 3 (some .boolean), Cond.instanceMethod yX4_fact, Cond.initialized RX4, Cond.selects RX4 yX4_fact yX4_fact, Cond.code yX4_fact cX4_fact 2 (some .int), Cond.fieldLink RX4 12 "BunchTimes$Stage" "course" "LBunchTimes$Course;", Cond.fieldLink RX4 68 "BunchTimes$Stage" "finishers" "I", Cond.fieldLink RX4 85 "BunchTimes$Stage" "bunches" "I", Cond.fieldLink RX4 88 "BunchTimes$Stage" "best" "I", Cond.fieldLink RX4 91 "BunchTimes$Stage" "speed" "I"]
def wsX8_told_r2 : List Cond := [Cond.fieldLink RX4 94 "BunchTimes$Stage" "limit" "I", Cond.fieldLink RX4 97 "BunchTimes$Stage" "lateOnes" "I", Cond.fieldLink RX4 100 "BunchTimes$Stage" "pardoned" "Z", Cond.methodLink RX4 148 yX4_countHelped, Cond.instanceMethod yX4_countHelped, Cond.selects RX4 yX4_countHelped yX4_countHelped, Cond.code yX4_countHelped cX4_countHelped 3 (some .int), Cond.fieldLink RX4 54 "BunchTimes$Stage" "time" "[I", Cond.fieldLink RX4 42 "BunchTimes$Stage" "order" "[I", Cond.fieldLink RX4 51 "BunchTimes$Stage" "raw" "[I", Cond.methodLink RX4 152 yX4_sumHelped, Cond.instanceMethod yX4_sumHelped, Cond.selects RX4 yX4_sumHelped yX4_sumHelped, Cond.code yX4_sumHelped cX4_sumHelped 3 (some .int)]
def wsX8_told : List Cond := .code yX8_told cX8_told 4 (some .int) :: ((wsX8_told_r1 ++ wsX8_told_r2) ++ wsX80 ++ wsX30 ++ wsX40 ++ wsX10)
def wsX8_order : List Cond := .code yX8_order cX8_order 4 (some .int) :: ([.fieldLink RX8 10 "BunchTimes" "race" "LBunchTimes$Race;", .instanceMethod yX3_closedStage, .initialized RX3, .selects RX3 yX3_closedStage yX3_closedStage, .code yX3_closedStage cX3_closedStage 2 (some (.object "BunchTimes$Stage")), .fieldLink RX3 31 "BunchTimes$Race" "all" "[LBunchTimes$Stage;", .methodLink RX3 145 yX3_closed, .instanceMethod yX3_closed, .selects RX3 yX3_closed yX3_closed, .code yX3_closed cX3_closed 1 (some .int), .fieldLink RX3 45 "BunchTimes$Race" "open" "Z", .fieldLink RX3 42 "BunchTimes$Race" "stages" "I", .static yX8_within, .initialized RX8, .code yX8_within cX8_within 3 (some .boolean), .methodLink RX8 45 yX8_within] ++ wsX80 ++ wsX40 ++ wsX30)
def wsX8_result_r1 : List Cond := [Cond.fieldLink RX8 10 "BunchTimes" "race" "LBunchTimes$Race;", Cond.instanceMethod yX3_closedStage, Cond.initialized RX3, Cond.selects RX3 yX3_closedStage yX3_closedStage, Cond.code yX3_closedStage cX3_closedStage 2 (some (.object "BunchTimes$Stage")), Cond.fieldLink RX3 31 "BunchTimes$Race" "all" "[LBunchTimes$Stage;", Cond.methodLink RX3 145 yX3_closed, Cond.instanceMethod yX3_closed, Cond.selects RX3 yX3_closed yX3_closed, Cond.code yX3_closed cX3_closed 1 (some .int), Cond.fieldLink RX3 45 "BunchTimes$Race" "open" "Z", Cond.fieldLink RX3 42 "BunchTimes$Race" "stages" "I", Cond.static yX8_within, Cond.initialized RX8, Cond.code yX8_within cX8_within 3 (some .boolean), Cond.instanceMethod yX3_hasRider, Cond.selects RX3 yX3_hasRider yX3_hasRider, Cond.code yX3_hasRider cX3_hasRider 2 (some .boolean), Cond.fieldLink RX3 39 "BunchTimes$Race" "riders" "I", Cond.instanceMethod yX4_resultOf, Cond.initialized RX4, Cond.selects RX4 yX4_resultOf yX4_resultOf, Cond.code yX4_resultOf cX4_resultOf 3 (some .int), Cond.fieldLink RX4 25 "BunchTimes$Stage" "finish" "[I"]
def wsX8_result_r2 : List Cond := [Cond.fieldLink RX4 51 "BunchTimes$Stage" "raw" "[I", Cond.fieldLink RX4 54 "BunchTimes$Stage" "time" "[I", Cond.fieldLink RX4 48 "BunchTimes$Stage" "bunch" "[I", Cond.fieldLink RX4 45 "BunchTimes$Stage" "place" "[I", Cond.fieldLink RX4 21 "BunchTimes$Stage" "prizes" "LBunchTimes$Prizes;"]
def wsX8_result : List Cond := .code yX8_result cX8_result 5 (some .int) :: ((wsX8_result_r1 ++ wsX8_result_r2) ++ wsX80 ++ wsX40 ++ wsX30 ++ wsX20)
def wsX8_parted_r1 : List Cond := [Cond.fieldLink RX8 10 "BunchTimes" "race" "LBunchTimes$Race;", Cond.instanceMethod yX3_closedStage, Cond.initialized RX3, Cond.selects RX3 yX3_closedStage yX3_closedStage, Cond.code yX3_closedStage cX3_closedStage 2 (some (.object "BunchTimes$Stage")), Cond.fieldLink RX3 31 "BunchTimes$Race" "all" "[LBunchTimes$Stage;", Cond.methodLink RX3 145 yX3_closed, Cond.instanceMethod yX3_closed, Cond.selects RX3 yX3_closed yX3_closed, Cond.code yX3_closed cX3_closed 1 (some .int), Cond.fieldLink RX3 45 "BunchTimes$Race" "open" "Z", Cond.fieldLink RX3 42 "BunchTimes$Race" "stages" "I", Cond.static yX8_within, Cond.initialized RX8, Cond.code yX8_within cX8_within 3 (some .boolean), Cond.methodLink RX8 45 yX8_within, Cond.instanceMethod yX4_countBunches, Cond.initialized RX4, Cond.selects RX4 yX4_countBunches yX4_countBunches, Cond.code yX4_countBunches cX4_countBunches 4 (some .int), Cond.fieldLink RX4 68 "BunchTimes$Stage" "finishers" "I", Cond.methodLink RX4 121 yX4_beginsBunch, Cond.instanceMethod yX4_beginsBunch, Cond.selects RX4 yX4_beginsBunch yX4_beginsBunch]
def wsX8_parted_r2 : List Cond := [Cond.code yX4_beginsBunch cX4_beginsBunch 3 (some .boolean), Cond.fieldLink RX4 12 "BunchTimes$Stage" "course" "LBunchTimes$Course;", Cond.methodLink RX4 117 yX4_space, Cond.instanceMethod yX4_space, Cond.selects RX4 yX4_space yX4_space, Cond.code yX4_space cX4_space 2 (some .int), Cond.fieldLink RX4 25 "BunchTimes$Stage" "finish" "[I", Cond.fieldLink RX4 42 "BunchTimes$Stage" "order" "[I"]
def wsX8_parted : List Cond := .code yX8_parted cX8_parted 4 (some .int) :: ((wsX8_parted_r1 ++ wsX8_parted_r2) ++ wsX80 ++ wsX30 ++ wsX40 ++ wsX10)
def wsX8_together_r1 : List Cond := [Cond.fieldLink RX8 10 "BunchTimes" "race" "LBunchTimes$Race;", Cond.instanceMethod yX3_closedStage, Cond.initialized RX3, Cond.selects RX3 yX3_closedStage yX3_closedStage, Cond.code yX3_closedStage cX3_closedStage 2 (some (.object "BunchTimes$Stage")), Cond.fieldLink RX3 31 "BunchTimes$Race" "all" "[LBunchTimes$Stage;", Cond.methodLink RX3 145 yX3_closed, Cond.instanceMethod yX3_closed, Cond.selects RX3 yX3_closed yX3_closed, Cond.code yX3_closed cX3_closed 1 (some .int), Cond.fieldLink RX3 45 "BunchTimes$Race" "open" "Z", Cond.fieldLink RX3 42 "BunchTimes$Race" "stages" "I", Cond.static yX8_within, Cond.initialized RX8, Cond.code yX8_within cX8_within 3 (some .boolean), Cond.instanceMethod yX4_joiningGap, Cond.initialized RX4, Cond.selects RX4 yX4_joiningGap yX4_joiningGap, Cond.code yX4_joiningGap cX4_joiningGap 3 (some .int), Cond.fieldLink RX4 12 "BunchTimes$Stage" "course" "LBunchTimes$Course;", Cond.fieldLink RX4 68 "BunchTimes$Stage" "finishers" "I", Cond.methodLink RX4 142 Lib.Math.max.name, Cond.static Lib.Math.max.name, Cond.initialized "java/lang/Math"]
def wsX8_together_r2 : List Cond := [Cond.code Lib.Math.max.name Lib.Math.max.code 2 (some .int), Cond.methodLink RX4 117 yX4_space, Cond.instanceMethod yX4_space, Cond.selects RX4 yX4_space yX4_space, Cond.code yX4_space cX4_space 2 (some .int), Cond.fieldLink RX4 25 "BunchTimes$Stage" "finish" "[I", Cond.fieldLink RX4 42 "BunchTimes$Stage" "order" "[I"]
def wsX8_together : List Cond := .code yX8_together cX8_together 3 (some .int) :: ((wsX8_together_r1 ++ wsX8_together_r2) ++ wsX80 ++ wsX30 ++ wsX40 ++ wsX10)
def wsX8_escaped_r1 : List Cond := [Cond.fieldLink RX8 10 "BunchTimes" "race" "LBunchTimes$Race;", Cond.instanceMethod yX3_closedStage, Cond.initialized RX3, Cond.selects RX3 yX3_closedStage yX3_closedStage, Cond.code yX3_closedStage cX3_closedStage 2 (some (.object "BunchTimes$Stage")), Cond.fieldLink RX3 31 "BunchTimes$Race" "all" "[LBunchTimes$Stage;", Cond.methodLink RX3 145 yX3_closed, Cond.instanceMethod yX3_closed, Cond.selects RX3 yX3_closed yX3_closed, Cond.code yX3_closed cX3_closed 1 (some .int), Cond.fieldLink RX3 45 "BunchTimes$Race" "open" "Z", Cond.fieldLink RX3 42 "BunchTimes$Race" "stages" "I", Cond.static yX8_within, Cond.initialized RX8, Cond.code yX8_within cX8_within 3 (some .boolean), Cond.instanceMethod yX4_aheadOfWidest, Cond.initialized RX4, Cond.selects RX4 yX4_aheadOfWidest yX4_aheadOfWidest, Cond.code yX4_aheadOfWidest cX4_aheadOfWidest 4 (some .int), Cond.fieldLink RX4 68 "BunchTimes$Stage" "finishers" "I", Cond.methodLink RX4 117 yX4_space, Cond.instanceMethod yX4_space, Cond.selects RX4 yX4_space yX4_space, Cond.code yX4_space cX4_space 2 (some .int)]
def wsX8_escaped_r2 : List Cond := [Cond.fieldLink RX4 25 "BunchTimes$Stage" "finish" "[I", Cond.fieldLink RX4 42 "BunchTimes$Stage" "order" "[I"]
def wsX8_escaped : List Cond := .code yX8_escaped cX8_escaped 3 (some .int) :: ((wsX8_escaped_r1 ++ wsX8_escaped_r2) ++ wsX80 ++ wsX30 ++ wsX40)
def wsX8_list_r1 : List Cond := [Cond.fieldLink RX8 26 "BunchTimes" "standings" "LBunchTimes$Standings;", Cond.fieldLink RX8 10 "BunchTimes" "race" "LBunchTimes$Race;", Cond.instanceMethod yX5_rankList, Cond.initialized RX5, Cond.selects RX5 yX5_rankList yX5_rankList, Cond.code yX5_rankList cX5_rankList 3 none, Cond.fieldLink RX5 24 "BunchTimes$Standings" "size" "I", Cond.instanceMethod yX3_closed, Cond.initialized RX3, Cond.selects RX3 yX3_closed yX3_closed, Cond.code yX3_closed cX3_closed 1 (some .int), Cond.fieldLink RX3 45 "BunchTimes$Race" "open" "Z", Cond.fieldLink RX3 42 "BunchTimes$Race" "stages" "I", Cond.methodLink RX5 38 yX5_rankRiders, Cond.instanceMethod yX5_rankRiders, Cond.selects RX5 yX5_rankRiders yX5_rankRiders, Cond.code yX5_rankRiders cX5_rankRiders 5 none, Cond.fieldLink RX5 15 "BunchTimes$Standings" "sums" "[I", Cond.fieldLink RX5 18 "BunchTimes$Standings" "places" "[I", Cond.instanceMethod yX3_sumOf, Cond.selects RX3 yX3_sumOf yX3_sumOf, Cond.code yX3_sumOf cX3_sumOf 5 (some .int), Cond.fieldLink RX3 31 "BunchTimes$Race" "all" "[LBunchTimes$Stage;", Cond.methodLink RX3 145 yX3_closed]
def wsX8_list_r2 : List Cond := [Cond.instanceMethod yX4_netTime, Cond.initialized RX4, Cond.selects RX4 yX4_netTime yX4_netTime, Cond.code yX4_netTime cX4_netTime 2 (some .int), Cond.fieldLink RX4 25 "BunchTimes$Stage" "finish" "[I", Cond.fieldLink RX4 94 "BunchTimes$Stage" "limit" "I", Cond.fieldLink RX4 54 "BunchTimes$Stage" "time" "[I", Cond.fieldLink RX4 35 "BunchTimes$Stage" "juried" "[I", Cond.fieldLink RX4 21 "BunchTimes$Stage" "prizes" "LBunchTimes$Prizes;", Cond.instanceMethod yX3_placesOf, Cond.selects RX3 yX3_placesOf yX3_placesOf, Cond.code yX3_placesOf cX3_placesOf 5 (some .int), Cond.instanceMethod yX4_placeOf, Cond.selects RX4 yX4_placeOf yX4_placeOf, Cond.code yX4_placeOf cX4_placeOf 2 (some .int), Cond.fieldLink RX4 45 "BunchTimes$Stage" "place" "[I", Cond.methodLink RX5 67 yX5_insert, Cond.instanceMethod yX5_insert, Cond.selects RX5 yX5_insert yX5_insert, Cond.code yX5_insert cX5_insert 3 none, Cond.fieldLink RX5 9 "BunchTimes$Standings" "order" "[I", Cond.methodLink RX5 82 yX5_isLess, Cond.instanceMethod yX5_isLess, Cond.selects RX5 yX5_isLess yX5_isLess]
def wsX8_list_r3 : List Cond := [Cond.code yX5_isLess cX5_isLess 3 (some .boolean), Cond.methodLink RX5 42 yX5_rankWorthy, Cond.instanceMethod yX5_rankWorthy, Cond.selects RX5 yX5_rankWorthy yX5_rankWorthy, Cond.code yX5_rankWorthy cX5_rankWorthy 7 none, Cond.fieldLink RX5 21 "BunchTimes$Standings" "worth" "[I", Cond.instanceMethod yX3_gained, Cond.selects RX3 yX3_gained yX3_gained, Cond.code yX3_gained cX3_gained 5 (some .int), Cond.instanceMethod yX4_gainedBy, Cond.selects RX4 yX4_gainedBy yX4_gainedBy, Cond.code yX4_gainedBy cX4_gainedBy 3 (some .int), Cond.methodLink RX5 46 yX5_rankTeams, Cond.instanceMethod yX5_rankTeams, Cond.selects RX5 yX5_rankTeams yX5_rankTeams, Cond.code yX5_rankTeams cX5_rankTeams 3 none, Cond.instanceMethod yX3_isRanked, Cond.selects RX3 yX3_isRanked yX3_isRanked, Cond.code yX3_isRanked cX3_isRanked 4 (some .boolean), Cond.fieldLink RX3 36 "BunchTimes$Race" "teams" "I", Cond.fieldLink RX3 39 "BunchTimes$Race" "riders" "I", Cond.fieldLink RX3 25 "BunchTimes$Race" "in" "[Z", Cond.fieldLink RX3 18 "BunchTimes$Race" "teamOf" "[I", Cond.static yX8_within]
def wsX8_list_r4 : List Cond := [Cond.initialized RX8, Cond.code yX8_within cX8_within 3 (some .boolean), Cond.instanceMethod yX3_teamSum, Cond.selects RX3 yX3_teamSum yX3_teamSum, Cond.code yX3_teamSum cX3_teamSum 4 (some .int), Cond.instanceMethod yX4_teamTime, Cond.selects RX4 yX4_teamTime yX4_teamTime, Cond.code yX4_teamTime cX4_teamTime 9 (some .int), Cond.constant RX4 125 (1000000), Cond.fieldLink RX4 68 "BunchTimes$Stage" "finishers" "I", Cond.fieldLink RX4 42 "BunchTimes$Stage" "order" "[I", Cond.methodLink RX4 142 Lib.Math.max.name, Cond.static Lib.Math.max.name, Cond.initialized "java/lang/Math", Cond.code Lib.Math.max.name Lib.Math.max.code 2 (some .int), Cond.methodLink RX4 130 Lib.Math.min.name, Cond.static Lib.Math.min.name, Cond.code Lib.Math.min.name Lib.Math.min.code 2 (some .int), Cond.instanceMethod yX5_entry, Cond.selects RX5 yX5_entry yX5_entry, Cond.code yX5_entry cX5_entry 2 (some .int)]
def wsX8_list : List Cond := .code yX8_list cX8_list 3 (some .int) :: ((wsX8_list_r1 ++ (wsX8_list_r2 ++ (wsX8_list_r3 ++ wsX8_list_r4))) ++ wsX80 ++ wsX50 ++ wsX30 ++ wsX40 ++ wsX20)
def wsX8_total_r1 : List Cond := [Cond.fieldLink RX8 10 "BunchTimes" "race" "LBunchTimes$Race;", Cond.constant RX8 210 (-1000000), Cond.instanceMethod yX3_isIn, Cond.initialized RX3, Cond.selects RX3 yX3_isIn yX3_isIn, Cond.code yX3_isIn cX3_isIn 2 (some .boolean), Cond.fieldLink RX3 25 "BunchTimes$Race" "in" "[Z", Cond.methodLink RX3 142 yX3_hasRider, Cond.instanceMethod yX3_hasRider, Cond.selects RX3 yX3_hasRider yX3_hasRider, Cond.code yX3_hasRider cX3_hasRider 2 (some .boolean), Cond.fieldLink RX3 39 "BunchTimes$Race" "riders" "I", Cond.static yX8_within, Cond.initialized RX8, Cond.code yX8_within cX8_within 3 (some .boolean), Cond.instanceMethod yX3_sumOf, Cond.selects RX3 yX3_sumOf yX3_sumOf, Cond.code yX3_sumOf cX3_sumOf 5 (some .int), Cond.fieldLink RX3 31 "BunchTimes$Race" "all" "[LBunchTimes$Stage;", Cond.methodLink RX3 145 yX3_closed, Cond.instanceMethod yX3_closed, Cond.selects RX3 yX3_closed yX3_closed, Cond.code yX3_closed cX3_closed 1 (some .int), Cond.fieldLink RX3 45 "BunchTimes$Race" "open" "Z"]
def wsX8_total_r2 : List Cond := [Cond.fieldLink RX3 42 "BunchTimes$Race" "stages" "I", Cond.instanceMethod yX4_netTime, Cond.initialized RX4, Cond.selects RX4 yX4_netTime yX4_netTime, Cond.code yX4_netTime cX4_netTime 2 (some .int), Cond.fieldLink RX4 25 "BunchTimes$Stage" "finish" "[I", Cond.fieldLink RX4 94 "BunchTimes$Stage" "limit" "I", Cond.fieldLink RX4 54 "BunchTimes$Stage" "time" "[I", Cond.fieldLink RX4 35 "BunchTimes$Stage" "juried" "[I", Cond.fieldLink RX4 21 "BunchTimes$Stage" "prizes" "LBunchTimes$Prizes;", Cond.instanceMethod yX3_isRanked, Cond.selects RX3 yX3_isRanked yX3_isRanked, Cond.code yX3_isRanked cX3_isRanked 4 (some .boolean), Cond.fieldLink RX3 36 "BunchTimes$Race" "teams" "I", Cond.fieldLink RX3 18 "BunchTimes$Race" "teamOf" "[I", Cond.instanceMethod yX3_teamSum, Cond.selects RX3 yX3_teamSum yX3_teamSum, Cond.code yX3_teamSum cX3_teamSum 4 (some .int), Cond.instanceMethod yX4_teamTime, Cond.selects RX4 yX4_teamTime yX4_teamTime, Cond.code yX4_teamTime cX4_teamTime 9 (some .int), Cond.constant RX4 125 (1000000), Cond.fieldLink RX4 68 "BunchTimes$Stage" "finishers" "I", Cond.fieldLink RX4 42 "BunchTimes$Stage" "order" "[I"]
def wsX8_total_r3 : List Cond := [Cond.methodLink RX4 142 Lib.Math.max.name, Cond.static Lib.Math.max.name, Cond.initialized "java/lang/Math", Cond.code Lib.Math.max.name Lib.Math.max.code 2 (some .int), Cond.methodLink RX4 130 Lib.Math.min.name, Cond.static Lib.Math.min.name, Cond.code Lib.Math.min.name Lib.Math.min.code 2 (some .int)]
def wsX8_total : List Cond := .code yX8_total cX8_total 3 (some .int) :: ((wsX8_total_r1 ++ (wsX8_total_r2 ++ wsX8_total_r3)) ++ wsX80 ++ wsX30 ++ wsX40 ++ wsX20)
def wsX8_jersey_r1 : List Cond := [Cond.fieldLink RX8 26 "BunchTimes" "standings" "LBunchTimes$Standings;", Cond.fieldLink RX8 10 "BunchTimes" "race" "LBunchTimes$Race;", Cond.methodLink RX8 45 yX8_within, Cond.static yX8_within, Cond.initialized RX8, Cond.code yX8_within cX8_within 3 (some .boolean), Cond.instanceMethod yX5_wearer, Cond.initialized RX5, Cond.selects RX5 yX5_wearer yX5_wearer, Cond.code yX5_wearer cX5_wearer 6 (some .int), Cond.methodLink RX5 89 yX5_rankList, Cond.instanceMethod yX5_rankList, Cond.selects RX5 yX5_rankList yX5_rankList, Cond.code yX5_rankList cX5_rankList 3 none, Cond.fieldLink RX5 24 "BunchTimes$Standings" "size" "I", Cond.instanceMethod yX3_closed, Cond.initialized RX3, Cond.selects RX3 yX3_closed yX3_closed, Cond.code yX3_closed cX3_closed 1 (some .int), Cond.fieldLink RX3 45 "BunchTimes$Race" "open" "Z", Cond.fieldLink RX3 42 "BunchTimes$Race" "stages" "I", Cond.methodLink RX5 38 yX5_rankRiders, Cond.instanceMethod yX5_rankRiders, Cond.selects RX5 yX5_rankRiders yX5_rankRiders]
def wsX8_jersey_r2 : List Cond := [Cond.code yX5_rankRiders cX5_rankRiders 5 none, Cond.fieldLink RX5 15 "BunchTimes$Standings" "sums" "[I", Cond.fieldLink RX5 18 "BunchTimes$Standings" "places" "[I", Cond.instanceMethod yX3_sumOf, Cond.selects RX3 yX3_sumOf yX3_sumOf, Cond.code yX3_sumOf cX3_sumOf 5 (some .int), Cond.fieldLink RX3 31 "BunchTimes$Race" "all" "[LBunchTimes$Stage;", Cond.methodLink RX3 145 yX3_closed, Cond.instanceMethod yX4_netTime, Cond.initialized RX4, Cond.selects RX4 yX4_netTime yX4_netTime, Cond.code yX4_netTime cX4_netTime 2 (some .int), Cond.fieldLink RX4 25 "BunchTimes$Stage" "finish" "[I", Cond.fieldLink RX4 94 "BunchTimes$Stage" "limit" "I", Cond.fieldLink RX4 54 "BunchTimes$Stage" "time" "[I", Cond.fieldLink RX4 35 "BunchTimes$Stage" "juried" "[I", Cond.fieldLink RX4 21 "BunchTimes$Stage" "prizes" "LBunchTimes$Prizes;", Cond.instanceMethod yX3_placesOf, Cond.selects RX3 yX3_placesOf yX3_placesOf, Cond.code yX3_placesOf cX3_placesOf 5 (some .int), Cond.instanceMethod yX4_placeOf, Cond.selects RX4 yX4_placeOf yX4_placeOf, Cond.code yX4_placeOf cX4_placeOf 2 (some .int), Cond.fieldLink RX4 45 "BunchTimes$Stage" "place" "[I"]
def wsX8_jersey_r3 : List Cond := [Cond.methodLink RX5 67 yX5_insert, Cond.instanceMethod yX5_insert, Cond.selects RX5 yX5_insert yX5_insert, Cond.code yX5_insert cX5_insert 3 none, Cond.fieldLink RX5 9 "BunchTimes$Standings" "order" "[I", Cond.methodLink RX5 82 yX5_isLess, Cond.instanceMethod yX5_isLess, Cond.selects RX5 yX5_isLess yX5_isLess, Cond.code yX5_isLess cX5_isLess 3 (some .boolean), Cond.methodLink RX5 42 yX5_rankWorthy, Cond.instanceMethod yX5_rankWorthy, Cond.selects RX5 yX5_rankWorthy yX5_rankWorthy, Cond.code yX5_rankWorthy cX5_rankWorthy 7 none, Cond.fieldLink RX5 21 "BunchTimes$Standings" "worth" "[I", Cond.instanceMethod yX3_gained, Cond.selects RX3 yX3_gained yX3_gained, Cond.code yX3_gained cX3_gained 5 (some .int), Cond.instanceMethod yX4_gainedBy, Cond.selects RX4 yX4_gainedBy yX4_gainedBy, Cond.code yX4_gainedBy cX4_gainedBy 3 (some .int), Cond.methodLink RX5 46 yX5_rankTeams, Cond.instanceMethod yX5_rankTeams, Cond.selects RX5 yX5_rankTeams yX5_rankTeams, Cond.code yX5_rankTeams cX5_rankTeams 3 none]
def wsX8_jersey_r4 : List Cond := [Cond.instanceMethod yX3_isRanked, Cond.selects RX3 yX3_isRanked yX3_isRanked, Cond.code yX3_isRanked cX3_isRanked 4 (some .boolean), Cond.fieldLink RX3 36 "BunchTimes$Race" "teams" "I", Cond.fieldLink RX3 39 "BunchTimes$Race" "riders" "I", Cond.fieldLink RX3 25 "BunchTimes$Race" "in" "[Z", Cond.fieldLink RX3 18 "BunchTimes$Race" "teamOf" "[I", Cond.instanceMethod yX3_teamSum, Cond.selects RX3 yX3_teamSum yX3_teamSum, Cond.code yX3_teamSum cX3_teamSum 4 (some .int), Cond.instanceMethod yX4_teamTime, Cond.selects RX4 yX4_teamTime yX4_teamTime, Cond.code yX4_teamTime cX4_teamTime 9 (some .int), Cond.constant RX4 125 (1000000), Cond.fieldLink RX4 68 "BunchTimes$Stage" "finishers" "I", Cond.fieldLink RX4 42 "BunchTimes$Stage" "order" "[I", Cond.methodLink RX4 142 Lib.Math.max.name, Cond.static Lib.Math.max.name, Cond.initialized "java/lang/Math", Cond.code Lib.Math.max.name Lib.Math.max.code 2 (some .int), Cond.methodLink RX4 130 Lib.Math.min.name, Cond.static Lib.Math.min.name, Cond.code Lib.Math.min.name Lib.Math.min.code 2 (some .int), Cond.methodLink RX5 92 yX5_firstBut]
def wsX8_jersey_r5 : List Cond := [Cond.instanceMethod yX5_firstBut, Cond.selects RX5 yX5_firstBut yX5_firstBut, Cond.code yX5_firstBut cX5_firstBut 3 (some .int), Cond.instanceMethod yX5_entry, Cond.selects RX5 yX5_entry yX5_entry, Cond.code yX5_entry cX5_entry 2 (some .int)]
def wsX8_jersey : List Cond := .code yX8_jersey cX8_jersey 3 (some .int) :: ((wsX8_jersey_r1 ++ (wsX8_jersey_r2 ++ (wsX8_jersey_r3 ++ (wsX8_jersey_r4 ++ wsX8_jersey_r5)))) ++ wsX80 ++ wsX50 ++ wsX30 ++ wsX40 ++ wsX20)
def wsX8_needs_r1 : List Cond := [Cond.fieldLink RX8 10 "BunchTimes" "race" "LBunchTimes$Race;", Cond.fieldLink RX8 26 "BunchTimes" "standings" "LBunchTimes$Standings;", Cond.instanceMethod yX3_isIn, Cond.initialized RX3, Cond.selects RX3 yX3_isIn yX3_isIn, Cond.code yX3_isIn cX3_isIn 2 (some .boolean), Cond.fieldLink RX3 25 "BunchTimes$Race" "in" "[Z", Cond.methodLink RX3 142 yX3_hasRider, Cond.instanceMethod yX3_hasRider, Cond.selects RX3 yX3_hasRider yX3_hasRider, Cond.code yX3_hasRider cX3_hasRider 2 (some .boolean), Cond.fieldLink RX3 39 "BunchTimes$Race" "riders" "I", Cond.static yX8_within, Cond.initialized RX8, Cond.code yX8_within cX8_within 3 (some .boolean), Cond.instanceMethod yX3_closed, Cond.selects RX3 yX3_closed yX3_closed, Cond.code yX3_closed cX3_closed 1 (some .int), Cond.fieldLink RX3 45 "BunchTimes$Race" "open" "Z", Cond.fieldLink RX3 42 "BunchTimes$Race" "stages" "I", Cond.instanceMethod yX5_rankRiders, Cond.initialized RX5, Cond.selects RX5 yX5_rankRiders yX5_rankRiders, Cond.code yX5_rankRiders cX5_rankRiders 5 none]
def wsX8_needs_r2 : List Cond := [Cond.fieldLink RX5 24 "BunchTimes$Standings" "size" "I", Cond.fieldLink RX5 15 "BunchTimes$Standings" "sums" "[I", Cond.fieldLink RX5 18 "BunchTimes$Standings" "places" "[I", Cond.instanceMethod yX3_sumOf, Cond.selects RX3 yX3_sumOf yX3_sumOf, Cond.code yX3_sumOf cX3_sumOf 5 (some .int), Cond.fieldLink RX3 31 "BunchTimes$Race" "all" "[LBunchTimes$Stage;", Cond.methodLink RX3 145 yX3_closed, Cond.instanceMethod yX4_netTime, Cond.initialized RX4, Cond.selects RX4 yX4_netTime yX4_netTime, Cond.code yX4_netTime cX4_netTime 2 (some .int), Cond.fieldLink RX4 25 "BunchTimes$Stage" "finish" "[I", Cond.fieldLink RX4 94 "BunchTimes$Stage" "limit" "I", Cond.fieldLink RX4 54 "BunchTimes$Stage" "time" "[I", Cond.fieldLink RX4 35 "BunchTimes$Stage" "juried" "[I", Cond.fieldLink RX4 21 "BunchTimes$Stage" "prizes" "LBunchTimes$Prizes;", Cond.instanceMethod yX3_placesOf, Cond.selects RX3 yX3_placesOf yX3_placesOf, Cond.code yX3_placesOf cX3_placesOf 5 (some .int), Cond.instanceMethod yX4_placeOf, Cond.selects RX4 yX4_placeOf yX4_placeOf, Cond.code yX4_placeOf cX4_placeOf 2 (some .int), Cond.fieldLink RX4 45 "BunchTimes$Stage" "place" "[I"]
def wsX8_needs_r3 : List Cond := [Cond.methodLink RX5 67 yX5_insert, Cond.instanceMethod yX5_insert, Cond.selects RX5 yX5_insert yX5_insert, Cond.code yX5_insert cX5_insert 3 none, Cond.fieldLink RX5 9 "BunchTimes$Standings" "order" "[I", Cond.methodLink RX5 82 yX5_isLess, Cond.instanceMethod yX5_isLess, Cond.selects RX5 yX5_isLess yX5_isLess, Cond.code yX5_isLess cX5_isLess 3 (some .boolean), Cond.instanceMethod yX5_lacking, Cond.selects RX5 yX5_lacking yX5_lacking, Cond.code yX5_lacking cX5_lacking 5 (some .int), Cond.methodLink RX5 95 yX5_entry, Cond.instanceMethod yX5_entry, Cond.selects RX5 yX5_entry yX5_entry, Cond.code yX5_entry cX5_entry 2 (some .int)]
def wsX8_needs : List Cond := .code yX8_needs cX8_needs 2 (some .int) :: ((wsX8_needs_r1 ++ (wsX8_needs_r2 ++ wsX8_needs_r3)) ++ wsX80 ++ wsX30 ++ wsX50 ++ wsX40 ++ wsX20)
def wsX8_without_r1 : List Cond := [Cond.fieldLink RX8 10 "BunchTimes" "race" "LBunchTimes$Race;", Cond.fieldLink RX8 26 "BunchTimes" "standings" "LBunchTimes$Standings;", Cond.instanceMethod yX3_closedStage, Cond.initialized RX3, Cond.selects RX3 yX3_closedStage yX3_closedStage, Cond.code yX3_closedStage cX3_closedStage 2 (some (.object "BunchTimes$Stage")), Cond.fieldLink RX3 31 "BunchTimes$Race" "all" "[LBunchTimes$Stage;", Cond.methodLink RX3 145 yX3_closed, Cond.instanceMethod yX3_closed, Cond.selects RX3 yX3_closed yX3_closed, Cond.code yX3_closed cX3_closed 1 (some .int), Cond.fieldLink RX3 45 "BunchTimes$Race" "open" "Z", Cond.fieldLink RX3 42 "BunchTimes$Race" "stages" "I", Cond.static yX8_within, Cond.initialized RX8, Cond.code yX8_within cX8_within 3 (some .boolean), Cond.instanceMethod yX5_rankRiders, Cond.initialized RX5, Cond.selects RX5 yX5_rankRiders yX5_rankRiders, Cond.code yX5_rankRiders cX5_rankRiders 5 none, Cond.fieldLink RX5 24 "BunchTimes$Standings" "size" "I", Cond.fieldLink RX5 15 "BunchTimes$Standings" "sums" "[I", Cond.fieldLink RX5 18 "BunchTimes$Standings" "places" "[I", Cond.instanceMethod yX3_sumOf]
def wsX8_without_r2 : List Cond := [Cond.selects RX3 yX3_sumOf yX3_sumOf, Cond.code yX3_sumOf cX3_sumOf 5 (some .int), Cond.instanceMethod yX4_netTime, Cond.initialized RX4, Cond.selects RX4 yX4_netTime yX4_netTime, Cond.code yX4_netTime cX4_netTime 2 (some .int), Cond.fieldLink RX4 25 "BunchTimes$Stage" "finish" "[I", Cond.fieldLink RX4 94 "BunchTimes$Stage" "limit" "I", Cond.fieldLink RX4 54 "BunchTimes$Stage" "time" "[I", Cond.fieldLink RX4 35 "BunchTimes$Stage" "juried" "[I", Cond.fieldLink RX4 21 "BunchTimes$Stage" "prizes" "LBunchTimes$Prizes;", Cond.instanceMethod yX3_placesOf, Cond.selects RX3 yX3_placesOf yX3_placesOf, Cond.code yX3_placesOf cX3_placesOf 5 (some .int), Cond.instanceMethod yX4_placeOf, Cond.selects RX4 yX4_placeOf yX4_placeOf, Cond.code yX4_placeOf cX4_placeOf 2 (some .int), Cond.fieldLink RX4 45 "BunchTimes$Stage" "place" "[I", Cond.methodLink RX5 67 yX5_insert, Cond.instanceMethod yX5_insert, Cond.selects RX5 yX5_insert yX5_insert, Cond.code yX5_insert cX5_insert 3 none, Cond.fieldLink RX5 9 "BunchTimes$Standings" "order" "[I", Cond.methodLink RX5 82 yX5_isLess]
def wsX8_without_r3 : List Cond := [Cond.instanceMethod yX5_isLess, Cond.selects RX5 yX5_isLess yX5_isLess, Cond.code yX5_isLess cX5_isLess 3 (some .boolean), Cond.instanceMethod yX5_entry, Cond.selects RX5 yX5_entry yX5_entry, Cond.code yX5_entry cX5_entry 2 (some .int)]
def wsX8_without : List Cond := .code yX8_without cX8_without 2 (some .int) :: ((wsX8_without_r1 ++ (wsX8_without_r2 ++ wsX8_without_r3)) ++ wsX80 ++ wsX30 ++ wsX50 ++ wsX40 ++ wsX20)
def wsX8_caught : List Cond := .code yX8_caught cX8_caught 5 (some .int) :: ([.static yX0_canBe, .initialized RX0, .code yX0_canBe cX0_canBe 3 (some .boolean), .static yX8_within, .initialized RX8, .code yX8_within cX8_within 3 (some .boolean), .methodLink RX8 45 yX8_within, .static yX0_metresLeft, .code yX0_metresLeft cX0_metresLeft 12 (some .int), .constantLong RX0 26 (3600), .constantLong RX0 28 (1000), .methodLink RX0 20 yX0_pace, .static yX0_pace, .code yX0_pace cX0_pace 1 (some .long), .constant RX0 13 (40000), .methodLink RX0 14 Lib.Math.max.name, .static Lib.Math.max.name, .initialized "java/lang/Math", .code Lib.Math.max.name Lib.Math.max.code 2 (some .int)])
def wsX8_holds : List Cond := .code yX8_holds cX8_holds 4 (some .int) :: ([.static yX0_canBe, .initialized RX0, .code yX0_canBe cX0_canBe 3 (some .boolean), .static yX8_within, .initialized RX8, .code yX8_within cX8_within 3 (some .boolean), .static yX0_leastAhead, .code yX0_leastAhead cX0_leastAhead 9 (some .int), .constantLong RX0 28 (1000), .constantLong RX0 26 (3600), .methodLink RX0 20 yX0_pace, .static yX0_pace, .code yX0_pace cX0_pace 1 (some .long), .constant RX0 13 (40000), .methodLink RX0 14 Lib.Math.max.name, .static Lib.Math.max.name, .initialized "java/lang/Math", .code Lib.Math.max.name Lib.Math.max.code 2 (some .int)])
def wsX8_chase : List Cond := .code yX8_chase cX8_chase 5 (some .int) :: ([.methodLink RX8 241 yX8_caught, .instanceMethod yX8_caught, .selects RX8 yX8_caught yX8_caught, .initialized RX8, .code yX8_caught cX8_caught 5 (some .int), .static yX0_canBe, .initialized RX0, .code yX0_canBe cX0_canBe 3 (some .boolean), .static yX8_within, .code yX8_within cX8_within 3 (some .boolean), .methodLink RX8 45 yX8_within, .static yX0_metresLeft, .code yX0_metresLeft cX0_metresLeft 12 (some .int), .constantLong RX0 26 (3600), .constantLong RX0 28 (1000), .methodLink RX0 20 yX0_pace, .static yX0_pace, .code yX0_pace cX0_pace 1 (some .long), .constant RX0 13 (40000), .methodLink RX0 14 Lib.Math.max.name, .static Lib.Math.max.name, .initialized "java/lang/Math", .code Lib.Math.max.name Lib.Math.max.code 2 (some .int)])
def wsX9_init : List Cond := .code yX9_init cX9_init 1 none :: ([.methodLink RX9 1 objectInit, .instanceMethod objectInit, .code objectInit ⟨#[0xb1]⟩ 1 none, .arrayClass .int, .fieldLink RX9 7 "BunchTimesModel" "row" "[I", .fieldLink RX9 13 "BunchTimesModel" "keptRows" "[I", .fieldLink RX9 16 "BunchTimesModel" "before" "[I", .arrayClass .boolean, .fieldLink RX9 19 "BunchTimesModel" "isKept" "[Z", .fieldLink RX9 23 "BunchTimesModel" "order" "[I", .fieldLink RX9 26 "BunchTimesModel" "ranked" "[I", .fieldLink RX9 29 "BunchTimesModel" "least" "[I", .arrayClass .byte, .fieldLink RX9 32 "BunchTimesModel" "tape" "[B", .fieldLink RX9 36 "BunchTimesModel" "told" "[I"] ++ wsX90)
def wsX9_thrown : List Cond := .code yX9_thrown cX9_thrown 1 (some .int) :: ([.fieldLink RX9 39 "BunchTimesModel" "thrown" "I"] ++ wsX90)
def wsX9_isIn : List Cond := .code yX9_isIn cX9_isIn 3 (some .boolean) :: ([])
def wsX9_isRider : List Cond := .code yX9_isRider cX9_isRider 2 (some .boolean) :: ([.fieldLink RX9 7 "BunchTimesModel" "row" "[I", .methodLink RX9 43 yX9_isIn, .static yX9_isIn, .initialized RX9, .code yX9_isIn cX9_isIn 3 (some .boolean)] ++ wsX90)
def wsX9_isThere : List Cond := .code yX9_isThere cX9_isThere 2 (some .boolean) :: ([.fieldLink RX9 7 "BunchTimesModel" "row" "[I", .methodLink RX9 47 yX9_isRider, .instanceMethod yX9_isRider, .selects RX9 yX9_isRider yX9_isRider, .initialized RX9, .code yX9_isRider cX9_isRider 2 (some .boolean), .methodLink RX9 43 yX9_isIn, .static yX9_isIn, .code yX9_isIn cX9_isIn 3 (some .boolean)] ++ wsX90)
def wsX9_isOpen : List Cond := .code yX9_isOpen cX9_isOpen 1 (some .boolean) :: ([.fieldLink RX9 7 "BunchTimesModel" "row" "[I"] ++ wsX90)
def wsX9_closedMany : List Cond := .code yX9_closedMany cX9_closedMany 1 (some .int) :: ([.fieldLink RX9 7 "BunchTimesModel" "row" "[I"] ++ wsX90)
def wsX9_latest : List Cond := .code yX9_latest cX9_latest 1 (some .int) :: ([.fieldLink RX9 7 "BunchTimesModel" "row" "[I"] ++ wsX90)
def wsX9_at : List Cond := .code yX9_at cX9_at 2 (some .int) :: ([])
def wsX9_at_ : List Cond := .code yX9_at_ cX9_at_ 3 (some .int) :: ([])
def wsX9_mark : List Cond := .code yX9_mark cX9_mark 3 (some .int) :: ([])
def wsX9_hasFinish : List Cond := .code yX9_hasFinish cX9_hasFinish 3 (some .boolean) :: ([.fieldLink RX9 7 "BunchTimesModel" "row" "[I", .methodLink RX9 51 yX9_at_, .static yX9_at_, .initialized RX9, .code yX9_at_ cX9_at_ 3 (some .int)] ++ wsX90)
def wsX9_finishes : List Cond := .code yX9_finishes cX9_finishes 4 (some .int) :: ([.fieldLink RX9 7 "BunchTimesModel" "row" "[I", .methodLink RX9 55 yX9_hasFinish, .instanceMethod yX9_hasFinish, .selects RX9 yX9_hasFinish yX9_hasFinish, .initialized RX9, .code yX9_hasFinish cX9_hasFinish 3 (some .boolean), .methodLink RX9 51 yX9_at_, .static yX9_at_, .code yX9_at_ cX9_at_ 3 (some .int)] ++ wsX90)
def wsX9_there : List Cond := .code yX9_there cX9_there 3 (some .int) :: ([.fieldLink RX9 7 "BunchTimesModel" "row" "[I", .methodLink RX9 59 yX9_isThere, .instanceMethod yX9_isThere, .selects RX9 yX9_isThere yX9_isThere, .initialized RX9, .code yX9_isThere cX9_isThere 2 (some .boolean), .methodLink RX9 47 yX9_isRider, .instanceMethod yX9_isRider, .selects RX9 yX9_isRider yX9_isRider, .code yX9_isRider cX9_isRider 2 (some .boolean), .methodLink RX9 43 yX9_isIn, .static yX9_isIn, .code yX9_isIn cX9_isIn 3 (some .boolean)] ++ wsX90)
def wsX9_teams : List Cond := .code yX9_teams cX9_teams 1 (some .int) :: ([.fieldLink RX9 7 "BunchTimesModel" "row" "[I"] ++ wsX90)
def wsX9_team : List Cond := .code yX9_team cX9_team 1 (some .int) :: ([.fieldLink RX9 39 "BunchTimesModel" "thrown" "I", .methodLink RX9 62 yX9_teams, .instanceMethod yX9_teams, .selects RX9 yX9_teams yX9_teams, .initialized RX9, .code yX9_teams cX9_teams 1 (some .int), .fieldLink RX9 7 "BunchTimesModel" "row" "[I"] ++ wsX90)
def wsX9_comes : List Cond := .code yX9_comes cX9_comes 4 (some .int) :: ([.fieldLink RX9 7 "BunchTimesModel" "row" "[I", .methodLink RX9 43 yX9_isIn, .static yX9_isIn, .initialized RX9, .code yX9_isIn cX9_isIn 3 (some .boolean), .methodLink RX9 70 yX9_isOpen, .instanceMethod yX9_isOpen, .selects RX9 yX9_isOpen yX9_isOpen, .code yX9_isOpen cX9_isOpen 1 (some .boolean), .methodLink RX9 74 yX9_latest, .instanceMethod yX9_latest, .selects RX9 yX9_latest yX9_latest, .code yX9_latest cX9_latest 1 (some .int), .methodLink RX9 77 yX9_finishes, .instanceMethod yX9_finishes, .selects RX9 yX9_finishes yX9_finishes, .code yX9_finishes cX9_finishes 4 (some .int), .methodLink RX9 55 yX9_hasFinish, .instanceMethod yX9_hasFinish, .selects RX9 yX9_hasFinish yX9_hasFinish, .code yX9_hasFinish cX9_hasFinish 3 (some .boolean), .methodLink RX9 51 yX9_at_, .static yX9_at_, .code yX9_at_ cX9_at_ 3 (some .int)] ++ wsX90)
def wsX9_rider_r1 : List Cond := [Cond.fieldLink RX9 39 "BunchTimesModel" "thrown" "I", Cond.methodLink RX9 66 yX9_comes, Cond.instanceMethod yX9_comes, Cond.selects RX9 yX9_comes yX9_comes, Cond.initialized RX9, Cond.code yX9_comes cX9_comes 4 (some .int), Cond.fieldLink RX9 7 "BunchTimesModel" "row" "[I", Cond.methodLink RX9 43 yX9_isIn, Cond.static yX9_isIn, Cond.code yX9_isIn cX9_isIn 3 (some .boolean), Cond.methodLink RX9 70 yX9_isOpen, Cond.instanceMethod yX9_isOpen, Cond.selects RX9 yX9_isOpen yX9_isOpen, Cond.code yX9_isOpen cX9_isOpen 1 (some .boolean), Cond.methodLink RX9 74 yX9_latest, Cond.instanceMethod yX9_latest, Cond.selects RX9 yX9_latest yX9_latest, Cond.code yX9_latest cX9_latest 1 (some .int), Cond.methodLink RX9 77 yX9_finishes, Cond.instanceMethod yX9_finishes, Cond.selects RX9 yX9_finishes yX9_finishes, Cond.code yX9_finishes cX9_finishes 4 (some .int), Cond.methodLink RX9 55 yX9_hasFinish, Cond.instanceMethod yX9_hasFinish]
def wsX9_rider_r2 : List Cond := [Cond.selects RX9 yX9_hasFinish yX9_hasFinish, Cond.code yX9_hasFinish cX9_hasFinish 3 (some .boolean), Cond.methodLink RX9 51 yX9_at_, Cond.static yX9_at_, Cond.code yX9_at_ cX9_at_ 3 (some .int)]
def wsX9_rider : List Cond := .code yX9_rider cX9_rider 3 (some .int) :: ((wsX9_rider_r1 ++ wsX9_rider_r2) ++ wsX90)
def wsX9_stages_r1 : List Cond := [Cond.fieldLink RX9 7 "BunchTimesModel" "row" "[I", Cond.methodLink RX9 70 yX9_isOpen, Cond.instanceMethod yX9_isOpen, Cond.selects RX9 yX9_isOpen yX9_isOpen, Cond.initialized RX9, Cond.code yX9_isOpen cX9_isOpen 1 (some .boolean), Cond.methodLink RX9 43 yX9_isIn, Cond.static yX9_isIn, Cond.code yX9_isIn cX9_isIn 3 (some .boolean), Cond.methodLink RX9 84 yX9_there, Cond.instanceMethod yX9_there, Cond.selects RX9 yX9_there yX9_there, Cond.code yX9_there cX9_there 3 (some .int), Cond.methodLink RX9 59 yX9_isThere, Cond.instanceMethod yX9_isThere, Cond.selects RX9 yX9_isThere yX9_isThere, Cond.code yX9_isThere cX9_isThere 2 (some .boolean), Cond.methodLink RX9 47 yX9_isRider, Cond.instanceMethod yX9_isRider, Cond.selects RX9 yX9_isRider yX9_isRider, Cond.code yX9_isRider cX9_isRider 2 (some .boolean), Cond.methodLink RX9 51 yX9_at_, Cond.static yX9_at_, Cond.code yX9_at_ cX9_at_ 3 (some .int)]
def wsX9_stages_r2 : List Cond := [Cond.methodLink RX9 87 yX9_at, Cond.static yX9_at, Cond.code yX9_at cX9_at 2 (some .int)]
def wsX9_stages : List Cond := .code yX9_stages cX9_stages 5 (some .int) :: ((wsX9_stages_r1 ++ wsX9_stages_r2) ++ wsX90)
def wsX9_stage_r1 : List Cond := [Cond.fieldLink RX9 39 "BunchTimesModel" "thrown" "I", Cond.methodLink RX9 81 yX9_stages, Cond.instanceMethod yX9_stages, Cond.selects RX9 yX9_stages yX9_stages, Cond.initialized RX9, Cond.code yX9_stages cX9_stages 5 (some .int), Cond.fieldLink RX9 7 "BunchTimesModel" "row" "[I", Cond.methodLink RX9 70 yX9_isOpen, Cond.instanceMethod yX9_isOpen, Cond.selects RX9 yX9_isOpen yX9_isOpen, Cond.code yX9_isOpen cX9_isOpen 1 (some .boolean), Cond.methodLink RX9 43 yX9_isIn, Cond.static yX9_isIn, Cond.code yX9_isIn cX9_isIn 3 (some .boolean), Cond.methodLink RX9 84 yX9_there, Cond.instanceMethod yX9_there, Cond.selects RX9 yX9_there yX9_there, Cond.code yX9_there cX9_there 3 (some .int), Cond.methodLink RX9 59 yX9_isThere, Cond.instanceMethod yX9_isThere, Cond.selects RX9 yX9_isThere yX9_isThere, Cond.code yX9_isThere cX9_isThere 2 (some .boolean), Cond.methodLink RX9 47 yX9_isRider, Cond.instanceMethod yX9_isRider]
def wsX9_stage_r2 : List Cond := [Cond.selects RX9 yX9_isRider yX9_isRider, Cond.code yX9_isRider cX9_isRider 2 (some .boolean), Cond.methodLink RX9 51 yX9_at_, Cond.static yX9_at_, Cond.code yX9_at_ cX9_at_ 3 (some .int), Cond.methodLink RX9 87 yX9_at, Cond.static yX9_at, Cond.code yX9_at cX9_at 2 (some .int)]
def wsX9_stage : List Cond := .code yX9_stage cX9_stage 3 (some .int) :: ((wsX9_stage_r1 ++ wsX9_stage_r2) ++ wsX90)
def wsX9_marks : List Cond := .code yX9_marks cX9_marks 5 (some .int) :: ([.fieldLink RX9 7 "BunchTimesModel" "row" "[I", .methodLink RX9 74 yX9_latest, .instanceMethod yX9_latest, .selects RX9 yX9_latest yX9_latest, .initialized RX9, .code yX9_latest cX9_latest 1 (some .int), .methodLink RX9 70 yX9_isOpen, .instanceMethod yX9_isOpen, .selects RX9 yX9_isOpen yX9_isOpen, .code yX9_isOpen cX9_isOpen 1 (some .boolean), .methodLink RX9 87 yX9_at, .static yX9_at, .code yX9_at cX9_at 2 (some .int), .methodLink RX9 43 yX9_isIn, .static yX9_isIn, .code yX9_isIn cX9_isIn 3 (some .boolean), .methodLink RX9 92 yX9_mark, .static yX9_mark, .code yX9_mark cX9_mark 3 (some .int)] ++ wsX90)
def wsX9_mark_ : List Cond := .code yX9_mark_ cX9_mark_ 3 (some .int) :: ([.fieldLink RX9 39 "BunchTimesModel" "thrown" "I", .methodLink RX9 89 yX9_marks, .instanceMethod yX9_marks, .selects RX9 yX9_marks yX9_marks, .initialized RX9, .code yX9_marks cX9_marks 5 (some .int), .fieldLink RX9 7 "BunchTimesModel" "row" "[I", .methodLink RX9 74 yX9_latest, .instanceMethod yX9_latest, .selects RX9 yX9_latest yX9_latest, .code yX9_latest cX9_latest 1 (some .int), .methodLink RX9 70 yX9_isOpen, .instanceMethod yX9_isOpen, .selects RX9 yX9_isOpen yX9_isOpen, .code yX9_isOpen cX9_isOpen 1 (some .boolean), .methodLink RX9 87 yX9_at, .static yX9_at, .code yX9_at cX9_at 2 (some .int), .methodLink RX9 43 yX9_isIn, .static yX9_isIn, .code yX9_isIn cX9_isIn 3 (some .boolean), .methodLink RX9 92 yX9_mark, .static yX9_mark, .code yX9_mark cX9_mark 3 (some .int)] ++ wsX90)
def wsX9_finishes__r1 : List Cond := [Cond.constant RX9 97 (999999), Cond.fieldLink RX9 7 "BunchTimesModel" "row" "[I", Cond.methodLink RX9 70 yX9_isOpen, Cond.instanceMethod yX9_isOpen, Cond.selects RX9 yX9_isOpen yX9_isOpen, Cond.initialized RX9, Cond.code yX9_isOpen cX9_isOpen 1 (some .boolean), Cond.methodLink RX9 59 yX9_isThere, Cond.instanceMethod yX9_isThere, Cond.selects RX9 yX9_isThere yX9_isThere, Cond.code yX9_isThere cX9_isThere 2 (some .boolean), Cond.methodLink RX9 47 yX9_isRider, Cond.instanceMethod yX9_isRider, Cond.selects RX9 yX9_isRider yX9_isRider, Cond.code yX9_isRider cX9_isRider 2 (some .boolean), Cond.methodLink RX9 43 yX9_isIn, Cond.static yX9_isIn, Cond.code yX9_isIn cX9_isIn 3 (some .boolean), Cond.methodLink RX9 74 yX9_latest, Cond.instanceMethod yX9_latest, Cond.selects RX9 yX9_latest yX9_latest, Cond.code yX9_latest cX9_latest 1 (some .int), Cond.methodLink RX9 55 yX9_hasFinish, Cond.instanceMethod yX9_hasFinish]
def wsX9_finishes__r2 : List Cond := [Cond.selects RX9 yX9_hasFinish yX9_hasFinish, Cond.code yX9_hasFinish cX9_hasFinish 3 (some .boolean), Cond.methodLink RX9 51 yX9_at_, Cond.static yX9_at_, Cond.code yX9_at_ cX9_at_ 3 (some .int)]
def wsX9_finishes_ : List Cond := .code yX9_finishes_ cX9_finishes_ 3 (some .boolean) :: ((wsX9_finishes__r1 ++ wsX9_finishes__r2) ++ wsX90)
def wsX9_finish_r1 : List Cond := [Cond.fieldLink RX9 39 "BunchTimesModel" "thrown" "I", Cond.methodLink RX9 95 yX9_finishes_, Cond.instanceMethod yX9_finishes_, Cond.selects RX9 yX9_finishes_ yX9_finishes_, Cond.initialized RX9, Cond.code yX9_finishes_ cX9_finishes_ 3 (some .boolean), Cond.constant RX9 97 (999999), Cond.fieldLink RX9 7 "BunchTimesModel" "row" "[I", Cond.methodLink RX9 70 yX9_isOpen, Cond.instanceMethod yX9_isOpen, Cond.selects RX9 yX9_isOpen yX9_isOpen, Cond.code yX9_isOpen cX9_isOpen 1 (some .boolean), Cond.methodLink RX9 59 yX9_isThere, Cond.instanceMethod yX9_isThere, Cond.selects RX9 yX9_isThere yX9_isThere, Cond.code yX9_isThere cX9_isThere 2 (some .boolean), Cond.methodLink RX9 47 yX9_isRider, Cond.instanceMethod yX9_isRider, Cond.selects RX9 yX9_isRider yX9_isRider, Cond.code yX9_isRider cX9_isRider 2 (some .boolean), Cond.methodLink RX9 43 yX9_isIn, Cond.static yX9_isIn, Cond.code yX9_isIn cX9_isIn 3 (some .boolean), Cond.methodLink RX9 74 yX9_latest]
def wsX9_finish_r2 : List Cond := [Cond.instanceMethod yX9_latest, Cond.selects RX9 yX9_latest yX9_latest, Cond.code yX9_latest cX9_latest 1 (some .int), Cond.methodLink RX9 55 yX9_hasFinish, Cond.instanceMethod yX9_hasFinish, Cond.selects RX9 yX9_hasFinish yX9_hasFinish, Cond.code yX9_hasFinish cX9_hasFinish 3 (some .boolean), Cond.methodLink RX9 51 yX9_at_, Cond.static yX9_at_, Cond.code yX9_at_ cX9_at_ 3 (some .int)]
def wsX9_finish : List Cond := .code yX9_finish cX9_finish 3 (some .boolean) :: ((wsX9_finish_r1 ++ wsX9_finish_r2) ++ wsX90)
def wsX9_overs_r1 : List Cond := [Cond.fieldLink RX9 7 "BunchTimesModel" "row" "[I", Cond.methodLink RX9 74 yX9_latest, Cond.instanceMethod yX9_latest, Cond.selects RX9 yX9_latest yX9_latest, Cond.initialized RX9, Cond.code yX9_latest cX9_latest 1 (some .int), Cond.methodLink RX9 70 yX9_isOpen, Cond.instanceMethod yX9_isOpen, Cond.selects RX9 yX9_isOpen yX9_isOpen, Cond.code yX9_isOpen cX9_isOpen 1 (some .boolean), Cond.methodLink RX9 87 yX9_at, Cond.static yX9_at, Cond.code yX9_at cX9_at 2 (some .int), Cond.methodLink RX9 43 yX9_isIn, Cond.static yX9_isIn, Cond.code yX9_isIn cX9_isIn 3 (some .boolean), Cond.methodLink RX9 59 yX9_isThere, Cond.instanceMethod yX9_isThere, Cond.selects RX9 yX9_isThere yX9_isThere, Cond.code yX9_isThere cX9_isThere 2 (some .boolean), Cond.methodLink RX9 47 yX9_isRider, Cond.instanceMethod yX9_isRider, Cond.selects RX9 yX9_isRider yX9_isRider, Cond.code yX9_isRider cX9_isRider 2 (some .boolean)]
def wsX9_overs_r2 : List Cond := [Cond.methodLink RX9 92 yX9_mark, Cond.static yX9_mark, Cond.code yX9_mark cX9_mark 3 (some .int)]
def wsX9_overs : List Cond := .code yX9_overs cX9_overs 6 (some .int) :: ((wsX9_overs_r1 ++ wsX9_overs_r2) ++ wsX90)
def wsX9_over_r1 : List Cond := [Cond.fieldLink RX9 39 "BunchTimesModel" "thrown" "I", Cond.methodLink RX9 98 yX9_overs, Cond.instanceMethod yX9_overs, Cond.selects RX9 yX9_overs yX9_overs, Cond.initialized RX9, Cond.code yX9_overs cX9_overs 6 (some .int), Cond.fieldLink RX9 7 "BunchTimesModel" "row" "[I", Cond.methodLink RX9 74 yX9_latest, Cond.instanceMethod yX9_latest, Cond.selects RX9 yX9_latest yX9_latest, Cond.code yX9_latest cX9_latest 1 (some .int), Cond.methodLink RX9 70 yX9_isOpen, Cond.instanceMethod yX9_isOpen, Cond.selects RX9 yX9_isOpen yX9_isOpen, Cond.code yX9_isOpen cX9_isOpen 1 (some .boolean), Cond.methodLink RX9 87 yX9_at, Cond.static yX9_at, Cond.code yX9_at cX9_at 2 (some .int), Cond.methodLink RX9 43 yX9_isIn, Cond.static yX9_isIn, Cond.code yX9_isIn cX9_isIn 3 (some .boolean), Cond.methodLink RX9 59 yX9_isThere, Cond.instanceMethod yX9_isThere, Cond.selects RX9 yX9_isThere yX9_isThere]
def wsX9_over_r2 : List Cond := [Cond.code yX9_isThere cX9_isThere 2 (some .boolean), Cond.methodLink RX9 47 yX9_isRider, Cond.instanceMethod yX9_isRider, Cond.selects RX9 yX9_isRider yX9_isRider, Cond.code yX9_isRider cX9_isRider 2 (some .boolean), Cond.methodLink RX9 92 yX9_mark, Cond.static yX9_mark, Cond.code yX9_mark cX9_mark 3 (some .int)]
def wsX9_over : List Cond := .code yX9_over cX9_over 3 (some .int) :: ((wsX9_over_r1 ++ wsX9_over_r2) ++ wsX90)
def wsX9_falls_r1 : List Cond := [Cond.fieldLink RX9 7 "BunchTimesModel" "row" "[I", Cond.methodLink RX9 74 yX9_latest, Cond.instanceMethod yX9_latest, Cond.selects RX9 yX9_latest yX9_latest, Cond.initialized RX9, Cond.code yX9_latest cX9_latest 1 (some .int), Cond.methodLink RX9 70 yX9_isOpen, Cond.instanceMethod yX9_isOpen, Cond.selects RX9 yX9_isOpen yX9_isOpen, Cond.code yX9_isOpen cX9_isOpen 1 (some .boolean), Cond.methodLink RX9 59 yX9_isThere, Cond.instanceMethod yX9_isThere, Cond.selects RX9 yX9_isThere yX9_isThere, Cond.code yX9_isThere cX9_isThere 2 (some .boolean), Cond.methodLink RX9 47 yX9_isRider, Cond.instanceMethod yX9_isRider, Cond.selects RX9 yX9_isRider yX9_isRider, Cond.code yX9_isRider cX9_isRider 2 (some .boolean), Cond.methodLink RX9 43 yX9_isIn, Cond.static yX9_isIn, Cond.code yX9_isIn cX9_isIn 3 (some .boolean), Cond.methodLink RX9 87 yX9_at, Cond.static yX9_at, Cond.code yX9_at cX9_at 2 (some .int)]
def wsX9_falls_r2 : List Cond := [Cond.methodLink RX9 51 yX9_at_, Cond.static yX9_at_, Cond.code yX9_at_ cX9_at_ 3 (some .int)]
def wsX9_falls : List Cond := .code yX9_falls cX9_falls 5 (some .boolean) :: ((wsX9_falls_r1 ++ wsX9_falls_r2) ++ wsX90)
def wsX9_fall_r1 : List Cond := [Cond.fieldLink RX9 39 "BunchTimesModel" "thrown" "I", Cond.methodLink RX9 101 yX9_falls, Cond.instanceMethod yX9_falls, Cond.selects RX9 yX9_falls yX9_falls, Cond.initialized RX9, Cond.code yX9_falls cX9_falls 5 (some .boolean), Cond.fieldLink RX9 7 "BunchTimesModel" "row" "[I", Cond.methodLink RX9 74 yX9_latest, Cond.instanceMethod yX9_latest, Cond.selects RX9 yX9_latest yX9_latest, Cond.code yX9_latest cX9_latest 1 (some .int), Cond.methodLink RX9 70 yX9_isOpen, Cond.instanceMethod yX9_isOpen, Cond.selects RX9 yX9_isOpen yX9_isOpen, Cond.code yX9_isOpen cX9_isOpen 1 (some .boolean), Cond.methodLink RX9 59 yX9_isThere, Cond.instanceMethod yX9_isThere, Cond.selects RX9 yX9_isThere yX9_isThere, Cond.code yX9_isThere cX9_isThere 2 (some .boolean), Cond.methodLink RX9 47 yX9_isRider, Cond.instanceMethod yX9_isRider, Cond.selects RX9 yX9_isRider yX9_isRider, Cond.code yX9_isRider cX9_isRider 2 (some .boolean), Cond.methodLink RX9 43 yX9_isIn]
def wsX9_fall_r2 : List Cond := [Cond.static yX9_isIn, Cond.code yX9_isIn cX9_isIn 3 (some .boolean), Cond.methodLink RX9 87 yX9_at, Cond.static yX9_at, Cond.code yX9_at cX9_at 2 (some .int), Cond.methodLink RX9 51 yX9_at_, Cond.static yX9_at_, Cond.code yX9_at_ cX9_at_ 3 (some .int)]
def wsX9_fall : List Cond := .code yX9_fall cX9_fall 4 (some .boolean) :: ((wsX9_fall_r1 ++ wsX9_fall_r2) ++ wsX90)
def wsX9_juries_r1 : List Cond := [Cond.fieldLink RX9 7 "BunchTimesModel" "row" "[I", Cond.constant RX9 107 (99999), Cond.methodLink RX9 70 yX9_isOpen, Cond.instanceMethod yX9_isOpen, Cond.selects RX9 yX9_isOpen yX9_isOpen, Cond.initialized RX9, Cond.code yX9_isOpen cX9_isOpen 1 (some .boolean), Cond.methodLink RX9 59 yX9_isThere, Cond.instanceMethod yX9_isThere, Cond.selects RX9 yX9_isThere yX9_isThere, Cond.code yX9_isThere cX9_isThere 2 (some .boolean), Cond.methodLink RX9 47 yX9_isRider, Cond.instanceMethod yX9_isRider, Cond.selects RX9 yX9_isRider yX9_isRider, Cond.code yX9_isRider cX9_isRider 2 (some .boolean), Cond.methodLink RX9 43 yX9_isIn, Cond.static yX9_isIn, Cond.code yX9_isIn cX9_isIn 3 (some .boolean), Cond.methodLink RX9 74 yX9_latest, Cond.instanceMethod yX9_latest, Cond.selects RX9 yX9_latest yX9_latest, Cond.code yX9_latest cX9_latest 1 (some .int), Cond.methodLink RX9 51 yX9_at_, Cond.static yX9_at_]
def wsX9_juries_r2 : List Cond := [Cond.code yX9_at_ cX9_at_ 3 (some .int)]
def wsX9_juries : List Cond := .code yX9_juries cX9_juries 4 (some .int) :: ((wsX9_juries_r1 ++ wsX9_juries_r2) ++ wsX90)
def wsX9_jury_r1 : List Cond := [Cond.fieldLink RX9 39 "BunchTimesModel" "thrown" "I", Cond.methodLink RX9 104 yX9_juries, Cond.instanceMethod yX9_juries, Cond.selects RX9 yX9_juries yX9_juries, Cond.initialized RX9, Cond.code yX9_juries cX9_juries 4 (some .int), Cond.fieldLink RX9 7 "BunchTimesModel" "row" "[I", Cond.constant RX9 107 (99999), Cond.methodLink RX9 70 yX9_isOpen, Cond.instanceMethod yX9_isOpen, Cond.selects RX9 yX9_isOpen yX9_isOpen, Cond.code yX9_isOpen cX9_isOpen 1 (some .boolean), Cond.methodLink RX9 59 yX9_isThere, Cond.instanceMethod yX9_isThere, Cond.selects RX9 yX9_isThere yX9_isThere, Cond.code yX9_isThere cX9_isThere 2 (some .boolean), Cond.methodLink RX9 47 yX9_isRider, Cond.instanceMethod yX9_isRider, Cond.selects RX9 yX9_isRider yX9_isRider, Cond.code yX9_isRider cX9_isRider 2 (some .boolean), Cond.methodLink RX9 43 yX9_isIn, Cond.static yX9_isIn, Cond.code yX9_isIn cX9_isIn 3 (some .boolean), Cond.methodLink RX9 74 yX9_latest]
def wsX9_jury_r2 : List Cond := [Cond.instanceMethod yX9_latest, Cond.selects RX9 yX9_latest yX9_latest, Cond.code yX9_latest cX9_latest 1 (some .int), Cond.methodLink RX9 51 yX9_at_, Cond.static yX9_at_, Cond.code yX9_at_ cX9_at_ 3 (some .int)]
def wsX9_jury : List Cond := .code yX9_jury cX9_jury 3 (some .int) :: ((wsX9_jury_r1 ++ wsX9_jury_r2) ++ wsX90)
def wsX9_graces : List Cond := .code yX9_graces cX9_graces 2 (some .boolean) :: ([.fieldLink RX9 7 "BunchTimesModel" "row" "[I", .methodLink RX9 70 yX9_isOpen, .instanceMethod yX9_isOpen, .selects RX9 yX9_isOpen yX9_isOpen, .initialized RX9, .code yX9_isOpen cX9_isOpen 1 (some .boolean), .methodLink RX9 59 yX9_isThere, .instanceMethod yX9_isThere, .selects RX9 yX9_isThere yX9_isThere, .code yX9_isThere cX9_isThere 2 (some .boolean), .methodLink RX9 47 yX9_isRider, .instanceMethod yX9_isRider, .selects RX9 yX9_isRider yX9_isRider, .code yX9_isRider cX9_isRider 2 (some .boolean), .methodLink RX9 43 yX9_isIn, .static yX9_isIn, .code yX9_isIn cX9_isIn 3 (some .boolean), .methodLink RX9 74 yX9_latest, .instanceMethod yX9_latest, .selects RX9 yX9_latest yX9_latest, .code yX9_latest cX9_latest 1 (some .int), .methodLink RX9 51 yX9_at_, .static yX9_at_, .code yX9_at_ cX9_at_ 3 (some .int)] ++ wsX90)
def wsX9_grace_r1 : List Cond := [Cond.fieldLink RX9 39 "BunchTimesModel" "thrown" "I", Cond.methodLink RX9 108 yX9_graces, Cond.instanceMethod yX9_graces, Cond.selects RX9 yX9_graces yX9_graces, Cond.initialized RX9, Cond.code yX9_graces cX9_graces 2 (some .boolean), Cond.fieldLink RX9 7 "BunchTimesModel" "row" "[I", Cond.methodLink RX9 70 yX9_isOpen, Cond.instanceMethod yX9_isOpen, Cond.selects RX9 yX9_isOpen yX9_isOpen, Cond.code yX9_isOpen cX9_isOpen 1 (some .boolean), Cond.methodLink RX9 59 yX9_isThere, Cond.instanceMethod yX9_isThere, Cond.selects RX9 yX9_isThere yX9_isThere, Cond.code yX9_isThere cX9_isThere 2 (some .boolean), Cond.methodLink RX9 47 yX9_isRider, Cond.instanceMethod yX9_isRider, Cond.selects RX9 yX9_isRider yX9_isRider, Cond.code yX9_isRider cX9_isRider 2 (some .boolean), Cond.methodLink RX9 43 yX9_isIn, Cond.static yX9_isIn, Cond.code yX9_isIn cX9_isIn 3 (some .boolean), Cond.methodLink RX9 74 yX9_latest, Cond.instanceMethod yX9_latest]
def wsX9_grace_r2 : List Cond := [Cond.selects RX9 yX9_latest yX9_latest, Cond.code yX9_latest cX9_latest 1 (some .int), Cond.methodLink RX9 51 yX9_at_, Cond.static yX9_at_, Cond.code yX9_at_ cX9_at_ 3 (some .int)]
def wsX9_grace : List Cond := .code yX9_grace cX9_grace 2 (some .boolean) :: ((wsX9_grace_r1 ++ wsX9_grace_r2) ++ wsX90)
def wsX9_quits_r1 : List Cond := [Cond.fieldLink RX9 7 "BunchTimesModel" "row" "[I", Cond.methodLink RX9 70 yX9_isOpen, Cond.instanceMethod yX9_isOpen, Cond.selects RX9 yX9_isOpen yX9_isOpen, Cond.initialized RX9, Cond.code yX9_isOpen cX9_isOpen 1 (some .boolean), Cond.methodLink RX9 59 yX9_isThere, Cond.instanceMethod yX9_isThere, Cond.selects RX9 yX9_isThere yX9_isThere, Cond.code yX9_isThere cX9_isThere 2 (some .boolean), Cond.methodLink RX9 47 yX9_isRider, Cond.instanceMethod yX9_isRider, Cond.selects RX9 yX9_isRider yX9_isRider, Cond.code yX9_isRider cX9_isRider 2 (some .boolean), Cond.methodLink RX9 43 yX9_isIn, Cond.static yX9_isIn, Cond.code yX9_isIn cX9_isIn 3 (some .boolean), Cond.methodLink RX9 74 yX9_latest, Cond.instanceMethod yX9_latest, Cond.selects RX9 yX9_latest yX9_latest, Cond.code yX9_latest cX9_latest 1 (some .int), Cond.methodLink RX9 51 yX9_at_, Cond.static yX9_at_, Cond.code yX9_at_ cX9_at_ 3 (some .int)]
def wsX9_quits_r2 : List Cond := [Cond.methodLink RX9 87 yX9_at, Cond.static yX9_at, Cond.code yX9_at cX9_at 2 (some .int), Cond.methodLink RX9 92 yX9_mark, Cond.static yX9_mark, Cond.code yX9_mark cX9_mark 3 (some .int)]
def wsX9_quits : List Cond := .code yX9_quits cX9_quits 7 (some .boolean) :: ((wsX9_quits_r1 ++ wsX9_quits_r2) ++ wsX90)
def wsX9_quit_r1 : List Cond := [Cond.fieldLink RX9 39 "BunchTimesModel" "thrown" "I", Cond.methodLink RX9 111 yX9_quits, Cond.instanceMethod yX9_quits, Cond.selects RX9 yX9_quits yX9_quits, Cond.initialized RX9, Cond.code yX9_quits cX9_quits 7 (some .boolean), Cond.fieldLink RX9 7 "BunchTimesModel" "row" "[I", Cond.methodLink RX9 70 yX9_isOpen, Cond.instanceMethod yX9_isOpen, Cond.selects RX9 yX9_isOpen yX9_isOpen, Cond.code yX9_isOpen cX9_isOpen 1 (some .boolean), Cond.methodLink RX9 59 yX9_isThere, Cond.instanceMethod yX9_isThere, Cond.selects RX9 yX9_isThere yX9_isThere, Cond.code yX9_isThere cX9_isThere 2 (some .boolean), Cond.methodLink RX9 47 yX9_isRider, Cond.instanceMethod yX9_isRider, Cond.selects RX9 yX9_isRider yX9_isRider, Cond.code yX9_isRider cX9_isRider 2 (some .boolean), Cond.methodLink RX9 43 yX9_isIn, Cond.static yX9_isIn, Cond.code yX9_isIn cX9_isIn 3 (some .boolean), Cond.methodLink RX9 74 yX9_latest, Cond.instanceMethod yX9_latest]
def wsX9_quit_r2 : List Cond := [Cond.selects RX9 yX9_latest yX9_latest, Cond.code yX9_latest cX9_latest 1 (some .int), Cond.methodLink RX9 51 yX9_at_, Cond.static yX9_at_, Cond.code yX9_at_ cX9_at_ 3 (some .int), Cond.methodLink RX9 87 yX9_at, Cond.static yX9_at, Cond.code yX9_at cX9_at 2 (some .int), Cond.methodLink RX9 92 yX9_mark, Cond.static yX9_mark, Cond.code yX9_mark cX9_mark 3 (some .int)]
def wsX9_quit : List Cond := .code yX9_quit cX9_quit 2 (some .boolean) :: ((wsX9_quit_r1 ++ wsX9_quit_r2) ++ wsX90)
def wsX9_rule : List Cond := .code yX9_rule cX9_rule 3 (some .boolean) :: ([.fieldLink RX9 39 "BunchTimesModel" "thrown" "I", .fieldLink RX9 7 "BunchTimesModel" "row" "[I", .methodLink RX9 43 yX9_isIn, .static yX9_isIn, .initialized RX9, .code yX9_isIn cX9_isIn 3 (some .boolean)] ++ wsX90)
def wsX9_laysOrder : List Cond := .code yX9_laysOrder cX9_laysOrder 4 none :: ([.fieldLink RX9 114 "BunchTimesModel" "orderMany" "I", .fieldLink RX9 7 "BunchTimesModel" "row" "[I", .fieldLink RX9 23 "BunchTimesModel" "order" "[I", .methodLink RX9 55 yX9_hasFinish, .instanceMethod yX9_hasFinish, .selects RX9 yX9_hasFinish yX9_hasFinish, .initialized RX9, .code yX9_hasFinish cX9_hasFinish 3 (some .boolean), .methodLink RX9 51 yX9_at_, .static yX9_at_, .code yX9_at_ cX9_at_ 3 (some .int)] ++ wsX90)
def wsX9_space : List Cond := .code yX9_space cX9_space 3 (some .int) :: ([.fieldLink RX9 7 "BunchTimesModel" "row" "[I", .fieldLink RX9 23 "BunchTimesModel" "order" "[I", .methodLink RX9 51 yX9_at_, .static yX9_at_, .initialized RX9, .code yX9_at_ cX9_at_ 3 (some .int)] ++ wsX90)
def wsX9_bunches : List Cond := .code yX9_bunches cX9_bunches 5 (some .int) :: ([.fieldLink RX9 114 "BunchTimesModel" "orderMany" "I", .fieldLink RX9 7 "BunchTimesModel" "row" "[I", .methodLink RX9 87 yX9_at, .static yX9_at, .initialized RX9, .code yX9_at cX9_at 2 (some .int), .methodLink RX9 117 yX9_space, .instanceMethod yX9_space, .selects RX9 yX9_space yX9_space, .code yX9_space cX9_space 3 (some .int), .fieldLink RX9 23 "BunchTimesModel" "order" "[I", .methodLink RX9 51 yX9_at_, .static yX9_at_, .code yX9_at_ cX9_at_ 3 (some .int)] ++ wsX90)
def wsX9_laysRaw : List Cond := .code yX9_laysRaw cX9_laysRaw 6 none :: ([.fieldLink RX9 114 "BunchTimesModel" "orderMany" "I", .fieldLink RX9 7 "BunchTimesModel" "row" "[I", .fieldLink RX9 23 "BunchTimesModel" "order" "[I", .methodLink RX9 87 yX9_at, .static yX9_at, .initialized RX9, .code yX9_at cX9_at 2 (some .int), .methodLink RX9 117 yX9_space, .instanceMethod yX9_space, .selects RX9 yX9_space yX9_space, .code yX9_space cX9_space 3 (some .int), .methodLink RX9 51 yX9_at_, .static yX9_at_, .code yX9_at_ cX9_at_ 3 (some .int)] ++ wsX90)
def wsX9_doesCount : List Cond := .code yX9_doesCount cX9_doesCount 3 (some .boolean) :: ([.fieldLink RX9 7 "BunchTimesModel" "row" "[I", .methodLink RX9 87 yX9_at, .static yX9_at, .initialized RX9, .code yX9_at cX9_at 2 (some .int), .methodLink RX9 51 yX9_at_, .static yX9_at_, .code yX9_at_ cX9_at_ 3 (some .int)] ++ wsX90)
def wsX9_timeOf : List Cond := .code yX9_timeOf cX9_timeOf 7 (some .int) :: ([.fieldLink RX9 7 "BunchTimesModel" "row" "[I", .methodLink RX9 51 yX9_at_, .static yX9_at_, .initialized RX9, .code yX9_at_ cX9_at_ 3 (some .int), .methodLink RX9 120 yX9_doesCount, .instanceMethod yX9_doesCount, .selects RX9 yX9_doesCount yX9_doesCount, .code yX9_doesCount cX9_doesCount 3 (some .boolean), .methodLink RX9 87 yX9_at, .static yX9_at, .code yX9_at cX9_at 2 (some .int), .methodLink RX9 55 yX9_hasFinish, .instanceMethod yX9_hasFinish, .selects RX9 yX9_hasFinish yX9_hasFinish, .code yX9_hasFinish cX9_hasFinish 3 (some .boolean)] ++ wsX90)
def wsX9_isLate : List Cond := .code yX9_isLate cX9_isLate 3 (some .boolean) :: ([.fieldLink RX9 7 "BunchTimesModel" "row" "[I", .methodLink RX9 55 yX9_hasFinish, .instanceMethod yX9_hasFinish, .selects RX9 yX9_hasFinish yX9_hasFinish, .initialized RX9, .code yX9_hasFinish cX9_hasFinish 3 (some .boolean), .methodLink RX9 51 yX9_at_, .static yX9_at_, .code yX9_at_ cX9_at_ 3 (some .int), .methodLink RX9 87 yX9_at, .static yX9_at, .code yX9_at cX9_at 2 (some .int)] ++ wsX90)
def wsX9_hundredths : List Cond := .code yX9_hundredths cX9_hundredths 1 (some .int) :: ([])
def wsX9_laysLimit : List Cond := .code yX9_laysLimit cX9_laysLimit 6 none :: ([.fieldLink RX9 7 "BunchTimesModel" "row" "[I", .fieldLink RX9 23 "BunchTimesModel" "order" "[I", .fieldLink RX9 114 "BunchTimesModel" "orderMany" "I", .methodLink RX9 51 yX9_at_, .static yX9_at_, .initialized RX9, .code yX9_at_ cX9_at_ 3 (some .int), .methodLink RX9 87 yX9_at, .static yX9_at, .code yX9_at cX9_at 2 (some .int), .methodLink RX9 123 yX9_hundredths, .static yX9_hundredths, .code yX9_hundredths cX9_hundredths 1 (some .int)] ++ wsX90)
def wsX9_pointsFor : List Cond := .code yX9_pointsFor cX9_pointsFor 3 (some .int) :: ([.fieldLink RX9 7 "BunchTimesModel" "row" "[I", .fieldLink RX9 126 "BunchTimesModel" "FOR_FLAT" "[I", .fieldLink RX9 129 "BunchTimesModel" "FOR_HILLS" "[I", .fieldLink RX9 132 "BunchTimesModel" "FOR_OTHERS" "[I", .methodLink RX9 87 yX9_at, .static yX9_at, .initialized RX9, .code yX9_at cX9_at 2 (some .int)] ++ wsX90)
def wsX9_dotsFor : List Cond := .code yX9_dotsFor cX9_dotsFor 2 (some .int) :: ([.fieldLink RX9 135 "BunchTimesModel" "FIRST" "[I", .fieldLink RX9 138 "BunchTimesModel" "SECOND" "[I"])
def wsX9_adds : List Cond := .code yX9_adds cX9_adds 5 none :: ([.fieldLink RX9 7 "BunchTimesModel" "row" "[I", .methodLink RX9 141 yX9_isLate, .instanceMethod yX9_isLate, .selects RX9 yX9_isLate yX9_isLate, .initialized RX9, .code yX9_isLate cX9_isLate 3 (some .boolean), .methodLink RX9 55 yX9_hasFinish, .instanceMethod yX9_hasFinish, .selects RX9 yX9_hasFinish yX9_hasFinish, .code yX9_hasFinish cX9_hasFinish 3 (some .boolean), .methodLink RX9 51 yX9_at_, .static yX9_at_, .code yX9_at_ cX9_at_ 3 (some .int), .methodLink RX9 87 yX9_at, .static yX9_at, .code yX9_at cX9_at 2 (some .int)] ++ wsX90)
def wsX9_laysPrizes_r1 : List Cond := [Cond.fieldLink RX9 114 "BunchTimesModel" "orderMany" "I", Cond.fieldLink RX9 7 "BunchTimesModel" "row" "[I", Cond.fieldLink RX9 23 "BunchTimesModel" "order" "[I", Cond.fieldLink RX9 151 "BunchTimesModel" "FOR_SPRINT" "[I", Cond.methodLink RX9 87 yX9_at, Cond.static yX9_at, Cond.initialized RX9, Cond.code yX9_at cX9_at 2 (some .int), Cond.methodLink RX9 144 yX9_adds, Cond.instanceMethod yX9_adds, Cond.selects RX9 yX9_adds yX9_adds, Cond.code yX9_adds cX9_adds 5 none, Cond.methodLink RX9 141 yX9_isLate, Cond.instanceMethod yX9_isLate, Cond.selects RX9 yX9_isLate yX9_isLate, Cond.code yX9_isLate cX9_isLate 3 (some .boolean), Cond.methodLink RX9 55 yX9_hasFinish, Cond.instanceMethod yX9_hasFinish, Cond.selects RX9 yX9_hasFinish yX9_hasFinish, Cond.code yX9_hasFinish cX9_hasFinish 3 (some .boolean), Cond.methodLink RX9 51 yX9_at_, Cond.static yX9_at_, Cond.code yX9_at_ cX9_at_ 3 (some .int), Cond.methodLink RX9 148 yX9_pointsFor]
def wsX9_laysPrizes_r2 : List Cond := [Cond.instanceMethod yX9_pointsFor, Cond.selects RX9 yX9_pointsFor yX9_pointsFor, Cond.code yX9_pointsFor cX9_pointsFor 3 (some .int), Cond.fieldLink RX9 126 "BunchTimesModel" "FOR_FLAT" "[I", Cond.fieldLink RX9 129 "BunchTimesModel" "FOR_HILLS" "[I", Cond.fieldLink RX9 132 "BunchTimesModel" "FOR_OTHERS" "[I", Cond.methodLink RX9 92 yX9_mark, Cond.static yX9_mark, Cond.code yX9_mark cX9_mark 3 (some .int), Cond.methodLink RX9 154 yX9_dotsFor, Cond.static yX9_dotsFor, Cond.code yX9_dotsFor cX9_dotsFor 2 (some .int), Cond.fieldLink RX9 135 "BunchTimesModel" "FIRST" "[I", Cond.fieldLink RX9 138 "BunchTimesModel" "SECOND" "[I"]
def wsX9_laysPrizes : List Cond := .code yX9_laysPrizes cX9_laysPrizes 7 none :: ((wsX9_laysPrizes_r1 ++ wsX9_laysPrizes_r2) ++ wsX90)
def wsX9_closes_r1 : List Cond := [Cond.fieldLink RX9 7 "BunchTimesModel" "row" "[I", Cond.fieldLink RX9 114 "BunchTimesModel" "orderMany" "I", Cond.fieldLink RX9 23 "BunchTimesModel" "order" "[I", Cond.methodLink RX9 74 yX9_latest, Cond.instanceMethod yX9_latest, Cond.selects RX9 yX9_latest yX9_latest, Cond.initialized RX9, Cond.code yX9_latest cX9_latest 1 (some .int), Cond.methodLink RX9 70 yX9_isOpen, Cond.instanceMethod yX9_isOpen, Cond.selects RX9 yX9_isOpen yX9_isOpen, Cond.code yX9_isOpen cX9_isOpen 1 (some .boolean), Cond.methodLink RX9 77 yX9_finishes, Cond.instanceMethod yX9_finishes, Cond.selects RX9 yX9_finishes yX9_finishes, Cond.code yX9_finishes cX9_finishes 4 (some .int), Cond.methodLink RX9 55 yX9_hasFinish, Cond.instanceMethod yX9_hasFinish, Cond.selects RX9 yX9_hasFinish yX9_hasFinish, Cond.code yX9_hasFinish cX9_hasFinish 3 (some .boolean), Cond.methodLink RX9 51 yX9_at_, Cond.static yX9_at_, Cond.code yX9_at_ cX9_at_ 3 (some .int), Cond.methodLink RX9 87 yX9_at]
def wsX9_closes_r2 : List Cond := [Cond.static yX9_at, Cond.code yX9_at cX9_at 2 (some .int), Cond.methodLink RX9 160 yX9_laysOrder, Cond.instanceMethod yX9_laysOrder, Cond.selects RX9 yX9_laysOrder yX9_laysOrder, Cond.code yX9_laysOrder cX9_laysOrder 4 none, Cond.methodLink RX9 164 yX9_laysRaw, Cond.instanceMethod yX9_laysRaw, Cond.selects RX9 yX9_laysRaw yX9_laysRaw, Cond.code yX9_laysRaw cX9_laysRaw 6 none, Cond.methodLink RX9 117 yX9_space, Cond.instanceMethod yX9_space, Cond.selects RX9 yX9_space yX9_space, Cond.code yX9_space cX9_space 3 (some .int), Cond.methodLink RX9 167 yX9_timeOf, Cond.instanceMethod yX9_timeOf, Cond.selects RX9 yX9_timeOf yX9_timeOf, Cond.code yX9_timeOf cX9_timeOf 7 (some .int), Cond.methodLink RX9 120 yX9_doesCount, Cond.instanceMethod yX9_doesCount, Cond.selects RX9 yX9_doesCount yX9_doesCount, Cond.code yX9_doesCount cX9_doesCount 3 (some .boolean), Cond.methodLink RX9 170 yX9_laysLimit, Cond.instanceMethod yX9_laysLimit]
def wsX9_closes_r3 : List Cond := [Cond.selects RX9 yX9_laysLimit yX9_laysLimit, Cond.code yX9_laysLimit cX9_laysLimit 6 none, Cond.methodLink RX9 123 yX9_hundredths, Cond.static yX9_hundredths, Cond.code yX9_hundredths cX9_hundredths 1 (some .int), Cond.methodLink RX9 173 yX9_laysPrizes, Cond.instanceMethod yX9_laysPrizes, Cond.selects RX9 yX9_laysPrizes yX9_laysPrizes, Cond.code yX9_laysPrizes cX9_laysPrizes 7 none, Cond.fieldLink RX9 151 "BunchTimesModel" "FOR_SPRINT" "[I", Cond.methodLink RX9 144 yX9_adds, Cond.instanceMethod yX9_adds, Cond.selects RX9 yX9_adds yX9_adds, Cond.code yX9_adds cX9_adds 5 none, Cond.methodLink RX9 141 yX9_isLate, Cond.instanceMethod yX9_isLate, Cond.selects RX9 yX9_isLate yX9_isLate, Cond.code yX9_isLate cX9_isLate 3 (some .boolean), Cond.methodLink RX9 148 yX9_pointsFor, Cond.instanceMethod yX9_pointsFor, Cond.selects RX9 yX9_pointsFor yX9_pointsFor, Cond.code yX9_pointsFor cX9_pointsFor 3 (some .int), Cond.fieldLink RX9 126 "BunchTimesModel" "FOR_FLAT" "[I", Cond.fieldLink RX9 129 "BunchTimesModel" "FOR_HILLS" "[I"]
def wsX9_closes_r4 : List Cond := [Cond.fieldLink RX9 132 "BunchTimesModel" "FOR_OTHERS" "[I", Cond.methodLink RX9 92 yX9_mark, Cond.static yX9_mark, Cond.code yX9_mark cX9_mark 3 (some .int), Cond.methodLink RX9 154 yX9_dotsFor, Cond.static yX9_dotsFor, Cond.code yX9_dotsFor cX9_dotsFor 2 (some .int), Cond.fieldLink RX9 135 "BunchTimesModel" "FIRST" "[I", Cond.fieldLink RX9 138 "BunchTimesModel" "SECOND" "[I", Cond.methodLink RX9 59 yX9_isThere, Cond.instanceMethod yX9_isThere, Cond.selects RX9 yX9_isThere yX9_isThere, Cond.code yX9_isThere cX9_isThere 2 (some .boolean), Cond.methodLink RX9 47 yX9_isRider, Cond.instanceMethod yX9_isRider, Cond.selects RX9 yX9_isRider yX9_isRider, Cond.code yX9_isRider cX9_isRider 2 (some .boolean), Cond.methodLink RX9 43 yX9_isIn, Cond.static yX9_isIn, Cond.code yX9_isIn cX9_isIn 3 (some .boolean)]
def wsX9_closes : List Cond := .code yX9_closes cX9_closes 6 (some .int) :: ((wsX9_closes_r1 ++ (wsX9_closes_r2 ++ (wsX9_closes_r3 ++ wsX9_closes_r4))) ++ wsX90)
def wsX9_close_r1 : List Cond := [Cond.fieldLink RX9 39 "BunchTimesModel" "thrown" "I", Cond.methodLink RX9 157 yX9_closes, Cond.instanceMethod yX9_closes, Cond.selects RX9 yX9_closes yX9_closes, Cond.initialized RX9, Cond.code yX9_closes cX9_closes 6 (some .int), Cond.fieldLink RX9 7 "BunchTimesModel" "row" "[I", Cond.fieldLink RX9 114 "BunchTimesModel" "orderMany" "I", Cond.fieldLink RX9 23 "BunchTimesModel" "order" "[I", Cond.methodLink RX9 74 yX9_latest, Cond.instanceMethod yX9_latest, Cond.selects RX9 yX9_latest yX9_latest, Cond.code yX9_latest cX9_latest 1 (some .int), Cond.methodLink RX9 70 yX9_isOpen, Cond.instanceMethod yX9_isOpen, Cond.selects RX9 yX9_isOpen yX9_isOpen, Cond.code yX9_isOpen cX9_isOpen 1 (some .boolean), Cond.methodLink RX9 77 yX9_finishes, Cond.instanceMethod yX9_finishes, Cond.selects RX9 yX9_finishes yX9_finishes, Cond.code yX9_finishes cX9_finishes 4 (some .int), Cond.methodLink RX9 55 yX9_hasFinish, Cond.instanceMethod yX9_hasFinish, Cond.selects RX9 yX9_hasFinish yX9_hasFinish]
def wsX9_close_r2 : List Cond := [Cond.code yX9_hasFinish cX9_hasFinish 3 (some .boolean), Cond.methodLink RX9 51 yX9_at_, Cond.static yX9_at_, Cond.code yX9_at_ cX9_at_ 3 (some .int), Cond.methodLink RX9 87 yX9_at, Cond.static yX9_at, Cond.code yX9_at cX9_at 2 (some .int), Cond.methodLink RX9 160 yX9_laysOrder, Cond.instanceMethod yX9_laysOrder, Cond.selects RX9 yX9_laysOrder yX9_laysOrder, Cond.code yX9_laysOrder cX9_laysOrder 4 none, Cond.methodLink RX9 164 yX9_laysRaw, Cond.instanceMethod yX9_laysRaw, Cond.selects RX9 yX9_laysRaw yX9_laysRaw, Cond.code yX9_laysRaw cX9_laysRaw 6 none, Cond.methodLink RX9 117 yX9_space, Cond.instanceMethod yX9_space, Cond.selects RX9 yX9_space yX9_space, Cond.code yX9_space cX9_space 3 (some .int), Cond.methodLink RX9 167 yX9_timeOf, Cond.instanceMethod yX9_timeOf, Cond.selects RX9 yX9_timeOf yX9_timeOf, Cond.code yX9_timeOf cX9_timeOf 7 (some .int), Cond.methodLink RX9 120 yX9_doesCount]
def wsX9_close_r3 : List Cond := [Cond.instanceMethod yX9_doesCount, Cond.selects RX9 yX9_doesCount yX9_doesCount, Cond.code yX9_doesCount cX9_doesCount 3 (some .boolean), Cond.methodLink RX9 170 yX9_laysLimit, Cond.instanceMethod yX9_laysLimit, Cond.selects RX9 yX9_laysLimit yX9_laysLimit, Cond.code yX9_laysLimit cX9_laysLimit 6 none, Cond.methodLink RX9 123 yX9_hundredths, Cond.static yX9_hundredths, Cond.code yX9_hundredths cX9_hundredths 1 (some .int), Cond.methodLink RX9 173 yX9_laysPrizes, Cond.instanceMethod yX9_laysPrizes, Cond.selects RX9 yX9_laysPrizes yX9_laysPrizes, Cond.code yX9_laysPrizes cX9_laysPrizes 7 none, Cond.fieldLink RX9 151 "BunchTimesModel" "FOR_SPRINT" "[I", Cond.methodLink RX9 144 yX9_adds, Cond.instanceMethod yX9_adds, Cond.selects RX9 yX9_adds yX9_adds, Cond.code yX9_adds cX9_adds 5 none, Cond.methodLink RX9 141 yX9_isLate, Cond.instanceMethod yX9_isLate, Cond.selects RX9 yX9_isLate yX9_isLate, Cond.code yX9_isLate cX9_isLate 3 (some .boolean), Cond.methodLink RX9 148 yX9_pointsFor]
def wsX9_close_r4 : List Cond := [Cond.instanceMethod yX9_pointsFor, Cond.selects RX9 yX9_pointsFor yX9_pointsFor, Cond.code yX9_pointsFor cX9_pointsFor 3 (some .int), Cond.fieldLink RX9 126 "BunchTimesModel" "FOR_FLAT" "[I", Cond.fieldLink RX9 129 "BunchTimesModel" "FOR_HILLS" "[I", Cond.fieldLink RX9 132 "BunchTimesModel" "FOR_OTHERS" "[I", Cond.methodLink RX9 92 yX9_mark, Cond.static yX9_mark, Cond.code yX9_mark cX9_mark 3 (some .int), Cond.methodLink RX9 154 yX9_dotsFor, Cond.static yX9_dotsFor, Cond.code yX9_dotsFor cX9_dotsFor 2 (some .int), Cond.fieldLink RX9 135 "BunchTimesModel" "FIRST" "[I", Cond.fieldLink RX9 138 "BunchTimesModel" "SECOND" "[I", Cond.methodLink RX9 59 yX9_isThere, Cond.instanceMethod yX9_isThere, Cond.selects RX9 yX9_isThere yX9_isThere, Cond.code yX9_isThere cX9_isThere 2 (some .boolean), Cond.methodLink RX9 47 yX9_isRider, Cond.instanceMethod yX9_isRider, Cond.selects RX9 yX9_isRider yX9_isRider, Cond.code yX9_isRider cX9_isRider 2 (some .boolean), Cond.methodLink RX9 43 yX9_isIn, Cond.static yX9_isIn]
def wsX9_close_r5 : List Cond := [Cond.code yX9_isIn cX9_isIn 3 (some .boolean)]
def wsX9_close : List Cond := .code yX9_close cX9_close 1 (some .int) :: ((wsX9_close_r1 ++ (wsX9_close_r2 ++ (wsX9_close_r3 ++ (wsX9_close_r4 ++ wsX9_close_r5)))) ++ wsX90)
def wsX9_keep : List Cond := .code yX9_keep cX9_keep 3 (some .boolean) :: ([.fieldLink RX9 39 "BunchTimesModel" "thrown" "I", .fieldLink RX9 13 "BunchTimesModel" "keptRows" "[I", .fieldLink RX9 7 "BunchTimesModel" "row" "[I", .fieldLink RX9 19 "BunchTimesModel" "isKept" "[Z", .methodLink RX9 43 yX9_isIn, .static yX9_isIn, .initialized RX9, .code yX9_isIn cX9_isIn 3 (some .boolean)] ++ wsX90)
def wsX9_back : List Cond := .code yX9_back cX9_back 3 (some .boolean) :: ([.fieldLink RX9 39 "BunchTimesModel" "thrown" "I", .fieldLink RX9 19 "BunchTimesModel" "isKept" "[Z", .fieldLink RX9 7 "BunchTimesModel" "row" "[I", .fieldLink RX9 13 "BunchTimesModel" "keptRows" "[I", .methodLink RX9 43 yX9_isIn, .static yX9_isIn, .initialized RX9, .code yX9_isIn cX9_isIn 3 (some .boolean)] ++ wsX90)
def wsX9_count_r1 : List Cond := [Cond.fieldLink RX9 39 "BunchTimesModel" "thrown" "I", Cond.fieldLink RX9 7 "BunchTimesModel" "row" "[I", Cond.fieldLink RX9 179 "BunchTimesModel" "taped" "I", Cond.methodLink RX9 84 yX9_there, Cond.instanceMethod yX9_there, Cond.selects RX9 yX9_there yX9_there, Cond.initialized RX9, Cond.code yX9_there cX9_there 3 (some .int), Cond.methodLink RX9 59 yX9_isThere, Cond.instanceMethod yX9_isThere, Cond.selects RX9 yX9_isThere yX9_isThere, Cond.code yX9_isThere cX9_isThere 2 (some .boolean), Cond.methodLink RX9 47 yX9_isRider, Cond.instanceMethod yX9_isRider, Cond.selects RX9 yX9_isRider yX9_isRider, Cond.code yX9_isRider cX9_isRider 2 (some .boolean), Cond.methodLink RX9 43 yX9_isIn, Cond.static yX9_isIn, Cond.code yX9_isIn cX9_isIn 3 (some .boolean), Cond.methodLink RX9 176 yX9_closedMany, Cond.instanceMethod yX9_closedMany, Cond.selects RX9 yX9_closedMany yX9_closedMany, Cond.code yX9_closedMany cX9_closedMany 1 (some .int), Cond.methodLink RX9 74 yX9_latest]
def wsX9_count_r2 : List Cond := [Cond.instanceMethod yX9_latest, Cond.selects RX9 yX9_latest yX9_latest, Cond.code yX9_latest cX9_latest 1 (some .int), Cond.methodLink RX9 87 yX9_at, Cond.static yX9_at, Cond.code yX9_at cX9_at 2 (some .int), Cond.methodLink RX9 77 yX9_finishes, Cond.instanceMethod yX9_finishes, Cond.selects RX9 yX9_finishes yX9_finishes, Cond.code yX9_finishes cX9_finishes 4 (some .int), Cond.methodLink RX9 55 yX9_hasFinish, Cond.instanceMethod yX9_hasFinish, Cond.selects RX9 yX9_hasFinish yX9_hasFinish, Cond.code yX9_hasFinish cX9_hasFinish 3 (some .boolean), Cond.methodLink RX9 51 yX9_at_, Cond.static yX9_at_, Cond.code yX9_at_ cX9_at_ 3 (some .int)]
def wsX9_count : List Cond := .code yX9_count cX9_count 2 (some .int) :: ((wsX9_count_r1 ++ wsX9_count_r2) ++ wsX90)
def wsX9_allOf : List Cond := .code yX9_allOf cX9_allOf 5 (some .int) :: ([.fieldLink RX9 7 "BunchTimesModel" "row" "[I", .methodLink RX9 176 yX9_closedMany, .instanceMethod yX9_closedMany, .selects RX9 yX9_closedMany yX9_closedMany, .initialized RX9, .code yX9_closedMany cX9_closedMany 1 (some .int), .methodLink RX9 51 yX9_at_, .static yX9_at_, .code yX9_at_ cX9_at_ 3 (some .int)] ++ wsX90)
def wsX9_of : List Cond := .code yX9_of cX9_of 3 (some .int) :: ([.fieldLink RX9 39 "BunchTimesModel" "thrown" "I", .fieldLink RX9 7 "BunchTimesModel" "row" "[I", .methodLink RX9 47 yX9_isRider, .instanceMethod yX9_isRider, .selects RX9 yX9_isRider yX9_isRider, .initialized RX9, .code yX9_isRider cX9_isRider 2 (some .boolean), .methodLink RX9 43 yX9_isIn, .static yX9_isIn, .code yX9_isIn cX9_isIn 3 (some .boolean), .methodLink RX9 182 yX9_allOf, .instanceMethod yX9_allOf, .selects RX9 yX9_allOf yX9_allOf, .code yX9_allOf cX9_allOf 5 (some .int), .methodLink RX9 176 yX9_closedMany, .instanceMethod yX9_closedMany, .selects RX9 yX9_closedMany yX9_closedMany, .code yX9_closedMany cX9_closedMany 1 (some .int), .methodLink RX9 51 yX9_at_, .static yX9_at_, .code yX9_at_ cX9_at_ 3 (some .int)] ++ wsX90)
def wsX9_isClosed : List Cond := .code yX9_isClosed cX9_isClosed 2 (some .boolean) :: ([.methodLink RX9 176 yX9_closedMany, .instanceMethod yX9_closedMany, .selects RX9 yX9_closedMany yX9_closedMany, .initialized RX9, .code yX9_closedMany cX9_closedMany 1 (some .int), .fieldLink RX9 7 "BunchTimesModel" "row" "[I", .methodLink RX9 43 yX9_isIn, .static yX9_isIn, .code yX9_isIn cX9_isIn 3 (some .boolean)] ++ wsX90)
def wsX9_lesser : List Cond := .code yX9_lesser cX9_lesser 6 (some .int) :: ([.fieldLink RX9 7 "BunchTimesModel" "row" "[I", .methodLink RX9 51 yX9_at_, .static yX9_at_, .initialized RX9, .code yX9_at_ cX9_at_ 3 (some .int)] ++ wsX90)
def wsX9_told : List Cond := .code yX9_told cX9_told 3 (some .int) :: ([.fieldLink RX9 39 "BunchTimesModel" "thrown" "I", .fieldLink RX9 7 "BunchTimesModel" "row" "[I", .methodLink RX9 185 yX9_isClosed, .instanceMethod yX9_isClosed, .selects RX9 yX9_isClosed yX9_isClosed, .initialized RX9, .code yX9_isClosed cX9_isClosed 2 (some .boolean), .methodLink RX9 176 yX9_closedMany, .instanceMethod yX9_closedMany, .selects RX9 yX9_closedMany yX9_closedMany, .code yX9_closedMany cX9_closedMany 1 (some .int), .methodLink RX9 43 yX9_isIn, .static yX9_isIn, .code yX9_isIn cX9_isIn 3 (some .boolean), .methodLink RX9 87 yX9_at, .static yX9_at, .code yX9_at cX9_at 2 (some .int), .methodLink RX9 188 yX9_lesser, .instanceMethod yX9_lesser, .selects RX9 yX9_lesser yX9_lesser, .code yX9_lesser cX9_lesser 6 (some .int), .methodLink RX9 51 yX9_at_, .static yX9_at_, .code yX9_at_ cX9_at_ 3 (some .int)] ++ wsX90)
def wsX9_order_r1 : List Cond := [Cond.fieldLink RX9 39 "BunchTimesModel" "thrown" "I", Cond.fieldLink RX9 114 "BunchTimesModel" "orderMany" "I", Cond.fieldLink RX9 23 "BunchTimesModel" "order" "[I", Cond.methodLink RX9 185 yX9_isClosed, Cond.instanceMethod yX9_isClosed, Cond.selects RX9 yX9_isClosed yX9_isClosed, Cond.initialized RX9, Cond.code yX9_isClosed cX9_isClosed 2 (some .boolean), Cond.methodLink RX9 176 yX9_closedMany, Cond.instanceMethod yX9_closedMany, Cond.selects RX9 yX9_closedMany yX9_closedMany, Cond.code yX9_closedMany cX9_closedMany 1 (some .int), Cond.fieldLink RX9 7 "BunchTimesModel" "row" "[I", Cond.methodLink RX9 43 yX9_isIn, Cond.static yX9_isIn, Cond.code yX9_isIn cX9_isIn 3 (some .boolean), Cond.methodLink RX9 160 yX9_laysOrder, Cond.instanceMethod yX9_laysOrder, Cond.selects RX9 yX9_laysOrder yX9_laysOrder, Cond.code yX9_laysOrder cX9_laysOrder 4 none, Cond.methodLink RX9 55 yX9_hasFinish, Cond.instanceMethod yX9_hasFinish, Cond.selects RX9 yX9_hasFinish yX9_hasFinish, Cond.code yX9_hasFinish cX9_hasFinish 3 (some .boolean)]
def wsX9_order_r2 : List Cond := [Cond.methodLink RX9 51 yX9_at_, Cond.static yX9_at_, Cond.code yX9_at_ cX9_at_ 3 (some .int)]
def wsX9_order : List Cond := .code yX9_order cX9_order 3 (some .int) :: ((wsX9_order_r1 ++ wsX9_order_r2) ++ wsX90)
def wsX9_result_r1 : List Cond := [Cond.fieldLink RX9 39 "BunchTimesModel" "thrown" "I", Cond.fieldLink RX9 7 "BunchTimesModel" "row" "[I", Cond.methodLink RX9 185 yX9_isClosed, Cond.instanceMethod yX9_isClosed, Cond.selects RX9 yX9_isClosed yX9_isClosed, Cond.initialized RX9, Cond.code yX9_isClosed cX9_isClosed 2 (some .boolean), Cond.methodLink RX9 176 yX9_closedMany, Cond.instanceMethod yX9_closedMany, Cond.selects RX9 yX9_closedMany yX9_closedMany, Cond.code yX9_closedMany cX9_closedMany 1 (some .int), Cond.methodLink RX9 43 yX9_isIn, Cond.static yX9_isIn, Cond.code yX9_isIn cX9_isIn 3 (some .boolean), Cond.methodLink RX9 47 yX9_isRider, Cond.instanceMethod yX9_isRider, Cond.selects RX9 yX9_isRider yX9_isRider, Cond.code yX9_isRider cX9_isRider 2 (some .boolean), Cond.methodLink RX9 55 yX9_hasFinish, Cond.instanceMethod yX9_hasFinish, Cond.selects RX9 yX9_hasFinish yX9_hasFinish, Cond.code yX9_hasFinish cX9_hasFinish 3 (some .boolean), Cond.methodLink RX9 51 yX9_at_, Cond.static yX9_at_]
def wsX9_result_r2 : List Cond := [Cond.code yX9_at_ cX9_at_ 3 (some .int)]
def wsX9_result : List Cond := .code yX9_result cX9_result 4 (some .int) :: ((wsX9_result_r1 ++ wsX9_result_r2) ++ wsX90)
def wsX9_parted_r1 : List Cond := [Cond.fieldLink RX9 39 "BunchTimesModel" "thrown" "I", Cond.methodLink RX9 185 yX9_isClosed, Cond.instanceMethod yX9_isClosed, Cond.selects RX9 yX9_isClosed yX9_isClosed, Cond.initialized RX9, Cond.code yX9_isClosed cX9_isClosed 2 (some .boolean), Cond.methodLink RX9 176 yX9_closedMany, Cond.instanceMethod yX9_closedMany, Cond.selects RX9 yX9_closedMany yX9_closedMany, Cond.code yX9_closedMany cX9_closedMany 1 (some .int), Cond.fieldLink RX9 7 "BunchTimesModel" "row" "[I", Cond.methodLink RX9 43 yX9_isIn, Cond.static yX9_isIn, Cond.code yX9_isIn cX9_isIn 3 (some .boolean), Cond.methodLink RX9 160 yX9_laysOrder, Cond.instanceMethod yX9_laysOrder, Cond.selects RX9 yX9_laysOrder yX9_laysOrder, Cond.code yX9_laysOrder cX9_laysOrder 4 none, Cond.fieldLink RX9 114 "BunchTimesModel" "orderMany" "I", Cond.fieldLink RX9 23 "BunchTimesModel" "order" "[I", Cond.methodLink RX9 55 yX9_hasFinish, Cond.instanceMethod yX9_hasFinish, Cond.selects RX9 yX9_hasFinish yX9_hasFinish, Cond.code yX9_hasFinish cX9_hasFinish 3 (some .boolean)]
def wsX9_parted_r2 : List Cond := [Cond.methodLink RX9 51 yX9_at_, Cond.static yX9_at_, Cond.code yX9_at_ cX9_at_ 3 (some .int), Cond.methodLink RX9 192 yX9_bunches, Cond.instanceMethod yX9_bunches, Cond.selects RX9 yX9_bunches yX9_bunches, Cond.code yX9_bunches cX9_bunches 5 (some .int), Cond.methodLink RX9 87 yX9_at, Cond.static yX9_at, Cond.code yX9_at cX9_at 2 (some .int), Cond.methodLink RX9 117 yX9_space, Cond.instanceMethod yX9_space, Cond.selects RX9 yX9_space yX9_space, Cond.code yX9_space cX9_space 3 (some .int)]
def wsX9_parted : List Cond := .code yX9_parted cX9_parted 3 (some .int) :: ((wsX9_parted_r1 ++ wsX9_parted_r2) ++ wsX90)
def wsX9_together_r1 : List Cond := [Cond.fieldLink RX9 39 "BunchTimesModel" "thrown" "I", Cond.methodLink RX9 185 yX9_isClosed, Cond.instanceMethod yX9_isClosed, Cond.selects RX9 yX9_isClosed yX9_isClosed, Cond.initialized RX9, Cond.code yX9_isClosed cX9_isClosed 2 (some .boolean), Cond.methodLink RX9 176 yX9_closedMany, Cond.instanceMethod yX9_closedMany, Cond.selects RX9 yX9_closedMany yX9_closedMany, Cond.code yX9_closedMany cX9_closedMany 1 (some .int), Cond.fieldLink RX9 7 "BunchTimesModel" "row" "[I", Cond.methodLink RX9 43 yX9_isIn, Cond.static yX9_isIn, Cond.code yX9_isIn cX9_isIn 3 (some .boolean), Cond.methodLink RX9 160 yX9_laysOrder, Cond.instanceMethod yX9_laysOrder, Cond.selects RX9 yX9_laysOrder yX9_laysOrder, Cond.code yX9_laysOrder cX9_laysOrder 4 none, Cond.fieldLink RX9 114 "BunchTimesModel" "orderMany" "I", Cond.fieldLink RX9 23 "BunchTimesModel" "order" "[I", Cond.methodLink RX9 55 yX9_hasFinish, Cond.instanceMethod yX9_hasFinish, Cond.selects RX9 yX9_hasFinish yX9_hasFinish, Cond.code yX9_hasFinish cX9_hasFinish 3 (some .boolean)]
def wsX9_together_r2 : List Cond := [Cond.methodLink RX9 51 yX9_at_, Cond.static yX9_at_, Cond.code yX9_at_ cX9_at_ 3 (some .int), Cond.methodLink RX9 192 yX9_bunches, Cond.instanceMethod yX9_bunches, Cond.selects RX9 yX9_bunches yX9_bunches, Cond.code yX9_bunches cX9_bunches 5 (some .int), Cond.methodLink RX9 87 yX9_at, Cond.static yX9_at, Cond.code yX9_at cX9_at 2 (some .int), Cond.methodLink RX9 117 yX9_space, Cond.instanceMethod yX9_space, Cond.selects RX9 yX9_space yX9_space, Cond.code yX9_space cX9_space 3 (some .int)]
def wsX9_together : List Cond := .code yX9_together cX9_together 3 (some .int) :: ((wsX9_together_r1 ++ wsX9_together_r2) ++ wsX90)
def wsX9_escaped_r1 : List Cond := [Cond.fieldLink RX9 39 "BunchTimesModel" "thrown" "I", Cond.fieldLink RX9 114 "BunchTimesModel" "orderMany" "I", Cond.methodLink RX9 185 yX9_isClosed, Cond.instanceMethod yX9_isClosed, Cond.selects RX9 yX9_isClosed yX9_isClosed, Cond.initialized RX9, Cond.code yX9_isClosed cX9_isClosed 2 (some .boolean), Cond.methodLink RX9 176 yX9_closedMany, Cond.instanceMethod yX9_closedMany, Cond.selects RX9 yX9_closedMany yX9_closedMany, Cond.code yX9_closedMany cX9_closedMany 1 (some .int), Cond.fieldLink RX9 7 "BunchTimesModel" "row" "[I", Cond.methodLink RX9 43 yX9_isIn, Cond.static yX9_isIn, Cond.code yX9_isIn cX9_isIn 3 (some .boolean), Cond.methodLink RX9 160 yX9_laysOrder, Cond.instanceMethod yX9_laysOrder, Cond.selects RX9 yX9_laysOrder yX9_laysOrder, Cond.code yX9_laysOrder cX9_laysOrder 4 none, Cond.fieldLink RX9 23 "BunchTimesModel" "order" "[I", Cond.methodLink RX9 55 yX9_hasFinish, Cond.instanceMethod yX9_hasFinish, Cond.selects RX9 yX9_hasFinish yX9_hasFinish, Cond.code yX9_hasFinish cX9_hasFinish 3 (some .boolean)]
def wsX9_escaped_r2 : List Cond := [Cond.methodLink RX9 51 yX9_at_, Cond.static yX9_at_, Cond.code yX9_at_ cX9_at_ 3 (some .int), Cond.methodLink RX9 117 yX9_space, Cond.instanceMethod yX9_space, Cond.selects RX9 yX9_space yX9_space, Cond.code yX9_space cX9_space 3 (some .int)]
def wsX9_escaped : List Cond := .code yX9_escaped cX9_escaped 5 (some .int) :: ((wsX9_escaped_r1 ++ wsX9_escaped_r2) ++ wsX90)
def wsX9_totalBut : List Cond := .code yX9_totalBut cX9_totalBut 5 (some .int) :: ([.fieldLink RX9 7 "BunchTimesModel" "row" "[I", .methodLink RX9 176 yX9_closedMany, .instanceMethod yX9_closedMany, .selects RX9 yX9_closedMany yX9_closedMany, .initialized RX9, .code yX9_closedMany cX9_closedMany 1 (some .int), .methodLink RX9 55 yX9_hasFinish, .instanceMethod yX9_hasFinish, .selects RX9 yX9_hasFinish yX9_hasFinish, .code yX9_hasFinish cX9_hasFinish 3 (some .boolean), .methodLink RX9 51 yX9_at_, .static yX9_at_, .code yX9_at_ cX9_at_ 3 (some .int), .methodLink RX9 87 yX9_at, .static yX9_at, .code yX9_at cX9_at 2 (some .int)] ++ wsX90)
def wsX9_placesBut : List Cond := .code yX9_placesBut cX9_placesBut 5 (some .int) :: ([.fieldLink RX9 7 "BunchTimesModel" "row" "[I", .methodLink RX9 176 yX9_closedMany, .instanceMethod yX9_closedMany, .selects RX9 yX9_closedMany yX9_closedMany, .initialized RX9, .code yX9_closedMany cX9_closedMany 1 (some .int), .methodLink RX9 55 yX9_hasFinish, .instanceMethod yX9_hasFinish, .selects RX9 yX9_hasFinish yX9_hasFinish, .code yX9_hasFinish cX9_hasFinish 3 (some .boolean), .methodLink RX9 51 yX9_at_, .static yX9_at_, .code yX9_at_ cX9_at_ 3 (some .int)] ++ wsX90)
def wsX9_isAhead : List Cond := .code yX9_isAhead cX9_isAhead 9 (some .boolean) :: ([.methodLink RX9 195 yX9_totalBut, .instanceMethod yX9_totalBut, .selects RX9 yX9_totalBut yX9_totalBut, .initialized RX9, .code yX9_totalBut cX9_totalBut 5 (some .int), .fieldLink RX9 7 "BunchTimesModel" "row" "[I", .methodLink RX9 176 yX9_closedMany, .instanceMethod yX9_closedMany, .selects RX9 yX9_closedMany yX9_closedMany, .code yX9_closedMany cX9_closedMany 1 (some .int), .methodLink RX9 55 yX9_hasFinish, .instanceMethod yX9_hasFinish, .selects RX9 yX9_hasFinish yX9_hasFinish, .code yX9_hasFinish cX9_hasFinish 3 (some .boolean), .methodLink RX9 51 yX9_at_, .static yX9_at_, .code yX9_at_ cX9_at_ 3 (some .int), .methodLink RX9 87 yX9_at, .static yX9_at, .code yX9_at cX9_at 2 (some .int), .methodLink RX9 198 yX9_placesBut, .instanceMethod yX9_placesBut, .selects RX9 yX9_placesBut yX9_placesBut, .code yX9_placesBut cX9_placesBut 5 (some .int)] ++ wsX90)
def wsX9_isOn : List Cond := .code yX9_isOn cX9_isOn 3 (some .boolean) :: ([.fieldLink RX9 7 "BunchTimesModel" "row" "[I", .methodLink RX9 59 yX9_isThere, .instanceMethod yX9_isThere, .selects RX9 yX9_isThere yX9_isThere, .initialized RX9, .code yX9_isThere cX9_isThere 2 (some .boolean), .methodLink RX9 47 yX9_isRider, .instanceMethod yX9_isRider, .selects RX9 yX9_isRider yX9_isRider, .code yX9_isRider cX9_isRider 2 (some .boolean), .methodLink RX9 43 yX9_isIn, .static yX9_isIn, .code yX9_isIn cX9_isIn 3 (some .boolean), .methodLink RX9 182 yX9_allOf, .instanceMethod yX9_allOf, .selects RX9 yX9_allOf yX9_allOf, .code yX9_allOf cX9_allOf 5 (some .int), .methodLink RX9 176 yX9_closedMany, .instanceMethod yX9_closedMany, .selects RX9 yX9_closedMany yX9_closedMany, .code yX9_closedMany cX9_closedMany 1 (some .int), .methodLink RX9 51 yX9_at_, .static yX9_at_, .code yX9_at_ cX9_at_ 3 (some .int)] ++ wsX90)
def wsX9_isBefore_r1 : List Cond := [Cond.methodLink RX9 43 yX9_isIn, Cond.static yX9_isIn, Cond.initialized RX9, Cond.code yX9_isIn cX9_isIn 3 (some .boolean), Cond.methodLink RX9 182 yX9_allOf, Cond.instanceMethod yX9_allOf, Cond.selects RX9 yX9_allOf yX9_allOf, Cond.code yX9_allOf cX9_allOf 5 (some .int), Cond.fieldLink RX9 7 "BunchTimesModel" "row" "[I", Cond.methodLink RX9 176 yX9_closedMany, Cond.instanceMethod yX9_closedMany, Cond.selects RX9 yX9_closedMany yX9_closedMany, Cond.code yX9_closedMany cX9_closedMany 1 (some .int), Cond.methodLink RX9 51 yX9_at_, Cond.static yX9_at_, Cond.code yX9_at_ cX9_at_ 3 (some .int), Cond.methodLink RX9 201 yX9_isAhead, Cond.instanceMethod yX9_isAhead, Cond.selects RX9 yX9_isAhead yX9_isAhead, Cond.code yX9_isAhead cX9_isAhead 9 (some .boolean), Cond.methodLink RX9 195 yX9_totalBut, Cond.instanceMethod yX9_totalBut, Cond.selects RX9 yX9_totalBut yX9_totalBut, Cond.code yX9_totalBut cX9_totalBut 5 (some .int)]
def wsX9_isBefore_r2 : List Cond := [Cond.methodLink RX9 55 yX9_hasFinish, Cond.instanceMethod yX9_hasFinish, Cond.selects RX9 yX9_hasFinish yX9_hasFinish, Cond.code yX9_hasFinish cX9_hasFinish 3 (some .boolean), Cond.methodLink RX9 87 yX9_at, Cond.static yX9_at, Cond.code yX9_at cX9_at 2 (some .int), Cond.methodLink RX9 198 yX9_placesBut, Cond.instanceMethod yX9_placesBut, Cond.selects RX9 yX9_placesBut yX9_placesBut, Cond.code yX9_placesBut cX9_placesBut 5 (some .int)]
def wsX9_isBefore : List Cond := .code yX9_isBefore cX9_isBefore 5 (some .boolean) :: ((wsX9_isBefore_r1 ++ wsX9_isBefore_r2) ++ wsX90)
def wsX9_isTeamOn : List Cond := .code yX9_isTeamOn cX9_isTeamOn 4 (some .boolean) :: ([.fieldLink RX9 7 "BunchTimesModel" "row" "[I", .methodLink RX9 59 yX9_isThere, .instanceMethod yX9_isThere, .selects RX9 yX9_isThere yX9_isThere, .initialized RX9, .code yX9_isThere cX9_isThere 2 (some .boolean), .methodLink RX9 47 yX9_isRider, .instanceMethod yX9_isRider, .selects RX9 yX9_isRider yX9_isRider, .code yX9_isRider cX9_isRider 2 (some .boolean), .methodLink RX9 43 yX9_isIn, .static yX9_isIn, .code yX9_isIn cX9_isIn 3 (some .boolean)] ++ wsX90)
def wsX9_threeOf : List Cond := .code yX9_threeOf cX9_threeOf 7 (some .int) :: ([.fieldLink RX9 7 "BunchTimesModel" "row" "[I", .fieldLink RX9 29 "BunchTimesModel" "least" "[I", .methodLink RX9 55 yX9_hasFinish, .instanceMethod yX9_hasFinish, .selects RX9 yX9_hasFinish yX9_hasFinish, .initialized RX9, .code yX9_hasFinish cX9_hasFinish 3 (some .boolean), .methodLink RX9 51 yX9_at_, .static yX9_at_, .code yX9_at_ cX9_at_ 3 (some .int), .methodLink RX9 87 yX9_at, .static yX9_at, .code yX9_at cX9_at 2 (some .int)] ++ wsX90)
def wsX9_teamTotal : List Cond := .code yX9_teamTotal cX9_teamTotal 4 (some .int) :: ([.methodLink RX9 176 yX9_closedMany, .instanceMethod yX9_closedMany, .selects RX9 yX9_closedMany yX9_closedMany, .initialized RX9, .code yX9_closedMany cX9_closedMany 1 (some .int), .fieldLink RX9 7 "BunchTimesModel" "row" "[I", .methodLink RX9 217 yX9_threeOf, .instanceMethod yX9_threeOf, .selects RX9 yX9_threeOf yX9_threeOf, .code yX9_threeOf cX9_threeOf 7 (some .int), .fieldLink RX9 29 "BunchTimesModel" "least" "[I", .methodLink RX9 55 yX9_hasFinish, .instanceMethod yX9_hasFinish, .selects RX9 yX9_hasFinish yX9_hasFinish, .code yX9_hasFinish cX9_hasFinish 3 (some .boolean), .methodLink RX9 51 yX9_at_, .static yX9_at_, .code yX9_at_ cX9_at_ 3 (some .int), .methodLink RX9 87 yX9_at, .static yX9_at, .code yX9_at cX9_at 2 (some .int)] ++ wsX90)
def wsX9_ranksTeams_r1 : List Cond := [Cond.fieldLink RX9 7 "BunchTimesModel" "row" "[I", Cond.fieldLink RX9 205 "BunchTimesModel" "rankedMany" "I", Cond.fieldLink RX9 26 "BunchTimesModel" "ranked" "[I", Cond.methodLink RX9 220 yX9_isTeamOn, Cond.instanceMethod yX9_isTeamOn, Cond.selects RX9 yX9_isTeamOn yX9_isTeamOn, Cond.initialized RX9, Cond.code yX9_isTeamOn cX9_isTeamOn 4 (some .boolean), Cond.methodLink RX9 59 yX9_isThere, Cond.instanceMethod yX9_isThere, Cond.selects RX9 yX9_isThere yX9_isThere, Cond.code yX9_isThere cX9_isThere 2 (some .boolean), Cond.methodLink RX9 47 yX9_isRider, Cond.instanceMethod yX9_isRider, Cond.selects RX9 yX9_isRider yX9_isRider, Cond.code yX9_isRider cX9_isRider 2 (some .boolean), Cond.methodLink RX9 43 yX9_isIn, Cond.static yX9_isIn, Cond.code yX9_isIn cX9_isIn 3 (some .boolean), Cond.methodLink RX9 223 yX9_teamTotal, Cond.instanceMethod yX9_teamTotal, Cond.selects RX9 yX9_teamTotal yX9_teamTotal, Cond.code yX9_teamTotal cX9_teamTotal 4 (some .int), Cond.methodLink RX9 176 yX9_closedMany]
def wsX9_ranksTeams_r2 : List Cond := [Cond.instanceMethod yX9_closedMany, Cond.selects RX9 yX9_closedMany yX9_closedMany, Cond.code yX9_closedMany cX9_closedMany 1 (some .int), Cond.methodLink RX9 217 yX9_threeOf, Cond.instanceMethod yX9_threeOf, Cond.selects RX9 yX9_threeOf yX9_threeOf, Cond.code yX9_threeOf cX9_threeOf 7 (some .int), Cond.fieldLink RX9 29 "BunchTimesModel" "least" "[I", Cond.methodLink RX9 55 yX9_hasFinish, Cond.instanceMethod yX9_hasFinish, Cond.selects RX9 yX9_hasFinish yX9_hasFinish, Cond.code yX9_hasFinish cX9_hasFinish 3 (some .boolean), Cond.methodLink RX9 51 yX9_at_, Cond.static yX9_at_, Cond.code yX9_at_ cX9_at_ 3 (some .int), Cond.methodLink RX9 87 yX9_at, Cond.static yX9_at, Cond.code yX9_at cX9_at 2 (some .int)]
def wsX9_ranksTeams : List Cond := .code yX9_ranksTeams cX9_ranksTeams 3 none :: ((wsX9_ranksTeams_r1 ++ wsX9_ranksTeams_r2) ++ wsX90)
def wsX9_ranks_r1 : List Cond := [Cond.fieldLink RX9 205 "BunchTimesModel" "rankedMany" "I", Cond.fieldLink RX9 7 "BunchTimesModel" "row" "[I", Cond.fieldLink RX9 26 "BunchTimesModel" "ranked" "[I", Cond.methodLink RX9 176 yX9_closedMany, Cond.instanceMethod yX9_closedMany, Cond.selects RX9 yX9_closedMany yX9_closedMany, Cond.initialized RX9, Cond.code yX9_closedMany cX9_closedMany 1 (some .int), Cond.methodLink RX9 208 yX9_ranksTeams, Cond.instanceMethod yX9_ranksTeams, Cond.selects RX9 yX9_ranksTeams yX9_ranksTeams, Cond.code yX9_ranksTeams cX9_ranksTeams 3 none, Cond.methodLink RX9 220 yX9_isTeamOn, Cond.instanceMethod yX9_isTeamOn, Cond.selects RX9 yX9_isTeamOn yX9_isTeamOn, Cond.code yX9_isTeamOn cX9_isTeamOn 4 (some .boolean), Cond.methodLink RX9 59 yX9_isThere, Cond.instanceMethod yX9_isThere, Cond.selects RX9 yX9_isThere yX9_isThere, Cond.code yX9_isThere cX9_isThere 2 (some .boolean), Cond.methodLink RX9 47 yX9_isRider, Cond.instanceMethod yX9_isRider, Cond.selects RX9 yX9_isRider yX9_isRider, Cond.code yX9_isRider cX9_isRider 2 (some .boolean)]
def wsX9_ranks_r2 : List Cond := [Cond.methodLink RX9 43 yX9_isIn, Cond.static yX9_isIn, Cond.code yX9_isIn cX9_isIn 3 (some .boolean), Cond.methodLink RX9 223 yX9_teamTotal, Cond.instanceMethod yX9_teamTotal, Cond.selects RX9 yX9_teamTotal yX9_teamTotal, Cond.code yX9_teamTotal cX9_teamTotal 4 (some .int), Cond.methodLink RX9 217 yX9_threeOf, Cond.instanceMethod yX9_threeOf, Cond.selects RX9 yX9_threeOf yX9_threeOf, Cond.code yX9_threeOf cX9_threeOf 7 (some .int), Cond.fieldLink RX9 29 "BunchTimesModel" "least" "[I", Cond.methodLink RX9 55 yX9_hasFinish, Cond.instanceMethod yX9_hasFinish, Cond.selects RX9 yX9_hasFinish yX9_hasFinish, Cond.code yX9_hasFinish cX9_hasFinish 3 (some .boolean), Cond.methodLink RX9 51 yX9_at_, Cond.static yX9_at_, Cond.code yX9_at_ cX9_at_ 3 (some .int), Cond.methodLink RX9 87 yX9_at, Cond.static yX9_at, Cond.code yX9_at cX9_at 2 (some .int), Cond.methodLink RX9 211 yX9_isOn, Cond.instanceMethod yX9_isOn]
def wsX9_ranks_r3 : List Cond := [Cond.selects RX9 yX9_isOn yX9_isOn, Cond.code yX9_isOn cX9_isOn 3 (some .boolean), Cond.methodLink RX9 182 yX9_allOf, Cond.instanceMethod yX9_allOf, Cond.selects RX9 yX9_allOf yX9_allOf, Cond.code yX9_allOf cX9_allOf 5 (some .int), Cond.methodLink RX9 214 yX9_isBefore, Cond.instanceMethod yX9_isBefore, Cond.selects RX9 yX9_isBefore yX9_isBefore, Cond.code yX9_isBefore cX9_isBefore 5 (some .boolean), Cond.methodLink RX9 201 yX9_isAhead, Cond.instanceMethod yX9_isAhead, Cond.selects RX9 yX9_isAhead yX9_isAhead, Cond.code yX9_isAhead cX9_isAhead 9 (some .boolean), Cond.methodLink RX9 195 yX9_totalBut, Cond.instanceMethod yX9_totalBut, Cond.selects RX9 yX9_totalBut yX9_totalBut, Cond.code yX9_totalBut cX9_totalBut 5 (some .int), Cond.methodLink RX9 198 yX9_placesBut, Cond.instanceMethod yX9_placesBut, Cond.selects RX9 yX9_placesBut yX9_placesBut, Cond.code yX9_placesBut cX9_placesBut 5 (some .int)]
def wsX9_ranks : List Cond := .code yX9_ranks cX9_ranks 4 none :: ((wsX9_ranks_r1 ++ (wsX9_ranks_r2 ++ wsX9_ranks_r3)) ++ wsX90)
def wsX9_list_r1 : List Cond := [Cond.fieldLink RX9 39 "BunchTimesModel" "thrown" "I", Cond.fieldLink RX9 205 "BunchTimesModel" "rankedMany" "I", Cond.fieldLink RX9 26 "BunchTimesModel" "ranked" "[I", Cond.methodLink RX9 43 yX9_isIn, Cond.static yX9_isIn, Cond.initialized RX9, Cond.code yX9_isIn cX9_isIn 3 (some .boolean), Cond.methodLink RX9 226 yX9_ranks, Cond.instanceMethod yX9_ranks, Cond.selects RX9 yX9_ranks yX9_ranks, Cond.code yX9_ranks cX9_ranks 4 none, Cond.fieldLink RX9 7 "BunchTimesModel" "row" "[I", Cond.methodLink RX9 176 yX9_closedMany, Cond.instanceMethod yX9_closedMany, Cond.selects RX9 yX9_closedMany yX9_closedMany, Cond.code yX9_closedMany cX9_closedMany 1 (some .int), Cond.methodLink RX9 208 yX9_ranksTeams, Cond.instanceMethod yX9_ranksTeams, Cond.selects RX9 yX9_ranksTeams yX9_ranksTeams, Cond.code yX9_ranksTeams cX9_ranksTeams 3 none, Cond.methodLink RX9 220 yX9_isTeamOn, Cond.instanceMethod yX9_isTeamOn, Cond.selects RX9 yX9_isTeamOn yX9_isTeamOn, Cond.code yX9_isTeamOn cX9_isTeamOn 4 (some .boolean)]
def wsX9_list_r2 : List Cond := [Cond.methodLink RX9 59 yX9_isThere, Cond.instanceMethod yX9_isThere, Cond.selects RX9 yX9_isThere yX9_isThere, Cond.code yX9_isThere cX9_isThere 2 (some .boolean), Cond.methodLink RX9 47 yX9_isRider, Cond.instanceMethod yX9_isRider, Cond.selects RX9 yX9_isRider yX9_isRider, Cond.code yX9_isRider cX9_isRider 2 (some .boolean), Cond.methodLink RX9 223 yX9_teamTotal, Cond.instanceMethod yX9_teamTotal, Cond.selects RX9 yX9_teamTotal yX9_teamTotal, Cond.code yX9_teamTotal cX9_teamTotal 4 (some .int), Cond.methodLink RX9 217 yX9_threeOf, Cond.instanceMethod yX9_threeOf, Cond.selects RX9 yX9_threeOf yX9_threeOf, Cond.code yX9_threeOf cX9_threeOf 7 (some .int), Cond.fieldLink RX9 29 "BunchTimesModel" "least" "[I", Cond.methodLink RX9 55 yX9_hasFinish, Cond.instanceMethod yX9_hasFinish, Cond.selects RX9 yX9_hasFinish yX9_hasFinish, Cond.code yX9_hasFinish cX9_hasFinish 3 (some .boolean), Cond.methodLink RX9 51 yX9_at_, Cond.static yX9_at_, Cond.code yX9_at_ cX9_at_ 3 (some .int)]
def wsX9_list_r3 : List Cond := [Cond.methodLink RX9 87 yX9_at, Cond.static yX9_at, Cond.code yX9_at cX9_at 2 (some .int), Cond.methodLink RX9 211 yX9_isOn, Cond.instanceMethod yX9_isOn, Cond.selects RX9 yX9_isOn yX9_isOn, Cond.code yX9_isOn cX9_isOn 3 (some .boolean), Cond.methodLink RX9 182 yX9_allOf, Cond.instanceMethod yX9_allOf, Cond.selects RX9 yX9_allOf yX9_allOf, Cond.code yX9_allOf cX9_allOf 5 (some .int), Cond.methodLink RX9 214 yX9_isBefore, Cond.instanceMethod yX9_isBefore, Cond.selects RX9 yX9_isBefore yX9_isBefore, Cond.code yX9_isBefore cX9_isBefore 5 (some .boolean), Cond.methodLink RX9 201 yX9_isAhead, Cond.instanceMethod yX9_isAhead, Cond.selects RX9 yX9_isAhead yX9_isAhead, Cond.code yX9_isAhead cX9_isAhead 9 (some .boolean), Cond.methodLink RX9 195 yX9_totalBut, Cond.instanceMethod yX9_totalBut, Cond.selects RX9 yX9_totalBut yX9_totalBut, Cond.code yX9_totalBut cX9_totalBut 5 (some .int), Cond.methodLink RX9 198 yX9_placesBut]
def wsX9_list_r4 : List Cond := [Cond.instanceMethod yX9_placesBut, Cond.selects RX9 yX9_placesBut yX9_placesBut, Cond.code yX9_placesBut cX9_placesBut 5 (some .int)]
def wsX9_list : List Cond := .code yX9_list cX9_list 3 (some .int) :: ((wsX9_list_r1 ++ (wsX9_list_r2 ++ (wsX9_list_r3 ++ wsX9_list_r4))) ++ wsX90)
def wsX9_total_r1 : List Cond := [Cond.fieldLink RX9 39 "BunchTimesModel" "thrown" "I", Cond.fieldLink RX9 7 "BunchTimesModel" "row" "[I", Cond.constant RX9 229 (-1000000), Cond.methodLink RX9 176 yX9_closedMany, Cond.instanceMethod yX9_closedMany, Cond.selects RX9 yX9_closedMany yX9_closedMany, Cond.initialized RX9, Cond.code yX9_closedMany cX9_closedMany 1 (some .int), Cond.methodLink RX9 43 yX9_isIn, Cond.static yX9_isIn, Cond.code yX9_isIn cX9_isIn 3 (some .boolean), Cond.methodLink RX9 220 yX9_isTeamOn, Cond.instanceMethod yX9_isTeamOn, Cond.selects RX9 yX9_isTeamOn yX9_isTeamOn, Cond.code yX9_isTeamOn cX9_isTeamOn 4 (some .boolean), Cond.methodLink RX9 59 yX9_isThere, Cond.instanceMethod yX9_isThere, Cond.selects RX9 yX9_isThere yX9_isThere, Cond.code yX9_isThere cX9_isThere 2 (some .boolean), Cond.methodLink RX9 47 yX9_isRider, Cond.instanceMethod yX9_isRider, Cond.selects RX9 yX9_isRider yX9_isRider, Cond.code yX9_isRider cX9_isRider 2 (some .boolean), Cond.methodLink RX9 223 yX9_teamTotal]
def wsX9_total_r2 : List Cond := [Cond.instanceMethod yX9_teamTotal, Cond.selects RX9 yX9_teamTotal yX9_teamTotal, Cond.code yX9_teamTotal cX9_teamTotal 4 (some .int), Cond.methodLink RX9 217 yX9_threeOf, Cond.instanceMethod yX9_threeOf, Cond.selects RX9 yX9_threeOf yX9_threeOf, Cond.code yX9_threeOf cX9_threeOf 7 (some .int), Cond.fieldLink RX9 29 "BunchTimesModel" "least" "[I", Cond.methodLink RX9 55 yX9_hasFinish, Cond.instanceMethod yX9_hasFinish, Cond.selects RX9 yX9_hasFinish yX9_hasFinish, Cond.code yX9_hasFinish cX9_hasFinish 3 (some .boolean), Cond.methodLink RX9 51 yX9_at_, Cond.static yX9_at_, Cond.code yX9_at_ cX9_at_ 3 (some .int), Cond.methodLink RX9 87 yX9_at, Cond.static yX9_at, Cond.code yX9_at cX9_at 2 (some .int), Cond.methodLink RX9 195 yX9_totalBut, Cond.instanceMethod yX9_totalBut, Cond.selects RX9 yX9_totalBut yX9_totalBut, Cond.code yX9_totalBut cX9_totalBut 5 (some .int)]
def wsX9_total : List Cond := .code yX9_total cX9_total 3 (some .int) :: ((wsX9_total_r1 ++ wsX9_total_r2) ++ wsX90)
def wsX9_firstFree_r1 : List Cond := [Cond.fieldLink RX9 205 "BunchTimesModel" "rankedMany" "I", Cond.fieldLink RX9 26 "BunchTimesModel" "ranked" "[I", Cond.methodLink RX9 226 yX9_ranks, Cond.instanceMethod yX9_ranks, Cond.selects RX9 yX9_ranks yX9_ranks, Cond.initialized RX9, Cond.code yX9_ranks cX9_ranks 4 none, Cond.fieldLink RX9 7 "BunchTimesModel" "row" "[I", Cond.methodLink RX9 176 yX9_closedMany, Cond.instanceMethod yX9_closedMany, Cond.selects RX9 yX9_closedMany yX9_closedMany, Cond.code yX9_closedMany cX9_closedMany 1 (some .int), Cond.methodLink RX9 208 yX9_ranksTeams, Cond.instanceMethod yX9_ranksTeams, Cond.selects RX9 yX9_ranksTeams yX9_ranksTeams, Cond.code yX9_ranksTeams cX9_ranksTeams 3 none, Cond.methodLink RX9 220 yX9_isTeamOn, Cond.instanceMethod yX9_isTeamOn, Cond.selects RX9 yX9_isTeamOn yX9_isTeamOn, Cond.code yX9_isTeamOn cX9_isTeamOn 4 (some .boolean), Cond.methodLink RX9 59 yX9_isThere, Cond.instanceMethod yX9_isThere, Cond.selects RX9 yX9_isThere yX9_isThere, Cond.code yX9_isThere cX9_isThere 2 (some .boolean)]
def wsX9_firstFree_r2 : List Cond := [Cond.methodLink RX9 47 yX9_isRider, Cond.instanceMethod yX9_isRider, Cond.selects RX9 yX9_isRider yX9_isRider, Cond.code yX9_isRider cX9_isRider 2 (some .boolean), Cond.methodLink RX9 43 yX9_isIn, Cond.static yX9_isIn, Cond.code yX9_isIn cX9_isIn 3 (some .boolean), Cond.methodLink RX9 223 yX9_teamTotal, Cond.instanceMethod yX9_teamTotal, Cond.selects RX9 yX9_teamTotal yX9_teamTotal, Cond.code yX9_teamTotal cX9_teamTotal 4 (some .int), Cond.methodLink RX9 217 yX9_threeOf, Cond.instanceMethod yX9_threeOf, Cond.selects RX9 yX9_threeOf yX9_threeOf, Cond.code yX9_threeOf cX9_threeOf 7 (some .int), Cond.fieldLink RX9 29 "BunchTimesModel" "least" "[I", Cond.methodLink RX9 55 yX9_hasFinish, Cond.instanceMethod yX9_hasFinish, Cond.selects RX9 yX9_hasFinish yX9_hasFinish, Cond.code yX9_hasFinish cX9_hasFinish 3 (some .boolean), Cond.methodLink RX9 51 yX9_at_, Cond.static yX9_at_, Cond.code yX9_at_ cX9_at_ 3 (some .int), Cond.methodLink RX9 87 yX9_at]
def wsX9_firstFree_r3 : List Cond := [Cond.static yX9_at, Cond.code yX9_at cX9_at 2 (some .int), Cond.methodLink RX9 211 yX9_isOn, Cond.instanceMethod yX9_isOn, Cond.selects RX9 yX9_isOn yX9_isOn, Cond.code yX9_isOn cX9_isOn 3 (some .boolean), Cond.methodLink RX9 182 yX9_allOf, Cond.instanceMethod yX9_allOf, Cond.selects RX9 yX9_allOf yX9_allOf, Cond.code yX9_allOf cX9_allOf 5 (some .int), Cond.methodLink RX9 214 yX9_isBefore, Cond.instanceMethod yX9_isBefore, Cond.selects RX9 yX9_isBefore yX9_isBefore, Cond.code yX9_isBefore cX9_isBefore 5 (some .boolean), Cond.methodLink RX9 201 yX9_isAhead, Cond.instanceMethod yX9_isAhead, Cond.selects RX9 yX9_isAhead yX9_isAhead, Cond.code yX9_isAhead cX9_isAhead 9 (some .boolean), Cond.methodLink RX9 195 yX9_totalBut, Cond.instanceMethod yX9_totalBut, Cond.selects RX9 yX9_totalBut yX9_totalBut, Cond.code yX9_totalBut cX9_totalBut 5 (some .int), Cond.methodLink RX9 198 yX9_placesBut, Cond.instanceMethod yX9_placesBut]
def wsX9_firstFree_r4 : List Cond := [Cond.selects RX9 yX9_placesBut yX9_placesBut, Cond.code yX9_placesBut cX9_placesBut 5 (some .int)]
def wsX9_firstFree : List Cond := .code yX9_firstFree cX9_firstFree 4 (some .int) :: ((wsX9_firstFree_r1 ++ (wsX9_firstFree_r2 ++ (wsX9_firstFree_r3 ++ wsX9_firstFree_r4))) ++ wsX90)
def wsX9_jersey_r1 : List Cond := [Cond.fieldLink RX9 39 "BunchTimesModel" "thrown" "I", Cond.methodLink RX9 43 yX9_isIn, Cond.static yX9_isIn, Cond.initialized RX9, Cond.code yX9_isIn cX9_isIn 3 (some .boolean), Cond.methodLink RX9 230 yX9_firstFree, Cond.instanceMethod yX9_firstFree, Cond.selects RX9 yX9_firstFree yX9_firstFree, Cond.code yX9_firstFree cX9_firstFree 4 (some .int), Cond.fieldLink RX9 205 "BunchTimesModel" "rankedMany" "I", Cond.fieldLink RX9 26 "BunchTimesModel" "ranked" "[I", Cond.methodLink RX9 226 yX9_ranks, Cond.instanceMethod yX9_ranks, Cond.selects RX9 yX9_ranks yX9_ranks, Cond.code yX9_ranks cX9_ranks 4 none, Cond.fieldLink RX9 7 "BunchTimesModel" "row" "[I", Cond.methodLink RX9 176 yX9_closedMany, Cond.instanceMethod yX9_closedMany, Cond.selects RX9 yX9_closedMany yX9_closedMany, Cond.code yX9_closedMany cX9_closedMany 1 (some .int), Cond.methodLink RX9 208 yX9_ranksTeams, Cond.instanceMethod yX9_ranksTeams, Cond.selects RX9 yX9_ranksTeams yX9_ranksTeams, Cond.code yX9_ranksTeams cX9_ranksTeams 3 none]
def wsX9_jersey_r2 : List Cond := [Cond.methodLink RX9 220 yX9_isTeamOn, Cond.instanceMethod yX9_isTeamOn, Cond.selects RX9 yX9_isTeamOn yX9_isTeamOn, Cond.code yX9_isTeamOn cX9_isTeamOn 4 (some .boolean), Cond.methodLink RX9 59 yX9_isThere, Cond.instanceMethod yX9_isThere, Cond.selects RX9 yX9_isThere yX9_isThere, Cond.code yX9_isThere cX9_isThere 2 (some .boolean), Cond.methodLink RX9 47 yX9_isRider, Cond.instanceMethod yX9_isRider, Cond.selects RX9 yX9_isRider yX9_isRider, Cond.code yX9_isRider cX9_isRider 2 (some .boolean), Cond.methodLink RX9 223 yX9_teamTotal, Cond.instanceMethod yX9_teamTotal, Cond.selects RX9 yX9_teamTotal yX9_teamTotal, Cond.code yX9_teamTotal cX9_teamTotal 4 (some .int), Cond.methodLink RX9 217 yX9_threeOf, Cond.instanceMethod yX9_threeOf, Cond.selects RX9 yX9_threeOf yX9_threeOf, Cond.code yX9_threeOf cX9_threeOf 7 (some .int), Cond.fieldLink RX9 29 "BunchTimesModel" "least" "[I", Cond.methodLink RX9 55 yX9_hasFinish, Cond.instanceMethod yX9_hasFinish, Cond.selects RX9 yX9_hasFinish yX9_hasFinish]
def wsX9_jersey_r3 : List Cond := [Cond.code yX9_hasFinish cX9_hasFinish 3 (some .boolean), Cond.methodLink RX9 51 yX9_at_, Cond.static yX9_at_, Cond.code yX9_at_ cX9_at_ 3 (some .int), Cond.methodLink RX9 87 yX9_at, Cond.static yX9_at, Cond.code yX9_at cX9_at 2 (some .int), Cond.methodLink RX9 211 yX9_isOn, Cond.instanceMethod yX9_isOn, Cond.selects RX9 yX9_isOn yX9_isOn, Cond.code yX9_isOn cX9_isOn 3 (some .boolean), Cond.methodLink RX9 182 yX9_allOf, Cond.instanceMethod yX9_allOf, Cond.selects RX9 yX9_allOf yX9_allOf, Cond.code yX9_allOf cX9_allOf 5 (some .int), Cond.methodLink RX9 214 yX9_isBefore, Cond.instanceMethod yX9_isBefore, Cond.selects RX9 yX9_isBefore yX9_isBefore, Cond.code yX9_isBefore cX9_isBefore 5 (some .boolean), Cond.methodLink RX9 201 yX9_isAhead, Cond.instanceMethod yX9_isAhead, Cond.selects RX9 yX9_isAhead yX9_isAhead, Cond.code yX9_isAhead cX9_isAhead 9 (some .boolean), Cond.methodLink RX9 195 yX9_totalBut]
def wsX9_jersey_r4 : List Cond := [Cond.instanceMethod yX9_totalBut, Cond.selects RX9 yX9_totalBut yX9_totalBut, Cond.code yX9_totalBut cX9_totalBut 5 (some .int), Cond.methodLink RX9 198 yX9_placesBut, Cond.instanceMethod yX9_placesBut, Cond.selects RX9 yX9_placesBut yX9_placesBut, Cond.code yX9_placesBut cX9_placesBut 5 (some .int)]
def wsX9_jersey : List Cond := .code yX9_jersey cX9_jersey 6 (some .int) :: ((wsX9_jersey_r1 ++ (wsX9_jersey_r2 ++ (wsX9_jersey_r3 ++ wsX9_jersey_r4))) ++ wsX90)
def wsX9_needs_r1 : List Cond := [Cond.fieldLink RX9 39 "BunchTimesModel" "thrown" "I", Cond.fieldLink RX9 7 "BunchTimesModel" "row" "[I", Cond.methodLink RX9 59 yX9_isThere, Cond.instanceMethod yX9_isThere, Cond.selects RX9 yX9_isThere yX9_isThere, Cond.initialized RX9, Cond.code yX9_isThere cX9_isThere 2 (some .boolean), Cond.methodLink RX9 47 yX9_isRider, Cond.instanceMethod yX9_isRider, Cond.selects RX9 yX9_isRider yX9_isRider, Cond.code yX9_isRider cX9_isRider 2 (some .boolean), Cond.methodLink RX9 43 yX9_isIn, Cond.static yX9_isIn, Cond.code yX9_isIn cX9_isIn 3 (some .boolean), Cond.methodLink RX9 176 yX9_closedMany, Cond.instanceMethod yX9_closedMany, Cond.selects RX9 yX9_closedMany yX9_closedMany, Cond.code yX9_closedMany cX9_closedMany 1 (some .int), Cond.methodLink RX9 195 yX9_totalBut, Cond.instanceMethod yX9_totalBut, Cond.selects RX9 yX9_totalBut yX9_totalBut, Cond.code yX9_totalBut cX9_totalBut 5 (some .int), Cond.methodLink RX9 55 yX9_hasFinish, Cond.instanceMethod yX9_hasFinish]
def wsX9_needs_r2 : List Cond := [Cond.selects RX9 yX9_hasFinish yX9_hasFinish, Cond.code yX9_hasFinish cX9_hasFinish 3 (some .boolean), Cond.methodLink RX9 51 yX9_at_, Cond.static yX9_at_, Cond.code yX9_at_ cX9_at_ 3 (some .int), Cond.methodLink RX9 87 yX9_at, Cond.static yX9_at, Cond.code yX9_at cX9_at 2 (some .int), Cond.methodLink RX9 201 yX9_isAhead, Cond.instanceMethod yX9_isAhead, Cond.selects RX9 yX9_isAhead yX9_isAhead, Cond.code yX9_isAhead cX9_isAhead 9 (some .boolean), Cond.methodLink RX9 198 yX9_placesBut, Cond.instanceMethod yX9_placesBut, Cond.selects RX9 yX9_placesBut yX9_placesBut, Cond.code yX9_placesBut cX9_placesBut 5 (some .int)]
def wsX9_needs : List Cond := .code yX9_needs cX9_needs 5 (some .int) :: ((wsX9_needs_r1 ++ wsX9_needs_r2) ++ wsX90)
def wsX9_without_r1 : List Cond := [Cond.fieldLink RX9 39 "BunchTimesModel" "thrown" "I", Cond.fieldLink RX9 7 "BunchTimesModel" "row" "[I", Cond.methodLink RX9 185 yX9_isClosed, Cond.instanceMethod yX9_isClosed, Cond.selects RX9 yX9_isClosed yX9_isClosed, Cond.initialized RX9, Cond.code yX9_isClosed cX9_isClosed 2 (some .boolean), Cond.methodLink RX9 176 yX9_closedMany, Cond.instanceMethod yX9_closedMany, Cond.selects RX9 yX9_closedMany yX9_closedMany, Cond.code yX9_closedMany cX9_closedMany 1 (some .int), Cond.methodLink RX9 43 yX9_isIn, Cond.static yX9_isIn, Cond.code yX9_isIn cX9_isIn 3 (some .boolean), Cond.methodLink RX9 59 yX9_isThere, Cond.instanceMethod yX9_isThere, Cond.selects RX9 yX9_isThere yX9_isThere, Cond.code yX9_isThere cX9_isThere 2 (some .boolean), Cond.methodLink RX9 47 yX9_isRider, Cond.instanceMethod yX9_isRider, Cond.selects RX9 yX9_isRider yX9_isRider, Cond.code yX9_isRider cX9_isRider 2 (some .boolean), Cond.methodLink RX9 201 yX9_isAhead, Cond.instanceMethod yX9_isAhead]
def wsX9_without_r2 : List Cond := [Cond.selects RX9 yX9_isAhead yX9_isAhead, Cond.code yX9_isAhead cX9_isAhead 9 (some .boolean), Cond.methodLink RX9 195 yX9_totalBut, Cond.instanceMethod yX9_totalBut, Cond.selects RX9 yX9_totalBut yX9_totalBut, Cond.code yX9_totalBut cX9_totalBut 5 (some .int), Cond.methodLink RX9 55 yX9_hasFinish, Cond.instanceMethod yX9_hasFinish, Cond.selects RX9 yX9_hasFinish yX9_hasFinish, Cond.code yX9_hasFinish cX9_hasFinish 3 (some .boolean), Cond.methodLink RX9 51 yX9_at_, Cond.static yX9_at_, Cond.code yX9_at_ cX9_at_ 3 (some .int), Cond.methodLink RX9 87 yX9_at, Cond.static yX9_at, Cond.code yX9_at cX9_at 2 (some .int), Cond.methodLink RX9 198 yX9_placesBut, Cond.instanceMethod yX9_placesBut, Cond.selects RX9 yX9_placesBut yX9_placesBut, Cond.code yX9_placesBut cX9_placesBut 5 (some .int)]
def wsX9_without : List Cond := .code yX9_without cX9_without 4 (some .int) :: ((wsX9_without_r1 ++ wsX9_without_r2) ++ wsX90)
def wsX9_metres : List Cond := .code yX9_metres cX9_metres 1 (some .long) :: ([.constantLong RX9 233 (40000), .constantLong RX9 235 (6000)])
def wsX9_caughtAt : List Cond := .code yX9_caughtAt cX9_caughtAt 12 (some .int) :: ([.constantLong RX9 241 (3600), .constantLong RX9 243 (1000), .methodLink RX9 237 yX9_metres, .static yX9_metres, .initialized RX9, .code yX9_metres cX9_metres 1 (some .long), .constantLong RX9 233 (40000), .constantLong RX9 235 (6000)])
def wsX9_areRiders : List Cond := .code yX9_areRiders cX9_areRiders 1 (some .boolean) :: ([.methodLink RX9 43 yX9_isIn, .static yX9_isIn, .initialized RX9, .code yX9_isIn cX9_isIn 3 (some .boolean)])
def wsX9_caught : List Cond := .code yX9_caught cX9_caught 5 (some .int) :: ([.fieldLink RX9 39 "BunchTimesModel" "thrown" "I", .methodLink RX9 245 yX9_areRiders, .static yX9_areRiders, .initialized RX9, .code yX9_areRiders cX9_areRiders 1 (some .boolean), .methodLink RX9 43 yX9_isIn, .static yX9_isIn, .code yX9_isIn cX9_isIn 3 (some .boolean), .methodLink RX9 248 yX9_caughtAt, .static yX9_caughtAt, .code yX9_caughtAt cX9_caughtAt 12 (some .int), .constantLong RX9 241 (3600), .constantLong RX9 243 (1000), .methodLink RX9 237 yX9_metres, .static yX9_metres, .code yX9_metres cX9_metres 1 (some .long), .constantLong RX9 233 (40000), .constantLong RX9 235 (6000)] ++ wsX90)
def wsX9_holds : List Cond := .code yX9_holds cX9_holds 5 (some .int) :: ([.fieldLink RX9 39 "BunchTimesModel" "thrown" "I", .methodLink RX9 245 yX9_areRiders, .static yX9_areRiders, .initialized RX9, .code yX9_areRiders cX9_areRiders 1 (some .boolean), .methodLink RX9 43 yX9_isIn, .static yX9_isIn, .code yX9_isIn cX9_isIn 3 (some .boolean), .methodLink RX9 248 yX9_caughtAt, .static yX9_caughtAt, .code yX9_caughtAt cX9_caughtAt 12 (some .int), .constantLong RX9 241 (3600), .constantLong RX9 243 (1000), .methodLink RX9 237 yX9_metres, .static yX9_metres, .code yX9_metres cX9_metres 1 (some .long), .constantLong RX9 233 (40000), .constantLong RX9 235 (6000)] ++ wsX90)
def wsX9_chase : List Cond := .code yX9_chase cX9_chase 5 (some .int) :: ([.fieldLink RX9 39 "BunchTimesModel" "thrown" "I", .methodLink RX9 245 yX9_areRiders, .static yX9_areRiders, .initialized RX9, .code yX9_areRiders cX9_areRiders 1 (some .boolean), .methodLink RX9 43 yX9_isIn, .static yX9_isIn, .code yX9_isIn cX9_isIn 3 (some .boolean), .methodLink RX9 248 yX9_caughtAt, .static yX9_caughtAt, .code yX9_caughtAt cX9_caughtAt 12 (some .int), .constantLong RX9 241 (3600), .constantLong RX9 243 (1000), .methodLink RX9 237 yX9_metres, .static yX9_metres, .code yX9_metres cX9_metres 1 (some .long), .constantLong RX9 233 (40000), .constantLong RX9 235 (6000)] ++ wsX90)
def wsX9_put : List Cond := .code yX9_put cX9_put 3 none :: ([.fieldLink RX9 32 "BunchTimesModel" "tape" "[B", .fieldLink RX9 179 "BunchTimesModel" "taped" "I"] ++ wsX90)
def wsX9_feed : List Cond := .code yX9_feed cX9_feed 6 (some .int) :: ([.fieldLink RX9 39 "BunchTimesModel" "thrown" "I", .fieldLink RX9 179 "BunchTimesModel" "taped" "I", .methodLink RX9 252 yX9_put, .instanceMethod yX9_put, .selects RX9 yX9_put yX9_put, .initialized RX9, .code yX9_put cX9_put 3 none, .fieldLink RX9 32 "BunchTimesModel" "tape" "[B"] ++ wsX90)
def wsX9_end : List Cond := .code yX9_end cX9_end 2 (some .boolean) :: ([.fieldLink RX9 39 "BunchTimesModel" "thrown" "I", .fieldLink RX9 179 "BunchTimesModel" "taped" "I", .methodLink RX9 43 yX9_isIn, .static yX9_isIn, .initialized RX9, .code yX9_isIn cX9_isIn 3 (some .boolean)] ++ wsX90)
def wsX9_here : List Cond := .code yX9_here cX9_here 1 (some .int) :: ([.fieldLink RX9 255 "BunchTimesModel" "place" "I", .fieldLink RX9 258 "BunchTimesModel" "length" "I", .fieldLink RX9 32 "BunchTimesModel" "tape" "[B"] ++ wsX90)
def wsX9_fails : List Cond := .code yX9_fails cX9_fails 3 none :: ([.fieldLink RX9 261 "BunchTimesModel" "fault" "I"] ++ wsX90)
def wsX9_isDigit : List Cond := .code yX9_isDigit cX9_isDigit 1 (some .boolean) :: ([.methodLink RX9 264 yX9_here, .instanceMethod yX9_here, .selects RX9 yX9_here yX9_here, .initialized RX9, .code yX9_here cX9_here 1 (some .int), .fieldLink RX9 255 "BunchTimesModel" "place" "I", .fieldLink RX9 258 "BunchTimesModel" "length" "I", .fieldLink RX9 32 "BunchTimesModel" "tape" "[B", .methodLink RX9 43 yX9_isIn, .static yX9_isIn, .code yX9_isIn cX9_isIn 3 (some .boolean)] ++ wsX90)
def wsX9_number : List Cond := .code yX9_number cX9_number 5 none :: ([.fieldLink RX9 261 "BunchTimesModel" "fault" "I", .fieldLink RX9 255 "BunchTimesModel" "place" "I", .fieldLink RX9 270 "BunchTimesModel" "from" "I", .fieldLink RX9 258 "BunchTimesModel" "length" "I", .fieldLink RX9 32 "BunchTimesModel" "tape" "[B", .fieldLink RX9 36 "BunchTimesModel" "told" "[I", .fieldLink RX9 277 "BunchTimesModel" "toldMany" "I", .methodLink RX9 267 yX9_isDigit, .instanceMethod yX9_isDigit, .selects RX9 yX9_isDigit yX9_isDigit, .initialized RX9, .code yX9_isDigit cX9_isDigit 1 (some .boolean), .methodLink RX9 264 yX9_here, .instanceMethod yX9_here, .selects RX9 yX9_here yX9_here, .code yX9_here cX9_here 1 (some .int), .methodLink RX9 43 yX9_isIn, .static yX9_isIn, .code yX9_isIn cX9_isIn 3 (some .boolean), .methodLink RX9 273 yX9_fails, .instanceMethod yX9_fails, .selects RX9 yX9_fails yX9_fails, .code yX9_fails cX9_fails 3 none] ++ wsX90)
def wsX9_word : List Cond := .code yX9_word cX9_word 3 (some .long) :: ([.fieldLink RX9 255 "BunchTimesModel" "place" "I", .fieldLink RX9 270 "BunchTimesModel" "from" "I", .fieldLink RX9 258 "BunchTimesModel" "length" "I", .fieldLink RX9 32 "BunchTimesModel" "tape" "[B", .constantLong RX9 280 (27), .constantLong RX9 282 (96), .methodLink RX9 264 yX9_here, .instanceMethod yX9_here, .selects RX9 yX9_here yX9_here, .initialized RX9, .code yX9_here cX9_here 1 (some .int), .methodLink RX9 43 yX9_isIn, .static yX9_isIn, .code yX9_isIn cX9_isIn 3 (some .boolean)] ++ wsX90)
def wsX9_isWord : List Cond := .code yX9_isWord cX9_isWord 5 (some .boolean) :: ([.fieldLink RX9 255 "BunchTimesModel" "place" "I", .methodLink RX9 284 yX9_word, .instanceMethod yX9_word, .selects RX9 yX9_word yX9_word, .initialized RX9, .code yX9_word cX9_word 3 (some .long), .fieldLink RX9 270 "BunchTimesModel" "from" "I", .fieldLink RX9 258 "BunchTimesModel" "length" "I", .fieldLink RX9 32 "BunchTimesModel" "tape" "[B", .constantLong RX9 280 (27), .constantLong RX9 282 (96), .methodLink RX9 264 yX9_here, .instanceMethod yX9_here, .selects RX9 yX9_here yX9_here, .code yX9_here cX9_here 1 (some .int), .methodLink RX9 43 yX9_isIn, .static yX9_isIn, .code yX9_isIn cX9_isIn 3 (some .boolean)] ++ wsX90)
def wsX9_ends : List Cond := .code yX9_ends cX9_ends 1 (some .boolean) :: ([.fieldLink RX9 261 "BunchTimesModel" "fault" "I", .fieldLink RX9 255 "BunchTimesModel" "place" "I", .methodLink RX9 264 yX9_here, .instanceMethod yX9_here, .selects RX9 yX9_here yX9_here, .initialized RX9, .code yX9_here cX9_here 1 (some .int), .fieldLink RX9 258 "BunchTimesModel" "length" "I", .fieldLink RX9 32 "BunchTimesModel" "tape" "[B", .methodLink RX9 273 yX9_fails, .instanceMethod yX9_fails, .selects RX9 yX9_fails yX9_fails, .code yX9_fails cX9_fails 3 none] ++ wsX90)
def wsX9_can : List Cond := .code yX9_can cX9_can 3 none :: ([.methodLink RX9 273 yX9_fails, .instanceMethod yX9_fails, .selects RX9 yX9_fails yX9_fails, .initialized RX9, .code yX9_fails cX9_fails 3 none, .fieldLink RX9 261 "BunchTimesModel" "fault" "I"] ++ wsX90)
def wsX9_lastRider : List Cond := .code yX9_lastRider cX9_lastRider 1 (some .int) :: ([.fieldLink RX9 7 "BunchTimesModel" "row" "[I"] ++ wsX90)
def wsX9_stageTold_r1 : List Cond := [Cond.fieldLink RX9 261 "BunchTimesModel" "fault" "I", Cond.constantLong RX9 288 (126893), Cond.constantLong RX9 290 (4437766), Cond.constantLong RX9 292 (8602516), Cond.constantLong RX9 294 (10989714), Cond.fieldLink RX9 270 "BunchTimesModel" "from" "I", Cond.fieldLink RX9 36 "BunchTimesModel" "told" "[I", Cond.constantLong RX9 299 (47), Cond.fieldLink RX9 277 "BunchTimesModel" "toldMany" "I", Cond.constantLong RX9 305 (1837433), Cond.constantLong RX9 307 (281493542), Cond.methodLink RX9 284 yX9_word, Cond.instanceMethod yX9_word, Cond.selects RX9 yX9_word yX9_word, Cond.initialized RX9, Cond.code yX9_word cX9_word 3 (some .long), Cond.fieldLink RX9 255 "BunchTimesModel" "place" "I", Cond.fieldLink RX9 258 "BunchTimesModel" "length" "I", Cond.fieldLink RX9 32 "BunchTimesModel" "tape" "[B", Cond.constantLong RX9 280 (27), Cond.constantLong RX9 282 (96), Cond.methodLink RX9 264 yX9_here, Cond.instanceMethod yX9_here, Cond.selects RX9 yX9_here yX9_here]
def wsX9_stageTold_r2 : List Cond := [Cond.code yX9_here cX9_here 1 (some .int), Cond.methodLink RX9 43 yX9_isIn, Cond.static yX9_isIn, Cond.code yX9_isIn cX9_isIn 3 (some .boolean), Cond.methodLink RX9 273 yX9_fails, Cond.instanceMethod yX9_fails, Cond.selects RX9 yX9_fails yX9_fails, Cond.code yX9_fails cX9_fails 3 none, Cond.methodLink RX9 296 yX9_number, Cond.instanceMethod yX9_number, Cond.selects RX9 yX9_number yX9_number, Cond.code yX9_number cX9_number 5 none, Cond.methodLink RX9 267 yX9_isDigit, Cond.instanceMethod yX9_isDigit, Cond.selects RX9 yX9_isDigit yX9_isDigit, Cond.code yX9_isDigit cX9_isDigit 1 (some .boolean), Cond.methodLink RX9 301 yX9_isWord, Cond.instanceMethod yX9_isWord, Cond.selects RX9 yX9_isWord yX9_isWord, Cond.code yX9_isWord cX9_isWord 5 (some .boolean), Cond.methodLink RX9 309 yX9_ends, Cond.instanceMethod yX9_ends, Cond.selects RX9 yX9_ends yX9_ends, Cond.code yX9_ends cX9_ends 1 (some .boolean)]
def wsX9_stageTold_r3 : List Cond := [Cond.methodLink RX9 81 yX9_stages, Cond.instanceMethod yX9_stages, Cond.selects RX9 yX9_stages yX9_stages, Cond.code yX9_stages cX9_stages 5 (some .int), Cond.fieldLink RX9 7 "BunchTimesModel" "row" "[I", Cond.methodLink RX9 70 yX9_isOpen, Cond.instanceMethod yX9_isOpen, Cond.selects RX9 yX9_isOpen yX9_isOpen, Cond.code yX9_isOpen cX9_isOpen 1 (some .boolean), Cond.methodLink RX9 84 yX9_there, Cond.instanceMethod yX9_there, Cond.selects RX9 yX9_there yX9_there, Cond.code yX9_there cX9_there 3 (some .int), Cond.methodLink RX9 59 yX9_isThere, Cond.instanceMethod yX9_isThere, Cond.selects RX9 yX9_isThere yX9_isThere, Cond.code yX9_isThere cX9_isThere 2 (some .boolean), Cond.methodLink RX9 47 yX9_isRider, Cond.instanceMethod yX9_isRider, Cond.selects RX9 yX9_isRider yX9_isRider, Cond.code yX9_isRider cX9_isRider 2 (some .boolean), Cond.methodLink RX9 51 yX9_at_, Cond.static yX9_at_, Cond.code yX9_at_ cX9_at_ 3 (some .int)]
def wsX9_stageTold_r4 : List Cond := [Cond.methodLink RX9 87 yX9_at, Cond.static yX9_at, Cond.code yX9_at cX9_at 2 (some .int), Cond.methodLink RX9 312 yX9_can, Cond.instanceMethod yX9_can, Cond.selects RX9 yX9_can yX9_can, Cond.code yX9_can cX9_can 3 none, Cond.methodLink RX9 89 yX9_marks, Cond.instanceMethod yX9_marks, Cond.selects RX9 yX9_marks yX9_marks, Cond.code yX9_marks cX9_marks 5 (some .int), Cond.methodLink RX9 74 yX9_latest, Cond.instanceMethod yX9_latest, Cond.selects RX9 yX9_latest yX9_latest, Cond.code yX9_latest cX9_latest 1 (some .int), Cond.methodLink RX9 92 yX9_mark, Cond.static yX9_mark, Cond.code yX9_mark cX9_mark 3 (some .int)]
def wsX9_stageTold : List Cond := .code yX9_stageTold cX9_stageTold 8 none :: ((wsX9_stageTold_r1 ++ (wsX9_stageTold_r2 ++ (wsX9_stageTold_r3 ++ wsX9_stageTold_r4))) ++ wsX90)
def wsX9_comeTold_r1 : List Cond := [Cond.fieldLink RX9 261 "BunchTimesModel" "fault" "I", Cond.constant RX9 97 (999999), Cond.fieldLink RX9 277 "BunchTimesModel" "toldMany" "I", Cond.fieldLink RX9 36 "BunchTimesModel" "told" "[I", Cond.methodLink RX9 267 yX9_isDigit, Cond.instanceMethod yX9_isDigit, Cond.selects RX9 yX9_isDigit yX9_isDigit, Cond.initialized RX9, Cond.code yX9_isDigit cX9_isDigit 1 (some .boolean), Cond.methodLink RX9 264 yX9_here, Cond.instanceMethod yX9_here, Cond.selects RX9 yX9_here yX9_here, Cond.code yX9_here cX9_here 1 (some .int), Cond.fieldLink RX9 255 "BunchTimesModel" "place" "I", Cond.fieldLink RX9 258 "BunchTimesModel" "length" "I", Cond.fieldLink RX9 32 "BunchTimesModel" "tape" "[B", Cond.methodLink RX9 43 yX9_isIn, Cond.static yX9_isIn, Cond.code yX9_isIn cX9_isIn 3 (some .boolean), Cond.methodLink RX9 316 yX9_lastRider, Cond.instanceMethod yX9_lastRider, Cond.selects RX9 yX9_lastRider yX9_lastRider, Cond.code yX9_lastRider cX9_lastRider 1 (some .int), Cond.fieldLink RX9 7 "BunchTimesModel" "row" "[I"]
def wsX9_comeTold_r2 : List Cond := [Cond.methodLink RX9 296 yX9_number, Cond.instanceMethod yX9_number, Cond.selects RX9 yX9_number yX9_number, Cond.code yX9_number cX9_number 5 none, Cond.fieldLink RX9 270 "BunchTimesModel" "from" "I", Cond.methodLink RX9 273 yX9_fails, Cond.instanceMethod yX9_fails, Cond.selects RX9 yX9_fails yX9_fails, Cond.code yX9_fails cX9_fails 3 none, Cond.methodLink RX9 309 yX9_ends, Cond.instanceMethod yX9_ends, Cond.selects RX9 yX9_ends yX9_ends, Cond.code yX9_ends cX9_ends 1 (some .boolean), Cond.methodLink RX9 95 yX9_finishes_, Cond.instanceMethod yX9_finishes_, Cond.selects RX9 yX9_finishes_ yX9_finishes_, Cond.code yX9_finishes_ cX9_finishes_ 3 (some .boolean), Cond.methodLink RX9 70 yX9_isOpen, Cond.instanceMethod yX9_isOpen, Cond.selects RX9 yX9_isOpen yX9_isOpen, Cond.code yX9_isOpen cX9_isOpen 1 (some .boolean), Cond.methodLink RX9 59 yX9_isThere, Cond.instanceMethod yX9_isThere, Cond.selects RX9 yX9_isThere yX9_isThere]
def wsX9_comeTold_r3 : List Cond := [Cond.code yX9_isThere cX9_isThere 2 (some .boolean), Cond.methodLink RX9 47 yX9_isRider, Cond.instanceMethod yX9_isRider, Cond.selects RX9 yX9_isRider yX9_isRider, Cond.code yX9_isRider cX9_isRider 2 (some .boolean), Cond.methodLink RX9 74 yX9_latest, Cond.instanceMethod yX9_latest, Cond.selects RX9 yX9_latest yX9_latest, Cond.code yX9_latest cX9_latest 1 (some .int), Cond.methodLink RX9 55 yX9_hasFinish, Cond.instanceMethod yX9_hasFinish, Cond.selects RX9 yX9_hasFinish yX9_hasFinish, Cond.code yX9_hasFinish cX9_hasFinish 3 (some .boolean), Cond.methodLink RX9 51 yX9_at_, Cond.static yX9_at_, Cond.code yX9_at_ cX9_at_ 3 (some .int), Cond.methodLink RX9 312 yX9_can, Cond.instanceMethod yX9_can, Cond.selects RX9 yX9_can yX9_can, Cond.code yX9_can cX9_can 3 none]
def wsX9_comeTold : List Cond := .code yX9_comeTold cX9_comeTold 3 none :: ((wsX9_comeTold_r1 ++ (wsX9_comeTold_r2 ++ wsX9_comeTold_r3)) ++ wsX90)
def wsX9_overTold_r1 : List Cond := [Cond.fieldLink RX9 7 "BunchTimesModel" "row" "[I", Cond.fieldLink RX9 261 "BunchTimesModel" "fault" "I", Cond.fieldLink RX9 277 "BunchTimesModel" "toldMany" "I", Cond.fieldLink RX9 36 "BunchTimesModel" "told" "[I", Cond.methodLink RX9 74 yX9_latest, Cond.instanceMethod yX9_latest, Cond.selects RX9 yX9_latest yX9_latest, Cond.initialized RX9, Cond.code yX9_latest cX9_latest 1 (some .int), Cond.methodLink RX9 87 yX9_at, Cond.static yX9_at, Cond.code yX9_at cX9_at 2 (some .int), Cond.methodLink RX9 296 yX9_number, Cond.instanceMethod yX9_number, Cond.selects RX9 yX9_number yX9_number, Cond.code yX9_number cX9_number 5 none, Cond.fieldLink RX9 255 "BunchTimesModel" "place" "I", Cond.fieldLink RX9 270 "BunchTimesModel" "from" "I", Cond.fieldLink RX9 258 "BunchTimesModel" "length" "I", Cond.fieldLink RX9 32 "BunchTimesModel" "tape" "[B", Cond.methodLink RX9 267 yX9_isDigit, Cond.instanceMethod yX9_isDigit, Cond.selects RX9 yX9_isDigit yX9_isDigit, Cond.code yX9_isDigit cX9_isDigit 1 (some .boolean)]
def wsX9_overTold_r2 : List Cond := [Cond.methodLink RX9 264 yX9_here, Cond.instanceMethod yX9_here, Cond.selects RX9 yX9_here yX9_here, Cond.code yX9_here cX9_here 1 (some .int), Cond.methodLink RX9 43 yX9_isIn, Cond.static yX9_isIn, Cond.code yX9_isIn cX9_isIn 3 (some .boolean), Cond.methodLink RX9 273 yX9_fails, Cond.instanceMethod yX9_fails, Cond.selects RX9 yX9_fails yX9_fails, Cond.code yX9_fails cX9_fails 3 none, Cond.methodLink RX9 316 yX9_lastRider, Cond.instanceMethod yX9_lastRider, Cond.selects RX9 yX9_lastRider yX9_lastRider, Cond.code yX9_lastRider cX9_lastRider 1 (some .int), Cond.methodLink RX9 309 yX9_ends, Cond.instanceMethod yX9_ends, Cond.selects RX9 yX9_ends yX9_ends, Cond.code yX9_ends cX9_ends 1 (some .boolean), Cond.methodLink RX9 98 yX9_overs, Cond.instanceMethod yX9_overs, Cond.selects RX9 yX9_overs yX9_overs, Cond.code yX9_overs cX9_overs 6 (some .int), Cond.methodLink RX9 70 yX9_isOpen]
def wsX9_overTold_r3 : List Cond := [Cond.instanceMethod yX9_isOpen, Cond.selects RX9 yX9_isOpen yX9_isOpen, Cond.code yX9_isOpen cX9_isOpen 1 (some .boolean), Cond.methodLink RX9 59 yX9_isThere, Cond.instanceMethod yX9_isThere, Cond.selects RX9 yX9_isThere yX9_isThere, Cond.code yX9_isThere cX9_isThere 2 (some .boolean), Cond.methodLink RX9 47 yX9_isRider, Cond.instanceMethod yX9_isRider, Cond.selects RX9 yX9_isRider yX9_isRider, Cond.code yX9_isRider cX9_isRider 2 (some .boolean), Cond.methodLink RX9 92 yX9_mark, Cond.static yX9_mark, Cond.code yX9_mark cX9_mark 3 (some .int), Cond.methodLink RX9 312 yX9_can, Cond.instanceMethod yX9_can, Cond.selects RX9 yX9_can yX9_can, Cond.code yX9_can cX9_can 3 none]
def wsX9_overTold : List Cond := .code yX9_overTold cX9_overTold 3 none :: ((wsX9_overTold_r1 ++ (wsX9_overTold_r2 ++ wsX9_overTold_r3)) ++ wsX90)
def wsX9_fallTold_r1 : List Cond := [Cond.fieldLink RX9 7 "BunchTimesModel" "row" "[I", Cond.fieldLink RX9 261 "BunchTimesModel" "fault" "I", Cond.constantLong RX9 319 (459818), Cond.fieldLink RX9 36 "BunchTimesModel" "told" "[I", Cond.methodLink RX9 316 yX9_lastRider, Cond.instanceMethod yX9_lastRider, Cond.selects RX9 yX9_lastRider yX9_lastRider, Cond.initialized RX9, Cond.code yX9_lastRider cX9_lastRider 1 (some .int), Cond.methodLink RX9 296 yX9_number, Cond.instanceMethod yX9_number, Cond.selects RX9 yX9_number yX9_number, Cond.code yX9_number cX9_number 5 none, Cond.fieldLink RX9 255 "BunchTimesModel" "place" "I", Cond.fieldLink RX9 270 "BunchTimesModel" "from" "I", Cond.fieldLink RX9 258 "BunchTimesModel" "length" "I", Cond.fieldLink RX9 32 "BunchTimesModel" "tape" "[B", Cond.fieldLink RX9 277 "BunchTimesModel" "toldMany" "I", Cond.methodLink RX9 267 yX9_isDigit, Cond.instanceMethod yX9_isDigit, Cond.selects RX9 yX9_isDigit yX9_isDigit, Cond.code yX9_isDigit cX9_isDigit 1 (some .boolean), Cond.methodLink RX9 264 yX9_here, Cond.instanceMethod yX9_here]
def wsX9_fallTold_r2 : List Cond := [Cond.selects RX9 yX9_here yX9_here, Cond.code yX9_here cX9_here 1 (some .int), Cond.methodLink RX9 43 yX9_isIn, Cond.static yX9_isIn, Cond.code yX9_isIn cX9_isIn 3 (some .boolean), Cond.methodLink RX9 273 yX9_fails, Cond.instanceMethod yX9_fails, Cond.selects RX9 yX9_fails yX9_fails, Cond.code yX9_fails cX9_fails 3 none, Cond.methodLink RX9 74 yX9_latest, Cond.instanceMethod yX9_latest, Cond.selects RX9 yX9_latest yX9_latest, Cond.code yX9_latest cX9_latest 1 (some .int), Cond.methodLink RX9 87 yX9_at, Cond.static yX9_at, Cond.code yX9_at cX9_at 2 (some .int), Cond.methodLink RX9 301 yX9_isWord, Cond.instanceMethod yX9_isWord, Cond.selects RX9 yX9_isWord yX9_isWord, Cond.code yX9_isWord cX9_isWord 5 (some .boolean), Cond.methodLink RX9 284 yX9_word, Cond.instanceMethod yX9_word, Cond.selects RX9 yX9_word yX9_word, Cond.code yX9_word cX9_word 3 (some .long)]
def wsX9_fallTold_r3 : List Cond := [Cond.constantLong RX9 280 (27), Cond.constantLong RX9 282 (96), Cond.methodLink RX9 309 yX9_ends, Cond.instanceMethod yX9_ends, Cond.selects RX9 yX9_ends yX9_ends, Cond.code yX9_ends cX9_ends 1 (some .boolean), Cond.methodLink RX9 101 yX9_falls, Cond.instanceMethod yX9_falls, Cond.selects RX9 yX9_falls yX9_falls, Cond.code yX9_falls cX9_falls 5 (some .boolean), Cond.methodLink RX9 70 yX9_isOpen, Cond.instanceMethod yX9_isOpen, Cond.selects RX9 yX9_isOpen yX9_isOpen, Cond.code yX9_isOpen cX9_isOpen 1 (some .boolean), Cond.methodLink RX9 59 yX9_isThere, Cond.instanceMethod yX9_isThere, Cond.selects RX9 yX9_isThere yX9_isThere, Cond.code yX9_isThere cX9_isThere 2 (some .boolean), Cond.methodLink RX9 47 yX9_isRider, Cond.instanceMethod yX9_isRider, Cond.selects RX9 yX9_isRider yX9_isRider, Cond.code yX9_isRider cX9_isRider 2 (some .boolean), Cond.methodLink RX9 51 yX9_at_, Cond.static yX9_at_]
def wsX9_fallTold_r4 : List Cond := [Cond.code yX9_at_ cX9_at_ 3 (some .int), Cond.methodLink RX9 312 yX9_can, Cond.instanceMethod yX9_can, Cond.selects RX9 yX9_can yX9_can, Cond.code yX9_can cX9_can 3 none]
def wsX9_fallTold : List Cond := .code yX9_fallTold cX9_fallTold 5 none :: ((wsX9_fallTold_r1 ++ (wsX9_fallTold_r2 ++ (wsX9_fallTold_r3 ++ wsX9_fallTold_r4))) ++ wsX90)
def wsX9_riderTold_r1 : List Cond := [Cond.fieldLink RX9 7 "BunchTimesModel" "row" "[I", Cond.fieldLink RX9 36 "BunchTimesModel" "told" "[I", Cond.methodLink RX9 296 yX9_number, Cond.instanceMethod yX9_number, Cond.selects RX9 yX9_number yX9_number, Cond.initialized RX9, Cond.code yX9_number cX9_number 5 none, Cond.fieldLink RX9 261 "BunchTimesModel" "fault" "I", Cond.fieldLink RX9 255 "BunchTimesModel" "place" "I", Cond.fieldLink RX9 270 "BunchTimesModel" "from" "I", Cond.fieldLink RX9 258 "BunchTimesModel" "length" "I", Cond.fieldLink RX9 32 "BunchTimesModel" "tape" "[B", Cond.fieldLink RX9 277 "BunchTimesModel" "toldMany" "I", Cond.methodLink RX9 267 yX9_isDigit, Cond.instanceMethod yX9_isDigit, Cond.selects RX9 yX9_isDigit yX9_isDigit, Cond.code yX9_isDigit cX9_isDigit 1 (some .boolean), Cond.methodLink RX9 264 yX9_here, Cond.instanceMethod yX9_here, Cond.selects RX9 yX9_here yX9_here, Cond.code yX9_here cX9_here 1 (some .int), Cond.methodLink RX9 43 yX9_isIn, Cond.static yX9_isIn, Cond.code yX9_isIn cX9_isIn 3 (some .boolean)]
def wsX9_riderTold_r2 : List Cond := [Cond.methodLink RX9 273 yX9_fails, Cond.instanceMethod yX9_fails, Cond.selects RX9 yX9_fails yX9_fails, Cond.code yX9_fails cX9_fails 3 none, Cond.methodLink RX9 309 yX9_ends, Cond.instanceMethod yX9_ends, Cond.selects RX9 yX9_ends yX9_ends, Cond.code yX9_ends cX9_ends 1 (some .boolean), Cond.methodLink RX9 66 yX9_comes, Cond.instanceMethod yX9_comes, Cond.selects RX9 yX9_comes yX9_comes, Cond.code yX9_comes cX9_comes 4 (some .int), Cond.methodLink RX9 70 yX9_isOpen, Cond.instanceMethod yX9_isOpen, Cond.selects RX9 yX9_isOpen yX9_isOpen, Cond.code yX9_isOpen cX9_isOpen 1 (some .boolean), Cond.methodLink RX9 74 yX9_latest, Cond.instanceMethod yX9_latest, Cond.selects RX9 yX9_latest yX9_latest, Cond.code yX9_latest cX9_latest 1 (some .int), Cond.methodLink RX9 77 yX9_finishes, Cond.instanceMethod yX9_finishes, Cond.selects RX9 yX9_finishes yX9_finishes, Cond.code yX9_finishes cX9_finishes 4 (some .int)]
def wsX9_riderTold_r3 : List Cond := [Cond.methodLink RX9 55 yX9_hasFinish, Cond.instanceMethod yX9_hasFinish, Cond.selects RX9 yX9_hasFinish yX9_hasFinish, Cond.code yX9_hasFinish cX9_hasFinish 3 (some .boolean), Cond.methodLink RX9 51 yX9_at_, Cond.static yX9_at_, Cond.code yX9_at_ cX9_at_ 3 (some .int), Cond.methodLink RX9 312 yX9_can, Cond.instanceMethod yX9_can, Cond.selects RX9 yX9_can yX9_can, Cond.code yX9_can cX9_can 3 none]
def wsX9_riderTold : List Cond := .code yX9_riderTold cX9_riderTold 2 none :: ((wsX9_riderTold_r1 ++ (wsX9_riderTold_r2 ++ wsX9_riderTold_r3)) ++ wsX90)
def wsX9_juryTold_r1 : List Cond := [Cond.fieldLink RX9 36 "BunchTimesModel" "told" "[I", Cond.methodLink RX9 316 yX9_lastRider, Cond.instanceMethod yX9_lastRider, Cond.selects RX9 yX9_lastRider yX9_lastRider, Cond.initialized RX9, Cond.code yX9_lastRider cX9_lastRider 1 (some .int), Cond.fieldLink RX9 7 "BunchTimesModel" "row" "[I", Cond.methodLink RX9 296 yX9_number, Cond.instanceMethod yX9_number, Cond.selects RX9 yX9_number yX9_number, Cond.code yX9_number cX9_number 5 none, Cond.fieldLink RX9 261 "BunchTimesModel" "fault" "I", Cond.fieldLink RX9 255 "BunchTimesModel" "place" "I", Cond.fieldLink RX9 270 "BunchTimesModel" "from" "I", Cond.fieldLink RX9 258 "BunchTimesModel" "length" "I", Cond.fieldLink RX9 32 "BunchTimesModel" "tape" "[B", Cond.fieldLink RX9 277 "BunchTimesModel" "toldMany" "I", Cond.methodLink RX9 267 yX9_isDigit, Cond.instanceMethod yX9_isDigit, Cond.selects RX9 yX9_isDigit yX9_isDigit, Cond.code yX9_isDigit cX9_isDigit 1 (some .boolean), Cond.methodLink RX9 264 yX9_here, Cond.instanceMethod yX9_here, Cond.selects RX9 yX9_here yX9_here]
def wsX9_juryTold_r2 : List Cond := [Cond.code yX9_here cX9_here 1 (some .int), Cond.methodLink RX9 43 yX9_isIn, Cond.static yX9_isIn, Cond.code yX9_isIn cX9_isIn 3 (some .boolean), Cond.methodLink RX9 273 yX9_fails, Cond.instanceMethod yX9_fails, Cond.selects RX9 yX9_fails yX9_fails, Cond.code yX9_fails cX9_fails 3 none, Cond.methodLink RX9 309 yX9_ends, Cond.instanceMethod yX9_ends, Cond.selects RX9 yX9_ends yX9_ends, Cond.code yX9_ends cX9_ends 1 (some .boolean), Cond.methodLink RX9 104 yX9_juries, Cond.instanceMethod yX9_juries, Cond.selects RX9 yX9_juries yX9_juries, Cond.code yX9_juries cX9_juries 4 (some .int), Cond.constant RX9 107 (99999), Cond.methodLink RX9 70 yX9_isOpen, Cond.instanceMethod yX9_isOpen, Cond.selects RX9 yX9_isOpen yX9_isOpen, Cond.code yX9_isOpen cX9_isOpen 1 (some .boolean), Cond.methodLink RX9 59 yX9_isThere, Cond.instanceMethod yX9_isThere, Cond.selects RX9 yX9_isThere yX9_isThere]
def wsX9_juryTold_r3 : List Cond := [Cond.code yX9_isThere cX9_isThere 2 (some .boolean), Cond.methodLink RX9 47 yX9_isRider, Cond.instanceMethod yX9_isRider, Cond.selects RX9 yX9_isRider yX9_isRider, Cond.code yX9_isRider cX9_isRider 2 (some .boolean), Cond.methodLink RX9 74 yX9_latest, Cond.instanceMethod yX9_latest, Cond.selects RX9 yX9_latest yX9_latest, Cond.code yX9_latest cX9_latest 1 (some .int), Cond.methodLink RX9 51 yX9_at_, Cond.static yX9_at_, Cond.code yX9_at_ cX9_at_ 3 (some .int), Cond.methodLink RX9 312 yX9_can, Cond.instanceMethod yX9_can, Cond.selects RX9 yX9_can yX9_can, Cond.code yX9_can cX9_can 3 none]
def wsX9_juryTold : List Cond := .code yX9_juryTold cX9_juryTold 2 none :: ((wsX9_juryTold_r1 ++ (wsX9_juryTold_r2 ++ wsX9_juryTold_r3)) ++ wsX90)
def wsX9_oneTold_r1 : List Cond := [Cond.fieldLink RX9 36 "BunchTimesModel" "told" "[I", Cond.methodLink RX9 316 yX9_lastRider, Cond.instanceMethod yX9_lastRider, Cond.selects RX9 yX9_lastRider yX9_lastRider, Cond.initialized RX9, Cond.code yX9_lastRider cX9_lastRider 1 (some .int), Cond.fieldLink RX9 7 "BunchTimesModel" "row" "[I", Cond.methodLink RX9 296 yX9_number, Cond.instanceMethod yX9_number, Cond.selects RX9 yX9_number yX9_number, Cond.code yX9_number cX9_number 5 none, Cond.fieldLink RX9 261 "BunchTimesModel" "fault" "I", Cond.fieldLink RX9 255 "BunchTimesModel" "place" "I", Cond.fieldLink RX9 270 "BunchTimesModel" "from" "I", Cond.fieldLink RX9 258 "BunchTimesModel" "length" "I", Cond.fieldLink RX9 32 "BunchTimesModel" "tape" "[B", Cond.fieldLink RX9 277 "BunchTimesModel" "toldMany" "I", Cond.methodLink RX9 267 yX9_isDigit, Cond.instanceMethod yX9_isDigit, Cond.selects RX9 yX9_isDigit yX9_isDigit, Cond.code yX9_isDigit cX9_isDigit 1 (some .boolean), Cond.methodLink RX9 264 yX9_here, Cond.instanceMethod yX9_here, Cond.selects RX9 yX9_here yX9_here]
def wsX9_oneTold_r2 : List Cond := [Cond.code yX9_here cX9_here 1 (some .int), Cond.methodLink RX9 43 yX9_isIn, Cond.static yX9_isIn, Cond.code yX9_isIn cX9_isIn 3 (some .boolean), Cond.methodLink RX9 273 yX9_fails, Cond.instanceMethod yX9_fails, Cond.selects RX9 yX9_fails yX9_fails, Cond.code yX9_fails cX9_fails 3 none, Cond.methodLink RX9 309 yX9_ends, Cond.instanceMethod yX9_ends, Cond.selects RX9 yX9_ends yX9_ends, Cond.code yX9_ends cX9_ends 1 (some .boolean), Cond.methodLink RX9 108 yX9_graces, Cond.instanceMethod yX9_graces, Cond.selects RX9 yX9_graces yX9_graces, Cond.code yX9_graces cX9_graces 2 (some .boolean), Cond.methodLink RX9 70 yX9_isOpen, Cond.instanceMethod yX9_isOpen, Cond.selects RX9 yX9_isOpen yX9_isOpen, Cond.code yX9_isOpen cX9_isOpen 1 (some .boolean), Cond.methodLink RX9 59 yX9_isThere, Cond.instanceMethod yX9_isThere, Cond.selects RX9 yX9_isThere yX9_isThere, Cond.code yX9_isThere cX9_isThere 2 (some .boolean)]
def wsX9_oneTold_r3 : List Cond := [Cond.methodLink RX9 47 yX9_isRider, Cond.instanceMethod yX9_isRider, Cond.selects RX9 yX9_isRider yX9_isRider, Cond.code yX9_isRider cX9_isRider 2 (some .boolean), Cond.methodLink RX9 74 yX9_latest, Cond.instanceMethod yX9_latest, Cond.selects RX9 yX9_latest yX9_latest, Cond.code yX9_latest cX9_latest 1 (some .int), Cond.methodLink RX9 51 yX9_at_, Cond.static yX9_at_, Cond.code yX9_at_ cX9_at_ 3 (some .int), Cond.methodLink RX9 111 yX9_quits, Cond.instanceMethod yX9_quits, Cond.selects RX9 yX9_quits yX9_quits, Cond.code yX9_quits cX9_quits 7 (some .boolean), Cond.methodLink RX9 87 yX9_at, Cond.static yX9_at, Cond.code yX9_at cX9_at 2 (some .int), Cond.methodLink RX9 92 yX9_mark, Cond.static yX9_mark, Cond.code yX9_mark cX9_mark 3 (some .int), Cond.methodLink RX9 312 yX9_can, Cond.instanceMethod yX9_can, Cond.selects RX9 yX9_can yX9_can]
def wsX9_oneTold_r4 : List Cond := [Cond.code yX9_can cX9_can 3 none]
def wsX9_oneTold : List Cond := .code yX9_oneTold cX9_oneTold 3 none :: ((wsX9_oneTold_r1 ++ (wsX9_oneTold_r2 ++ (wsX9_oneTold_r3 ++ wsX9_oneTold_r4))) ++ wsX90)
def wsX9_ruleTold_r1 : List Cond := [Cond.fieldLink RX9 7 "BunchTimesModel" "row" "[I", Cond.fieldLink RX9 36 "BunchTimesModel" "told" "[I", Cond.methodLink RX9 296 yX9_number, Cond.instanceMethod yX9_number, Cond.selects RX9 yX9_number yX9_number, Cond.initialized RX9, Cond.code yX9_number cX9_number 5 none, Cond.fieldLink RX9 261 "BunchTimesModel" "fault" "I", Cond.fieldLink RX9 255 "BunchTimesModel" "place" "I", Cond.fieldLink RX9 270 "BunchTimesModel" "from" "I", Cond.fieldLink RX9 258 "BunchTimesModel" "length" "I", Cond.fieldLink RX9 32 "BunchTimesModel" "tape" "[B", Cond.fieldLink RX9 277 "BunchTimesModel" "toldMany" "I", Cond.methodLink RX9 267 yX9_isDigit, Cond.instanceMethod yX9_isDigit, Cond.selects RX9 yX9_isDigit yX9_isDigit, Cond.code yX9_isDigit cX9_isDigit 1 (some .boolean), Cond.methodLink RX9 264 yX9_here, Cond.instanceMethod yX9_here, Cond.selects RX9 yX9_here yX9_here, Cond.code yX9_here cX9_here 1 (some .int), Cond.methodLink RX9 43 yX9_isIn, Cond.static yX9_isIn, Cond.code yX9_isIn cX9_isIn 3 (some .boolean)]
def wsX9_ruleTold_r2 : List Cond := [Cond.methodLink RX9 273 yX9_fails, Cond.instanceMethod yX9_fails, Cond.selects RX9 yX9_fails yX9_fails, Cond.code yX9_fails cX9_fails 3 none, Cond.methodLink RX9 309 yX9_ends, Cond.instanceMethod yX9_ends, Cond.selects RX9 yX9_ends yX9_ends, Cond.code yX9_ends cX9_ends 1 (some .boolean)]
def wsX9_ruleTold : List Cond := .code yX9_ruleTold cX9_ruleTold 4 none :: ((wsX9_ruleTold_r1 ++ wsX9_ruleTold_r2) ++ wsX90)
def wsX9_statement_r1 : List Cond := [Cond.fieldLink RX9 277 "BunchTimesModel" "toldMany" "I", Cond.fieldLink RX9 270 "BunchTimesModel" "from" "I", Cond.constantLong RX9 321 (397345), Cond.constantLong RX9 323 (9746154), Cond.constantLong RX9 328 (10491962), Cond.constantLong RX9 333 (70340), Cond.constantLong RX9 338 (311436), Cond.constantLong RX9 343 (119163), Cond.constantLong RX9 348 (212650), Cond.constantLong RX9 353 (4075196), Cond.constantLong RX9 359 (350183), Cond.constantLong RX9 361 (5146), Cond.constantLong RX9 367 (523076), Cond.constantLong RX9 369 (1841972), Cond.methodLink RX9 284 yX9_word, Cond.instanceMethod yX9_word, Cond.selects RX9 yX9_word yX9_word, Cond.initialized RX9, Cond.code yX9_word cX9_word 3 (some .long), Cond.fieldLink RX9 255 "BunchTimesModel" "place" "I", Cond.fieldLink RX9 258 "BunchTimesModel" "length" "I", Cond.fieldLink RX9 32 "BunchTimesModel" "tape" "[B", Cond.constantLong RX9 280 (27), Cond.constantLong RX9 282 (96)]
def wsX9_statement_r2 : List Cond := [Cond.methodLink RX9 264 yX9_here, Cond.instanceMethod yX9_here, Cond.selects RX9 yX9_here yX9_here, Cond.code yX9_here cX9_here 1 (some .int), Cond.methodLink RX9 43 yX9_isIn, Cond.static yX9_isIn, Cond.code yX9_isIn cX9_isIn 3 (some .boolean), Cond.methodLink RX9 309 yX9_ends, Cond.instanceMethod yX9_ends, Cond.selects RX9 yX9_ends yX9_ends, Cond.code yX9_ends cX9_ends 1 (some .boolean), Cond.fieldLink RX9 261 "BunchTimesModel" "fault" "I", Cond.methodLink RX9 273 yX9_fails, Cond.instanceMethod yX9_fails, Cond.selects RX9 yX9_fails yX9_fails, Cond.code yX9_fails cX9_fails 3 none, Cond.methodLink RX9 62 yX9_teams, Cond.instanceMethod yX9_teams, Cond.selects RX9 yX9_teams yX9_teams, Cond.code yX9_teams cX9_teams 1 (some .int), Cond.fieldLink RX9 7 "BunchTimesModel" "row" "[I", Cond.methodLink RX9 312 yX9_can, Cond.instanceMethod yX9_can, Cond.selects RX9 yX9_can yX9_can]
def wsX9_statement_r3 : List Cond := [Cond.code yX9_can cX9_can 3 none, Cond.methodLink RX9 325 yX9_riderTold, Cond.instanceMethod yX9_riderTold, Cond.selects RX9 yX9_riderTold yX9_riderTold, Cond.code yX9_riderTold cX9_riderTold 2 none, Cond.fieldLink RX9 36 "BunchTimesModel" "told" "[I", Cond.methodLink RX9 296 yX9_number, Cond.instanceMethod yX9_number, Cond.selects RX9 yX9_number yX9_number, Cond.code yX9_number cX9_number 5 none, Cond.methodLink RX9 267 yX9_isDigit, Cond.instanceMethod yX9_isDigit, Cond.selects RX9 yX9_isDigit yX9_isDigit, Cond.code yX9_isDigit cX9_isDigit 1 (some .boolean), Cond.methodLink RX9 66 yX9_comes, Cond.instanceMethod yX9_comes, Cond.selects RX9 yX9_comes yX9_comes, Cond.code yX9_comes cX9_comes 4 (some .int), Cond.methodLink RX9 70 yX9_isOpen, Cond.instanceMethod yX9_isOpen, Cond.selects RX9 yX9_isOpen yX9_isOpen, Cond.code yX9_isOpen cX9_isOpen 1 (some .boolean), Cond.methodLink RX9 74 yX9_latest, Cond.instanceMethod yX9_latest]
def wsX9_statement_r4 : List Cond := [Cond.selects RX9 yX9_latest yX9_latest, Cond.code yX9_latest cX9_latest 1 (some .int), Cond.methodLink RX9 77 yX9_finishes, Cond.instanceMethod yX9_finishes, Cond.selects RX9 yX9_finishes yX9_finishes, Cond.code yX9_finishes cX9_finishes 4 (some .int), Cond.methodLink RX9 55 yX9_hasFinish, Cond.instanceMethod yX9_hasFinish, Cond.selects RX9 yX9_hasFinish yX9_hasFinish, Cond.code yX9_hasFinish cX9_hasFinish 3 (some .boolean), Cond.methodLink RX9 51 yX9_at_, Cond.static yX9_at_, Cond.code yX9_at_ cX9_at_ 3 (some .int), Cond.methodLink RX9 330 yX9_stageTold, Cond.instanceMethod yX9_stageTold, Cond.selects RX9 yX9_stageTold yX9_stageTold, Cond.code yX9_stageTold cX9_stageTold 8 none, Cond.constantLong RX9 288 (126893), Cond.constantLong RX9 290 (4437766), Cond.constantLong RX9 292 (8602516), Cond.constantLong RX9 294 (10989714), Cond.constantLong RX9 299 (47), Cond.constantLong RX9 305 (1837433), Cond.constantLong RX9 307 (281493542)]
def wsX9_statement_r5 : List Cond := [Cond.methodLink RX9 301 yX9_isWord, Cond.instanceMethod yX9_isWord, Cond.selects RX9 yX9_isWord yX9_isWord, Cond.code yX9_isWord cX9_isWord 5 (some .boolean), Cond.methodLink RX9 81 yX9_stages, Cond.instanceMethod yX9_stages, Cond.selects RX9 yX9_stages yX9_stages, Cond.code yX9_stages cX9_stages 5 (some .int), Cond.methodLink RX9 84 yX9_there, Cond.instanceMethod yX9_there, Cond.selects RX9 yX9_there yX9_there, Cond.code yX9_there cX9_there 3 (some .int), Cond.methodLink RX9 59 yX9_isThere, Cond.instanceMethod yX9_isThere, Cond.selects RX9 yX9_isThere yX9_isThere, Cond.code yX9_isThere cX9_isThere 2 (some .boolean), Cond.methodLink RX9 47 yX9_isRider, Cond.instanceMethod yX9_isRider, Cond.selects RX9 yX9_isRider yX9_isRider, Cond.code yX9_isRider cX9_isRider 2 (some .boolean), Cond.methodLink RX9 87 yX9_at, Cond.static yX9_at, Cond.code yX9_at cX9_at 2 (some .int), Cond.methodLink RX9 89 yX9_marks]
def wsX9_statement_r6 : List Cond := [Cond.instanceMethod yX9_marks, Cond.selects RX9 yX9_marks yX9_marks, Cond.code yX9_marks cX9_marks 5 (some .int), Cond.methodLink RX9 92 yX9_mark, Cond.static yX9_mark, Cond.code yX9_mark cX9_mark 3 (some .int), Cond.methodLink RX9 335 yX9_comeTold, Cond.instanceMethod yX9_comeTold, Cond.selects RX9 yX9_comeTold yX9_comeTold, Cond.code yX9_comeTold cX9_comeTold 3 none, Cond.constant RX9 97 (999999), Cond.methodLink RX9 316 yX9_lastRider, Cond.instanceMethod yX9_lastRider, Cond.selects RX9 yX9_lastRider yX9_lastRider, Cond.code yX9_lastRider cX9_lastRider 1 (some .int), Cond.methodLink RX9 95 yX9_finishes_, Cond.instanceMethod yX9_finishes_, Cond.selects RX9 yX9_finishes_ yX9_finishes_, Cond.code yX9_finishes_ cX9_finishes_ 3 (some .boolean), Cond.methodLink RX9 340 yX9_overTold, Cond.instanceMethod yX9_overTold, Cond.selects RX9 yX9_overTold yX9_overTold, Cond.code yX9_overTold cX9_overTold 3 none, Cond.methodLink RX9 98 yX9_overs]
def wsX9_statement_r7 : List Cond := [Cond.instanceMethod yX9_overs, Cond.selects RX9 yX9_overs yX9_overs, Cond.code yX9_overs cX9_overs 6 (some .int), Cond.methodLink RX9 345 yX9_fallTold, Cond.instanceMethod yX9_fallTold, Cond.selects RX9 yX9_fallTold yX9_fallTold, Cond.code yX9_fallTold cX9_fallTold 5 none, Cond.constantLong RX9 319 (459818), Cond.methodLink RX9 101 yX9_falls, Cond.instanceMethod yX9_falls, Cond.selects RX9 yX9_falls yX9_falls, Cond.code yX9_falls cX9_falls 5 (some .boolean), Cond.methodLink RX9 350 yX9_juryTold, Cond.instanceMethod yX9_juryTold, Cond.selects RX9 yX9_juryTold yX9_juryTold, Cond.code yX9_juryTold cX9_juryTold 2 none, Cond.methodLink RX9 104 yX9_juries, Cond.instanceMethod yX9_juries, Cond.selects RX9 yX9_juries yX9_juries, Cond.code yX9_juries cX9_juries 4 (some .int), Cond.constant RX9 107 (99999), Cond.methodLink RX9 355 yX9_oneTold, Cond.instanceMethod yX9_oneTold, Cond.selects RX9 yX9_oneTold yX9_oneTold]
def wsX9_statement_r8 : List Cond := [Cond.code yX9_oneTold cX9_oneTold 3 none, Cond.methodLink RX9 108 yX9_graces, Cond.instanceMethod yX9_graces, Cond.selects RX9 yX9_graces yX9_graces, Cond.code yX9_graces cX9_graces 2 (some .boolean), Cond.methodLink RX9 111 yX9_quits, Cond.instanceMethod yX9_quits, Cond.selects RX9 yX9_quits yX9_quits, Cond.code yX9_quits cX9_quits 7 (some .boolean), Cond.methodLink RX9 363 yX9_ruleTold, Cond.instanceMethod yX9_ruleTold, Cond.selects RX9 yX9_ruleTold yX9_ruleTold, Cond.code yX9_ruleTold cX9_ruleTold 4 none, Cond.methodLink RX9 157 yX9_closes, Cond.instanceMethod yX9_closes, Cond.selects RX9 yX9_closes yX9_closes, Cond.code yX9_closes cX9_closes 6 (some .int), Cond.fieldLink RX9 114 "BunchTimesModel" "orderMany" "I", Cond.fieldLink RX9 23 "BunchTimesModel" "order" "[I", Cond.methodLink RX9 160 yX9_laysOrder, Cond.instanceMethod yX9_laysOrder, Cond.selects RX9 yX9_laysOrder yX9_laysOrder, Cond.code yX9_laysOrder cX9_laysOrder 4 none, Cond.methodLink RX9 164 yX9_laysRaw]
def wsX9_statement_r9 : List Cond := [Cond.instanceMethod yX9_laysRaw, Cond.selects RX9 yX9_laysRaw yX9_laysRaw, Cond.code yX9_laysRaw cX9_laysRaw 6 none, Cond.methodLink RX9 117 yX9_space, Cond.instanceMethod yX9_space, Cond.selects RX9 yX9_space yX9_space, Cond.code yX9_space cX9_space 3 (some .int), Cond.methodLink RX9 167 yX9_timeOf, Cond.instanceMethod yX9_timeOf, Cond.selects RX9 yX9_timeOf yX9_timeOf, Cond.code yX9_timeOf cX9_timeOf 7 (some .int), Cond.methodLink RX9 120 yX9_doesCount, Cond.instanceMethod yX9_doesCount, Cond.selects RX9 yX9_doesCount yX9_doesCount, Cond.code yX9_doesCount cX9_doesCount 3 (some .boolean), Cond.methodLink RX9 170 yX9_laysLimit, Cond.instanceMethod yX9_laysLimit, Cond.selects RX9 yX9_laysLimit yX9_laysLimit, Cond.code yX9_laysLimit cX9_laysLimit 6 none, Cond.methodLink RX9 123 yX9_hundredths, Cond.static yX9_hundredths, Cond.code yX9_hundredths cX9_hundredths 1 (some .int), Cond.methodLink RX9 173 yX9_laysPrizes, Cond.instanceMethod yX9_laysPrizes]
def wsX9_statement_r10 : List Cond := [Cond.selects RX9 yX9_laysPrizes yX9_laysPrizes, Cond.code yX9_laysPrizes cX9_laysPrizes 7 none, Cond.fieldLink RX9 151 "BunchTimesModel" "FOR_SPRINT" "[I", Cond.methodLink RX9 144 yX9_adds, Cond.instanceMethod yX9_adds, Cond.selects RX9 yX9_adds yX9_adds, Cond.code yX9_adds cX9_adds 5 none, Cond.methodLink RX9 141 yX9_isLate, Cond.instanceMethod yX9_isLate, Cond.selects RX9 yX9_isLate yX9_isLate, Cond.code yX9_isLate cX9_isLate 3 (some .boolean), Cond.methodLink RX9 148 yX9_pointsFor, Cond.instanceMethod yX9_pointsFor, Cond.selects RX9 yX9_pointsFor yX9_pointsFor, Cond.code yX9_pointsFor cX9_pointsFor 3 (some .int), Cond.fieldLink RX9 126 "BunchTimesModel" "FOR_FLAT" "[I", Cond.fieldLink RX9 129 "BunchTimesModel" "FOR_HILLS" "[I", Cond.fieldLink RX9 132 "BunchTimesModel" "FOR_OTHERS" "[I", Cond.methodLink RX9 154 yX9_dotsFor, Cond.static yX9_dotsFor, Cond.code yX9_dotsFor cX9_dotsFor 2 (some .int), Cond.fieldLink RX9 135 "BunchTimesModel" "FIRST" "[I", Cond.fieldLink RX9 138 "BunchTimesModel" "SECOND" "[I"]
def wsX9_statement : List Cond := .code yX9_statement cX9_statement 4 none :: ((wsX9_statement_r1 ++ (wsX9_statement_r2 ++ (wsX9_statement_r3 ++ (wsX9_statement_r4 ++ (wsX9_statement_r5 ++ (wsX9_statement_r6 ++ (wsX9_statement_r7 ++ (wsX9_statement_r8 ++ (wsX9_statement_r9 ++ wsX9_statement_r10))))))))) ++ wsX90)
def wsX9_tell_r1 : List Cond := [Cond.fieldLink RX9 39 "BunchTimesModel" "thrown" "I", Cond.fieldLink RX9 179 "BunchTimesModel" "taped" "I", Cond.fieldLink RX9 258 "BunchTimesModel" "length" "I", Cond.fieldLink RX9 255 "BunchTimesModel" "place" "I", Cond.fieldLink RX9 261 "BunchTimesModel" "fault" "I", Cond.fieldLink RX9 16 "BunchTimesModel" "before" "[I", Cond.fieldLink RX9 7 "BunchTimesModel" "row" "[I", Cond.methodLink RX9 264 yX9_here, Cond.instanceMethod yX9_here, Cond.selects RX9 yX9_here yX9_here, Cond.initialized RX9, Cond.code yX9_here cX9_here 1 (some .int), Cond.fieldLink RX9 32 "BunchTimesModel" "tape" "[B", Cond.methodLink RX9 371 yX9_statement, Cond.instanceMethod yX9_statement, Cond.selects RX9 yX9_statement yX9_statement, Cond.code yX9_statement cX9_statement 4 none, Cond.fieldLink RX9 277 "BunchTimesModel" "toldMany" "I", Cond.fieldLink RX9 270 "BunchTimesModel" "from" "I", Cond.constantLong RX9 321 (397345), Cond.constantLong RX9 323 (9746154), Cond.constantLong RX9 328 (10491962), Cond.constantLong RX9 333 (70340), Cond.constantLong RX9 338 (311436)]
def wsX9_tell_r2 : List Cond := [Cond.constantLong RX9 343 (119163), Cond.constantLong RX9 348 (212650), Cond.constantLong RX9 353 (4075196), Cond.constantLong RX9 359 (350183), Cond.constantLong RX9 361 (5146), Cond.constantLong RX9 367 (523076), Cond.constantLong RX9 369 (1841972), Cond.methodLink RX9 284 yX9_word, Cond.instanceMethod yX9_word, Cond.selects RX9 yX9_word yX9_word, Cond.code yX9_word cX9_word 3 (some .long), Cond.constantLong RX9 280 (27), Cond.constantLong RX9 282 (96), Cond.methodLink RX9 43 yX9_isIn, Cond.static yX9_isIn, Cond.code yX9_isIn cX9_isIn 3 (some .boolean), Cond.methodLink RX9 309 yX9_ends, Cond.instanceMethod yX9_ends, Cond.selects RX9 yX9_ends yX9_ends, Cond.code yX9_ends cX9_ends 1 (some .boolean), Cond.methodLink RX9 273 yX9_fails, Cond.instanceMethod yX9_fails, Cond.selects RX9 yX9_fails yX9_fails, Cond.code yX9_fails cX9_fails 3 none]
def wsX9_tell_r3 : List Cond := [Cond.methodLink RX9 62 yX9_teams, Cond.instanceMethod yX9_teams, Cond.selects RX9 yX9_teams yX9_teams, Cond.code yX9_teams cX9_teams 1 (some .int), Cond.methodLink RX9 312 yX9_can, Cond.instanceMethod yX9_can, Cond.selects RX9 yX9_can yX9_can, Cond.code yX9_can cX9_can 3 none, Cond.methodLink RX9 325 yX9_riderTold, Cond.instanceMethod yX9_riderTold, Cond.selects RX9 yX9_riderTold yX9_riderTold, Cond.code yX9_riderTold cX9_riderTold 2 none, Cond.fieldLink RX9 36 "BunchTimesModel" "told" "[I", Cond.methodLink RX9 296 yX9_number, Cond.instanceMethod yX9_number, Cond.selects RX9 yX9_number yX9_number, Cond.code yX9_number cX9_number 5 none, Cond.methodLink RX9 267 yX9_isDigit, Cond.instanceMethod yX9_isDigit, Cond.selects RX9 yX9_isDigit yX9_isDigit, Cond.code yX9_isDigit cX9_isDigit 1 (some .boolean), Cond.methodLink RX9 66 yX9_comes, Cond.instanceMethod yX9_comes, Cond.selects RX9 yX9_comes yX9_comes]
def wsX9_tell_r4 : List Cond := [Cond.code yX9_comes cX9_comes 4 (some .int), Cond.methodLink RX9 70 yX9_isOpen, Cond.instanceMethod yX9_isOpen, Cond.selects RX9 yX9_isOpen yX9_isOpen, Cond.code yX9_isOpen cX9_isOpen 1 (some .boolean), Cond.methodLink RX9 74 yX9_latest, Cond.instanceMethod yX9_latest, Cond.selects RX9 yX9_latest yX9_latest, Cond.code yX9_latest cX9_latest 1 (some .int), Cond.methodLink RX9 77 yX9_finishes, Cond.instanceMethod yX9_finishes, Cond.selects RX9 yX9_finishes yX9_finishes, Cond.code yX9_finishes cX9_finishes 4 (some .int), Cond.methodLink RX9 55 yX9_hasFinish, Cond.instanceMethod yX9_hasFinish, Cond.selects RX9 yX9_hasFinish yX9_hasFinish, Cond.code yX9_hasFinish cX9_hasFinish 3 (some .boolean), Cond.methodLink RX9 51 yX9_at_, Cond.static yX9_at_, Cond.code yX9_at_ cX9_at_ 3 (some .int), Cond.methodLink RX9 330 yX9_stageTold, Cond.instanceMethod yX9_stageTold, Cond.selects RX9 yX9_stageTold yX9_stageTold, Cond.code yX9_stageTold cX9_stageTold 8 none]
def wsX9_tell_r5 : List Cond := [Cond.constantLong RX9 288 (126893), Cond.constantLong RX9 290 (4437766), Cond.constantLong RX9 292 (8602516), Cond.constantLong RX9 294 (10989714), Cond.constantLong RX9 299 (47), Cond.constantLong RX9 305 (1837433), Cond.constantLong RX9 307 (281493542), Cond.methodLink RX9 301 yX9_isWord, Cond.instanceMethod yX9_isWord, Cond.selects RX9 yX9_isWord yX9_isWord, Cond.code yX9_isWord cX9_isWord 5 (some .boolean), Cond.methodLink RX9 81 yX9_stages, Cond.instanceMethod yX9_stages, Cond.selects RX9 yX9_stages yX9_stages, Cond.code yX9_stages cX9_stages 5 (some .int), Cond.methodLink RX9 84 yX9_there, Cond.instanceMethod yX9_there, Cond.selects RX9 yX9_there yX9_there, Cond.code yX9_there cX9_there 3 (some .int), Cond.methodLink RX9 59 yX9_isThere, Cond.instanceMethod yX9_isThere, Cond.selects RX9 yX9_isThere yX9_isThere, Cond.code yX9_isThere cX9_isThere 2 (some .boolean), Cond.methodLink RX9 47 yX9_isRider]
def wsX9_tell_r6 : List Cond := [Cond.instanceMethod yX9_isRider, Cond.selects RX9 yX9_isRider yX9_isRider, Cond.code yX9_isRider cX9_isRider 2 (some .boolean), Cond.methodLink RX9 87 yX9_at, Cond.static yX9_at, Cond.code yX9_at cX9_at 2 (some .int), Cond.methodLink RX9 89 yX9_marks, Cond.instanceMethod yX9_marks, Cond.selects RX9 yX9_marks yX9_marks, Cond.code yX9_marks cX9_marks 5 (some .int), Cond.methodLink RX9 92 yX9_mark, Cond.static yX9_mark, Cond.code yX9_mark cX9_mark 3 (some .int), Cond.methodLink RX9 335 yX9_comeTold, Cond.instanceMethod yX9_comeTold, Cond.selects RX9 yX9_comeTold yX9_comeTold, Cond.code yX9_comeTold cX9_comeTold 3 none, Cond.constant RX9 97 (999999), Cond.methodLink RX9 316 yX9_lastRider, Cond.instanceMethod yX9_lastRider, Cond.selects RX9 yX9_lastRider yX9_lastRider, Cond.code yX9_lastRider cX9_lastRider 1 (some .int), Cond.methodLink RX9 95 yX9_finishes_, Cond.instanceMethod yX9_finishes_]
def wsX9_tell_r7 : List Cond := [Cond.selects RX9 yX9_finishes_ yX9_finishes_, Cond.code yX9_finishes_ cX9_finishes_ 3 (some .boolean), Cond.methodLink RX9 340 yX9_overTold, Cond.instanceMethod yX9_overTold, Cond.selects RX9 yX9_overTold yX9_overTold, Cond.code yX9_overTold cX9_overTold 3 none, Cond.methodLink RX9 98 yX9_overs, Cond.instanceMethod yX9_overs, Cond.selects RX9 yX9_overs yX9_overs, Cond.code yX9_overs cX9_overs 6 (some .int), Cond.methodLink RX9 345 yX9_fallTold, Cond.instanceMethod yX9_fallTold, Cond.selects RX9 yX9_fallTold yX9_fallTold, Cond.code yX9_fallTold cX9_fallTold 5 none, Cond.constantLong RX9 319 (459818), Cond.methodLink RX9 101 yX9_falls, Cond.instanceMethod yX9_falls, Cond.selects RX9 yX9_falls yX9_falls, Cond.code yX9_falls cX9_falls 5 (some .boolean), Cond.methodLink RX9 350 yX9_juryTold, Cond.instanceMethod yX9_juryTold, Cond.selects RX9 yX9_juryTold yX9_juryTold, Cond.code yX9_juryTold cX9_juryTold 2 none, Cond.methodLink RX9 104 yX9_juries]
def wsX9_tell_r8 : List Cond := [Cond.instanceMethod yX9_juries, Cond.selects RX9 yX9_juries yX9_juries, Cond.code yX9_juries cX9_juries 4 (some .int), Cond.constant RX9 107 (99999), Cond.methodLink RX9 355 yX9_oneTold, Cond.instanceMethod yX9_oneTold, Cond.selects RX9 yX9_oneTold yX9_oneTold, Cond.code yX9_oneTold cX9_oneTold 3 none, Cond.methodLink RX9 108 yX9_graces, Cond.instanceMethod yX9_graces, Cond.selects RX9 yX9_graces yX9_graces, Cond.code yX9_graces cX9_graces 2 (some .boolean), Cond.methodLink RX9 111 yX9_quits, Cond.instanceMethod yX9_quits, Cond.selects RX9 yX9_quits yX9_quits, Cond.code yX9_quits cX9_quits 7 (some .boolean), Cond.methodLink RX9 363 yX9_ruleTold, Cond.instanceMethod yX9_ruleTold, Cond.selects RX9 yX9_ruleTold yX9_ruleTold, Cond.code yX9_ruleTold cX9_ruleTold 4 none, Cond.methodLink RX9 157 yX9_closes, Cond.instanceMethod yX9_closes, Cond.selects RX9 yX9_closes yX9_closes, Cond.code yX9_closes cX9_closes 6 (some .int)]
def wsX9_tell_r9 : List Cond := [Cond.fieldLink RX9 114 "BunchTimesModel" "orderMany" "I", Cond.fieldLink RX9 23 "BunchTimesModel" "order" "[I", Cond.methodLink RX9 160 yX9_laysOrder, Cond.instanceMethod yX9_laysOrder, Cond.selects RX9 yX9_laysOrder yX9_laysOrder, Cond.code yX9_laysOrder cX9_laysOrder 4 none, Cond.methodLink RX9 164 yX9_laysRaw, Cond.instanceMethod yX9_laysRaw, Cond.selects RX9 yX9_laysRaw yX9_laysRaw, Cond.code yX9_laysRaw cX9_laysRaw 6 none, Cond.methodLink RX9 117 yX9_space, Cond.instanceMethod yX9_space, Cond.selects RX9 yX9_space yX9_space, Cond.code yX9_space cX9_space 3 (some .int), Cond.methodLink RX9 167 yX9_timeOf, Cond.instanceMethod yX9_timeOf, Cond.selects RX9 yX9_timeOf yX9_timeOf, Cond.code yX9_timeOf cX9_timeOf 7 (some .int), Cond.methodLink RX9 120 yX9_doesCount, Cond.instanceMethod yX9_doesCount, Cond.selects RX9 yX9_doesCount yX9_doesCount, Cond.code yX9_doesCount cX9_doesCount 3 (some .boolean), Cond.methodLink RX9 170 yX9_laysLimit, Cond.instanceMethod yX9_laysLimit]
def wsX9_tell_r10 : List Cond := [Cond.selects RX9 yX9_laysLimit yX9_laysLimit, Cond.code yX9_laysLimit cX9_laysLimit 6 none, Cond.methodLink RX9 123 yX9_hundredths, Cond.static yX9_hundredths, Cond.code yX9_hundredths cX9_hundredths 1 (some .int), Cond.methodLink RX9 173 yX9_laysPrizes, Cond.instanceMethod yX9_laysPrizes, Cond.selects RX9 yX9_laysPrizes yX9_laysPrizes, Cond.code yX9_laysPrizes cX9_laysPrizes 7 none, Cond.fieldLink RX9 151 "BunchTimesModel" "FOR_SPRINT" "[I", Cond.methodLink RX9 144 yX9_adds, Cond.instanceMethod yX9_adds, Cond.selects RX9 yX9_adds yX9_adds, Cond.code yX9_adds cX9_adds 5 none, Cond.methodLink RX9 141 yX9_isLate, Cond.instanceMethod yX9_isLate, Cond.selects RX9 yX9_isLate yX9_isLate, Cond.code yX9_isLate cX9_isLate 3 (some .boolean), Cond.methodLink RX9 148 yX9_pointsFor, Cond.instanceMethod yX9_pointsFor, Cond.selects RX9 yX9_pointsFor yX9_pointsFor, Cond.code yX9_pointsFor cX9_pointsFor 3 (some .int), Cond.fieldLink RX9 126 "BunchTimesModel" "FOR_FLAT" "[I", Cond.fieldLink RX9 129 "BunchTimesModel" "FOR_HILLS" "[I"]
def wsX9_tell_r11 : List Cond := [Cond.fieldLink RX9 132 "BunchTimesModel" "FOR_OTHERS" "[I", Cond.methodLink RX9 154 yX9_dotsFor, Cond.static yX9_dotsFor, Cond.code yX9_dotsFor cX9_dotsFor 2 (some .int), Cond.fieldLink RX9 135 "BunchTimesModel" "FIRST" "[I", Cond.fieldLink RX9 138 "BunchTimesModel" "SECOND" "[I"]
def wsX9_tell : List Cond := .code yX9_tell cX9_tell 3 (some .int) :: ((wsX9_tell_r1 ++ (wsX9_tell_r2 ++ (wsX9_tell_r3 ++ (wsX9_tell_r4 ++ (wsX9_tell_r5 ++ (wsX9_tell_r6 ++ (wsX9_tell_r7 ++ (wsX9_tell_r8 ++ (wsX9_tell_r9 ++ (wsX9_tell_r10 ++ wsX9_tell_r11)))))))))) ++ wsX90)
def wsX9_fault : List Cond := .code yX9_fault cX9_fault 1 (some .int) :: ([.fieldLink RX9 39 "BunchTimesModel" "thrown" "I", .fieldLink RX9 261 "BunchTimesModel" "fault" "I"] ++ wsX90)
def wsJ9_max_7cf53 : List Cond := .code yJ9_max_7cf53 cJ9_max_7cf53 2 (some .int) :: ([])
def wsJ9_min_7cf53 : List Cond := .code yJ9_min_7cf53 cJ9_min_7cf53 2 (some .int) :: ([])
def wsL_of_r1 : List Cond := [Cond.classLink RL 13 "java/util/NoSuchElementException", Cond.methodLink RL 7 yX8_of, Cond.instanceMethod yX8_of, Cond.selects RX8 yX8_of yX8_of, Cond.initialized RX8, Cond.code yX8_of cX8_of 3 (some .int), Cond.classLink RX8 149 "java/util/NoSuchElementException", Cond.initialized "java/util/NoSuchElementException", Cond.fieldLink RX8 10 "BunchTimes" "race" "LBunchTimes$Race;", Cond.instanceMethod yX3_hasRider, Cond.initialized RX3, Cond.selects RX3 yX3_hasRider yX3_hasRider, Cond.code yX3_hasRider cX3_hasRider 2 (some .boolean), Cond.fieldLink RX3 39 "BunchTimes$Race" "riders" "I", Cond.static yX8_within, Cond.code yX8_within cX8_within 3 (some .boolean), Cond.methodLink RX8 45 yX8_within, Cond.instanceMethod yX3_gained, Cond.selects RX3 yX3_gained yX3_gained, Cond.code yX3_gained cX3_gained 5 (some .int), Cond.fieldLink RX3 31 "BunchTimes$Race" "all" "[LBunchTimes$Stage;", Cond.methodLink RX3 145 yX3_closed, Cond.instanceMethod yX3_closed, Cond.selects RX3 yX3_closed yX3_closed]
def wsL_of_r2 : List Cond := [Cond.code yX3_closed cX3_closed 1 (some .int), Cond.fieldLink RX3 45 "BunchTimes$Race" "open" "Z", Cond.fieldLink RX3 42 "BunchTimes$Race" "stages" "I", Cond.instanceMethod yX4_gainedBy, Cond.initialized RX4, Cond.selects RX4 yX4_gainedBy yX4_gainedBy, Cond.code yX4_gainedBy cX4_gainedBy 3 (some .int), Cond.fieldLink RX4 21 "BunchTimes$Stage" "prizes" "LBunchTimes$Prizes;", Cond.fieldLink RX4 35 "BunchTimes$Stage" "juried" "[I"]
def wsL_of : List Cond := .codeWith yL_of cL_of 5 (some .int) [(0, 10, 13, 13)] :: ((wsL_of_r1 ++ wsL_of_r2) ++ wsX80 ++ wsX30 ++ wsX40 ++ wsX20 ++ (vx_at0 RX8 151 "java/util/NoSuchElementException" ["java/lang/RuntimeException", "java/lang/Exception"]).filter goodWord)
def wsL_law0_r1 : List Cond := [Cond.classLink RL 8 RX8, Cond.instantiable RX8 5, Cond.initialized RX8, Cond.classLink RL 16 RX9, Cond.instantiable RX9 18, Cond.initialized RX9, Cond.arrayClass .long, Cond.methodLink RL 15 yX8_init, Cond.instanceMethod yX8_init, Cond.code yX8_init cX8_init 1 none, Cond.methodLink RX8 1 objectInit, Cond.instanceMethod objectInit, Cond.code objectInit ⟨#[0xb1]⟩ 1 none, Cond.classLink RX8 7 RX3, Cond.instantiable RX3 10, Cond.initialized RX3, Cond.fieldLink RX8 10 "BunchTimes" "race" "LBunchTimes$Race;", Cond.fieldLink RX8 16 "BunchTimes" "ahead" "LBunchTimes$Race;", Cond.fieldLink RX8 19 "BunchTimes" "kept" "[LBunchTimes$Race;", Cond.classLink RX8 23 RX5, Cond.instantiable RX5 5, Cond.initialized RX5, Cond.fieldLink RX8 26 "BunchTimes" "standings" "LBunchTimes$Standings;", Cond.classLink RX8 30 RX6]
def wsL_law0_r2 : List Cond := [Cond.instantiable RX6 6, Cond.initialized RX6, Cond.fieldLink RX8 33 "BunchTimes" "tape" "LBunchTimes$Tape;", Cond.instanceMethod yX3_init, Cond.code yX3_init cX3_init 2 none, Cond.methodLink RX3 3 objectInit, Cond.fieldLink RX3 9 "BunchTimes$Race" "gap" "I", Cond.fieldLink RX3 15 "BunchTimes$Race" "zone" "I", Cond.arrayClass .int, Cond.fieldLink RX3 18 "BunchTimes$Race" "teamOf" "[I", Cond.fieldLink RX3 22 "BunchTimes$Race" "age" "[I", Cond.arrayClass .boolean, Cond.fieldLink RX3 25 "BunchTimes$Race" "in" "[Z", Cond.classLink RX3 29 RX4, Cond.fieldLink RX3 31 "BunchTimes$Race" "all" "[LBunchTimes$Stage;", Cond.instantiable RX4 20, Cond.initialized RX4, Cond.instanceMethod yX4_init, Cond.code yX4_init cX4_init 1 none, Cond.methodLink RX4 3 objectInit, Cond.classLink RX4 9 RX1, Cond.instantiable RX1 7, Cond.initialized RX1, Cond.fieldLink RX4 12 "BunchTimes$Stage" "course" "LBunchTimes$Course;"]
def wsL_law0_r3 : List Cond := [Cond.classLink RX4 18 RX2, Cond.instantiable RX2 3, Cond.initialized RX2, Cond.fieldLink RX4 21 "BunchTimes$Stage" "prizes" "LBunchTimes$Prizes;", Cond.fieldLink RX4 25 "BunchTimes$Stage" "finish" "[I", Cond.fieldLink RX4 29 "BunchTimes$Stage" "fallKm" "[I", Cond.fieldLink RX4 32 "BunchTimes$Stage" "fallWith" "[I", Cond.fieldLink RX4 35 "BunchTimes$Stage" "juried" "[I", Cond.fieldLink RX4 38 "BunchTimes$Stage" "graced" "[Z", Cond.fieldLink RX4 42 "BunchTimes$Stage" "order" "[I", Cond.fieldLink RX4 45 "BunchTimes$Stage" "place" "[I", Cond.fieldLink RX4 48 "BunchTimes$Stage" "bunch" "[I", Cond.fieldLink RX4 51 "BunchTimes$Stage" "raw" "[I", Cond.fieldLink RX4 54 "BunchTimes$Stage" "time" "[I", Cond.fieldLink RX4 57 "BunchTimes$Stage" "late" "[Z", Cond.instanceMethod yX1_init, Cond.code yX1_init cX1_init 1 none, Cond.methodLink RX1 3 objectInit, Cond.fieldLink RX1 9 "BunchTimes$Course" "km" "[I", Cond.fieldLink RX1 15 "BunchTimes$Course" "how" "[I", Cond.fieldLink RX1 18 "BunchTimes$Course" "crossed" "[I", Cond.fieldLink RX1 21 "BunchTimes$Course" "crossing" "[I", Cond.instanceMethod yX2_init, Cond.code yX2_init cX2_init 1 none]
def wsL_law0_r4 : List Cond := [Cond.methodLink RX2 3 objectInit, Cond.fieldLink RX2 9 "BunchTimes$Prizes" "bonus" "[I", Cond.fieldLink RX2 15 "BunchTimes$Prizes" "points" "[I", Cond.fieldLink RX2 18 "BunchTimes$Prizes" "dots" "[I", Cond.instanceMethod yX5_init, Cond.code yX5_init cX5_init 1 none, Cond.methodLink RX5 3 objectInit, Cond.fieldLink RX5 9 "BunchTimes$Standings" "order" "[I", Cond.fieldLink RX5 15 "BunchTimes$Standings" "sums" "[I", Cond.fieldLink RX5 18 "BunchTimes$Standings" "places" "[I", Cond.fieldLink RX5 21 "BunchTimes$Standings" "worth" "[I", Cond.instanceMethod yX6_init, Cond.code yX6_init cX6_init 1 none, Cond.methodLink RX6 3 objectInit, Cond.arrayClass .byte, Cond.fieldLink RX6 9 "BunchTimes$Tape" "bytes" "[B", Cond.methodLink RL 18 yX9_init, Cond.instanceMethod yX9_init, Cond.code yX9_init cX9_init 1 none, Cond.methodLink RX9 1 objectInit, Cond.fieldLink RX9 7 "BunchTimesModel" "row" "[I", Cond.fieldLink RX9 13 "BunchTimesModel" "keptRows" "[I", Cond.fieldLink RX9 16 "BunchTimesModel" "before" "[I", Cond.fieldLink RX9 19 "BunchTimesModel" "isKept" "[Z"]
def wsL_law0_r5 : List Cond := [Cond.fieldLink RX9 23 "BunchTimesModel" "order" "[I", Cond.fieldLink RX9 26 "BunchTimesModel" "ranked" "[I", Cond.fieldLink RX9 29 "BunchTimesModel" "least" "[I", Cond.fieldLink RX9 32 "BunchTimesModel" "tape" "[B", Cond.fieldLink RX9 36 "BunchTimesModel" "told" "[I", Cond.methodLink RL 19 yX8_feed, Cond.instanceMethod yX8_feed, Cond.selects RX8 yX8_feed yX8_feed, Cond.code yX8_feed cX8_feed 6 (some .int), Cond.instanceMethod yX6_putFour, Cond.selects RX6 yX6_putFour yX6_putFour, Cond.code yX6_putFour cX6_putFour 3 none, Cond.fieldLink RX6 15 "BunchTimes$Tape" "length" "I", Cond.methodLink RL 23 yX9_feed, Cond.instanceMethod yX9_feed, Cond.selects RX9 yX9_feed yX9_feed, Cond.code yX9_feed cX9_feed 6 (some .int), Cond.fieldLink RX9 39 "BunchTimesModel" "thrown" "I", Cond.fieldLink RX9 179 "BunchTimesModel" "taped" "I", Cond.methodLink RX9 252 yX9_put, Cond.instanceMethod yX9_put, Cond.selects RX9 yX9_put yX9_put, Cond.code yX9_put cX9_put 3 none, Cond.methodLink RL 24 yX8_end]
def wsL_law0_r6 : List Cond := [Cond.instanceMethod yX8_end, Cond.selects RX8 yX8_end yX8_end, Cond.code yX8_end cX8_end 2 (some .boolean), Cond.methodLink RX8 45 yX8_within, Cond.static yX8_within, Cond.code yX8_within cX8_within 3 (some .boolean), Cond.methodLink RL 28 yX9_end, Cond.instanceMethod yX9_end, Cond.selects RX9 yX9_end yX9_end, Cond.code yX9_end cX9_end 2 (some .boolean), Cond.methodLink RX9 43 yX9_isIn, Cond.static yX9_isIn, Cond.code yX9_isIn cX9_isIn 3 (some .boolean), Cond.methodLink RL 29 yX8_tell, Cond.instanceMethod yX8_tell, Cond.selects RX8 yX8_tell yX8_tell, Cond.code yX8_tell cX8_tell 3 (some .int), Cond.instanceMethod yX3_copyFrom, Cond.selects RX3 yX3_copyFrom yX3_copyFrom, Cond.code yX3_copyFrom cX3_copyFrom 3 none, Cond.fieldLink RX3 36 "BunchTimes$Race" "teams" "I", Cond.fieldLink RX3 39 "BunchTimes$Race" "riders" "I", Cond.fieldLink RX3 42 "BunchTimes$Race" "stages" "I", Cond.fieldLink RX3 45 "BunchTimes$Race" "open" "Z"]
def wsL_law0_r7 : List Cond := [Cond.methodLink RX3 49 arraycopyName, Cond.native arraycopyName, Cond.static arraycopyName, Cond.initialized "java/lang/System", Cond.instanceMethod yX4_copyFrom, Cond.selects RX4 yX4_copyFrom yX4_copyFrom, Cond.code yX4_copyFrom cX4_copyFrom 2 none, Cond.methodLink RX4 79 arraycopyName, Cond.fieldLink RX4 68 "BunchTimes$Stage" "finishers" "I", Cond.fieldLink RX4 85 "BunchTimes$Stage" "bunches" "I", Cond.fieldLink RX4 88 "BunchTimes$Stage" "best" "I", Cond.fieldLink RX4 91 "BunchTimes$Stage" "speed" "I", Cond.fieldLink RX4 94 "BunchTimes$Stage" "limit" "I", Cond.fieldLink RX4 97 "BunchTimes$Stage" "lateOnes" "I", Cond.fieldLink RX4 100 "BunchTimes$Stage" "pardoned" "Z", Cond.instanceMethod yX1_copyFrom, Cond.selects RX1 yX1_copyFrom yX1_copyFrom, Cond.code yX1_copyFrom cX1_copyFrom 2 none, Cond.fieldLink RX1 24 "BunchTimes$Course" "kind" "I", Cond.fieldLink RX1 28 "BunchTimes$Course" "length" "I", Cond.fieldLink RX1 31 "BunchTimes$Course" "marks" "I", Cond.methodLink RX1 34 arraycopyName, Cond.instanceMethod yX2_copyFrom, Cond.selects RX2 yX2_copyFrom yX2_copyFrom]
def wsL_law0_r8 : List Cond := [Cond.code yX2_copyFrom cX2_copyFrom 2 none, Cond.methodLink RX2 21 arraycopyName, Cond.instanceMethod yX6_begin, Cond.selects RX6 yX6_begin yX6_begin, Cond.code yX6_begin cX6_begin 1 none, Cond.fieldLink RX6 19 "BunchTimes$Tape" "fault" "I", Cond.fieldLink RX6 22 "BunchTimes$Tape" "next" "I", Cond.methodLink RX6 25 yX6_advance, Cond.instanceMethod yX6_advance, Cond.selects RX6 yX6_advance yX6_advance, Cond.code yX6_advance cX6_advance 1 none, Cond.fieldLink RX6 31 "BunchTimes$Tape" "start" "I", Cond.fieldLink RX6 28 "BunchTimes$Tape" "token" "I", Cond.methodLink RX6 50 yX6_kindAt, Cond.instanceMethod yX6_kindAt, Cond.selects RX6 yX6_kindAt yX6_kindAt, Cond.code yX6_kindAt cX6_kindAt 3 (some .int), Cond.instanceMethod yX6_hasMore, Cond.selects RX6 yX6_hasMore yX6_hasMore, Cond.code yX6_hasMore cX6_hasMore 1 (some .boolean), Cond.static yX7_tellStatement, Cond.initialized RX7, Cond.code yX7_tellStatement cX7_tellStatement 2 (some .boolean), Cond.instanceMethod yX6_takes]
def wsL_law0_r9 : List Cond := [Cond.selects RX6 yX6_takes yX6_takes, Cond.code yX6_takes cX6_takes 3 (some .boolean), Cond.methodLink RX6 34 yJ0_length_8abf5, Cond.instanceMethod yJ0_length_8abf5, Cond.selects RJ0 yJ0_length_8abf5 yJ0_length_8abf5, Cond.initialized RJ0, Cond.code yJ0_length_8abf5 cJ0_length_8abf5 1 (some .int), Cond.fieldLink RJ0 9 "java/lang/String" "value" "[B", Cond.methodLink RJ0 335 yJ0_coder_7d493, Cond.instanceMethod yJ0_coder_7d493, Cond.selects RJ0 yJ0_coder_7d493 yJ0_coder_7d493, Cond.code yJ0_coder_7d493 cJ0_coder_7d493 1 (some .byte), Cond.fieldLink RJ0 38 "java/lang/String" "COMPACT_STRINGS" "Z", Cond.fieldLink RJ0 15 "java/lang/String" "coder" "B", Cond.methodLink RX6 39 yJ0_charAt_5068e, Cond.instanceMethod yJ0_charAt_5068e, Cond.selects RJ0 yJ0_charAt_5068e yJ0_charAt_5068e, Cond.code yJ0_charAt_5068e cJ0_charAt_5068e 2 (some .char), Cond.methodLink RJ0 492 yJ0_isLatin1_aae02, Cond.instanceMethod yJ0_isLatin1_aae02, Cond.selects RJ0 yJ0_isLatin1_aae02 yJ0_isLatin1_aae02, Cond.code yJ0_isLatin1_aae02 cJ0_isLatin1_aae02 1 (some .boolean), Cond.methodLink RJ0 495 yJ1_charAt_3b067, Cond.static yJ1_charAt_3b067]
def wsL_law0_r10 : List Cond := [Cond.initialized RJ1, Cond.code yJ1_charAt_3b067 cJ1_charAt_3b067 2 (some .char), Cond.methodLink RJ1 9 yJ0_checkIndex_df160, Cond.static yJ0_checkIndex_df160, Cond.code yJ0_checkIndex_df160 cJ0_checkIndex_df160 2 none, Cond.fieldLink RJ0 1053 "jdk/internal/util/Preconditions" "SIOOBE_FORMATTER" "Ljava/util/function/BiFunction;", Cond.methodLink RJ0 1059 yJ3_checkIndex_8e157, Cond.static yJ3_checkIndex_8e157, Cond.initialized RJ3, Cond.code yJ3_checkIndex_8e157 cJ3_checkIndex_8e157 3 (some .int), Cond.methodLink RJ0 498 yJ2_charAt_3b067, Cond.static yJ2_charAt_3b067, Cond.initialized RJ2, Cond.code yJ2_charAt_3b067 cJ2_charAt_3b067 2 (some .char), Cond.methodLink RJ2 67 yJ2_checkIndex_2214a, Cond.static yJ2_checkIndex_2214a, Cond.code yJ2_checkIndex_2214a cJ2_checkIndex_2214a 2 none, Cond.methodLink RJ2 48 yJ2_length_9d52b, Cond.static yJ2_length_9d52b, Cond.code yJ2_length_9d52b cJ2_length_9d52b 1 (some .int), Cond.methodLink RJ2 414 yJ0_checkIndex_df160, Cond.methodLink RJ2 71 yJ2_getChar_3b067, Cond.static yJ2_getChar_3b067, Cond.code yJ2_getChar_3b067 cJ2_getChar_3b067 2 (some .char)]
def wsL_law0_r11 : List Cond := [Cond.fieldLink RJ2 44 "java/lang/StringUTF16" "$assertionsDisabled" "Z", Cond.fieldLink RJ2 59 "java/lang/StringUTF16" "HI_BYTE_SHIFT" "I", Cond.fieldLink RJ2 63 "java/lang/StringUTF16" "LO_BYTE_SHIFT" "I", Cond.instanceMethod yX3_addTeam, Cond.selects RX3 yX3_addTeam yX3_addTeam, Cond.code yX3_addTeam cX3_addTeam 1 (some .int), Cond.methodLink RX7 25 yX7_tellRider, Cond.static yX7_tellRider, Cond.code yX7_tellRider cX7_tellRider 4 (some .boolean), Cond.instanceMethod yX6_takeInt, Cond.selects RX6 yX6_takeInt yX6_takeInt, Cond.code yX6_takeInt cX6_takeInt 5 (some .int), Cond.methodLink RX6 43 yX6_cannotStand, Cond.instanceMethod yX6_cannotStand, Cond.selects RX6 yX6_cannotStand yX6_cannotStand, Cond.code yX6_cannotStand cX6_cannotStand 1 (some .int), Cond.instanceMethod yX3_addRider, Cond.selects RX3 yX3_addRider yX3_addRider, Cond.code yX3_addRider cX3_addRider 3 (some .int), Cond.methodLink RX3 63 yX3_latestFinishers, Cond.instanceMethod yX3_latestFinishers, Cond.selects RX3 yX3_latestFinishers yX3_latestFinishers, Cond.code yX3_latestFinishers cX3_latestFinishers 1 (some .int), Cond.methodLink RX7 33 yX7_tellStage]
def wsL_law0_r12 : List Cond := [Cond.static yX7_tellStage, Cond.code yX7_tellStage cX7_tellStage 9 (some .boolean), Cond.methodLink RX7 100 yX7_takeKind, Cond.static yX7_takeKind, Cond.code yX7_takeKind cX7_takeKind 1 (some .int), Cond.instanceMethod yX3_openStage, Cond.selects RX3 yX3_openStage yX3_openStage, Cond.code yX3_openStage cX3_openStage 3 (some .int), Cond.methodLink RX3 67 yX3_countIn, Cond.instanceMethod yX3_countIn, Cond.selects RX3 yX3_countIn yX3_countIn, Cond.code yX3_countIn cX3_countIn 3 (some .int), Cond.instanceMethod yX4_begin, Cond.selects RX4 yX4_begin yX4_begin, Cond.code yX4_begin cX4_begin 4 none, Cond.instanceMethod yX1_begin, Cond.selects RX1 yX1_begin yX1_begin, Cond.code yX1_begin cX1_begin 3 none, Cond.methodLink RX4 64 yX4_forget, Cond.instanceMethod yX4_forget, Cond.selects RX4 yX4_forget yX4_forget, Cond.code yX4_forget cX4_forget 2 none, Cond.instanceMethod yX1_forget, Cond.selects RX1 yX1_forget yX1_forget]
def wsL_law0_r13 : List Cond := [Cond.code yX1_forget cX1_forget 6 none, Cond.methodLink RX7 109 yX7_takeHow, Cond.static yX7_takeHow, Cond.code yX7_takeHow cX7_takeHow 1 (some .int), Cond.instanceMethod yX3_addMark, Cond.selects RX3 yX3_addMark yX3_addMark, Cond.code yX3_addMark cX3_addMark 3 (some .int), Cond.instanceMethod yX1_addMark, Cond.selects RX1 yX1_addMark yX1_addMark, Cond.code yX1_addMark cX1_addMark 4 (some .int), Cond.methodLink RX7 38 yX7_tellFinishes, Cond.static yX7_tellFinishes, Cond.code yX7_tellFinishes cX7_tellFinishes 6 (some .boolean), Cond.constant RX7 131 (999999), Cond.instanceMethod yX6_hasInt, Cond.selects RX6 yX6_hasInt yX6_hasInt, Cond.code yX6_hasInt cX6_hasInt 1 (some .boolean), Cond.methodLink RX7 58 yX7_takeRider, Cond.static yX7_takeRider, Cond.code yX7_takeRider cX7_takeRider 2 (some .int), Cond.instanceMethod yX3_addFinish, Cond.selects RX3 yX3_addFinish yX3_addFinish, Cond.code yX3_addFinish cX3_addFinish 3 (some .boolean), Cond.methodLink RX3 84 yX3_isIn]
def wsL_law0_r14 : List Cond := [Cond.instanceMethod yX3_isIn, Cond.selects RX3 yX3_isIn yX3_isIn, Cond.code yX3_isIn cX3_isIn 2 (some .boolean), Cond.methodLink RX3 142 yX3_hasRider, Cond.instanceMethod yX3_hasRider, Cond.selects RX3 yX3_hasRider yX3_hasRider, Cond.code yX3_hasRider cX3_hasRider 2 (some .boolean), Cond.instanceMethod yX4_addFinish, Cond.selects RX4 yX4_addFinish yX4_addFinish, Cond.code yX4_addFinish cX4_addFinish 3 (some .boolean), Cond.constant RX4 104 (999999), Cond.methodLink RX7 43 yX7_tellCrossings, Cond.static yX7_tellCrossings, Cond.code yX7_tellCrossings cX7_tellCrossings 5 (some .boolean), Cond.instanceMethod yX3_latestMarks, Cond.selects RX3 yX3_latestMarks yX3_latestMarks, Cond.code yX3_latestMarks cX3_latestMarks 1 (some .int), Cond.instanceMethod yX3_addCrossing, Cond.selects RX3 yX3_addCrossing yX3_addCrossing, Cond.code yX3_addCrossing cX3_addCrossing 3 (some .int), Cond.instanceMethod yX1_addCrossing, Cond.selects RX1 yX1_addCrossing yX1_addCrossing, Cond.code yX1_addCrossing cX1_addCrossing 3 (some .int), Cond.methodLink RX1 44 yX1_hasCrossed]
def wsL_law0_r15 : List Cond := [Cond.instanceMethod yX1_hasCrossed, Cond.selects RX1 yX1_hasCrossed yX1_hasCrossed, Cond.code yX1_hasCrossed cX1_hasCrossed 4 (some .boolean), Cond.methodLink RX7 48 yX7_tellFall, Cond.static yX7_tellFall, Cond.code yX7_tellFall cX7_tellFall 5 (some .boolean), Cond.instanceMethod yX3_latestLength, Cond.selects RX3 yX3_latestLength yX3_latestLength, Cond.code yX3_latestLength cX3_latestLength 1 (some .int), Cond.instanceMethod yX3_addFall, Cond.selects RX3 yX3_addFall yX3_addFall, Cond.code yX3_addFall cX3_addFall 4 (some .boolean), Cond.instanceMethod yX4_addFall, Cond.selects RX4 yX4_addFall yX4_addFall, Cond.code yX4_addFall cX4_addFall 4 (some .boolean), Cond.methodLink RX7 53 yX7_tellJury, Cond.static yX7_tellJury, Cond.code yX7_tellJury cX7_tellJury 4 (some .boolean), Cond.instanceMethod yX3_addJury, Cond.selects RX3 yX3_addJury yX3_addJury, Cond.code yX3_addJury cX3_addJury 3 (some .int), Cond.instanceMethod yX4_addJury, Cond.selects RX4 yX4_addJury yX4_addJury, Cond.code yX4_addJury cX4_addJury 3 (some .int)]
def wsL_law0_r16 : List Cond := [Cond.constant RX4 112 (99999), Cond.instanceMethod yX3_addGrace, Cond.selects RX3 yX3_addGrace yX3_addGrace, Cond.code yX3_addGrace cX3_addGrace 2 (some .boolean), Cond.instanceMethod yX4_addGrace, Cond.selects RX4 yX4_addGrace yX4_addGrace, Cond.code yX4_addGrace cX4_addGrace 2 (some .boolean), Cond.instanceMethod yX3_dropRider, Cond.selects RX3 yX3_dropRider yX3_dropRider, Cond.code yX3_dropRider cX3_dropRider 2 (some .boolean), Cond.instanceMethod yX3_setGap, Cond.selects RX3 yX3_setGap yX3_setGap, Cond.code yX3_setGap cX3_setGap 2 (some .boolean), Cond.instanceMethod yX3_setZone, Cond.selects RX3 yX3_setZone yX3_setZone, Cond.code yX3_setZone cX3_setZone 2 (some .boolean), Cond.instanceMethod yX3_closeStage, Cond.selects RX3 yX3_closeStage yX3_closeStage, Cond.code yX3_closeStage cX3_closeStage 2 (some .int), Cond.instanceMethod yX4_rank, Cond.selects RX4 yX4_rank yX4_rank, Cond.code yX4_rank cX4_rank 4 none, Cond.instanceMethod yX4_split, Cond.selects RX4 yX4_split yX4_split]
def wsL_law0_r17 : List Cond := [Cond.code yX4_split cX4_split 5 none, Cond.methodLink RX4 121 yX4_beginsBunch, Cond.instanceMethod yX4_beginsBunch, Cond.selects RX4 yX4_beginsBunch yX4_beginsBunch, Cond.code yX4_beginsBunch cX4_beginsBunch 3 (some .boolean), Cond.methodLink RX4 117 yX4_space, Cond.instanceMethod yX4_space, Cond.selects RX4 yX4_space yX4_space, Cond.code yX4_space cX4_space 2 (some .int), Cond.instanceMethod yX4_takeTimes, Cond.selects RX4 yX4_takeTimes yX4_takeTimes, Cond.code yX4_takeTimes cX4_takeTimes 4 none, Cond.constant RX4 125 (1000000), Cond.methodLink RX4 130 Lib.Math.min.name, Cond.static Lib.Math.min.name, Cond.initialized "java/lang/Math", Cond.code Lib.Math.min.name Lib.Math.min.code 2 (some .int), Cond.methodLink RX4 126 yX4_leastRaw, Cond.instanceMethod yX4_leastRaw, Cond.selects RX4 yX4_leastRaw yX4_leastRaw, Cond.code yX4_leastRaw cX4_leastRaw 6 (some .int), Cond.methodLink RX4 135 yX4_fallCounts, Cond.instanceMethod yX4_fallCounts, Cond.selects RX4 yX4_fallCounts yX4_fallCounts]
def wsL_law0_r18 : List Cond := [Cond.code yX4_fallCounts cX4_fallCounts 4 (some .boolean), Cond.methodLink RX4 138 yX4_hasFinish, Cond.instanceMethod yX4_hasFinish, Cond.selects RX4 yX4_hasFinish yX4_hasFinish, Cond.code yX4_hasFinish cX4_hasFinish 2 (some .boolean), Cond.instanceMethod yX4_judge, Cond.selects RX4 yX4_judge yX4_judge, Cond.code yX4_judge cX4_judge 3 none, Cond.methodLink RX4 142 Lib.Math.max.name, Cond.static Lib.Math.max.name, Cond.code Lib.Math.max.name Lib.Math.max.code 2 (some .int), Cond.fieldLink RX4 145 "BunchTimes$Stage" "LIMIT_HUNDREDTHS" "[I", Cond.instanceMethod yX2_awardOrder, Cond.selects RX2 yX2_awardOrder yX2_awardOrder, Cond.code yX2_awardOrder cX2_awardOrder 5 none, Cond.fieldLink RX2 45 "BunchTimes$Prizes" "ORDER_BONUS" "[I", Cond.fieldLink RX2 52 "BunchTimes$Prizes" "ORDER_POINTS" "[I", Cond.instanceMethod yX2_awardMarks, Cond.selects RX2 yX2_awardMarks yX2_awardMarks, Cond.code yX2_awardMarks cX2_awardMarks 7 none, Cond.methodLink RX2 70 yX2_awardOver, Cond.instanceMethod yX2_awardOver, Cond.selects RX2 yX2_awardOver yX2_awardOver, Cond.code yX2_awardOver cX2_awardOver 5 none]
def wsL_law0_r19 : List Cond := [Cond.fieldLink RX2 74 "BunchTimes$Prizes" "CLIMB_DOTS" "[I", Cond.fieldLink RX2 77 "BunchTimes$Prizes" "SPRINT_BONUS" "[I", Cond.fieldLink RX2 80 "BunchTimes$Prizes" "SPRINT_POINTS" "[I", Cond.methodLink RX3 135 yX3_sendOut, Cond.instanceMethod yX3_sendOut, Cond.selects RX3 yX3_sendOut yX3_sendOut, Cond.code yX3_sendOut cX3_sendOut 4 (some .int), Cond.instanceMethod yX4_sendsOut, Cond.selects RX4 yX4_sendsOut yX4_sendsOut, Cond.code yX4_sendsOut cX4_sendsOut 2 (some .boolean), Cond.instanceMethod yX6_endStatement, Cond.selects RX6 yX6_endStatement yX6_endStatement, Cond.code yX6_endStatement cX6_endStatement 3 none, Cond.methodLink RL 33 yX9_tell, Cond.instanceMethod yX9_tell, Cond.selects RX9 yX9_tell yX9_tell, Cond.code yX9_tell cX9_tell 3 (some .int), Cond.fieldLink RX9 258 "BunchTimesModel" "length" "I", Cond.fieldLink RX9 255 "BunchTimesModel" "place" "I", Cond.fieldLink RX9 261 "BunchTimesModel" "fault" "I", Cond.methodLink RX9 264 yX9_here, Cond.instanceMethod yX9_here, Cond.selects RX9 yX9_here yX9_here, Cond.code yX9_here cX9_here 1 (some .int)]
def wsL_law0_r20 : List Cond := [Cond.methodLink RX9 371 yX9_statement, Cond.instanceMethod yX9_statement, Cond.selects RX9 yX9_statement yX9_statement, Cond.code yX9_statement cX9_statement 4 none, Cond.fieldLink RX9 277 "BunchTimesModel" "toldMany" "I", Cond.fieldLink RX9 270 "BunchTimesModel" "from" "I", Cond.constantLong RX9 321 (397345), Cond.constantLong RX9 323 (9746154), Cond.constantLong RX9 328 (10491962), Cond.constantLong RX9 333 (70340), Cond.constantLong RX9 338 (311436), Cond.constantLong RX9 343 (119163), Cond.constantLong RX9 348 (212650), Cond.constantLong RX9 353 (4075196), Cond.constantLong RX9 359 (350183), Cond.constantLong RX9 361 (5146), Cond.constantLong RX9 367 (523076), Cond.constantLong RX9 369 (1841972), Cond.methodLink RX9 284 yX9_word, Cond.instanceMethod yX9_word, Cond.selects RX9 yX9_word yX9_word, Cond.code yX9_word cX9_word 3 (some .long), Cond.constantLong RX9 280 (27), Cond.constantLong RX9 282 (96)]
def wsL_law0_r21 : List Cond := [Cond.methodLink RX9 309 yX9_ends, Cond.instanceMethod yX9_ends, Cond.selects RX9 yX9_ends yX9_ends, Cond.code yX9_ends cX9_ends 1 (some .boolean), Cond.methodLink RX9 273 yX9_fails, Cond.instanceMethod yX9_fails, Cond.selects RX9 yX9_fails yX9_fails, Cond.code yX9_fails cX9_fails 3 none, Cond.methodLink RX9 62 yX9_teams, Cond.instanceMethod yX9_teams, Cond.selects RX9 yX9_teams yX9_teams, Cond.code yX9_teams cX9_teams 1 (some .int), Cond.methodLink RX9 312 yX9_can, Cond.instanceMethod yX9_can, Cond.selects RX9 yX9_can yX9_can, Cond.code yX9_can cX9_can 3 none, Cond.methodLink RX9 325 yX9_riderTold, Cond.instanceMethod yX9_riderTold, Cond.selects RX9 yX9_riderTold yX9_riderTold, Cond.code yX9_riderTold cX9_riderTold 2 none, Cond.methodLink RX9 296 yX9_number, Cond.instanceMethod yX9_number, Cond.selects RX9 yX9_number yX9_number, Cond.code yX9_number cX9_number 5 none]
def wsL_law0_r22 : List Cond := [Cond.methodLink RX9 267 yX9_isDigit, Cond.instanceMethod yX9_isDigit, Cond.selects RX9 yX9_isDigit yX9_isDigit, Cond.code yX9_isDigit cX9_isDigit 1 (some .boolean), Cond.methodLink RX9 66 yX9_comes, Cond.instanceMethod yX9_comes, Cond.selects RX9 yX9_comes yX9_comes, Cond.code yX9_comes cX9_comes 4 (some .int), Cond.methodLink RX9 70 yX9_isOpen, Cond.instanceMethod yX9_isOpen, Cond.selects RX9 yX9_isOpen yX9_isOpen, Cond.code yX9_isOpen cX9_isOpen 1 (some .boolean), Cond.methodLink RX9 74 yX9_latest, Cond.instanceMethod yX9_latest, Cond.selects RX9 yX9_latest yX9_latest, Cond.code yX9_latest cX9_latest 1 (some .int), Cond.methodLink RX9 77 yX9_finishes, Cond.instanceMethod yX9_finishes, Cond.selects RX9 yX9_finishes yX9_finishes, Cond.code yX9_finishes cX9_finishes 4 (some .int), Cond.methodLink RX9 55 yX9_hasFinish, Cond.instanceMethod yX9_hasFinish, Cond.selects RX9 yX9_hasFinish yX9_hasFinish, Cond.code yX9_hasFinish cX9_hasFinish 3 (some .boolean)]
def wsL_law0_r23 : List Cond := [Cond.methodLink RX9 51 yX9_at_, Cond.static yX9_at_, Cond.code yX9_at_ cX9_at_ 3 (some .int), Cond.methodLink RX9 330 yX9_stageTold, Cond.instanceMethod yX9_stageTold, Cond.selects RX9 yX9_stageTold yX9_stageTold, Cond.code yX9_stageTold cX9_stageTold 8 none, Cond.constantLong RX9 288 (126893), Cond.constantLong RX9 290 (4437766), Cond.constantLong RX9 292 (8602516), Cond.constantLong RX9 294 (10989714), Cond.constantLong RX9 299 (47), Cond.constantLong RX9 305 (1837433), Cond.constantLong RX9 307 (281493542), Cond.methodLink RX9 301 yX9_isWord, Cond.instanceMethod yX9_isWord, Cond.selects RX9 yX9_isWord yX9_isWord, Cond.code yX9_isWord cX9_isWord 5 (some .boolean), Cond.methodLink RX9 81 yX9_stages, Cond.instanceMethod yX9_stages, Cond.selects RX9 yX9_stages yX9_stages, Cond.code yX9_stages cX9_stages 5 (some .int), Cond.methodLink RX9 84 yX9_there, Cond.instanceMethod yX9_there]
def wsL_law0_r24 : List Cond := [Cond.selects RX9 yX9_there yX9_there, Cond.code yX9_there cX9_there 3 (some .int), Cond.methodLink RX9 59 yX9_isThere, Cond.instanceMethod yX9_isThere, Cond.selects RX9 yX9_isThere yX9_isThere, Cond.code yX9_isThere cX9_isThere 2 (some .boolean), Cond.methodLink RX9 47 yX9_isRider, Cond.instanceMethod yX9_isRider, Cond.selects RX9 yX9_isRider yX9_isRider, Cond.code yX9_isRider cX9_isRider 2 (some .boolean), Cond.methodLink RX9 87 yX9_at, Cond.static yX9_at, Cond.code yX9_at cX9_at 2 (some .int), Cond.methodLink RX9 89 yX9_marks, Cond.instanceMethod yX9_marks, Cond.selects RX9 yX9_marks yX9_marks, Cond.code yX9_marks cX9_marks 5 (some .int), Cond.methodLink RX9 92 yX9_mark, Cond.static yX9_mark, Cond.code yX9_mark cX9_mark 3 (some .int), Cond.methodLink RX9 335 yX9_comeTold, Cond.instanceMethod yX9_comeTold, Cond.selects RX9 yX9_comeTold yX9_comeTold, Cond.code yX9_comeTold cX9_comeTold 3 none]
def wsL_law0_r25 : List Cond := [Cond.constant RX9 97 (999999), Cond.methodLink RX9 316 yX9_lastRider, Cond.instanceMethod yX9_lastRider, Cond.selects RX9 yX9_lastRider yX9_lastRider, Cond.code yX9_lastRider cX9_lastRider 1 (some .int), Cond.methodLink RX9 95 yX9_finishes_, Cond.instanceMethod yX9_finishes_, Cond.selects RX9 yX9_finishes_ yX9_finishes_, Cond.code yX9_finishes_ cX9_finishes_ 3 (some .boolean), Cond.methodLink RX9 340 yX9_overTold, Cond.instanceMethod yX9_overTold, Cond.selects RX9 yX9_overTold yX9_overTold, Cond.code yX9_overTold cX9_overTold 3 none, Cond.methodLink RX9 98 yX9_overs, Cond.instanceMethod yX9_overs, Cond.selects RX9 yX9_overs yX9_overs, Cond.code yX9_overs cX9_overs 6 (some .int), Cond.methodLink RX9 345 yX9_fallTold, Cond.instanceMethod yX9_fallTold, Cond.selects RX9 yX9_fallTold yX9_fallTold, Cond.code yX9_fallTold cX9_fallTold 5 none, Cond.constantLong RX9 319 (459818), Cond.methodLink RX9 101 yX9_falls, Cond.instanceMethod yX9_falls]
def wsL_law0_r26 : List Cond := [Cond.selects RX9 yX9_falls yX9_falls, Cond.code yX9_falls cX9_falls 5 (some .boolean), Cond.methodLink RX9 350 yX9_juryTold, Cond.instanceMethod yX9_juryTold, Cond.selects RX9 yX9_juryTold yX9_juryTold, Cond.code yX9_juryTold cX9_juryTold 2 none, Cond.methodLink RX9 104 yX9_juries, Cond.instanceMethod yX9_juries, Cond.selects RX9 yX9_juries yX9_juries, Cond.code yX9_juries cX9_juries 4 (some .int), Cond.constant RX9 107 (99999), Cond.methodLink RX9 355 yX9_oneTold, Cond.instanceMethod yX9_oneTold, Cond.selects RX9 yX9_oneTold yX9_oneTold, Cond.code yX9_oneTold cX9_oneTold 3 none, Cond.methodLink RX9 108 yX9_graces, Cond.instanceMethod yX9_graces, Cond.selects RX9 yX9_graces yX9_graces, Cond.code yX9_graces cX9_graces 2 (some .boolean), Cond.methodLink RX9 111 yX9_quits, Cond.instanceMethod yX9_quits, Cond.selects RX9 yX9_quits yX9_quits, Cond.code yX9_quits cX9_quits 7 (some .boolean), Cond.methodLink RX9 363 yX9_ruleTold]
def wsL_law0_r27 : List Cond := [Cond.instanceMethod yX9_ruleTold, Cond.selects RX9 yX9_ruleTold yX9_ruleTold, Cond.code yX9_ruleTold cX9_ruleTold 4 none, Cond.methodLink RX9 157 yX9_closes, Cond.instanceMethod yX9_closes, Cond.selects RX9 yX9_closes yX9_closes, Cond.code yX9_closes cX9_closes 6 (some .int), Cond.fieldLink RX9 114 "BunchTimesModel" "orderMany" "I", Cond.methodLink RX9 160 yX9_laysOrder, Cond.instanceMethod yX9_laysOrder, Cond.selects RX9 yX9_laysOrder yX9_laysOrder, Cond.code yX9_laysOrder cX9_laysOrder 4 none, Cond.methodLink RX9 164 yX9_laysRaw, Cond.instanceMethod yX9_laysRaw, Cond.selects RX9 yX9_laysRaw yX9_laysRaw, Cond.code yX9_laysRaw cX9_laysRaw 6 none, Cond.methodLink RX9 117 yX9_space, Cond.instanceMethod yX9_space, Cond.selects RX9 yX9_space yX9_space, Cond.code yX9_space cX9_space 3 (some .int), Cond.methodLink RX9 167 yX9_timeOf, Cond.instanceMethod yX9_timeOf, Cond.selects RX9 yX9_timeOf yX9_timeOf, Cond.code yX9_timeOf cX9_timeOf 7 (some .int)]
def wsL_law0_r28 : List Cond := [Cond.methodLink RX9 120 yX9_doesCount, Cond.instanceMethod yX9_doesCount, Cond.selects RX9 yX9_doesCount yX9_doesCount, Cond.code yX9_doesCount cX9_doesCount 3 (some .boolean), Cond.methodLink RX9 170 yX9_laysLimit, Cond.instanceMethod yX9_laysLimit, Cond.selects RX9 yX9_laysLimit yX9_laysLimit, Cond.code yX9_laysLimit cX9_laysLimit 6 none, Cond.methodLink RX9 123 yX9_hundredths, Cond.static yX9_hundredths, Cond.code yX9_hundredths cX9_hundredths 1 (some .int), Cond.methodLink RX9 173 yX9_laysPrizes, Cond.instanceMethod yX9_laysPrizes, Cond.selects RX9 yX9_laysPrizes yX9_laysPrizes, Cond.code yX9_laysPrizes cX9_laysPrizes 7 none, Cond.fieldLink RX9 151 "BunchTimesModel" "FOR_SPRINT" "[I", Cond.methodLink RX9 144 yX9_adds, Cond.instanceMethod yX9_adds, Cond.selects RX9 yX9_adds yX9_adds, Cond.code yX9_adds cX9_adds 5 none, Cond.methodLink RX9 141 yX9_isLate, Cond.instanceMethod yX9_isLate, Cond.selects RX9 yX9_isLate yX9_isLate, Cond.code yX9_isLate cX9_isLate 3 (some .boolean)]
def wsL_law0_r29 : List Cond := [Cond.methodLink RX9 148 yX9_pointsFor, Cond.instanceMethod yX9_pointsFor, Cond.selects RX9 yX9_pointsFor yX9_pointsFor, Cond.code yX9_pointsFor cX9_pointsFor 3 (some .int), Cond.fieldLink RX9 126 "BunchTimesModel" "FOR_FLAT" "[I", Cond.fieldLink RX9 129 "BunchTimesModel" "FOR_HILLS" "[I", Cond.fieldLink RX9 132 "BunchTimesModel" "FOR_OTHERS" "[I", Cond.methodLink RX9 154 yX9_dotsFor, Cond.static yX9_dotsFor, Cond.code yX9_dotsFor cX9_dotsFor 2 (some .int), Cond.fieldLink RX9 135 "BunchTimesModel" "FIRST" "[I", Cond.fieldLink RX9 138 "BunchTimesModel" "SECOND" "[I", Cond.methodLink RL 34 yX8_fault, Cond.instanceMethod yX8_fault, Cond.selects RX8 yX8_fault yX8_fault, Cond.code yX8_fault cX8_fault 1 (some .int), Cond.methodLink RL 37 yX9_fault, Cond.instanceMethod yX9_fault, Cond.selects RX9 yX9_fault yX9_fault, Cond.code yX9_fault cX9_fault 1 (some .int), Cond.methodLink RL 38 yX8_team, Cond.instanceMethod yX8_team, Cond.selects RX8 yX8_team yX8_team, Cond.code yX8_team cX8_team 1 (some .int)]
def wsL_law0_r30 : List Cond := [Cond.methodLink RL 41 yX9_team, Cond.instanceMethod yX9_team, Cond.selects RX9 yX9_team yX9_team, Cond.code yX9_team cX9_team 1 (some .int), Cond.methodLink RL 42 yX8_rider, Cond.instanceMethod yX8_rider, Cond.selects RX8 yX8_rider yX8_rider, Cond.code yX8_rider cX8_rider 3 (some .int), Cond.methodLink RL 45 yX9_rider, Cond.instanceMethod yX9_rider, Cond.selects RX9 yX9_rider yX9_rider, Cond.code yX9_rider cX9_rider 3 (some .int), Cond.methodLink RL 46 yX8_stage, Cond.instanceMethod yX8_stage, Cond.selects RX8 yX8_stage yX8_stage, Cond.code yX8_stage cX8_stage 3 (some .int), Cond.methodLink RL 49 yX9_stage, Cond.instanceMethod yX9_stage, Cond.selects RX9 yX9_stage yX9_stage, Cond.code yX9_stage cX9_stage 3 (some .int), Cond.methodLink RL 50 yX8_mark, Cond.instanceMethod yX8_mark, Cond.selects RX8 yX8_mark yX8_mark, Cond.code yX8_mark cX8_mark 3 (some .int)]
def wsL_law0_r31 : List Cond := [Cond.methodLink RL 53 yX9_mark_, Cond.instanceMethod yX9_mark_, Cond.selects RX9 yX9_mark_ yX9_mark_, Cond.code yX9_mark_ cX9_mark_ 3 (some .int), Cond.methodLink RL 54 yX8_finish, Cond.instanceMethod yX8_finish, Cond.selects RX8 yX8_finish yX8_finish, Cond.code yX8_finish cX8_finish 3 (some .boolean), Cond.methodLink RL 58 yX9_finish, Cond.instanceMethod yX9_finish, Cond.selects RX9 yX9_finish yX9_finish, Cond.code yX9_finish cX9_finish 3 (some .boolean), Cond.methodLink RL 59 yX8_over, Cond.instanceMethod yX8_over, Cond.selects RX8 yX8_over yX8_over, Cond.code yX8_over cX8_over 3 (some .int), Cond.methodLink RL 62 yX9_over, Cond.instanceMethod yX9_over, Cond.selects RX9 yX9_over yX9_over, Cond.code yX9_over cX9_over 3 (some .int), Cond.methodLink RL 63 yX8_fall, Cond.instanceMethod yX8_fall, Cond.selects RX8 yX8_fall yX8_fall, Cond.code yX8_fall cX8_fall 4 (some .boolean)]
def wsL_law0_r32 : List Cond := [Cond.methodLink RL 67 yX9_fall, Cond.instanceMethod yX9_fall, Cond.selects RX9 yX9_fall yX9_fall, Cond.code yX9_fall cX9_fall 4 (some .boolean), Cond.methodLink RL 68 yX8_jury, Cond.instanceMethod yX8_jury, Cond.selects RX8 yX8_jury yX8_jury, Cond.code yX8_jury cX8_jury 3 (some .int), Cond.methodLink RL 71 yX9_jury, Cond.instanceMethod yX9_jury, Cond.selects RX9 yX9_jury yX9_jury, Cond.code yX9_jury cX9_jury 3 (some .int), Cond.methodLink RL 72 yX8_grace, Cond.instanceMethod yX8_grace, Cond.selects RX8 yX8_grace yX8_grace, Cond.code yX8_grace cX8_grace 2 (some .boolean), Cond.methodLink RL 75 yX9_grace, Cond.instanceMethod yX9_grace, Cond.selects RX9 yX9_grace yX9_grace, Cond.code yX9_grace cX9_grace 2 (some .boolean), Cond.methodLink RL 76 yX8_quit, Cond.instanceMethod yX8_quit, Cond.selects RX8 yX8_quit yX8_quit, Cond.code yX8_quit cX8_quit 2 (some .boolean)]
def wsL_law0_r33 : List Cond := [Cond.methodLink RL 79 yX9_quit, Cond.instanceMethod yX9_quit, Cond.selects RX9 yX9_quit yX9_quit, Cond.code yX9_quit cX9_quit 2 (some .boolean), Cond.methodLink RL 80 yX8_rule, Cond.instanceMethod yX8_rule, Cond.selects RX8 yX8_rule yX8_rule, Cond.code yX8_rule cX8_rule 3 (some .boolean), Cond.methodLink RL 83 yX9_rule, Cond.instanceMethod yX9_rule, Cond.selects RX9 yX9_rule yX9_rule, Cond.code yX9_rule cX9_rule 3 (some .boolean), Cond.methodLink RL 84 yX8_close, Cond.instanceMethod yX8_close, Cond.selects RX8 yX8_close yX8_close, Cond.code yX8_close cX8_close 1 (some .int), Cond.methodLink RL 87 yX9_close, Cond.instanceMethod yX9_close, Cond.selects RX9 yX9_close yX9_close, Cond.code yX9_close cX9_close 1 (some .int), Cond.methodLink RL 88 yX8_keep, Cond.instanceMethod yX8_keep, Cond.selects RX8 yX8_keep yX8_keep, Cond.code yX8_keep cX8_keep 2 (some .boolean)]
def wsL_law0_r34 : List Cond := [Cond.methodLink RL 91 yX9_keep, Cond.instanceMethod yX9_keep, Cond.selects RX9 yX9_keep yX9_keep, Cond.code yX9_keep cX9_keep 3 (some .boolean), Cond.methodLink RL 92 yX8_back, Cond.instanceMethod yX8_back, Cond.selects RX8 yX8_back yX8_back, Cond.code yX8_back cX8_back 2 (some .boolean), Cond.methodLink RL 95 yX9_back, Cond.instanceMethod yX9_back, Cond.selects RX9 yX9_back yX9_back, Cond.code yX9_back cX9_back 3 (some .boolean), Cond.methodLink RL 96 yX8_count, Cond.instanceMethod yX8_count, Cond.selects RX8 yX8_count yX8_count, Cond.code yX8_count cX8_count 2 (some .int), Cond.instanceMethod yX3_closed, Cond.selects RX3 yX3_closed yX3_closed, Cond.code yX3_closed cX3_closed 1 (some .int), Cond.methodLink RL 100 yX9_count, Cond.instanceMethod yX9_count, Cond.selects RX9 yX9_count yX9_count, Cond.code yX9_count cX9_count 2 (some .int), Cond.methodLink RX9 176 yX9_closedMany]
def wsL_law0_r35 : List Cond := [Cond.instanceMethod yX9_closedMany, Cond.selects RX9 yX9_closedMany yX9_closedMany, Cond.code yX9_closedMany cX9_closedMany 1 (some .int), Cond.methodLink RL 101 yL_of, Cond.static yL_of, Cond.initialized RL, Cond.codeWith yL_of cL_of 5 (some .int) [(0, 10, 13, 13)], Cond.classLink RL 13 "java/util/NoSuchElementException", Cond.methodLink RL 7 yX8_of, Cond.instanceMethod yX8_of, Cond.selects RX8 yX8_of yX8_of, Cond.code yX8_of cX8_of 3 (some .int), Cond.classLink RX8 149 "java/util/NoSuchElementException", Cond.initialized "java/util/NoSuchElementException", Cond.instanceMethod yX3_gained, Cond.selects RX3 yX3_gained yX3_gained, Cond.code yX3_gained cX3_gained 5 (some .int), Cond.methodLink RX3 145 yX3_closed, Cond.instanceMethod yX4_gainedBy, Cond.selects RX4 yX4_gainedBy yX4_gainedBy, Cond.code yX4_gainedBy cX4_gainedBy 3 (some .int), Cond.methodLink RL 106 yX9_of, Cond.instanceMethod yX9_of, Cond.selects RX9 yX9_of yX9_of]
def wsL_law0_r36 : List Cond := [Cond.code yX9_of cX9_of 3 (some .int), Cond.methodLink RX9 182 yX9_allOf, Cond.instanceMethod yX9_allOf, Cond.selects RX9 yX9_allOf yX9_allOf, Cond.code yX9_allOf cX9_allOf 5 (some .int), Cond.methodLink RL 107 yX9_thrown, Cond.instanceMethod yX9_thrown, Cond.selects RX9 yX9_thrown yX9_thrown, Cond.code yX9_thrown cX9_thrown 1 (some .int), Cond.methodLink RL 110 yX8_told, Cond.instanceMethod yX8_told, Cond.selects RX8 yX8_told yX8_told, Cond.code yX8_told cX8_told 4 (some .int), Cond.instanceMethod yX3_closedStage, Cond.selects RX3 yX3_closedStage yX3_closedStage, Cond.code yX3_closedStage cX3_closedStage 2 (some (.object "BunchTimes$Stage")), Cond.instanceMethod yX4_fact, Cond.selects RX4 yX4_fact yX4_fact, Cond.code yX4_fact cX4_fact 2 (some .int), Cond.methodLink RX4 148 yX4_countHelped, Cond.instanceMethod yX4_countHelped, Cond.selects RX4 yX4_countHelped yX4_countHelped, Cond.code yX4_countHelped cX4_countHelped 3 (some .int), Cond.methodLink RX4 152 yX4_sumHelped]
def wsL_law0_r37 : List Cond := [Cond.instanceMethod yX4_sumHelped, Cond.selects RX4 yX4_sumHelped yX4_sumHelped, Cond.code yX4_sumHelped cX4_sumHelped 3 (some .int), Cond.methodLink RL 113 yX9_told, Cond.instanceMethod yX9_told, Cond.selects RX9 yX9_told yX9_told, Cond.code yX9_told cX9_told 3 (some .int), Cond.methodLink RX9 185 yX9_isClosed, Cond.instanceMethod yX9_isClosed, Cond.selects RX9 yX9_isClosed yX9_isClosed, Cond.code yX9_isClosed cX9_isClosed 2 (some .boolean), Cond.methodLink RX9 188 yX9_lesser, Cond.instanceMethod yX9_lesser, Cond.selects RX9 yX9_lesser yX9_lesser, Cond.code yX9_lesser cX9_lesser 6 (some .int), Cond.methodLink RL 114 yX8_order, Cond.instanceMethod yX8_order, Cond.selects RX8 yX8_order yX8_order, Cond.code yX8_order cX8_order 4 (some .int), Cond.methodLink RL 117 yX9_order, Cond.instanceMethod yX9_order, Cond.selects RX9 yX9_order yX9_order, Cond.code yX9_order cX9_order 3 (some .int), Cond.methodLink RL 118 yX8_result]
def wsL_law0_r38 : List Cond := [Cond.instanceMethod yX8_result, Cond.selects RX8 yX8_result yX8_result, Cond.code yX8_result cX8_result 5 (some .int), Cond.instanceMethod yX4_resultOf, Cond.selects RX4 yX4_resultOf yX4_resultOf, Cond.code yX4_resultOf cX4_resultOf 3 (some .int), Cond.methodLink RL 122 yX9_result, Cond.instanceMethod yX9_result, Cond.selects RX9 yX9_result yX9_result, Cond.code yX9_result cX9_result 4 (some .int), Cond.methodLink RL 123 yX8_parted, Cond.instanceMethod yX8_parted, Cond.selects RX8 yX8_parted yX8_parted, Cond.code yX8_parted cX8_parted 4 (some .int), Cond.instanceMethod yX4_countBunches, Cond.selects RX4 yX4_countBunches yX4_countBunches, Cond.code yX4_countBunches cX4_countBunches 4 (some .int), Cond.methodLink RL 126 yX9_parted, Cond.instanceMethod yX9_parted, Cond.selects RX9 yX9_parted yX9_parted, Cond.code yX9_parted cX9_parted 3 (some .int), Cond.methodLink RX9 192 yX9_bunches, Cond.instanceMethod yX9_bunches, Cond.selects RX9 yX9_bunches yX9_bunches]
def wsL_law0_r39 : List Cond := [Cond.code yX9_bunches cX9_bunches 5 (some .int), Cond.methodLink RL 127 yX8_together, Cond.instanceMethod yX8_together, Cond.selects RX8 yX8_together yX8_together, Cond.code yX8_together cX8_together 3 (some .int), Cond.instanceMethod yX4_joiningGap, Cond.selects RX4 yX4_joiningGap yX4_joiningGap, Cond.code yX4_joiningGap cX4_joiningGap 3 (some .int), Cond.methodLink RL 130 yX9_together, Cond.instanceMethod yX9_together, Cond.selects RX9 yX9_together yX9_together, Cond.code yX9_together cX9_together 3 (some .int), Cond.methodLink RL 131 yX8_escaped, Cond.instanceMethod yX8_escaped, Cond.selects RX8 yX8_escaped yX8_escaped, Cond.code yX8_escaped cX8_escaped 3 (some .int), Cond.instanceMethod yX4_aheadOfWidest, Cond.selects RX4 yX4_aheadOfWidest yX4_aheadOfWidest, Cond.code yX4_aheadOfWidest cX4_aheadOfWidest 4 (some .int), Cond.methodLink RL 134 yX9_escaped, Cond.instanceMethod yX9_escaped, Cond.selects RX9 yX9_escaped yX9_escaped, Cond.code yX9_escaped cX9_escaped 5 (some .int), Cond.methodLink RL 135 yX8_list]
def wsL_law0_r40 : List Cond := [Cond.instanceMethod yX8_list, Cond.selects RX8 yX8_list yX8_list, Cond.code yX8_list cX8_list 3 (some .int), Cond.instanceMethod yX5_rankList, Cond.selects RX5 yX5_rankList yX5_rankList, Cond.code yX5_rankList cX5_rankList 3 none, Cond.fieldLink RX5 24 "BunchTimes$Standings" "size" "I", Cond.methodLink RX5 38 yX5_rankRiders, Cond.instanceMethod yX5_rankRiders, Cond.selects RX5 yX5_rankRiders yX5_rankRiders, Cond.code yX5_rankRiders cX5_rankRiders 5 none, Cond.instanceMethod yX3_sumOf, Cond.selects RX3 yX3_sumOf yX3_sumOf, Cond.code yX3_sumOf cX3_sumOf 5 (some .int), Cond.instanceMethod yX4_netTime, Cond.selects RX4 yX4_netTime yX4_netTime, Cond.code yX4_netTime cX4_netTime 2 (some .int), Cond.instanceMethod yX3_placesOf, Cond.selects RX3 yX3_placesOf yX3_placesOf, Cond.code yX3_placesOf cX3_placesOf 5 (some .int), Cond.instanceMethod yX4_placeOf, Cond.selects RX4 yX4_placeOf yX4_placeOf, Cond.code yX4_placeOf cX4_placeOf 2 (some .int), Cond.methodLink RX5 67 yX5_insert]
def wsL_law0_r41 : List Cond := [Cond.instanceMethod yX5_insert, Cond.selects RX5 yX5_insert yX5_insert, Cond.code yX5_insert cX5_insert 3 none, Cond.methodLink RX5 82 yX5_isLess, Cond.instanceMethod yX5_isLess, Cond.selects RX5 yX5_isLess yX5_isLess, Cond.code yX5_isLess cX5_isLess 3 (some .boolean), Cond.methodLink RX5 42 yX5_rankWorthy, Cond.instanceMethod yX5_rankWorthy, Cond.selects RX5 yX5_rankWorthy yX5_rankWorthy, Cond.code yX5_rankWorthy cX5_rankWorthy 7 none, Cond.methodLink RX5 46 yX5_rankTeams, Cond.instanceMethod yX5_rankTeams, Cond.selects RX5 yX5_rankTeams yX5_rankTeams, Cond.code yX5_rankTeams cX5_rankTeams 3 none, Cond.instanceMethod yX3_isRanked, Cond.selects RX3 yX3_isRanked yX3_isRanked, Cond.code yX3_isRanked cX3_isRanked 4 (some .boolean), Cond.instanceMethod yX3_teamSum, Cond.selects RX3 yX3_teamSum yX3_teamSum, Cond.code yX3_teamSum cX3_teamSum 4 (some .int), Cond.instanceMethod yX4_teamTime, Cond.selects RX4 yX4_teamTime yX4_teamTime, Cond.code yX4_teamTime cX4_teamTime 9 (some .int)]
def wsL_law0_r42 : List Cond := [Cond.instanceMethod yX5_entry, Cond.selects RX5 yX5_entry yX5_entry, Cond.code yX5_entry cX5_entry 2 (some .int), Cond.methodLink RL 138 yX9_list, Cond.instanceMethod yX9_list, Cond.selects RX9 yX9_list yX9_list, Cond.code yX9_list cX9_list 3 (some .int), Cond.fieldLink RX9 205 "BunchTimesModel" "rankedMany" "I", Cond.methodLink RX9 226 yX9_ranks, Cond.instanceMethod yX9_ranks, Cond.selects RX9 yX9_ranks yX9_ranks, Cond.code yX9_ranks cX9_ranks 4 none, Cond.methodLink RX9 208 yX9_ranksTeams, Cond.instanceMethod yX9_ranksTeams, Cond.selects RX9 yX9_ranksTeams yX9_ranksTeams, Cond.code yX9_ranksTeams cX9_ranksTeams 3 none, Cond.methodLink RX9 220 yX9_isTeamOn, Cond.instanceMethod yX9_isTeamOn, Cond.selects RX9 yX9_isTeamOn yX9_isTeamOn, Cond.code yX9_isTeamOn cX9_isTeamOn 4 (some .boolean), Cond.methodLink RX9 223 yX9_teamTotal, Cond.instanceMethod yX9_teamTotal, Cond.selects RX9 yX9_teamTotal yX9_teamTotal, Cond.code yX9_teamTotal cX9_teamTotal 4 (some .int)]
def wsL_law0_r43 : List Cond := [Cond.methodLink RX9 217 yX9_threeOf, Cond.instanceMethod yX9_threeOf, Cond.selects RX9 yX9_threeOf yX9_threeOf, Cond.code yX9_threeOf cX9_threeOf 7 (some .int), Cond.methodLink RX9 211 yX9_isOn, Cond.instanceMethod yX9_isOn, Cond.selects RX9 yX9_isOn yX9_isOn, Cond.code yX9_isOn cX9_isOn 3 (some .boolean), Cond.methodLink RX9 214 yX9_isBefore, Cond.instanceMethod yX9_isBefore, Cond.selects RX9 yX9_isBefore yX9_isBefore, Cond.code yX9_isBefore cX9_isBefore 5 (some .boolean), Cond.methodLink RX9 201 yX9_isAhead, Cond.instanceMethod yX9_isAhead, Cond.selects RX9 yX9_isAhead yX9_isAhead, Cond.code yX9_isAhead cX9_isAhead 9 (some .boolean), Cond.methodLink RX9 195 yX9_totalBut, Cond.instanceMethod yX9_totalBut, Cond.selects RX9 yX9_totalBut yX9_totalBut, Cond.code yX9_totalBut cX9_totalBut 5 (some .int), Cond.methodLink RX9 198 yX9_placesBut, Cond.instanceMethod yX9_placesBut, Cond.selects RX9 yX9_placesBut yX9_placesBut, Cond.code yX9_placesBut cX9_placesBut 5 (some .int)]
def wsL_law0_r44 : List Cond := [Cond.methodLink RL 139 yX8_total, Cond.instanceMethod yX8_total, Cond.selects RX8 yX8_total yX8_total, Cond.code yX8_total cX8_total 3 (some .int), Cond.constant RX8 210 (-1000000), Cond.methodLink RL 143 yX9_total, Cond.instanceMethod yX9_total, Cond.selects RX9 yX9_total yX9_total, Cond.code yX9_total cX9_total 3 (some .int), Cond.constant RX9 229 (-1000000), Cond.methodLink RL 144 yX8_jersey, Cond.instanceMethod yX8_jersey, Cond.selects RX8 yX8_jersey yX8_jersey, Cond.code yX8_jersey cX8_jersey 3 (some .int), Cond.instanceMethod yX5_wearer, Cond.selects RX5 yX5_wearer yX5_wearer, Cond.code yX5_wearer cX5_wearer 6 (some .int), Cond.methodLink RX5 89 yX5_rankList, Cond.methodLink RX5 92 yX5_firstBut, Cond.instanceMethod yX5_firstBut, Cond.selects RX5 yX5_firstBut yX5_firstBut, Cond.code yX5_firstBut cX5_firstBut 3 (some .int), Cond.methodLink RL 147 yX9_jersey, Cond.instanceMethod yX9_jersey]
def wsL_law0_r45 : List Cond := [Cond.selects RX9 yX9_jersey yX9_jersey, Cond.code yX9_jersey cX9_jersey 6 (some .int), Cond.methodLink RX9 230 yX9_firstFree, Cond.instanceMethod yX9_firstFree, Cond.selects RX9 yX9_firstFree yX9_firstFree, Cond.code yX9_firstFree cX9_firstFree 4 (some .int), Cond.methodLink RL 148 yX8_needs, Cond.instanceMethod yX8_needs, Cond.selects RX8 yX8_needs yX8_needs, Cond.code yX8_needs cX8_needs 2 (some .int), Cond.instanceMethod yX5_lacking, Cond.selects RX5 yX5_lacking yX5_lacking, Cond.code yX5_lacking cX5_lacking 5 (some .int), Cond.methodLink RX5 95 yX5_entry, Cond.methodLink RL 151 yX9_needs, Cond.instanceMethod yX9_needs, Cond.selects RX9 yX9_needs yX9_needs, Cond.code yX9_needs cX9_needs 5 (some .int), Cond.methodLink RL 152 yX8_without, Cond.instanceMethod yX8_without, Cond.selects RX8 yX8_without yX8_without, Cond.code yX8_without cX8_without 2 (some .int), Cond.methodLink RL 155 yX9_without, Cond.instanceMethod yX9_without]
def wsL_law0_r46 : List Cond := [Cond.selects RX9 yX9_without yX9_without, Cond.code yX9_without cX9_without 4 (some .int), Cond.methodLink RL 156 yX8_caught, Cond.instanceMethod yX8_caught, Cond.selects RX8 yX8_caught yX8_caught, Cond.code yX8_caught cX8_caught 5 (some .int), Cond.static yX0_canBe, Cond.initialized RX0, Cond.code yX0_canBe cX0_canBe 3 (some .boolean), Cond.static yX0_metresLeft, Cond.code yX0_metresLeft cX0_metresLeft 12 (some .int), Cond.constantLong RX0 26 (3600), Cond.constantLong RX0 28 (1000), Cond.methodLink RX0 20 yX0_pace, Cond.static yX0_pace, Cond.code yX0_pace cX0_pace 1 (some .long), Cond.constant RX0 13 (40000), Cond.methodLink RX0 14 Lib.Math.max.name, Cond.methodLink RL 160 yX9_caught, Cond.instanceMethod yX9_caught, Cond.selects RX9 yX9_caught yX9_caught, Cond.code yX9_caught cX9_caught 5 (some .int), Cond.methodLink RX9 245 yX9_areRiders, Cond.static yX9_areRiders]
def wsL_law0_r47 : List Cond := [Cond.code yX9_areRiders cX9_areRiders 1 (some .boolean), Cond.methodLink RX9 248 yX9_caughtAt, Cond.static yX9_caughtAt, Cond.code yX9_caughtAt cX9_caughtAt 12 (some .int), Cond.constantLong RX9 241 (3600), Cond.constantLong RX9 243 (1000), Cond.methodLink RX9 237 yX9_metres, Cond.static yX9_metres, Cond.code yX9_metres cX9_metres 1 (some .long), Cond.constantLong RX9 233 (40000), Cond.constantLong RX9 235 (6000), Cond.methodLink RL 161 yX8_holds, Cond.instanceMethod yX8_holds, Cond.selects RX8 yX8_holds yX8_holds, Cond.code yX8_holds cX8_holds 4 (some .int), Cond.static yX0_leastAhead, Cond.code yX0_leastAhead cX0_leastAhead 9 (some .int), Cond.methodLink RL 164 yX9_holds, Cond.instanceMethod yX9_holds, Cond.selects RX9 yX9_holds yX9_holds, Cond.code yX9_holds cX9_holds 5 (some .int), Cond.methodLink RL 165 yX8_chase, Cond.instanceMethod yX8_chase, Cond.selects RX8 yX8_chase yX8_chase]
def wsL_law0_r48 : List Cond := [Cond.code yX8_chase cX8_chase 5 (some .int), Cond.methodLink RX8 241 yX8_caught, Cond.methodLink RL 168 yX9_chase, Cond.instanceMethod yX9_chase, Cond.selects RX9 yX9_chase yX9_chase, Cond.code yX9_chase cX9_chase 5 (some .int)]
def wsL_law0 : List Cond := (wsL_law0_r1 ++ (wsL_law0_r2 ++ (wsL_law0_r3 ++ (wsL_law0_r4 ++ (wsL_law0_r5 ++ (wsL_law0_r6 ++ (wsL_law0_r7 ++ (wsL_law0_r8 ++ (wsL_law0_r9 ++ (wsL_law0_r10 ++ (wsL_law0_r11 ++ (wsL_law0_r12 ++ (wsL_law0_r13 ++ (wsL_law0_r14 ++ (wsL_law0_r15 ++ (wsL_law0_r16 ++ (wsL_law0_r17 ++ (wsL_law0_r18 ++ (wsL_law0_r19 ++ (wsL_law0_r20 ++ (wsL_law0_r21 ++ (wsL_law0_r22 ++ (wsL_law0_r23 ++ (wsL_law0_r24 ++ (wsL_law0_r25 ++ (wsL_law0_r26 ++ (wsL_law0_r27 ++ (wsL_law0_r28 ++ (wsL_law0_r29 ++ (wsL_law0_r30 ++ (wsL_law0_r31 ++ (wsL_law0_r32 ++ (wsL_law0_r33 ++ (wsL_law0_r34 ++ (wsL_law0_r35 ++ (wsL_law0_r36 ++ (wsL_law0_r37 ++ (wsL_law0_r38 ++ (wsL_law0_r39 ++ (wsL_law0_r40 ++ (wsL_law0_r41 ++ (wsL_law0_r42 ++ (wsL_law0_r43 ++ (wsL_law0_r44 ++ (wsL_law0_r45 ++ (wsL_law0_r46 ++ (wsL_law0_r47 ++ wsL_law0_r48))))))))))))))))))))))))))))))))))))))))))))))) ++ wsX80 ++ wsX90 ++ wsX30 ++ wsX50 ++ wsX60 ++ wsX40 ++ wsX10 ++ wsX20 ++ ([] : List Cond)
def wsL_law : List Cond := wsL_law0 ++ (vx_at0 RX8 151 "java/util/NoSuchElementException" ["java/lang/RuntimeException", "java/lang/Exception"]).filter goodWord
end
section
abbrev vwCl : List vw_C := [(RX1, TX1, 7), (RX2, TX2, 3), (RX3, TX3, 10), (RX4, TX4, 20), (RX5, TX5, 5), (RX6, TX6, 6), (RX8, TX8, 5), (RX9, TX9, 18)]
/-! 03.base: the pure heap, and the judgement z_G: a pure value 'res' says what the method answers from here -/
abbrev z_D : Type := Nat → Nat → Int32
def z_up (d : z_D) (a k : Nat) (v : Int32) : z_D := fun a' k' => if a' = a ∧ k' = k then v else d a' k'
/-- a cell: its kind (0 to 7 an object of vwCl, 8 int[], 9 boolean[], 10 byte[], 11 Race[], 12 Stage[], 13 long[], 15 none of ours), its length, its references -/
abbrev z_K : Type := Nat × Nat × (Nat → Option Nat)
/-- how many cells there are, what they are, what longs hold -/
abbrev z_S : Type := Nat × (Nat → z_K) × (Nat → Int64)
abbrev z_W : Type := z_S × z_D
abbrev z_E : Type := va_G × Nat × (Nat → ClassId) × (Nat → Nat) × (Nat → Nat) × (Nat → Nat)
def z_ref (ci k : Nat) : Bool := match ci with
  | 0 => decide (3 ≤ k)
  | 1 => true
  | 2 => decide (6 ≤ k)
  | 3 => decide (k < 7) || (decide (8 ≤ k) && decide (k < 14))
  | 4 => decide (k < 4)
  | 5 => decide (k = 0)
  | 6 => true
  | _ => (decide (1 ≤ k) && decide (k ≤ 5)) || decide (k = 7) || decide (k = 9) || decide (k = 10) || decide (k = 16)
def z_sh (b : Nat) (o : Option Nat) : Option Nat := o.map (fun x => b + x)
def z_fv (b ci : Nat) (rf : Nat → Option Nat) (da : Nat → Int32) (k : Nat) : Value := if z_ref ci k = true then va_rf (z_sh b (rf k)) else .int (da k)
def z_cell (E : z_E) (kd : z_K) (lg : Int64) (da : Nat → Int32) : va_E :=
  if kd.1 < 8 then .inr (kd.1, (List.range kd.2.1).map (z_fv E.2.1 kd.1 kd.2.2 da))
  else if kd.1 < 11 then .inl (E.2.2.1 kd.1, kd.2.1, .inl da)
  else if kd.1 < 13 then .inl (E.2.2.1 kd.1, kd.2.1, .inr (.inr (.inr (.inr (fun k => z_sh E.2.1 (kd.2.2 k))))))
  else .inl (E.2.2.1 kd.1, kd.2.1, .inr (.inl (fun _ => lg)))
def z_L (S : z_S) : List Nat := (List.range S.1).filter (fun a => !((S.2.1 a).1 == 15))
def z_f (E : z_E) (w : z_W) (q : Nat) : va_E := z_cell E (w.1.2.1 (q - E.2.1)) (w.1.2.2 (q - E.2.1)) (w.2 (q - E.2.1))
def z_ws (E : z_E) (w : z_W) : va_W := va_pl ((z_L w.1).map (fun a => E.2.1 + a)) (z_f E w)
def z_A (E : z_E) : Nat → Prop := fun q => E.2.1 ≤ q
def z_H (E : z_E) (w : z_W) (H : Heap) : Prop := va_P E.1 vwCl (z_ws E w) H ∧ H.size = E.2.1 + w.1.1
def z_aty (t : Nat) : FieldType := match t with
  | 8 => .int
  | 9 => .boolean
  | 10 => .byte
  | 11 => .object RX3
  | 12 => .object RX4
  | _ => .long
def z_tys (E : z_E) : List (ClassId × FieldType) := [(E.2.2.1 8, .int), (E.2.2.1 9, .boolean), (E.2.2.1 10, .byte), (E.2.2.1 11, .object RX3), (E.2.2.1 12, .object RX4), (E.2.2.1 13, .long)]
theorem z_live {S : z_S} {a : Nat} (h : a < S.1) (hk : (S.2.1 a).1 ≠ 15) : a ∈ z_L S := by
  refine List.mem_filter.mpr ⟨List.mem_range.mpr h, ?_⟩
  simp [hk]
theorem z_addr {E : z_E} {S : z_S} {a : Nat} (h : a ∈ z_L S) : E.2.1 + a ∈ (z_L S).map (fun a => E.2.1 + a) := List.mem_map.mpr ⟨a, h, rfl⟩
theorem z_fat (E : z_E) (w : z_W) (a : Nat) : z_f E w (E.2.1 + a) = z_cell E (w.1.2.1 a) (w.1.2.2 a) (w.2 a) := by
  unfold z_f
  rw [Nat.add_sub_cancel_left]
theorem z_nodupL (S : z_S) : (z_L S).Nodup := List.Pairwise.filter _ List.nodup_range
theorem z_nodup (E : z_E) (S : z_S) : ((z_L S).map (fun a => E.2.1 + a)).Nodup :=
  List.Pairwise.map _ (fun a b h hab => h (Nat.add_left_cancel hab)) (z_nodupL S)
theorem z_dd (E : z_E) (w : z_W) : va_D (z_A E) (z_ws E w) := by
  refine ⟨fun i j p q hi hj hpq => ?_, fun k q hk => ?_⟩
  · have hi' : (((z_L w.1).map (fun a => E.2.1 + a)).map (fun a => (a, z_f E w a)))[i]? = some p := hi
    have hj' : (((z_L w.1).map (fun a => E.2.1 + a)).map (fun a => (a, z_f E w a)))[j]? = some q := hj
    rw [List.getElem?_map] at hi' hj'
    cases h1 : ((z_L w.1).map (fun a => E.2.1 + a))[i]? with
    | none => rw [h1] at hi'; cases hi'
    | some x =>
      cases h2 : ((z_L w.1).map (fun a => E.2.1 + a))[j]? with
      | none => rw [h2] at hj'; cases hj'
      | some y =>
        rw [h1] at hi'
        rw [h2] at hj'
        cases hi'
        cases hj'
        have hxy : x = y := hpq
        subst hxy
        exact (List.getElem?_inj ((List.getElem?_eq_some_iff.mp h1).1) (z_nodup E w.1)).mp (h1.trans h2.symm)
  · have hk' : (((z_L w.1).map (fun a => E.2.1 + a)).map (fun a => (a, z_f E w a)))[k]? = some q := hk
    obtain ⟨x, hx, rfl⟩ := List.mem_map.mp (List.mem_of_getElem? hk')
    obtain ⟨a, -, rfl⟩ := List.mem_map.mp hx
    exact Nat.le_add_right _ _
/-- a cell of the world, by its place -/
theorem z_get (E : z_E) (w : z_W) {a : Nat} (h : a < w.1.1) {kd : z_K} (hk : w.1.2.1 a = kd) (h15 : kd.1 ≠ 15) : ∃ k : Nat, (z_ws E w)[k]? = some (E.2.1 + a, z_cell E kd (w.1.2.2 a) (w.2 a)) := by
  obtain ⟨k, hk2⟩ := va_pl_get (X := []) (f := z_f E w) (z_addr (E := E) (z_live (S := w.1) h (by rw [hk]; exact h15)))
  refine ⟨k, ?_⟩
  rw [z_fat, hk] at hk2
  exact hk2
theorem z_set (E : z_E) (S : z_S) (d : z_D) {a i : Nat} (v : Int32) {kd : z_K} (h : a < S.1) (hk : S.2.1 a = kd) (h15 : kd.1 ≠ 15) {p : Nat} (hp : (z_ws E (S, d))[p]? = some (E.2.1 + a, z_cell E kd (S.2.2 a) (d a))) :
    (z_ws E (S, d)).set p (E.2.1 + a, z_cell E kd (S.2.2 a) (fun j => if j = i then v else d a j)) = z_ws E (S, z_up d a i v) := by
  have hm := z_addr (E := E) (z_live (S := S) h (by rw [hk]; exact h15))
  have hp2 : ([] ++ va_pl ((z_L S).map (fun a => E.2.1 + a)) (z_f E (S, d)))[p]? = some (E.2.1 + a, z_f E (S, d) (E.2.1 + a)) := by
    rw [z_fat]; exact hp.trans (by rw [← hk])
  have h1 := va_pl_set (X := []) (A := z_A E) (e := z_cell E kd (S.2.2 a) (fun j => if j = i then v else d a j)) (z_dd E (S, d)) hm hp2
  refine h1.trans ?_
  show va_pl _ _ = va_pl _ _
  refine List.map_congr_left (fun q hq => ?_)
  obtain ⟨b, -, rfl⟩ := List.mem_map.mp hq
  rw [z_fat]
  by_cases hab : b = a
  · subst hab
    rw [va_up_self]
    refine congrArg (fun z => (E.2.1 + b, z)) ?_
    rw [← hk]
    refine congrArg (z_cell E _ _) ?_
    funext j
    simp [z_up]
  · rw [va_up_ne _ _ (fun h => hab (Nat.add_left_cancel h)), z_fat]
    refine congrArg (fun z => (E.2.1 + b, z)) ?_
    refine congrArg (z_cell E _ _) ?_
    funext j
    simp [z_up, hab]
end
section
/-! 04.judge: the world at a state, the judgement, a contract -/
def z_stl : List (String × String × List Int32) := [("BunchTimes$Stage", "LIMIT_HUNDREDTHS", [7, 10, 15, 30]), ("BunchTimes$Prizes", "ORDER_BONUS", [10, 6, 4]), ("BunchTimes$Prizes", "ORDER_POINTS", [25, 20, 16, 13, 10, 15, 12, 9, 7, 5, 10, 8, 6, 4, 2, 10, 8, 6, 4, 2]), ("BunchTimes$Prizes", "CLIMB_DOTS", [10, 8, 6, 4, 5, 3, 2, 1, 2, 1, 0, 0, 1, 0, 0, 0]), ("BunchTimes$Prizes", "SPRINT_BONUS", [3, 2, 1]), ("BunchTimes$Prizes", "SPRINT_POINTS", [10, 7, 4, 2]), ("BunchTimesModel", "FOR_FLAT", [25, 20, 16, 13, 10]), ("BunchTimesModel", "FOR_HILLS", [15, 12, 9, 7, 5]), ("BunchTimesModel", "FOR_OTHERS", [10, 8, 6, 4, 2]), ("BunchTimesModel", "FOR_SPRINT", [10, 7, 4, 2]), ("BunchTimesModel", "FIRST", [10, 8, 6, 4]), ("BunchTimesModel", "SECOND", [5, 3, 2, 1])]
/-- the words of the texts: the entry of its class, the text, its bytes -/
def z_txt : List (Nat × String × List Int32) := [(9, "team", [116, 101, 97, 109]), (23, "rider", [114, 105, 100, 101, 114]), (31, "stage", [115, 116, 97, 103, 101]), (115, "flat", [102, 108, 97, 116]), (117, "hills", [104, 105, 108, 108, 115]), (119, "peaks", [112, 101, 97, 107, 115]), (121, "trial", [116, 114, 105, 97, 108]), (107, "at", [97, 116]), (123, "sprint", [115, 112, 114, 105, 110, 116]), (125, "climb", [99, 108, 105, 109, 98]), (36, "come", [99, 111, 109, 101]), (41, "over", [111, 118, 101, 114]), (46, "fall", [102, 97, 108, 108]), (145, "with", [119, 105, 116, 104]), (51, "jury", [106, 117, 114, 121]), (56, "grace", [103, 114, 97, 99, 101]), (66, "quit", [113, 117, 105, 116]), (71, "gap", [103, 97, 112]), (80, "zone", [122, 111, 110, 101]), (85, "close", [99, 108, 111, 115, 101])]
abbrev z_len : List Nat := z_txt.map (fun q => q.2.2.length)
abbrev z_byt : List (List Int32) := z_txt.map (fun q => q.2.2)
def z_nf : List (String × Nat × String × String × String) := [("BunchTimes$Prizes", 33, "BunchTimes$Course", "kind", "I"), ("BunchTimes$Stage", 114, "BunchTimes$Course", "kind", "I"), ("BunchTimes$Stage", 109, "BunchTimes$Course", "length", "I"), ("BunchTimes$Race", 151, "BunchTimes$Course", "length", "I"), ("BunchTimes$Prizes", 55, "BunchTimes$Course", "marks", "I"), ("BunchTimes$Race", 148, "BunchTimes$Course", "marks", "I"), ("BunchTimes$Prizes", 67, "BunchTimes$Course", "how", "[I"), ("BunchTimes$Prizes", 58, "BunchTimes$Course", "crossed", "[I"), ("BunchTimes$Prizes", 61, "BunchTimes$Course", "crossing", "[I"), ("BunchTimes$Stage", 155, "BunchTimes$Prizes", "bonus", "[I"), ("BunchTimes$Stage", 158, "BunchTimes$Prizes", "points", "[I"), ("BunchTimes$Stage", 161, "BunchTimes$Prizes", "dots", "[I"), ("BunchTimes$Prizes", 27, "BunchTimes$Stage", "course", "LBunchTimes$Course;"), ("BunchTimes$Race", 74, "BunchTimes$Stage", "course", "LBunchTimes$Course;"), ("BunchTimes$Race", 123, "BunchTimes$Stage", "prizes", "LBunchTimes$Prizes;"), ("BunchTimes$Prizes", 64, "BunchTimes$Stage", "finish", "[I"), ("BunchTimes", 182, "BunchTimes$Stage", "finish", "[I"), ("BunchTimes$Prizes", 39, "BunchTimes$Stage", "finishers", "I"), ("BunchTimes$Race", 108, "BunchTimes$Stage", "finishers", "I"), ("BunchTimes", 176, "BunchTimes$Stage", "finishers", "I"), ("BunchTimes$Prizes", 42, "BunchTimes$Stage", "order", "[I"), ("BunchTimes", 179, "BunchTimes$Stage", "order", "[I"), ("BunchTimes$Prizes", 48, "BunchTimes$Stage", "late", "[Z"), ("BunchTimes$Teller", 93, "BunchTimes$Race", "teams", "I"), ("BunchTimes$Standings", 71, "BunchTimes$Race", "teams", "I"), ("BunchTimes", 125, "BunchTimes$Race", "teams", "I"), ("BunchTimes$Standings", 50, "BunchTimes$Race", "riders", "I"), ("BunchTimes$Teller", 154, "BunchTimes$Race", "riders", "I"), ("BunchTimes", 128, "BunchTimes$Race", "riders", "I"), ("BunchTimes", 134, "BunchTimes$Race", "stages", "I"), ("BunchTimes", 110, "BunchTimes$Race", "gap", "I"), ("BunchTimes", 116, "BunchTimes$Race", "zone", "I"), ("BunchTimes", 152, "BunchTimes$Race", "teamOf", "[I"), ("BunchTimes$Standings", 57, "BunchTimes$Race", "age", "[I"), ("BunchTimes", 156, "BunchTimes$Race", "age", "[I"), ("BunchTimes$Standings", 53, "BunchTimes$Race", "in", "[Z"), ("BunchTimes", 159, "BunchTimes$Race", "in", "[Z"), ("BunchTimes", 37, "BunchTimes$Tape", "length", "I"), ("BunchTimes", 60, "BunchTimes$Tape", "start", "I"), ("BunchTimes", 73, "BunchTimes$Tape", "fault", "I")]
def z_nm : List (String × Nat × MethodName) := [("BunchTimes", 9, ⟨"BunchTimes$Race", "<init>", "()V"⟩), ("BunchTimes$Race", 35, ⟨"BunchTimes$Stage", "<init>", "()V"⟩), ("BunchTimes$Stage", 11, ⟨"BunchTimes$Course", "<init>", "()V"⟩), ("BunchTimes$Stage", 20, ⟨"BunchTimes$Prizes", "<init>", "()V"⟩), ("BunchTimes", 25, ⟨"BunchTimes$Standings", "<init>", "()V"⟩), ("BunchTimes", 32, ⟨"BunchTimes$Tape", "<init>", "()V"⟩), ("BunchTimes", 41, ⟨"BunchTimes$Tape", "putFour", "(I)V"⟩), ("BunchTimes", 49, ⟨"BunchTimes$Race", "copyFrom", "(LBunchTimes$Race;)V"⟩), ("BunchTimes$Race", 55, ⟨"BunchTimes$Stage", "copyFrom", "(LBunchTimes$Stage;)V"⟩), ("BunchTimes$Stage", 72, ⟨"BunchTimes$Course", "copyFrom", "(LBunchTimes$Course;)V"⟩), ("BunchTimes$Stage", 76, ⟨"BunchTimes$Prizes", "copyFrom", "(LBunchTimes$Prizes;)V"⟩), ("BunchTimes", 53, ⟨"BunchTimes$Tape", "begin", "()V"⟩), ("BunchTimes", 56, ⟨"BunchTimes$Tape", "hasMore", "()Z"⟩), ("BunchTimes", 63, ⟨"BunchTimes$Teller", "tellStatement", "(LBunchTimes$Race;LBunchTimes$Tape;)Z"⟩), ("BunchTimes$Teller", 11, ⟨"BunchTimes$Tape", "takes", "(Ljava/lang/String;)Z"⟩), ("BunchTimes$Teller", 17, ⟨"BunchTimes$Race", "addTeam", "()I"⟩), ("BunchTimes$Teller", 73, ⟨"BunchTimes$Tape", "takeInt", "(II)I"⟩), ("BunchTimes$Tape", 46, ⟨"BunchTimes", "within", "(III)Z"⟩), ("BunchTimes$Teller", 97, ⟨"BunchTimes$Race", "addRider", "(II)I"⟩), ("BunchTimes$Race", 59, ⟨"BunchTimes", "within", "(III)Z"⟩), ("BunchTimes$Teller", 90, ⟨"BunchTimes$Tape", "cannotStand", "()I"⟩), ("BunchTimes$Teller", 104, ⟨"BunchTimes$Race", "openStage", "(II)I"⟩), ("BunchTimes$Race", 70, ⟨"BunchTimes$Stage", "begin", "(II)V"⟩), ("BunchTimes$Stage", 60, ⟨"BunchTimes$Course", "begin", "(II)V"⟩), ("BunchTimes$Stage", 113, ⟨"BunchTimes$Course", "forget", "(I)V"⟩), ("BunchTimes$Teller", 112, ⟨"BunchTimes$Race", "addMark", "(II)I"⟩), ("BunchTimes$Race", 78, ⟨"BunchTimes$Course", "addMark", "(II)I"⟩), ("BunchTimes$Course", 40, ⟨"BunchTimes", "within", "(III)Z"⟩), ("BunchTimes$Teller", 127, ⟨"BunchTimes$Tape", "hasInt", "()Z"⟩), ("BunchTimes$Teller", 132, ⟨"BunchTimes$Race", "addFinish", "(II)Z"⟩), ("BunchTimes$Race", 88, ⟨"BunchTimes$Stage", "addFinish", "(II)Z"⟩), ("BunchTimes$Stage", 105, ⟨"BunchTimes", "within", "(III)Z"⟩), ("BunchTimes$Teller", 136, ⟨"BunchTimes$Race", "latestMarks", "()I"⟩), ("BunchTimes$Teller", 139, ⟨"BunchTimes$Race", "addCrossing", "(II)I"⟩), ("BunchTimes$Race", 92, ⟨"BunchTimes$Course", "addCrossing", "(II)I"⟩), ("BunchTimes$Teller", 142, ⟨"BunchTimes$Race", "latestLength", "()I"⟩), ("BunchTimes$Teller", 147, ⟨"BunchTimes$Race", "addFall", "(III)Z"⟩), ("BunchTimes$Race", 95, ⟨"BunchTimes$Stage", "addFall", "(III)Z"⟩), ("BunchTimes$Teller", 151, ⟨"BunchTimes$Race", "addJury", "(II)I"⟩), ("BunchTimes$Race", 98, ⟨"BunchTimes$Stage", "addJury", "(II)I"⟩), ("BunchTimes$Teller", 62, ⟨"BunchTimes$Race", "addGrace", "(I)Z"⟩), ("BunchTimes$Race", 101, ⟨"BunchTimes$Stage", "addGrace", "(I)Z"⟩), ("BunchTimes$Teller", 68, ⟨"BunchTimes$Race", "dropRider", "(I)Z"⟩), ("BunchTimes$Race", 104, ⟨"BunchTimes$Stage", "forget", "(I)V"⟩), ("BunchTimes$Teller", 77, ⟨"BunchTimes$Race", "setGap", "(I)Z"⟩), ("BunchTimes$Teller", 82, ⟨"BunchTimes$Race", "setZone", "(I)Z"⟩), ("BunchTimes$Teller", 87, ⟨"BunchTimes$Race", "closeStage", "()I"⟩), ("BunchTimes$Race", 111, ⟨"BunchTimes$Stage", "rank", "()V"⟩), ("BunchTimes$Race", 114, ⟨"BunchTimes$Stage", "split", "(I)V"⟩), ("BunchTimes$Race", 117, ⟨"BunchTimes$Stage", "takeTimes", "(I)V"⟩), ("BunchTimes$Race", 120, ⟨"BunchTimes$Stage", "judge", "()V"⟩), ("BunchTimes$Race", 127, ⟨"BunchTimes$Prizes", "awardOrder", "(LBunchTimes$Stage;)V"⟩), ("BunchTimes$Race", 132, ⟨"BunchTimes$Prizes", "awardMarks", "(LBunchTimes$Stage;)V"⟩), ("BunchTimes$Race", 139, ⟨"BunchTimes$Stage", "sendsOut", "(I)Z"⟩), ("BunchTimes", 69, ⟨"BunchTimes$Tape", "endStatement", "(IZ)V"⟩), ("BunchTimes", 76, ⟨"BunchTimes$Race", "addTeam", "()I"⟩), ("BunchTimes", 80, ⟨"BunchTimes$Race", "addRider", "(II)I"⟩), ("BunchTimes", 84, ⟨"BunchTimes$Race", "openStage", "(II)I"⟩), ("BunchTimes", 87, ⟨"BunchTimes$Race", "addMark", "(II)I"⟩), ("BunchTimes", 90, ⟨"BunchTimes$Race", "addFinish", "(II)Z"⟩), ("BunchTimes", 94, ⟨"BunchTimes$Race", "addCrossing", "(II)I"⟩), ("BunchTimes", 97, ⟨"BunchTimes$Race", "addFall", "(III)Z"⟩), ("BunchTimes", 100, ⟨"BunchTimes$Race", "addJury", "(II)I"⟩), ("BunchTimes", 103, ⟨"BunchTimes$Race", "addGrace", "(I)Z"⟩), ("BunchTimes", 107, ⟨"BunchTimes$Race", "dropRider", "(I)Z"⟩), ("BunchTimes", 113, ⟨"BunchTimes$Race", "setGap", "(I)Z"⟩), ("BunchTimes", 119, ⟨"BunchTimes$Race", "setZone", "(I)Z"⟩), ("BunchTimes", 122, ⟨"BunchTimes$Race", "closeStage", "()I"⟩), ("BunchTimes", 131, ⟨"BunchTimes$Race", "countIn", "()I"⟩), ("BunchTimes", 137, ⟨"BunchTimes$Race", "closed", "()I"⟩), ("BunchTimes", 140, ⟨"BunchTimes$Race", "latestMarks", "()I"⟩), ("BunchTimes", 143, ⟨"BunchTimes$Race", "latestFinishers", "()I"⟩), ("BunchTimes", 166, ⟨"BunchTimes$Race", "closedStage", "(I)LBunchTimes$Stage;"⟩), ("BunchTimes", 170, ⟨"BunchTimes$Stage", "fact", "(I)I"⟩), ("BunchTimes", 146, ⟨"BunchTimes$Race", "hasRider", "(I)Z"⟩), ("BunchTimes", 185, ⟨"BunchTimes$Stage", "resultOf", "(II)I"⟩), ("BunchTimes", 188, ⟨"BunchTimes$Stage", "countBunches", "(I)I"⟩), ("BunchTimes", 191, ⟨"BunchTimes$Stage", "joiningGap", "()I"⟩), ("BunchTimes", 194, ⟨"BunchTimes$Stage", "aheadOfWidest", "()I"⟩), ("BunchTimes", 197, ⟨"BunchTimes$Standings", "rankList", "(LBunchTimes$Race;I)V"⟩), ("BunchTimes$Standings", 32, ⟨"BunchTimes$Race", "closed", "()I"⟩), ("BunchTimes$Standings", 60, ⟨"BunchTimes$Race", "sumOf", "(II)I"⟩), ("BunchTimes$Race", 157, ⟨"BunchTimes$Stage", "netTime", "(I)I"⟩), ("BunchTimes$Standings", 64, ⟨"BunchTimes$Race", "placesOf", "(II)I"⟩), ("BunchTimes$Race", 161, ⟨"BunchTimes$Stage", "placeOf", "(I)I"⟩), ("BunchTimes$Standings", 86, ⟨"BunchTimes$Race", "gained", "(II)I"⟩), ("BunchTimes$Race", 154, ⟨"BunchTimes$Stage", "gainedBy", "(II)I"⟩), ("BunchTimes$Standings", 74, ⟨"BunchTimes$Race", "isRanked", "(I)Z"⟩), ("BunchTimes$Standings", 78, ⟨"BunchTimes$Race", "teamSum", "(I)I"⟩), ("BunchTimes$Race", 164, ⟨"BunchTimes$Stage", "teamTime", "([II)I"⟩), ("BunchTimes", 201, ⟨"BunchTimes$Standings", "entry", "(I)I"⟩), ("BunchTimes$Standings", 28, ⟨"BunchTimes", "within", "(III)Z"⟩), ("BunchTimes", 204, ⟨"BunchTimes$Race", "isIn", "(I)Z"⟩), ("BunchTimes", 207, ⟨"BunchTimes$Race", "sumOf", "(II)I"⟩), ("BunchTimes", 211, ⟨"BunchTimes$Race", "isRanked", "(I)Z"⟩), ("BunchTimes", 214, ⟨"BunchTimes$Race", "teamSum", "(I)I"⟩), ("BunchTimes", 217, ⟨"BunchTimes$Standings", "wearer", "(LBunchTimes$Race;I)I"⟩), ("BunchTimes", 221, ⟨"BunchTimes$Standings", "rankRiders", "(LBunchTimes$Race;II)V"⟩), ("BunchTimes", 225, ⟨"BunchTimes$Standings", "lacking", "(I)I"⟩), ("BunchTimes", 228, ⟨"BunchTimes$Breakaway", "canBe", "(III)Z"⟩), ("BunchTimes$Breakaway", 9, ⟨"BunchTimes", "within", "(III)Z"⟩), ("BunchTimes", 233, ⟨"BunchTimes$Breakaway", "metresLeft", "(IIII)I"⟩), ("BunchTimes", 237, ⟨"BunchTimes$Breakaway", "leastAhead", "(III)I"⟩), ("BunchTimes", 163, ⟨"BunchTimes$Race", "gained", "(II)I"⟩)]
def z_St (E : z_E) (U : State) (H : Heap) : Prop :=
  (∀ (i : Nat) (q : String × String × List Int32), z_stl[i]? = some q → va_Z q.1 q.2.1 "[I" (.ref (E.2.2.2.1 i)) (z_A E) U H ∧ va_T .int (E.2.2.2.1 i) q.2.2.length (fun j => .int (q.2.2.getD j 0)) (z_A E) U H) ∧
  vk_S 20 z_len z_byt E.2.2.2.2.1 E.2.2.2.2.2 (z_A E) U H ∧ (∀ (i : Nat) (q : Nat × String × List Int32), z_txt[i]? = some q → vk_R RX7 q.1 q.2.1 (E.2.2.2.2.1 i) U) ∧
  va_Z "java/lang/String" "COMPACT_STRINGS" "Z" (.int 1) (z_A E) U H ∧ va_Zq "jdk/internal/util/Preconditions" "SIOOBE_FORMATTER" "Ljava/util/function/BiFunction;" (z_A E) U H ∧
  (∀ (i : Nat) (q : String × Nat × String × String × String), z_nf[i]? = some q → va_Nw (.fieldLinkNest q.1 q.2.1 q.2.2.1 q.2.2.2.1 q.2.2.2.2 "BunchTimes") U) ∧ (∀ (i : Nat) (q : String × Nat × MethodName), z_nm[i]? = some q → va_Nw (.methodLinkNest q.1 q.2.1 q.2.2 "BunchTimes") U)
theorem z_St.to {E : z_E} {s U : State} {H H1 : Heap} (h : z_St E s H) (hW : s.WarmedH U.vm) (hk : ∀ a : Nat, a < H.size → ¬ z_A E a → H1[a]? = H[a]?) : z_St E U H1 :=
  ⟨fun i q hq => ⟨((h.1 i q hq).1.moved hW.alike).kept hk, ((h.1 i q hq).2.moved hW.alike).kept hk⟩, (h.2.1.moved hW.alike).kept hk, fun i q hq => (h.2.2.1 i q hq).warm hW, (h.2.2.2.1.moved hW.alike).kept hk, (h.2.2.2.2.1.moved hW.alike).kept hk, fun i q hq => (h.2.2.2.2.2.1 i q hq).warmF hW, fun i q hq => (h.2.2.2.2.2.2 i q hq).warmM hW⟩
def z_Wd (E : z_E) (w : z_W) (U : State) : Prop := z_H E w U.heap ∧ va_K E.1 vwCl (z_tys E) U ∧ z_St E U U.heap
theorem z_blind (E : z_E) (w : z_W) (av : List Value) : FrameBlind (va_Pc av (z_Wd E w)) := by
  intro a U g mk ⟨h1, h2, h3, h4⟩
  refine ⟨h1, h2, va_K.moved (u := U) (U := U.calling g mk a) (Vm.Alike.refl U.vm) h3, ?_⟩
  exact z_St.to (s := U) (U := U.calling g mk a) h4 (State.WarmedH.refl U) (fun _ _ _ => rfl)
/-- how a method ends -/
def z_Q (E : z_E) (r : Option Value) (w : z_W) : Array Value → State → Outcome → State → Prop := fun _ st oc t => (oc = .returned r ∧ z_H E w t.heap) ∧ va_F (z_A E) st t
/-- a method: its class, its code, its locals, its words, its answer's type; its room, the cells and slots that it makes -/
abbrev z_Y : Type := String × ByteArray × Nat × List Cond × Option FieldType × Room × Nat × Nat
/-- a contract: where the pure value says an answer, the method gives it -/
def z_Sp {α : Type} (E : z_E) (l : Launch) (y : MethodName) (Y : z_Y) (cv : α → Option Value × z_W) (av : List Value) (w : z_W) (res : Option α) : Prop :=
  ∀ x, res = some x → Met l y Y.2.2.2.1 Y.2.2.2.2.2.1 (va_Pc av (z_Wd E w)) (z_Q E (cv x).1 (cv x).2) Y.2.2.2.2.2.2.1 Y.2.2.2.2.2.2.2 (z_A E)
def z_C (E : z_E) (Y : z_Y) (p : Program) (s : State) (m : MethodId) (args : Array Value) (meth : Method) (c : Code) (lv : List (Nat × Value)) (w : z_W) (H : Heap) (locs : List Loc) (ls : Array Slot) (k : Nat) : Prop :=
  CallFix p m c Y.2.1 Y.2.2.1 s args Y.2.2.2.1 Y.1 ∧ (meth.sig.returnType = Y.2.2.2.2.1 ∧ meth.locks = false) ∧ va_K E.1 vwCl (z_tys E) s ∧ z_St E s s.heap ∧ (E.2.1 ≤ s.heap.size ∧ s.heap.size + k = E.2.1 + w.1.1) ∧ z_H E w H ∧ va_S (z_A E) s.heap H locs ∧ lv_has ls Y.2.2.1 lv
def z_G {α : Type} (E : z_E) (l : Launch) (Y : z_Y) (cv : α → Option Value × z_W) (res : Option α) (pc : Nat) (lv : List (Nat × Value)) (st : List Value) (w : z_W) (k n : Nat) : Prop :=
  ∀ x, res = some x → ∀ (p : Program) (e : Env) (s : State) (m : MethodId) (args : Array Value) (below : List Frame) (meth : Method) (c : Code) (H : Heap) (locs : List Loc) (ls : Array Slot), z_C E Y p s m args meth c lv w H locs ls k →
    W p l e Y.2.2.2.2.2.1 s m args below meth c H locs k n (MQ below (z_Q E (cv x).1 (cv x).2) args s Y.2.2.2.2.2.2.1 Y.2.2.2.2.2.2.2 (z_A E)) (F0 m pc ls st)
theorem z_entry {α : Type} {E : z_E} {l : Launch} {y : MethodName} {Y : z_Y} {cv : α → Option Value × z_W} {av : List Value} {w : z_W} {res : Option α} (hy : plainName y.cls = true) {ws' : List Cond} (hw : Y.2.2.2.1 = Cond.code y Y.2.1 Y.2.2.1 Y.2.2.2.2.1 :: ws') (hR : y.cls = Y.1) (hlen : (lg_sl av).length ≤ Y.2.2.1)
    {lv : List (Nat × Value)} (hlv : lv_args 0 av = lv) (h : z_G E l Y cv res 0 lv [] w 0 0) : z_Sp E l y Y cv av w res := by
  intro x hx
  refine Met.ofW (cc := Y.2.1) (maxL := Y.2.2.1) (ret := Y.2.2.2.2.1) hy hw ?_
  intro p e s m args below meth c s₁ B hml hv
  obtain ⟨rfl, hP, hK, hSt⟩ := hv
  have hown : s.vm.findClass Y.1 = some m.cls := by rw [← hR]; exact findClass_of_methodNamed B.named
  have hl := lv_entry av (n := Y.2.2.1) hlen
  rw [lg_entry_eq]
  generalize (lg_sl av ++ List.replicate (Y.2.2.1 - (lg_sl av).length) Slot.unset).toArray = ls at hl ⊢
  rw [hlv] at hl
  exact h x hx p e s m _ below meth c s.heap [] ls ⟨⟨B.exec, B.bytes, hml, hown, atoms_spec (ws := Y.2.2.2.1) B.pre⟩, ⟨B.returns, B.notSynchronized⟩, hK, hSt, ⟨by rw [hP.2]; exact Nat.le_add_right _ _, hP.2⟩, hP, va_S.rf, hl⟩
end
section
/-! 05.rows: a row an instruction -/
section
variable {α : Type} {E : z_E} {l : Launch} {Y : z_Y} {cv : α → Option Value × z_W} {res : Option α} {pc : Nat} {lv : List (Nat × Value)} {st : List Value} {w : z_W} {k n : Nat}
theorem r_iconst {i : Int} (v : Int32) (hv : Int32.ofInt i = v) (pc' : Nat) (hp : pc + 1 = pc') (hd : decode Y.2.1 pc = .ok (.iconst i, 1)) (K : z_G E l Y cv res pc' lv (.int v :: st) w k n) : z_G E l Y cv res pc lv (st) w k n := by
  subst hp
  exact fun z hz p e s m args below meth c H locs ls C => lv_iconst C.1.1 C.1.2.1 hd hv (K z hz p e s m args below meth c H locs ls C)
theorem r_bipush {i : Int} (v : Int32) (hv : (Int8.ofInt i).toInt32 = v) (pc' : Nat) (hp : pc + 2 = pc') (hd : decode Y.2.1 pc = .ok (.bipush i, 2)) (K : z_G E l Y cv res pc' lv (.int v :: st) w k n) : z_G E l Y cv res pc lv (st) w k n := by
  subst hp
  exact fun z hz p e s m args below meth c H locs ls C => lv_bipush C.1.1 C.1.2.1 hd hv (K z hz p e s m args below meth c H locs ls C)
theorem r_sipush {i : Int} (v : Int32) (hv : (Int16.ofInt i).toInt32 = v) (pc' : Nat) (hp : pc + 3 = pc') (hd : decode Y.2.1 pc = .ok (.sipush i, 3)) (K : z_G E l Y cv res pc' lv (.int v :: st) w k n) : z_G E l Y cv res pc lv (st) w k n := by
  subst hp
  exact fun z hz p e s m args below meth c H locs ls C => lv_sipush C.1.1 C.1.2.1 hd hv (K z hz p e s m args below meth c H locs ls C)
theorem r_lconst {i : Fin 2} (v : Int64) (hv : Int64.ofNat i = v) (pc' : Nat) (hp : pc + 1 = pc') (hd : decode Y.2.1 pc = .ok (.lconst i, 1)) (K : z_G E l Y cv res pc' lv (.long v :: st) w k n) : z_G E l Y cv res pc lv (st) w k n := by
  subst hp
  exact fun z hz p e s m args below meth c H locs ls C => lv_lconst C.1.1 C.1.2.1 hd hv (K z hz p e s m args below meth c H locs ls C)
theorem r_iadd {x y : Int32} (pc' : Nat) (hp : pc + 1 = pc') (hd : decode Y.2.1 pc = .ok (.iadd, 1)) (K : z_G E l Y cv res pc' lv (.int (x + y) :: st) w k n) : z_G E l Y cv res pc lv (.int y :: .int x :: st) w k n := by
  subst hp
  exact fun z hz p e s m args below meth c H locs ls C => lv_iadd C.1.1 C.1.2.1 hd  (K z hz p e s m args below meth c H locs ls C)
theorem r_isub {x y : Int32} (pc' : Nat) (hp : pc + 1 = pc') (hd : decode Y.2.1 pc = .ok (.isub, 1)) (K : z_G E l Y cv res pc' lv (.int (x - y) :: st) w k n) : z_G E l Y cv res pc lv (.int y :: .int x :: st) w k n := by
  subst hp
  exact fun z hz p e s m args below meth c H locs ls C => lv_isub C.1.1 C.1.2.1 hd  (K z hz p e s m args below meth c H locs ls C)
theorem r_imul {x y : Int32} (pc' : Nat) (hp : pc + 1 = pc') (hd : decode Y.2.1 pc = .ok (.imul, 1)) (K : z_G E l Y cv res pc' lv (.int (x * y) :: st) w k n) : z_G E l Y cv res pc lv (.int y :: .int x :: st) w k n := by
  subst hp
  exact fun z hz p e s m args below meth c H locs ls C => lv_imul C.1.1 C.1.2.1 hd  (K z hz p e s m args below meth c H locs ls C)
theorem r_iand {x y : Int32} (pc' : Nat) (hp : pc + 1 = pc') (hd : decode Y.2.1 pc = .ok (.iand, 1)) (K : z_G E l Y cv res pc' lv (.int (x &&& y) :: st) w k n) : z_G E l Y cv res pc lv (.int y :: .int x :: st) w k n := by
  subst hp
  exact fun z hz p e s m args below meth c H locs ls C => lv_iand C.1.1 C.1.2.1 hd  (K z hz p e s m args below meth c H locs ls C)
theorem r_ior {x y : Int32} (pc' : Nat) (hp : pc + 1 = pc') (hd : decode Y.2.1 pc = .ok (.ior, 1)) (K : z_G E l Y cv res pc' lv (.int (x ||| y) :: st) w k n) : z_G E l Y cv res pc lv (.int y :: .int x :: st) w k n := by
  subst hp
  exact fun z hz p e s m args below meth c H locs ls C => lv_ior C.1.1 C.1.2.1 hd  (K z hz p e s m args below meth c H locs ls C)
theorem r_ishl {x y : Int32} (pc' : Nat) (hp : pc + 1 = pc') (hd : decode Y.2.1 pc = .ok (.ishl, 1)) (K : z_G E l Y cv res pc' lv (.int (x <<< (y &&& 31)) :: st) w k n) : z_G E l Y cv res pc lv (.int y :: .int x :: st) w k n := by
  subst hp
  exact fun z hz p e s m args below meth c H locs ls C => lv_ishl C.1.1 C.1.2.1 hd  (K z hz p e s m args below meth c H locs ls C)
theorem r_ishr {x y : Int32} (pc' : Nat) (hp : pc + 1 = pc') (hd : decode Y.2.1 pc = .ok (.ishr, 1)) (K : z_G E l Y cv res pc' lv (.int (x >>> (y &&& 31)) :: st) w k n) : z_G E l Y cv res pc lv (.int y :: .int x :: st) w k n := by
  subst hp
  exact fun z hz p e s m args below meth c H locs ls C => lv_ishr C.1.1 C.1.2.1 hd  (K z hz p e s m args below meth c H locs ls C)
theorem r_ladd {x y : Int64} (pc' : Nat) (hp : pc + 1 = pc') (hd : decode Y.2.1 pc = .ok (.ladd, 1)) (K : z_G E l Y cv res pc' lv (.long (x + y) :: st) w k n) : z_G E l Y cv res pc lv (.long y :: .long x :: st) w k n := by
  subst hp
  exact fun z hz p e s m args below meth c H locs ls C => lv_ladd C.1.1 C.1.2.1 hd  (K z hz p e s m args below meth c H locs ls C)
theorem r_lsub {x y : Int64} (pc' : Nat) (hp : pc + 1 = pc') (hd : decode Y.2.1 pc = .ok (.lsub, 1)) (K : z_G E l Y cv res pc' lv (.long (x - y) :: st) w k n) : z_G E l Y cv res pc lv (.long y :: .long x :: st) w k n := by
  subst hp
  exact fun z hz p e s m args below meth c H locs ls C => lv_lsub C.1.1 C.1.2.1 hd  (K z hz p e s m args below meth c H locs ls C)
theorem r_lmul {x y : Int64} (pc' : Nat) (hp : pc + 1 = pc') (hd : decode Y.2.1 pc = .ok (.lmul, 1)) (K : z_G E l Y cv res pc' lv (.long (x * y) :: st) w k n) : z_G E l Y cv res pc lv (.long y :: .long x :: st) w k n := by
  subst hp
  exact fun z hz p e s m args below meth c H locs ls C => lv_lmul C.1.1 C.1.2.1 hd  (K z hz p e s m args below meth c H locs ls C)
theorem r_i2l {x : Int32} (pc' : Nat) (hp : pc + 1 = pc') (hd : decode Y.2.1 pc = .ok (.i2l, 1)) (K : z_G E l Y cv res pc' lv (.long x.toInt64 :: st) w k n) : z_G E l Y cv res pc lv (.int x :: st) w k n := by
  subst hp
  exact fun z hz p e s m args below meth c H locs ls C => lv_i2l C.1.1 C.1.2.1 hd rfl (K z hz p e s m args below meth c H locs ls C)
theorem r_l2i {x : Int64} (pc' : Nat) (hp : pc + 1 = pc') (hd : decode Y.2.1 pc = .ok (.l2i, 1)) (K : z_G E l Y cv res pc' lv (.int x.toInt32 :: st) w k n) : z_G E l Y cv res pc lv (.long x :: st) w k n := by
  subst hp
  exact fun z hz p e s m args below meth c H locs ls C => lv_l2i C.1.1 C.1.2.1 hd rfl (K z hz p e s m args below meth c H locs ls C)
theorem r_i2b {x : Int32} (pc' : Nat) (hp : pc + 1 = pc') (hd : decode Y.2.1 pc = .ok (.i2b, 1)) (K : z_G E l Y cv res pc' lv (.int x.toInt8.toInt32 :: st) w k n) : z_G E l Y cv res pc lv (.int x :: st) w k n := by
  subst hp
  exact fun z hz p e s m args below meth c H locs ls C => lv_i2b C.1.1 C.1.2.1 hd rfl (K z hz p e s m args below meth c H locs ls C)
theorem r_i2c {x : Int32} (pc' : Nat) (hp : pc + 1 = pc') (hd : decode Y.2.1 pc = .ok (.i2c, 1)) (K : z_G E l Y cv res pc' lv (.int (x.toUInt32 % 65536).toInt32 :: st) w k n) : z_G E l Y cv res pc lv (.int x :: st) w k n := by
  subst hp
  exact fun z hz p e s m args below meth c H locs ls C => lv_i2c C.1.1 C.1.2.1 hd rfl (K z hz p e s m args below meth c H locs ls C)
theorem r_lcmp {x y : Int64} (pc' : Nat) (hp : pc + 1 = pc') (hd : decode Y.2.1 pc = .ok (.lcmp, 1)) (K : z_G E l Y cv res pc' lv (.int (lg_cmp x y) :: st) w k n) : z_G E l Y cv res pc lv (.long y :: .long x :: st) w k n := by
  subst hp
  exact fun z hz p e s m args below meth c H locs ls C => W.lcmp C.1.1 C.1.2.1 hd  (K z hz p e s m args below meth c H locs ls C)
theorem r_dup {v : Value} (hc : v.category = 1) (pc' : Nat) (hp : pc + 1 = pc') (hd : decode Y.2.1 pc = .ok (.dup, 1)) (K : z_G E l Y cv res pc' lv (v :: v :: st) w k n) : z_G E l Y cv res pc lv (v :: st) w k n := by
  subst hp
  exact fun z hz p e s m args below meth c H locs ls C => lv_dup C.1.1 C.1.2.1 hd hc (K z hz p e s m args below meth c H locs ls C)
theorem r_pop {v : Value} (hc : v.category = 1) (pc' : Nat) (hp : pc + 1 = pc') (hd : decode Y.2.1 pc = .ok (.pop, 1)) (K : z_G E l Y cv res pc' lv (st) w k n) : z_G E l Y cv res pc lv (v :: st) w k n := by
  subst hp
  exact fun z hz p e s m args below meth c H locs ls C => lv_pop C.1.1 C.1.2.1 hd hc (K z hz p e s m args below meth c H locs ls C)
theorem r_dup2 {v u : Value} (hc : v.category = 1) (hc2 : u.category = 1) (pc' : Nat) (hp : pc + 1 = pc') (hd : decode Y.2.1 pc = .ok (.dup2, 1)) (K : z_G E l Y cv res pc' lv (v :: u :: v :: u :: st) w k n) : z_G E l Y cv res pc lv (v :: u :: st) w k n := by
  subst hp
  exact fun z hz p e s m args below meth c H locs ls C => lv_dup2_11 C.1.1 C.1.2.1 hd hc hc2 (K z hz p e s m args below meth c H locs ls C)
theorem r_dup_x1 {v u : Value} (hc : v.category = 1) (hc2 : u.category = 1) (pc' : Nat) (hp : pc + 1 = pc') (hd : decode Y.2.1 pc = .ok (.dup_x1, 1)) (K : z_G E l Y cv res pc' lv (v :: u :: v :: st) w k n) : z_G E l Y cv res pc lv (v :: u :: st) w k n := by
  subst hp
  exact fun z hz p e s m args below meth c H locs ls C => lv_dup_x1 C.1.1 C.1.2.1 hd hc hc2 (K z hz p e s m args below meth c H locs ls C)
def z_div {α : Type} (x y : Int32) (K : Int32 → Option α) : Option α := if y = 0 then none else K (x / y)
def z_ldiv {α : Type} (x y : Int64) (K : Int64 → Option α) : Option α := if y = 0 then none else K (x / y)
theorem r_div {x y : Int32} {KB : Int32 → Option α} (pc' : Nat) (hp : pc + 1 = pc') (hd : decode Y.2.1 pc = .ok (.idiv, 1)) (K : ∀ v, z_G E l Y cv (KB v) pc' lv (.int v :: st) w k n) : z_G E l Y cv (z_div x y KB) pc lv (.int y :: .int x :: st) w k n := by
  subst hp
  intro z hz p e s m args below meth c H locs ls C
  unfold z_div at hz
  by_cases hy : y = 0
  · rw [if_pos hy] at hz; cases hz
  · rw [if_neg hy] at hz
    exact lv_idiv C.1.1 C.1.2.1 hd hy (K _ z hz p e s m args below meth c H locs ls C)
theorem r_divc {x y : Int32} (hy : ¬ y = 0) (pc' : Nat) (hp : pc + 1 = pc') (hd : decode Y.2.1 pc = .ok (.idiv, 1)) (K : z_G E l Y cv res pc' lv (.int (x / y) :: st) w k n) : z_G E l Y cv res pc lv (.int y :: .int x :: st) w k n := by
  subst hp
  exact fun z hz p e s m args below meth c H locs ls C => lv_idiv C.1.1 C.1.2.1 hd hy (K z hz p e s m args below meth c H locs ls C)
theorem r_ldiv {x y : Int64} {KB : Int64 → Option α} (pc' : Nat) (hp : pc + 1 = pc') (hd : decode Y.2.1 pc = .ok (.ldiv, 1)) (K : ∀ v, z_G E l Y cv (KB v) pc' lv (.long v :: st) w k n) : z_G E l Y cv (z_ldiv x y KB) pc lv (.long y :: .long x :: st) w k n := by
  subst hp
  intro z hz p e s m args below meth c H locs ls C
  unfold z_ldiv at hz
  by_cases hy : y = 0
  · rw [if_pos hy] at hz; cases hz
  · rw [if_neg hy] at hz
    exact lv_ldiv C.1.1 C.1.2.1 hd hy (K _ z hz p e s m args below meth c H locs ls C)
theorem r_ldivc {x y : Int64} (hy : ¬ y = 0) (pc' : Nat) (hp : pc + 1 = pc') (hd : decode Y.2.1 pc = .ok (.ldiv, 1)) (K : z_G E l Y cv res pc' lv (.long (x / y) :: st) w k n) : z_G E l Y cv res pc lv (.long y :: .long x :: st) w k n := by
  subst hp
  exact fun z hz p e s m args below meth c H locs ls C => lv_ldiv C.1.1 C.1.2.1 hd hy (K z hz p e s m args below meth c H locs ls C)
theorem r_ldc {idx : Nat} {v : Int32} (hw : Cond.constant Y.1 idx v ∈ Y.2.2.2.1) (pc' : Nat) (hp : pc + 2 = pc') (hd : decode Y.2.1 pc = .ok (.ldc idx, 2)) (K : z_G E l Y cv res pc' lv (.int v :: st) w k n) : z_G E l Y cv res pc lv st w k n := by
  subst hp
  exact fun z hz p e s m args below meth c H locs ls C => lv_ldc C.1.1 C.1.2.1 C.1.2.2.2.1 (C.1.2.2.2.2 _ hw) hd (K z hz p e s m args below meth c H locs ls C)
theorem r_ldc2 {idx : Nat} {v : Int64} (hw : Cond.constantLong Y.1 idx v ∈ Y.2.2.2.1) (pc' : Nat) (hp : pc + 3 = pc') (hd : decode Y.2.1 pc = .ok (.ldc2_w idx, 3)) (K : z_G E l Y cv res pc' lv (.long v :: st) w k n) : z_G E l Y cv res pc lv st w k n := by
  subst hp
  exact fun z hz p e s m args below meth c H locs ls C => lv_ldc2 C.1.1 C.1.2.1 C.1.2.2.2.1 (C.1.2.2.2.2 _ hw) hd (K z hz p e s m args below meth c H locs ls C)
theorem r_ldcS {idx : Nat} (i : Nat) {q : Nat × String × List Int32} (hq : z_txt[i]? = some q) (hi : q.1 = idx) (hY : Y.1 = RX7) (pc' : Nat) (hp : pc + 2 = pc') (hd : decode Y.2.1 pc = .ok (.ldc idx, 2)) (K : z_G E l Y cv res pc' lv (.ref (E.2.2.2.2.1 i) :: st) w k n) : z_G E l Y cv res pc lv st w k n := by
  subst hp
  subst hi
  intro z hz p e s m args below meth c H locs ls C
  have ho := C.1.2.2.2.1
  rw [hY] at ho
  exact va_ldcS C.1.1 C.1.2.1 ho (C.2.2.2.1.2.2.1 i q hq) hd (K z hz p e s m args below meth c H locs ls C)
theorem r_iload_n {kk : Fin 4} {x : Int32} (i q : Nat) (hi : (kk : Nat) = i) (hq : lv[q]? = some (i, .int x)) (pc' : Nat) (hp : pc + 1 = pc') (hd : decode Y.2.1 pc = .ok (.iload_n kk, 1)) (K : z_G E l Y cv res pc' lv (.int x :: st) w k n) : z_G E l Y cv res pc lv st w k n := by
  subst hp
  exact fun z hz p e s m args below meth c H locs ls C => lv_iload_n C.1.1 C.1.2.1 hd hi (lv_at C.2.2.2.2.2.2.2 q hq) (K z hz p e s m args below meth c H locs ls C)
theorem r_iload {x : Int32} (i q : Nat) (hq : lv[q]? = some (i, .int x)) (pc' : Nat) (hp : pc + 2 = pc') (hd : decode Y.2.1 pc = .ok (.iload i, 2)) (K : z_G E l Y cv res pc' lv (.int x :: st) w k n) : z_G E l Y cv res pc lv st w k n := by
  subst hp
  exact fun z hz p e s m args below meth c H locs ls C => lv_iload C.1.1 C.1.2.1 hd (lv_at C.2.2.2.2.2.2.2 q hq) (K z hz p e s m args below meth c H locs ls C)
theorem r_lload_n {kk : Fin 4} {x : Int64} (i q : Nat) (hi : (kk : Nat) = i) (hq : lv[q]? = some (i, .long x)) (pc' : Nat) (hp : pc + 1 = pc') (hd : decode Y.2.1 pc = .ok (.lload_n kk, 1)) (K : z_G E l Y cv res pc' lv (.long x :: st) w k n) : z_G E l Y cv res pc lv st w k n := by
  subst hp
  exact fun z hz p e s m args below meth c H locs ls C => lv_lload_n C.1.1 C.1.2.1 hd hi (lv_at C.2.2.2.2.2.2.2 q hq) (K z hz p e s m args below meth c H locs ls C)
theorem r_lload {x : Int64} (i q : Nat) (hq : lv[q]? = some (i, .long x)) (pc' : Nat) (hp : pc + 2 = pc') (hd : decode Y.2.1 pc = .ok (.lload i, 2)) (K : z_G E l Y cv res pc' lv (.long x :: st) w k n) : z_G E l Y cv res pc lv st w k n := by
  subst hp
  exact fun z hz p e s m args below meth c H locs ls C => lv_lload C.1.1 C.1.2.1 hd (lv_at C.2.2.2.2.2.2.2 q hq) (K z hz p e s m args below meth c H locs ls C)
theorem r_aload_n {kk : Fin 4} {x : Nat} (i q : Nat) (hi : (kk : Nat) = i) (hq : lv[q]? = some (i, .ref x)) (pc' : Nat) (hp : pc + 1 = pc') (hd : decode Y.2.1 pc = .ok (.aload_n kk, 1)) (K : z_G E l Y cv res pc' lv (.ref x :: st) w k n) : z_G E l Y cv res pc lv st w k n := by
  subst hp
  exact fun z hz p e s m args below meth c H locs ls C => lv_aload_n C.1.1 C.1.2.1 hd hi (lv_at C.2.2.2.2.2.2.2 q hq) (K z hz p e s m args below meth c H locs ls C)
theorem r_aload {x : Nat} (i q : Nat) (hq : lv[q]? = some (i, .ref x)) (pc' : Nat) (hp : pc + 2 = pc') (hd : decode Y.2.1 pc = .ok (.aload i, 2)) (K : z_G E l Y cv res pc' lv (.ref x :: st) w k n) : z_G E l Y cv res pc lv st w k n := by
  subst hp
  exact fun z hz p e s m args below meth c H locs ls C => lv_aload C.1.1 C.1.2.1 hd (lv_at C.2.2.2.2.2.2.2 q hq) (K z hz p e s m args below meth c H locs ls C)
theorem z_C.ls {p : Program} {s : State} {m : MethodId} {args : Array Value} {meth : Method} {c : Code} {lv' : List (Nat × Value)} {H : Heap} {locs : List Loc} {ls ls' : Array Slot} (C : z_C E Y p s m args meth c lv w H locs ls k) (h : lv_has ls' Y.2.2.1 lv') : z_C E Y p s m args meth c lv' w H locs ls' k := ⟨C.1, C.2.1, C.2.2.1, C.2.2.2.1, C.2.2.2.2.1, C.2.2.2.2.2.1, C.2.2.2.2.2.2.1, h⟩
theorem r_istore_n {kk : Fin 4} {x : Int32} (i : Nat) (hi : (kk : Nat) = i) (lv' : List (Nat × Value)) (hn : i < Y.2.2.1) (hl : (i, Value.int x) :: lv.filter (fun q => !(q.1 == i) && !(q.1 + 1 == i && q.2.category == 2)) = lv') (pc' : Nat) (hp : pc + 1 = pc') (hd : decode Y.2.1 pc = .ok (.istore_n kk, 1)) (K : z_G E l Y cv res pc' lv' st w k n) : z_G E l Y cv res pc lv (.int x :: st) w k n := by
  subst hp
  exact fun z hz p e s m args below meth c H locs ls C => lv_istore_n C.1.1 C.1.2.1 hd hi C.2.2.2.2.2.2.2 hn hl (fun ls9 h9 => K z hz p e s m args below meth c H locs ls9 (C.ls h9))
theorem r_istore  {x : Int32} (i : Nat)  (lv' : List (Nat × Value)) (hn : i < Y.2.2.1) (hl : (i, Value.int x) :: lv.filter (fun q => !(q.1 == i) && !(q.1 + 1 == i && q.2.category == 2)) = lv') (pc' : Nat) (hp : pc + 2 = pc') (hd : decode Y.2.1 pc = .ok (.istore i, 2)) (K : z_G E l Y cv res pc' lv' st w k n) : z_G E l Y cv res pc lv (.int x :: st) w k n := by
  subst hp
  exact fun z hz p e s m args below meth c H locs ls C => lv_istore C.1.1 C.1.2.1 hd  C.2.2.2.2.2.2.2 hn hl (fun ls9 h9 => K z hz p e s m args below meth c H locs ls9 (C.ls h9))
theorem r_astore_n {kk : Fin 4} {x : Nat} (i : Nat) (hi : (kk : Nat) = i) (lv' : List (Nat × Value)) (hn : i < Y.2.2.1) (hl : (i, Value.ref x) :: lv.filter (fun q => !(q.1 == i) && !(q.1 + 1 == i && q.2.category == 2)) = lv') (pc' : Nat) (hp : pc + 1 = pc') (hd : decode Y.2.1 pc = .ok (.astore_n kk, 1)) (K : z_G E l Y cv res pc' lv' st w k n) : z_G E l Y cv res pc lv (.ref x :: st) w k n := by
  subst hp
  exact fun z hz p e s m args below meth c H locs ls C => lv_astore_n C.1.1 C.1.2.1 hd hi C.2.2.2.2.2.2.2 hn hl (fun ls9 h9 => K z hz p e s m args below meth c H locs ls9 (C.ls h9))
theorem r_astore  {x : Nat} (i : Nat)  (lv' : List (Nat × Value)) (hn : i < Y.2.2.1) (hl : (i, Value.ref x) :: lv.filter (fun q => !(q.1 == i) && !(q.1 + 1 == i && q.2.category == 2)) = lv') (pc' : Nat) (hp : pc + 2 = pc') (hd : decode Y.2.1 pc = .ok (.astore i, 2)) (K : z_G E l Y cv res pc' lv' st w k n) : z_G E l Y cv res pc lv (.ref x :: st) w k n := by
  subst hp
  exact fun z hz p e s m args below meth c H locs ls C => lv_astore C.1.1 C.1.2.1 hd  C.2.2.2.2.2.2.2 hn hl (fun ls9 h9 => K z hz p e s m args below meth c H locs ls9 (C.ls h9))
theorem r_iinc {i : Nat} {j : Int} {x : Int32} (v : Int32) (q : Nat) (hq : lv[q]? = some (i, .int x)) (hv : x + Int32.ofInt j = v) (lv' : List (Nat × Value)) (hn : i < Y.2.2.1) (hl : (i, Value.int v) :: lv.filter (fun q => !(q.1 == i) && !(q.1 + 1 == i && q.2.category == 2)) = lv') (pc' : Nat) (hp : pc + 3 = pc') (hd : decode Y.2.1 pc = .ok (.iinc i j, 3)) (K : z_G E l Y cv res pc' lv' st w k n) : z_G E l Y cv res pc lv st w k n := by
  subst hp
  exact fun z hz p e s m args below meth c H locs ls C => lv_iinc C.1.1 C.1.2.1 hd C.2.2.2.2.2.2.2 hq hv hn hl (fun ls9 h9 => K z hz p e s m args below meth c H locs ls9 (C.ls h9))
def z_nam {α β : Type} (x : β) (K : β → Option α) : Option α := K x
theorem r_nam {β : Type} {x : β} {KB : β → Option α} {f : β → List (Nat × Value)} {g : β → List Value} (K : ∀ v, z_G E l Y cv (KB v) pc (f v) (g v) w k n) : z_G E l Y cv (z_nam x KB) pc (f x) (g x) w k n := K x
theorem r_nami {x : Int32} {KB : Int32 → Option α} (K : ∀ v, z_G E l Y cv (KB v) pc lv (.int v :: st) w k n) : z_G E l Y cv (z_nam x KB) pc lv (.int x :: st) w k n := K x
theorem r_naml {x : Int64} {KB : Int64 → Option α} (K : ∀ v, z_G E l Y cv (KB v) pc lv (.long v :: st) w k n) : z_G E l Y cv (z_nam x KB) pc lv (.long x :: st) w k n := K x
theorem r_sub {lv' : List (Nat × Value)} (ks : List Nat) (hl : lv_pick lv ks = lv') (K : z_G E l Y cv res pc lv' st w k n) : z_G E l Y cv res pc lv st w k n := fun z hz p e s m args below meth c H locs ls C => K z hz p e s m args below meth c H locs ls (C.ls (lv_sub C.2.2.2.2.2.2.2 ks hl))
theorem r_eq {res' : Option α} (h : res = res') (K : z_G E l Y cv res' pc lv st w k n) : z_G E l Y cv res pc lv st w k n := h ▸ K
theorem r_none : z_G E l Y cv none pc lv st w k n := fun z hz => by cases hz
theorem r_if_eq {x : Int32} {off : Int} {A B : Option α} (tgt pc' : Nat) (ht : (pc : Int) + off = (tgt : Int)) (hp : pc + 3 = pc') (hd : decode Y.2.1 pc = .ok (.ifCond .eq off, 3)) (KA : z_G E l Y cv A tgt lv st w k n) (KB : z_G E l Y cv B pc' lv st w k n) : z_G E l Y cv (if x = 0 then A else B) pc lv (.int x :: st) w k n := by
  subst hp
  intro z hz p e s m args below meth c H locs ls C
  exact lv_if_eq C.1.1 C.1.2.1 hd ht (fun hc => KA z (by rw [if_pos hc] at hz; exact hz) p e s m args below meth c H locs ls C) (fun hc => KB z (by rw [if_neg hc] at hz; exact hz) p e s m args below meth c H locs ls C)
theorem r_if_ne {x : Int32} {off : Int} {A B : Option α} (tgt pc' : Nat) (ht : (pc : Int) + off = (tgt : Int)) (hp : pc + 3 = pc') (hd : decode Y.2.1 pc = .ok (.ifCond .ne off, 3)) (KA : z_G E l Y cv A tgt lv st w k n) (KB : z_G E l Y cv B pc' lv st w k n) : z_G E l Y cv (if x = 0 then B else A) pc lv (.int x :: st) w k n := by
  subst hp
  intro z hz p e s m args below meth c H locs ls C
  exact lv_if_ne C.1.1 C.1.2.1 hd ht (fun hc => KA z (by rw [if_neg hc] at hz; exact hz) p e s m args below meth c H locs ls C) (fun hc => KB z (by rw [if_pos hc] at hz; exact hz) p e s m args below meth c H locs ls C)
theorem r_if_lt {x : Int32} {off : Int} {A B : Option α} (tgt pc' : Nat) (ht : (pc : Int) + off = (tgt : Int)) (hp : pc + 3 = pc') (hd : decode Y.2.1 pc = .ok (.ifCond .lt off, 3)) (KA : z_G E l Y cv A tgt lv st w k n) (KB : z_G E l Y cv B pc' lv st w k n) : z_G E l Y cv (if x < 0 then A else B) pc lv (.int x :: st) w k n := by
  subst hp
  intro z hz p e s m args below meth c H locs ls C
  exact lv_if_lt C.1.1 C.1.2.1 hd ht (fun hc => KA z (by rw [if_pos hc] at hz; exact hz) p e s m args below meth c H locs ls C) (fun hc => KB z (by rw [if_neg hc] at hz; exact hz) p e s m args below meth c H locs ls C)
theorem r_if_ge {x : Int32} {off : Int} {A B : Option α} (tgt pc' : Nat) (ht : (pc : Int) + off = (tgt : Int)) (hp : pc + 3 = pc') (hd : decode Y.2.1 pc = .ok (.ifCond .ge off, 3)) (KA : z_G E l Y cv A tgt lv st w k n) (KB : z_G E l Y cv B pc' lv st w k n) : z_G E l Y cv (if 0 ≤ x then A else B) pc lv (.int x :: st) w k n := by
  subst hp
  intro z hz p e s m args below meth c H locs ls C
  exact lv_if_ge C.1.1 C.1.2.1 hd ht (fun hc => KA z (by rw [if_pos hc] at hz; exact hz) p e s m args below meth c H locs ls C) (fun hc => KB z (by rw [if_neg hc] at hz; exact hz) p e s m args below meth c H locs ls C)
theorem r_if_gt {x : Int32} {off : Int} {A B : Option α} (tgt pc' : Nat) (ht : (pc : Int) + off = (tgt : Int)) (hp : pc + 3 = pc') (hd : decode Y.2.1 pc = .ok (.ifCond .gt off, 3)) (KA : z_G E l Y cv A tgt lv st w k n) (KB : z_G E l Y cv B pc' lv st w k n) : z_G E l Y cv (if 0 < x then A else B) pc lv (.int x :: st) w k n := by
  subst hp
  intro z hz p e s m args below meth c H locs ls C
  exact lv_if_gt C.1.1 C.1.2.1 hd ht (fun hc => KA z (by rw [if_pos hc] at hz; exact hz) p e s m args below meth c H locs ls C) (fun hc => KB z (by rw [if_neg hc] at hz; exact hz) p e s m args below meth c H locs ls C)
theorem r_if_le {x : Int32} {off : Int} {A B : Option α} (tgt pc' : Nat) (ht : (pc : Int) + off = (tgt : Int)) (hp : pc + 3 = pc') (hd : decode Y.2.1 pc = .ok (.ifCond .le off, 3)) (KA : z_G E l Y cv A tgt lv st w k n) (KB : z_G E l Y cv B pc' lv st w k n) : z_G E l Y cv (if x ≤ 0 then A else B) pc lv (.int x :: st) w k n := by
  subst hp
  intro z hz p e s m args below meth c H locs ls C
  exact lv_if_le C.1.1 C.1.2.1 hd ht (fun hc => KA z (by rw [if_pos hc] at hz; exact hz) p e s m args below meth c H locs ls C) (fun hc => KB z (by rw [if_neg hc] at hz; exact hz) p e s m args below meth c H locs ls C)
theorem r_icmp_eq {x y : Int32} {off : Int} {A B : Option α} (tgt pc' : Nat) (ht : (pc : Int) + off = (tgt : Int)) (hp : pc + 3 = pc') (hd : decode Y.2.1 pc = .ok (.if_icmp .eq off, 3)) (KA : z_G E l Y cv A tgt lv st w k n) (KB : z_G E l Y cv B pc' lv st w k n) : z_G E l Y cv (if x = y then A else B) pc lv (.int y :: .int x :: st) w k n := by
  subst hp
  intro z hz p e s m args below meth c H locs ls C
  exact lv_icmp_eq C.1.1 C.1.2.1 hd ht (fun hc => KA z (by rw [if_pos hc] at hz; exact hz) p e s m args below meth c H locs ls C) (fun hc => KB z (by rw [if_neg hc] at hz; exact hz) p e s m args below meth c H locs ls C)
theorem r_icmp_ne {x y : Int32} {off : Int} {A B : Option α} (tgt pc' : Nat) (ht : (pc : Int) + off = (tgt : Int)) (hp : pc + 3 = pc') (hd : decode Y.2.1 pc = .ok (.if_icmp .ne off, 3)) (KA : z_G E l Y cv A tgt lv st w k n) (KB : z_G E l Y cv B pc' lv st w k n) : z_G E l Y cv (if x = y then B else A) pc lv (.int y :: .int x :: st) w k n := by
  subst hp
  intro z hz p e s m args below meth c H locs ls C
  exact lv_icmp_ne C.1.1 C.1.2.1 hd ht (fun hc => KA z (by rw [if_neg hc] at hz; exact hz) p e s m args below meth c H locs ls C) (fun hc => KB z (by rw [if_pos hc] at hz; exact hz) p e s m args below meth c H locs ls C)
theorem r_icmp_lt {x y : Int32} {off : Int} {A B : Option α} (tgt pc' : Nat) (ht : (pc : Int) + off = (tgt : Int)) (hp : pc + 3 = pc') (hd : decode Y.2.1 pc = .ok (.if_icmp .lt off, 3)) (KA : z_G E l Y cv A tgt lv st w k n) (KB : z_G E l Y cv B pc' lv st w k n) : z_G E l Y cv (if x < y then A else B) pc lv (.int y :: .int x :: st) w k n := by
  subst hp
  intro z hz p e s m args below meth c H locs ls C
  exact lv_icmp_lt C.1.1 C.1.2.1 hd ht (fun hc => KA z (by rw [if_pos hc] at hz; exact hz) p e s m args below meth c H locs ls C) (fun hc => KB z (by rw [if_neg hc] at hz; exact hz) p e s m args below meth c H locs ls C)
theorem r_icmp_ge {x y : Int32} {off : Int} {A B : Option α} (tgt pc' : Nat) (ht : (pc : Int) + off = (tgt : Int)) (hp : pc + 3 = pc') (hd : decode Y.2.1 pc = .ok (.if_icmp .ge off, 3)) (KA : z_G E l Y cv A tgt lv st w k n) (KB : z_G E l Y cv B pc' lv st w k n) : z_G E l Y cv (if y ≤ x then A else B) pc lv (.int y :: .int x :: st) w k n := by
  subst hp
  intro z hz p e s m args below meth c H locs ls C
  exact lv_icmp_ge C.1.1 C.1.2.1 hd ht (fun hc => KA z (by rw [if_pos hc] at hz; exact hz) p e s m args below meth c H locs ls C) (fun hc => KB z (by rw [if_neg hc] at hz; exact hz) p e s m args below meth c H locs ls C)
theorem r_icmp_gt {x y : Int32} {off : Int} {A B : Option α} (tgt pc' : Nat) (ht : (pc : Int) + off = (tgt : Int)) (hp : pc + 3 = pc') (hd : decode Y.2.1 pc = .ok (.if_icmp .gt off, 3)) (KA : z_G E l Y cv A tgt lv st w k n) (KB : z_G E l Y cv B pc' lv st w k n) : z_G E l Y cv (if y < x then A else B) pc lv (.int y :: .int x :: st) w k n := by
  subst hp
  intro z hz p e s m args below meth c H locs ls C
  exact lv_icmp_gt C.1.1 C.1.2.1 hd ht (fun hc => KA z (by rw [if_pos hc] at hz; exact hz) p e s m args below meth c H locs ls C) (fun hc => KB z (by rw [if_neg hc] at hz; exact hz) p e s m args below meth c H locs ls C)
theorem r_icmp_le {x y : Int32} {off : Int} {A B : Option α} (tgt pc' : Nat) (ht : (pc : Int) + off = (tgt : Int)) (hp : pc + 3 = pc') (hd : decode Y.2.1 pc = .ok (.if_icmp .le off, 3)) (KA : z_G E l Y cv A tgt lv st w k n) (KB : z_G E l Y cv B pc' lv st w k n) : z_G E l Y cv (if x ≤ y then A else B) pc lv (.int y :: .int x :: st) w k n := by
  subst hp
  intro z hz p e s m args below meth c H locs ls C
  exact lv_icmp_le C.1.1 C.1.2.1 hd ht (fun hc => KA z (by rw [if_pos hc] at hz; exact hz) p e s m args below meth c H locs ls C) (fun hc => KB z (by rw [if_neg hc] at hz; exact hz) p e s m args below meth c H locs ls C)
theorem r_goto {off : Int} (tgt : Nat) (ht : (pc : Int) + off = (tgt : Int)) (hd : decode Y.2.1 pc = .ok (.goto off, 3)) (K : z_G E l Y cv res tgt lv st w k n) : z_G E l Y cv res pc lv st w k n := by
  exact fun z hz p e s m args below meth c H locs ls C => lv_goto C.1.1 C.1.2.1 hd ht (K z hz p e s m args below meth c H locs ls C)
theorem z_ret {p : Program} {s : State} {m : MethodId} {args : Array Value} {meth : Method} {c : Code} {H : Heap} {locs : List Loc} {ls : Array Slot} (r : Option Value) (C : z_C E Y p s m args meth c lv w H locs ls k) : ∀ t : State, t.heap = H → s.WarmedH t.vm → z_Q E r w args s (.returned r) t := fun t ht _ => ⟨⟨rfl, by rw [ht]; exact C.2.2.2.2.2.1⟩, C.2.2.2.2.2.2.1.F ht⟩
theorem z_retL {p : Program} {s : State} {m : MethodId} {args : Array Value} {meth : Method} {c : Code} {H : Heap} {locs : List Loc} {ls : Array Slot} (C : z_C E Y p s m args meth c lv w H locs ls k) : ∀ q ∈ locs, z_A E q.base := C.2.2.2.2.2.2.1.2.2
theorem r_ireturn {x : α} {v : Int32} (hx : cv x = (some (.int v), w)) (hr : Y.2.2.2.2.1 = some .int) (hk : k ≤ Y.2.2.2.2.2.2.1) (hn : n ≤ Y.2.2.2.2.2.2.2) (hd : decode Y.2.1 pc = .ok (.ireturn, 1)) : z_G E l Y cv (some x) pc lv [.int v] w k n := by
  intro z hz p e s m args below meth c H locs ls C
  cases hz
  rw [hx]
  have hl := C.2.1.2
  exact W.widen hk hn (W.iret C.1.1 C.1.2.1 (C.2.1.1.trans hr) (z_ret _ C) (z_retL C) hd hl)
def z_bool {α : Type} (v : Int32) (r : Option α) : Option α := if v = 0 ∨ v = 1 then r else none
theorem z_b01 {v : Int32} (h : v = 0 ∨ v = 1) : narrow .boolean (.int v) = .int v ∧ fits .boolean (.int v) = true := by
  rcases h with h | h <;> subst h <;> exact ⟨rfl, rfl⟩
theorem r_zreturn {x : α} {v : Int32} (hx : cv x = (some (.int v), w)) (hr : Y.2.2.2.2.1 = some .boolean) (hk : k ≤ Y.2.2.2.2.2.2.1) (hn : n ≤ Y.2.2.2.2.2.2.2) (hd : decode Y.2.1 pc = .ok (.ireturn, 1)) : z_G E l Y cv (z_bool v (some x)) pc lv [.int v] w k n := by
  intro z hz p e s m args below meth c H locs ls C
  unfold z_bool at hz
  by_cases hb : v = 0 ∨ v = 1
  · rw [if_pos hb] at hz
    cases hz
    rw [hx]
    have hl := C.2.1.2
    exact W.widen hk hn (W.zret C.1.1 C.1.2.1 (C.2.1.1.trans hr) (z_b01 hb).1 (z_ret _ C) (z_retL C) hd hl)
  · rw [if_neg hb] at hz; cases hz
theorem r_zreturnc {x : α} {v : Int32} (hb : v = 0 ∨ v = 1) (hx : cv x = (some (.int v), w)) (hr : Y.2.2.2.2.1 = some .boolean) (hk : k ≤ Y.2.2.2.2.2.2.1) (hn : n ≤ Y.2.2.2.2.2.2.2) (hd : decode Y.2.1 pc = .ok (.ireturn, 1)) : z_G E l Y cv (some x) pc lv [.int v] w k n := by
  have h := r_zreturn (E := E) (l := l) (lv := lv) hx hr hk hn hd
  unfold z_bool at h
  rw [if_pos hb] at h
  exact h
theorem r_lreturn {x : α} {v : Int64} (hx : cv x = (some (.long v), w)) (hr : Y.2.2.2.2.1 = some .long) (hk : k ≤ Y.2.2.2.2.2.2.1) (hn : n ≤ Y.2.2.2.2.2.2.2) (hd : decode Y.2.1 pc = .ok (.lreturn, 1)) : z_G E l Y cv (some x) pc lv [.long v] w k n := by
  intro z hz p e s m args below meth c H locs ls C
  cases hz
  rw [hx]
  have hl := C.2.1.2
  exact W.widen hk hn (W.lret C.1.1 C.1.2.1 (C.2.1.1.trans hr) (z_ret _ C) (z_retL C) hd hl)
theorem r_return {x : α} (hx : cv x = (none, w)) (hr : Y.2.2.2.2.1 = none) (hk : k ≤ Y.2.2.2.2.2.2.1) (hn : n ≤ Y.2.2.2.2.2.2.2) (hd : decode Y.2.1 pc = .ok (.return_, 1)) : z_G E l Y cv (some x) pc lv [] w k n := by
  intro z hz p e s m args below meth c H locs ls C
  cases hz
  rw [hx]
  have hl := C.2.1.2
  exact W.widen hk hn (W.vret C.1.1 C.1.2.1 (C.2.1.1.trans hr) (z_ret _ C) (z_retL C) hd hl)
end
/-! the heap -/
def z_at (S : z_S) (a : Nat) (kd : z_K) : Prop := a < S.1 ∧ S.2.1 a = kd
theorem z_Str {A : Nat → Prop} {H0 H H1 : Heap} {locs locs1 : List Loc} (h : va_S A H0 H locs) (h1 : va_S A H H1 locs1) : va_S A H0 H1 locs1 := ⟨Nat.le_trans h.1 h1.1, fun q a b => (h1.2.1 q (Nat.lt_of_lt_of_le a h.1) b).trans (h.2.1 q a b), h1.2.2⟩
section
variable {α : Type} {E : z_E} {l : Launch} {Y : z_Y} {cv : α → Option Value × z_W} {res : Option α} {pc : Nat} {lv : List (Nat × Value)} {st : List Value} {w : z_W} {S : z_S} {d : z_D} {k n : Nat}
theorem z_own {p : Program} {s : State} {m : MethodId} {args : Array Value} {meth : Method} {c : Code} {H : Heap} {locs : List Loc} {ls : Array Slot} (C : z_C E Y p s m args meth c lv w H locs ls k) : va_S (z_A E) H H locs := ⟨Nat.le_refl _, fun _ _ _ => rfl, C.2.2.2.2.2.2.1.2.2⟩
theorem z_mv {p : Program} {e : Env} {R : Room} {s : State} {m : MethodId} {args : Array Value} {below : List Frame} {meth : Method} {c : Code} {H H1 : Heap} {locs locs1 : List Loc} {ls : Array Slot} {Q : State → Prop} {g : JFrame} {w' : z_W} (C : z_C E Y p s m args meth c lv w H locs ls k) (hn : w'.1.1 = w.1.1) (hP : va_P E.1 vwCl (z_ws E w') H1) (hS : va_S (z_A E) H H1 locs1)
    (K : z_C E Y p s m args meth c lv w' H1 locs1 ls k → W p l e R s m args below meth c H1 locs1 k n Q g) : W p l e R s m args below meth c H1 locs1 k n Q g := by
  intro T hT X
  have hz := X.heapSize
  rw [hT] at hz
  obtain ⟨c1, c2, c3, c4, ⟨c5, c6⟩, c7, c8, c9⟩ := C
  have hz2 := hS.1
  have hz3 := c7.2
  refine K ⟨c1, c2, c3, c4, ⟨c5, by rw [hn]; exact c6⟩, ⟨hP, by rw [hn]; omega⟩, z_Str c8 hS, c9⟩ T hT X
theorem z_fvset {b ci N kf : Nat} {rf : Nat → Option Nat} {da : Nat → Int32} {x : Int32} (hr : z_ref ci kf = false) : ((List.range N).map (z_fv b ci rf da)).set kf (.int x) = (List.range N).map (z_fv b ci rf (fun j => if j = kf then x else da j)) := by
  apply List.ext_getElem?
  intro i
  by_cases hi : i = kf
  · subst hi
    by_cases hN : i < N
    · rw [List.getElem?_set_self (by simpa using hN), List.getElem?_map, List.getElem?_range hN]
      simp [z_fv, hr]
    · rw [List.getElem?_eq_none (by simp; omega), List.getElem?_eq_none (by simp; omega)]
  · rw [List.getElem?_set_ne (Ne.symm hi), List.getElem?_map, List.getElem?_map]
    cases h : (List.range N)[i]? with
    | none => rfl
    | some j =>
      have hj : j = i := by
        have h1 := (List.getElem?_eq_some_iff.mp h)
        obtain ⟨h2, h3⟩ := h1
        rw [List.getElem_range] at h3
        exact h3.symm
      subst hj
      simp [z_fv, hi]
theorem r_get {a : Nat} {kd : z_K} {ci N : Nat} {C9 : String} {T : u_T} {idx : Nat} (ha : z_at S a kd) (hci : kd.1 = ci) (h8 : ci < 8) (hN : kd.2.1 = N) (hc : vwCl[ci]? = some (C9, T, N)) (hin : ∀ w ∈ u_ws C9 T N, w ∈ Y.2.2.2.1) (kf : Nat) (hkf : kf < N) (hT : (T kf).1 = C9) (hlink : Cond.fieldLink Y.1 idx C9 (T kf).2.1 (T kf).2.2.1 ∈ Y.2.2.2.1) (v : Value) (hv : z_fv E.2.1 ci kd.2.2 (d a) kf = v) (pc' : Nat) (hp : pc + 3 = pc') (hd : decode Y.2.1 pc = .ok (.getfield idx, 3)) (K : z_G E l Y cv res pc' lv (v :: st) (S, d) k n) : z_G E l Y cv res pc lv (.ref (E.2.1 + a) :: st) (S, d) k n := by
  subst hp
  subst hci
  subst hN
  intro z hz p e s m args below meth c H locs ls C
  obtain ⟨q, hq⟩ := z_get E (S, d) ha.1 ha.2 (by omega)
  rw [z_cell, if_pos h8] at hq
  exact va_get C.1.1 C.1.2.1 C.1.2.2.2.2 hin C.1.2.2.2.1 C.2.2.1 C.2.2.2.2.2.1.1 q hq hc kf hkf (C.1.2.2.2.2 _ hlink) (by rw [hT]; exact fun _ h9 => h9) (by rw [List.getElem?_map, List.getElem?_range hkf]; exact congrArg some hv) hd (K z hz p e s m args below meth c H locs ls C)
theorem r_getN {kf : Nat} {a : Nat} {kd : z_K} {ci N : Nat} {C9 : String} {T : u_T} {idx : Nat} (j : Nat) (hj : z_nf[j]? = some (Y.1, idx, C9, (T kf).2.1, (T kf).2.2.1)) (ha : z_at S a kd) (hci : kd.1 = ci) (h8 : ci < 8) (hN : kd.2.1 = N) (hc : vwCl[ci]? = some (C9, T, N)) (hin : ∀ w ∈ u_ws C9 T N, w ∈ Y.2.2.2.1) (hkf : kf < N) (hT : (T kf).1 = C9) (v : Value) (hv : z_fv E.2.1 ci kd.2.2 (d a) kf = v) (pc' : Nat) (hp : pc + 3 = pc') (hd : decode Y.2.1 pc = .ok (.getfield idx, 3)) (K : z_G E l Y cv res pc' lv (v :: st) (S, d) k n) : z_G E l Y cv res pc lv (.ref (E.2.1 + a) :: st) (S, d) k n := by
  subst hp
  subst hci
  subst hN
  intro z hz p e s m args below meth c H locs ls C
  obtain ⟨q, hq⟩ := z_get E (S, d) ha.1 ha.2 (by omega)
  rw [z_cell, if_pos h8] at hq
  exact va_getN C.1.1 C.1.2.1 C.1.2.2.2.2 hin C.1.2.2.2.1 C.2.2.1 C.2.2.2.2.2.1.1 q hq hc kf hkf ((C.2.2.2.1.2.2.2.2.2.1 j _ hj).use rfl) (by rw [hT]; exact fun _ h9 => h9) (by rw [List.getElem?_map, List.getElem?_range hkf]; exact congrArg some hv) hd (K z hz p e s m args below meth c H locs ls C)
def z_put {α : Type} (d : z_D) (a i : Nat) (x : Int32) (K : z_D → Option α) : Option α := K (z_up d a i x)
def z_putz {α : Type} (d : z_D) (a i : Nat) (x : Int32) (K : z_D → Option α) : Option α := if x = 0 ∨ x = 1 then K (z_up d a i x) else none
theorem r_put {a : Nat} {kd : z_K} {ci N : Nat} {C9 : String} {T : u_T} {idx : Nat} {x : Int32} {ty : FieldType} {KB : z_D → Option α} (ha : z_at S a kd) (hci : kd.1 = ci) (h8 : ci < 8) (hN : kd.2.1 = N) (hc : vwCl[ci]? = some (C9, T, N)) (hin : ∀ w ∈ u_ws C9 T N, w ∈ Y.2.2.2.1) (ty0 : Nat → FieldType) (hty : ∀ k, k < N → parseFieldDescriptor (T k).2.2.1 = some (ty0 k)) (hnm : ∀ a, a < N → ∀ b, b < N → a ≠ b → (T a).2.1 ≠ (T b).2.1) (kf : Nat) (hkf : kf < N) (hT : (T kf).1 = C9) (hlink : Cond.fieldLink Y.1 idx C9 (T kf).2.1 (T kf).2.2.1 ∈ Y.2.2.2.1) (hfin : (T kf).2.2.2 = false) (hr : z_ref ci kf = false) (hpd : parseFieldDescriptor (T kf).2.2.1 = some ty) (hnar : narrow ty (.int x) = .int x) (hfit : fits ty (.int x) = true) (pc' : Nat) (hp : pc + 3 = pc') (hd : decode Y.2.1 pc = .ok (.putfield idx, 3)) (K : ∀ d', z_G E l Y cv (KB d') pc' lv st (S, d') k n) : z_G E l Y cv (z_put d a kf x KB) pc lv (.int x :: .ref (E.2.1 + a) :: st) (S, d) k n := by
  subst hp
  subst hci
  subst hN
  intro z hz p e s m args below meth c H locs ls C
  obtain ⟨q, hq⟩ := z_get E (S, d) ha.1 ha.2 (by omega)
  have hq0 := hq
  rw [z_cell, if_pos h8] at hq
  refine va_put C.1.1 C.1.2.1 C.1.2.2.2.2 hin ty0 hty hnm C.1.2.2.2.1 C.2.2.1 C.2.2.2.2.2.1.1 (z_dd E (S, d)) (z_own C) q hq hc kf hkf (C.1.2.2.2.2 _ hlink) (by rw [hT]; exact fun _ h9 => h9) hfin hpd hnar hfit (by simpa using hkf) hd (fun H1 locs1 hP1 _ hS1 => ?_)
  rw [z_fvset hr] at hP1
  have hs := z_set E S d (a := a) (i := kf) x ha.1 ha.2 (by omega) hq0
  rw [z_cell, if_pos h8] at hs
  rw [hs] at hP1
  exact z_mv C (w' := (S, z_up d a kf x)) rfl hP1 hS1 (fun C1 => K _ z hz p e s m args below meth c H1 locs1 ls C1)
theorem r_putz {a : Nat} {kd : z_K} {ci N : Nat} {C9 : String} {T : u_T} {idx : Nat} {x : Int32} {ty : FieldType} {KB : z_D → Option α} (ha : z_at S a kd) (hci : kd.1 = ci) (h8 : ci < 8) (hN : kd.2.1 = N) (hc : vwCl[ci]? = some (C9, T, N)) (hin : ∀ w ∈ u_ws C9 T N, w ∈ Y.2.2.2.1) (ty0 : Nat → FieldType) (hty : ∀ k, k < N → parseFieldDescriptor (T k).2.2.1 = some (ty0 k)) (hnm : ∀ a, a < N → ∀ b, b < N → a ≠ b → (T a).2.1 ≠ (T b).2.1) (kf : Nat) (hkf : kf < N) (hT : (T kf).1 = C9) (hlink : Cond.fieldLink Y.1 idx C9 (T kf).2.1 (T kf).2.2.1 ∈ Y.2.2.2.1) (hfin : (T kf).2.2.2 = false) (hr : z_ref ci kf = false) (hpd : parseFieldDescriptor (T kf).2.2.1 = some .boolean) (pc' : Nat) (hp : pc + 3 = pc') (hd : decode Y.2.1 pc = .ok (.putfield idx, 3)) (K : ∀ d', z_G E l Y cv (KB d') pc' lv st (S, d') k n) : z_G E l Y cv (z_putz d a kf x KB) pc lv (.int x :: .ref (E.2.1 + a) :: st) (S, d) k n := by
  by_cases hb : x = 0 ∨ x = 1
  · have h9 := r_put (E := E) (l := l) (cv := cv) (lv := lv) (st := st) (k := k) (n := n) (d := d) (KB := KB) (x := x) ha hci h8 hN hc hin ty0 hty hnm kf hkf hT hlink hfin hr hpd (z_b01 hb).1 (z_b01 hb).2 pc' hp hd K
    have e9 : z_putz d a kf x KB = z_put d a kf x KB := if_pos hb
    rw [e9]
    exact h9
  · have e9 : z_putz d a kf x KB = none := if_neg hb
    rw [e9]
    exact r_none
theorem r_putN {a : Nat} {kd : z_K} {ci N : Nat} {C9 : String} {T : u_T} {idx : Nat} {x : Int32} {ty : FieldType} {KB : z_D → Option α} {kf : Nat} (j : Nat) (hj : z_nf[j]? = some (Y.1, idx, C9, (T kf).2.1, (T kf).2.2.1)) (ha : z_at S a kd) (hci : kd.1 = ci) (h8 : ci < 8) (hN : kd.2.1 = N) (hc : vwCl[ci]? = some (C9, T, N)) (hin : ∀ w ∈ u_ws C9 T N, w ∈ Y.2.2.2.1) (ty0 : Nat → FieldType) (hty : ∀ k, k < N → parseFieldDescriptor (T k).2.2.1 = some (ty0 k)) (hnm : ∀ a, a < N → ∀ b, b < N → a ≠ b → (T a).2.1 ≠ (T b).2.1) (hkf : kf < N) (hT : (T kf).1 = C9) (hfin : (T kf).2.2.2 = false) (hr : z_ref ci kf = false) (hpd : parseFieldDescriptor (T kf).2.2.1 = some ty) (hnar : narrow ty (.int x) = .int x) (hfit : fits ty (.int x) = true) (pc' : Nat) (hp : pc + 3 = pc') (hd : decode Y.2.1 pc = .ok (.putfield idx, 3)) (K : ∀ d', z_G E l Y cv (KB d') pc' lv st (S, d') k n) : z_G E l Y cv (z_put d a kf x KB) pc lv (.int x :: .ref (E.2.1 + a) :: st) (S, d) k n := by
  subst hp
  subst hci
  subst hN
  intro z hz p e s m args below meth c H locs ls C
  obtain ⟨q, hq⟩ := z_get E (S, d) ha.1 ha.2 (by omega)
  have hq0 := hq
  rw [z_cell, if_pos h8] at hq
  refine va_putN C.1.1 C.1.2.1 C.1.2.2.2.2 hin ty0 hty hnm C.1.2.2.2.1 C.2.2.1 C.2.2.2.2.2.1.1 (z_dd E (S, d)) (z_own C) q hq hc kf hkf ((C.2.2.2.1.2.2.2.2.2.1 j _ hj).use rfl) (by rw [hT]; exact fun _ h9 => h9) hfin hpd hnar hfit (by simpa using hkf) hd (fun H1 locs1 hP1 _ hS1 => ?_)
  rw [z_fvset hr] at hP1
  have hs := z_set E S d (a := a) (i := kf) x ha.1 ha.2 (by omega) hq0
  rw [z_cell, if_pos h8] at hs
  rw [hs] at hP1
  exact z_mv C (w' := (S, z_up d a kf x)) rfl hP1 hS1 (fun C1 => K _ z hz p e s m args below meth c H1 locs1 ls C1)
theorem r_putNz {a : Nat} {kd : z_K} {ci N : Nat} {C9 : String} {T : u_T} {idx : Nat} {x : Int32} {ty : FieldType} {KB : z_D → Option α} {kf : Nat} (j : Nat) (hj : z_nf[j]? = some (Y.1, idx, C9, (T kf).2.1, (T kf).2.2.1)) (ha : z_at S a kd) (hci : kd.1 = ci) (h8 : ci < 8) (hN : kd.2.1 = N) (hc : vwCl[ci]? = some (C9, T, N)) (hin : ∀ w ∈ u_ws C9 T N, w ∈ Y.2.2.2.1) (ty0 : Nat → FieldType) (hty : ∀ k, k < N → parseFieldDescriptor (T k).2.2.1 = some (ty0 k)) (hnm : ∀ a, a < N → ∀ b, b < N → a ≠ b → (T a).2.1 ≠ (T b).2.1) (hkf : kf < N) (hT : (T kf).1 = C9) (hfin : (T kf).2.2.2 = false) (hr : z_ref ci kf = false) (hpd : parseFieldDescriptor (T kf).2.2.1 = some .boolean) (pc' : Nat) (hp : pc + 3 = pc') (hd : decode Y.2.1 pc = .ok (.putfield idx, 3)) (K : ∀ d', z_G E l Y cv (KB d') pc' lv st (S, d') k n) : z_G E l Y cv (z_putz d a kf x KB) pc lv (.int x :: .ref (E.2.1 + a) :: st) (S, d) k n := by
  by_cases hb : x = 0 ∨ x = 1
  · have h9 := r_putN (E := E) (l := l) (cv := cv) (lv := lv) (st := st) (k := k) (n := n) (d := d) (KB := KB) (x := x) j hj ha hci h8 hN hc hin ty0 hty hnm hkf hT hfin hr hpd (z_b01 hb).1 (z_b01 hb).2 pc' hp hd K
    have e9 : z_putz d a kf x KB = z_put d a kf x KB := if_pos hb
    rw [e9]
    exact h9
  · have e9 : z_putz d a kf x KB = none := if_neg hb
    rw [e9]
    exact r_none
def z_ald {α : Type} (d : z_D) (a N : Nat) (i : Int32) (K : Int32 → Option α) : Option α := if i < 0 ∨ N ≤ i.toNatClampNeg then none else K (d a i.toNatClampNeg)
def z_ast {α : Type} (d : z_D) (a N : Nat) (i x : Int32) (K : z_D → Option α) : Option α := if i < 0 ∨ N ≤ i.toNatClampNeg then none else K (z_up d a i.toNatClampNeg x)
def z_aald {α : Type} (N : Nat) (i : Int32) (K : Nat → Option α) : Option α := if i < 0 ∨ N ≤ i.toNatClampNeg then none else K i.toNatClampNeg
def z_tab {α : Type} (L : List Int32) (i : Int32) (K : Int32 → Option α) : Option α := if i < 0 ∨ L.length ≤ i.toNatClampNeg then none else K (L.getD i.toNatClampNeg 0)
theorem r_iald {a N : Nat} {kd : z_K} {i : Int32} {KB : Int32 → Option α} (ha : z_at S a kd) (ht : kd.1 = 8) (hN : kd.2.1 = N) (pc' : Nat) (hp : pc + 1 = pc') (hd : decode Y.2.1 pc = .ok (.iaload, 1)) (K : ∀ v, z_G E l Y cv (KB v) pc' lv (.int v :: st) (S, d) k n) : z_G E l Y cv (z_ald d a N i KB) pc lv (.int i :: .ref (E.2.1 + a) :: st) (S, d) k n := by
  subst hp
  subst hN
  intro z hz p e s m args below meth c H locs ls C
  unfold z_ald at hz
  by_cases hi : i < 0 ∨ kd.2.1 ≤ i.toNatClampNeg
  · rw [if_pos hi] at hz; cases hz
  · rw [if_neg hi] at hz
    obtain ⟨q, hq⟩ := z_get E (S, d) ha.1 ha.2 (by omega)
    rw [z_cell, if_neg (by omega), if_pos (by omega), ht] at hq
    exact va_iald C.1.1 C.1.2.1 C.2.2.1 C.2.2.2.2.2.1.1 q 0 hq rfl hi hd (K _ z hz p e s m args below meth c H locs ls C)
theorem r_zald {a N : Nat} {kd : z_K} {i : Int32} {KB : Int32 → Option α} (ha : z_at S a kd) (ht : kd.1 = 9) (hN : kd.2.1 = N) (pc' : Nat) (hp : pc + 1 = pc') (hd : decode Y.2.1 pc = .ok (.baload, 1)) (K : ∀ v, z_G E l Y cv (KB v) pc' lv (.int v :: st) (S, d) k n) : z_G E l Y cv (z_ald d a N i KB) pc lv (.int i :: .ref (E.2.1 + a) :: st) (S, d) k n := by
  subst hp
  subst hN
  intro z hz p e s m args below meth c H locs ls C
  unfold z_ald at hz
  by_cases hi : i < 0 ∨ kd.2.1 ≤ i.toNatClampNeg
  · rw [if_pos hi] at hz; cases hz
  · rw [if_neg hi] at hz
    obtain ⟨q, hq⟩ := z_get E (S, d) ha.1 ha.2 (by omega)
    rw [z_cell, if_neg (by omega), if_pos (by omega), ht] at hq
    exact va_zald C.1.1 C.1.2.1 C.2.2.1 C.2.2.2.2.2.1.1 q 1 hq rfl hi hd (K _ z hz p e s m args below meth c H locs ls C)
theorem r_bald {a N : Nat} {kd : z_K} {i : Int32} {KB : Int32 → Option α} (ha : z_at S a kd) (ht : kd.1 = 10) (hN : kd.2.1 = N) (pc' : Nat) (hp : pc + 1 = pc') (hd : decode Y.2.1 pc = .ok (.baload, 1)) (K : ∀ v, z_G E l Y cv (KB v) pc' lv (.int v :: st) (S, d) k n) : z_G E l Y cv (z_ald d a N i KB) pc lv (.int i :: .ref (E.2.1 + a) :: st) (S, d) k n := by
  subst hp
  subst hN
  intro z hz p e s m args below meth c H locs ls C
  unfold z_ald at hz
  by_cases hi : i < 0 ∨ kd.2.1 ≤ i.toNatClampNeg
  · rw [if_pos hi] at hz; cases hz
  · rw [if_neg hi] at hz
    obtain ⟨q, hq⟩ := z_get E (S, d) ha.1 ha.2 (by omega)
    rw [z_cell, if_neg (by omega), if_pos (by omega), ht] at hq
    exact va_bald C.1.1 C.1.2.1 C.2.2.1 C.2.2.2.2.2.1.1 q 2 hq rfl hi hd (K _ z hz p e s m args below meth c H locs ls C)
theorem r_iast {a N : Nat} {kd : z_K} {i x : Int32} {KB : z_D → Option α} (ha : z_at S a kd) (ht : kd.1 = 8) (hN : kd.2.1 = N) (pc' : Nat) (hp : pc + 1 = pc') (hd : decode Y.2.1 pc = .ok (.iastore, 1)) (K : ∀ d', z_G E l Y cv (KB d') pc' lv st (S, d') k n) : z_G E l Y cv (z_ast d a N i x KB) pc lv (.int x :: .int i :: .ref (E.2.1 + a) :: st) (S, d) k n := by
  subst hp
  subst hN
  intro z hz p e s m args below meth c H locs ls C
  unfold z_ast at hz
  by_cases hi : i < 0 ∨ kd.2.1 ≤ i.toNatClampNeg
  · rw [if_pos hi] at hz; cases hz
  · rw [if_neg hi] at hz
    obtain ⟨q, hq⟩ := z_get E (S, d) ha.1 ha.2 (by omega)
    have hs := z_set E S d (a := a) (i := i.toNatClampNeg) x ha.1 ha.2 (by omega) hq
    rw [z_cell, if_neg (by omega), if_pos (by omega), ht] at hq hs
    refine va_iast C.1.1 C.1.2.1 C.2.2.1 C.2.2.2.2.2.1.1 (z_dd E (S, d)) (z_own C) q 0 hq rfl hi hd (fun H1 locs1 hP1 _ hS1 => ?_)
    have hP2 : va_P E.1 vwCl (z_ws E (S, z_up d a i.toNatClampNeg x)) H1 := by rw [← hs]; exact hP1
    exact z_mv C (w' := (S, z_up d a i.toNatClampNeg x)) rfl hP2 hS1 (fun C1 => K _ z hz p e s m args below meth c H1 locs1 ls C1)
theorem r_zast {a N : Nat} {kd : z_K} {i x : Int32} {KB : z_D → Option α} (ha : z_at S a kd) (ht : kd.1 = 9) (hN : kd.2.1 = N) (pc' : Nat) (hp : pc + 1 = pc') (hd : decode Y.2.1 pc = .ok (.bastore, 1)) (K : ∀ d', z_G E l Y cv (KB d') pc' lv st (S, d') k n) : z_G E l Y cv (z_ast d a N i (x &&& 1) KB) pc lv (.int x :: .int i :: .ref (E.2.1 + a) :: st) (S, d) k n := by
  subst hp
  subst hN
  intro z hz p e s m args below meth c H locs ls C
  unfold z_ast at hz
  by_cases hi : i < 0 ∨ kd.2.1 ≤ i.toNatClampNeg
  · rw [if_pos hi] at hz; cases hz
  · rw [if_neg hi] at hz
    obtain ⟨q, hq⟩ := z_get E (S, d) ha.1 ha.2 (by omega)
    have hs := z_set E S d (a := a) (i := i.toNatClampNeg) (x &&& 1) ha.1 ha.2 (by omega) hq
    rw [z_cell, if_neg (by omega), if_pos (by omega), ht] at hq hs
    refine va_zast C.1.1 C.1.2.1 C.2.2.1 C.2.2.2.2.2.1.1 (z_dd E (S, d)) (z_own C) q 1 hq rfl hi hd (fun H1 locs1 hP1 _ hS1 => ?_)
    have hP2 : va_P E.1 vwCl (z_ws E (S, z_up d a i.toNatClampNeg (x &&& 1))) H1 := by rw [← hs]; exact hP1
    exact z_mv C (w' := (S, z_up d a i.toNatClampNeg (x &&& 1))) rfl hP2 hS1 (fun C1 => K _ z hz p e s m args below meth c H1 locs1 ls C1)
theorem r_bast {a N : Nat} {kd : z_K} {i x : Int32} {KB : z_D → Option α} (ha : z_at S a kd) (ht : kd.1 = 10) (hN : kd.2.1 = N) (pc' : Nat) (hp : pc + 1 = pc') (hd : decode Y.2.1 pc = .ok (.bastore, 1)) (K : ∀ d', z_G E l Y cv (KB d') pc' lv st (S, d') k n) : z_G E l Y cv (z_ast d a N i x.toInt8.toInt32 KB) pc lv (.int x :: .int i :: .ref (E.2.1 + a) :: st) (S, d) k n := by
  subst hp
  subst hN
  intro z hz p e s m args below meth c H locs ls C
  unfold z_ast at hz
  by_cases hi : i < 0 ∨ kd.2.1 ≤ i.toNatClampNeg
  · rw [if_pos hi] at hz; cases hz
  · rw [if_neg hi] at hz
    obtain ⟨q, hq⟩ := z_get E (S, d) ha.1 ha.2 (by omega)
    have hs := z_set E S d (a := a) (i := i.toNatClampNeg) x.toInt8.toInt32 ha.1 ha.2 (by omega) hq
    rw [z_cell, if_neg (by omega), if_pos (by omega), ht] at hq hs
    refine va_bast C.1.1 C.1.2.1 C.2.2.1 C.2.2.2.2.2.1.1 (z_dd E (S, d)) (z_own C) q 2 hq rfl hi hd (fun H1 locs1 hP1 _ hS1 => ?_)
    have hP2 : va_P E.1 vwCl (z_ws E (S, z_up d a i.toNatClampNeg x.toInt8.toInt32)) H1 := by rw [← hs]; exact hP1
    exact z_mv C (w' := (S, z_up d a i.toNatClampNeg x.toInt8.toInt32)) rfl hP2 hS1 (fun C1 => K _ z hz p e s m args below meth c H1 locs1 ls C1)
theorem r_aald {a N : Nat} {kd : z_K} {i : Int32} {KB : Nat → Option α} {f : Nat → Nat} (ha : z_at S a kd) (ht : kd.1 = 12) (hN : kd.2.1 = N) (hf : ∀ j, j < N → kd.2.2 j = some (f j)) (pc' : Nat) (hp : pc + 1 = pc') (hd : decode Y.2.1 pc = .ok (.aaload, 1)) (K : ∀ j, j < N → z_G E l Y cv (KB j) pc' lv (.ref (E.2.1 + f j) :: st) (S, d) k n) : z_G E l Y cv (z_aald N i KB) pc lv (.int i :: .ref (E.2.1 + a) :: st) (S, d) k n := by
  subst hp
  subst hN
  intro z hz p e s m args below meth c H locs ls C
  unfold z_aald at hz
  by_cases hi : i < 0 ∨ kd.2.1 ≤ i.toNatClampNeg
  · rw [if_pos hi] at hz; cases hz
  · rw [if_neg hi] at hz
    obtain ⟨q, hq⟩ := z_get E (S, d) ha.1 ha.2 (by omega)
    rw [z_cell, if_neg (by omega), if_neg (by omega), if_pos (by omega), ht] at hq
    have hlt : i.toNatClampNeg < kd.2.1 := Nat.not_le.mp fun h => hi (Or.inr h)
    refine va_aldq C.1.1 C.1.2.1 C.2.2.1 C.2.2.2.2.2.1.1 q 4 (C := RX4) hq rfl hi hd ?_
    rw [hf _ hlt]
    exact K _ hlt z hz p e s m args below meth c H locs ls C
theorem r_gets {idx : Nat} (i : Nat) {q : String × String × List Int32} (hq : z_stl[i]? = some q) (hlink : Cond.fieldLink Y.1 idx q.1 q.2.1 "[I" ∈ Y.2.2.2.1) (pc' : Nat) (hp : pc + 3 = pc') (hd : decode Y.2.1 pc = .ok (.getstatic idx, 3)) (K : z_G E l Y cv res pc' lv (.ref (E.2.2.2.1 i) :: st) w k n) : z_G E l Y cv res pc lv st w k n := by
  subst hp
  intro z hz p e s m args below meth c H locs ls C
  exact va_gets C.1.1 C.1.2.1 (C.2.2.2.1.1 i q hq).1 C.2.2.2.2.2.2.1 C.1.2.2.2.1 (C.1.2.2.2.2 _ hlink) (fun _ h9 => h9) hd (K z hz p e s m args below meth c H locs ls C)
theorem r_tald {i : Int32} {L : List Int32} {KB : Int32 → Option α} (t : Nat) {q : String × String × List Int32} (hq : z_stl[t]? = some q) (hL : q.2.2 = L) (pc' : Nat) (hp : pc + 1 = pc') (hd : decode Y.2.1 pc = .ok (.iaload, 1)) (K : ∀ v, z_G E l Y cv (KB v) pc' lv (.int v :: st) w k n) : z_G E l Y cv (z_tab L i KB) pc lv (.int i :: .ref (E.2.2.2.1 t) :: st) w k n := by
  subst hp
  subst hL
  intro z hz p e s m args below meth c H locs ls C
  unfold z_tab at hz
  by_cases hi : i < 0 ∨ q.2.2.length ≤ i.toNatClampNeg
  · rw [if_pos hi] at hz; cases hz
  · rw [if_neg hi] at hz
    exact va_ti C.1.1 C.1.2.1 (C.2.2.2.1.1 t q hq).2 C.2.2.2.2.2.2.1 hi rfl hd (K _ z hz p e s m args below meth c H locs ls C)
theorem r_tlen (t : Nat) {v : Int32} {q : String × String × List Int32} (hq : z_stl[t]? = some q) (hv : Int32.ofNat q.2.2.length = v) (pc' : Nat) (hp : pc + 1 = pc') (hd : decode Y.2.1 pc = .ok (.arraylength, 1)) (K : z_G E l Y cv res pc' lv (.int v :: st) w k n) : z_G E l Y cv res pc lv (.ref (E.2.2.2.1 t) :: st) w k n := by
  subst hp
  intro z hz p e s m args below meth c H locs ls C
  exact va_tlen C.1.1 C.1.2.1 (C.2.2.2.1.1 t q hq).2 C.2.2.2.2.2.2.1 hv hd (K z hz p e s m args below meth c H locs ls C)
theorem r_mmax {x y : Int32} {idx : Nat} (h1 : Cond.methodLink Y.1 idx Lib.Math.max.name ∈ Y.2.2.2.1) (h2 : Cond.static Lib.Math.max.name ∈ Y.2.2.2.1) (h3 : Cond.initialized "java/lang/Math" ∈ Y.2.2.2.1) (h4 : Cond.code Lib.Math.max.name Lib.Math.max.code 2 (some .int) ∈ Y.2.2.2.1) (hf : 1 ≤ Y.2.2.2.2.2.1.frames) (hl : (st.map fun v => v.category).sum + 13 ≤ Y.2.2.2.2.2.1.locals) (hk : k ≤ Y.2.2.2.2.2.1.cells) (hn : n ≤ Y.2.2.2.2.2.1.slots) (pc' : Nat) (hp : pc + 3 = pc') (hd : decode Y.2.1 pc = .ok (.invokestatic idx, 3)) (K : z_G E l Y cv res pc' lv (.int (if x < y then y else x) :: st) w k n) : z_G E l Y cv res pc lv (.int y :: .int x :: st) w k n := by
  subst hp
  intro z hz p e s m args below meth c H locs ls C
  have ht := C.1.2.2.2.2
  exact va_mmax C.1.1 C.1.2.1 (C.1.2.2.1.trans C.2.2.2.2.2.2.2.1.symm) C.1.2.2.2.1 (ht _ h1) (ht _ h2) (ht _ h3) (ht _ h4) hf hl hk hn hd (K z hz p e s m args below meth c H locs ls C)
theorem r_mmin {x y : Int32} {idx : Nat} (h1 : Cond.methodLink Y.1 idx Lib.Math.min.name ∈ Y.2.2.2.1) (h2 : Cond.static Lib.Math.min.name ∈ Y.2.2.2.1) (h3 : Cond.initialized "java/lang/Math" ∈ Y.2.2.2.1) (h4 : Cond.code Lib.Math.min.name Lib.Math.min.code 2 (some .int) ∈ Y.2.2.2.1) (hf : 1 ≤ Y.2.2.2.2.2.1.frames) (hl : (st.map fun v => v.category).sum + 13 ≤ Y.2.2.2.2.2.1.locals) (hk : k ≤ Y.2.2.2.2.2.1.cells) (hn : n ≤ Y.2.2.2.2.2.1.slots) (pc' : Nat) (hp : pc + 3 = pc') (hd : decode Y.2.1 pc = .ok (.invokestatic idx, 3)) (K : z_G E l Y cv res pc' lv (.int (if y < x then y else x) :: st) w k n) : z_G E l Y cv res pc lv (.int y :: .int x :: st) w k n := by
  subst hp
  intro z hz p e s m args below meth c H locs ls C
  have ht := C.1.2.2.2.2
  exact va_mmin C.1.1 C.1.2.1 (C.1.2.2.1.trans C.2.2.2.2.2.2.2.1.symm) C.1.2.2.2.1 (ht _ h1) (ht _ h2) (ht _ h3) (ht _ h4) hf hl hk hn hd (K z hz p e s m args below meth c H locs ls C)
end
/-! calls -/
def z_Ok (y : MethodName) (Y : z_Y) (np : Nat) : Prop := (∃ ws', Y.2.2.2.1 = Cond.code y Y.2.1 Y.2.2.1 Y.2.2.2.2.1 :: ws') ∧ Y.2.2.2.2.2.1.cells = Y.2.2.2.2.2.2.1 ∧ Y.2.2.2.2.2.1.slots = Y.2.2.2.2.2.2.2 ∧ y.cls = Y.1 ∧ (y.cls ≠ "java/lang/invoke/MethodHandle" ∧ y.cls ≠ "java/lang/invoke/VarHandle") ∧ (parseMethodDescriptor y.desc).map (fun d => d.parameters.length) = some np
/-- the callee's room fits the caller's -/
def z_Fit (Y Yc : z_Y) (k n : Nat) : Prop := (Yc.2.2.2.2.2.1.frames + 1 ≤ Y.2.2.2.2.2.1.frames ∧ 8 + (Yc.2.2.1 + 11) + Yc.2.2.2.2.2.1.locals ≤ Y.2.2.2.2.2.1.locals) ∧ k + Yc.2.2.2.2.2.2.1 ≤ Y.2.2.2.2.2.1.cells ∧ n + Yc.2.2.2.2.2.2.2 ≤ Y.2.2.2.2.2.1.slots
section
variable {α β : Type} {E : z_E} {l : Launch} {Y Yc : z_Y} {cv : α → Option Value × z_W} {cvc : β → Option Value × z_W} {resc : Option β} {KB : β → Option α} {pc : Nat} {lv : List (Nat × Value)} {st stk : List Value} {w : z_W} {k n : Nat} {y : MethodName} {idx : Nat} {As : List Value}
theorem z_pre {p : Program} {s : State} {m : MethodId} {args : Array Value} {meth : Method} {c : Code} {H : Heap} {locs : List Loc} {ls : Array Slot} {av : List Value} (C : z_C E Y p s m args meth c lv w H locs ls k) : PreS s H (va_Pc av (z_Wd E w)) av := by
  obtain ⟨c1, c2, c3, c4, c5, c7, c8, c9⟩ := C
  refine ⟨z_blind E w av, fun U hU hW => ⟨rfl, by rw [hU]; exact c7, va_K.moved hW.alike c3, ?_⟩⟩
  rw [hU]
  exact c4.to hW c8.2.1
theorem z_core {p : Program} {e : Env} {s : State} {m : MethodId} {args : Array Value} {below : List Frame} {meth : Method} {c : Code} {H : Heap} {locs : List Loc} {ls : Array Slot} {a : Array Value} {z : α} (C : z_C E Y p s m args meth c lv w H locs ls k)
    (hrun : ∀ x, resc = some x → va_Run p l e Y.2.2.2.2.2.1 s m args below meth c H locs k n Yc.2.2.2.2.2.2.1 Yc.2.2.2.2.2.2.2 (F0 m pc ls stk) st (z_Q E (cvc x).1 (cvc x).2 a) (z_A E)) (hmc : ∀ x, (cvc x).2.1.1 = w.1.1 + Yc.2.2.2.2.2.2.1)
    (K : ∀ x, z_G E l Y cv (KB x) (pc + 3) lv ((cvc x).1.toList ++ st) (cvc x).2 (k + Yc.2.2.2.2.2.2.1) (n + Yc.2.2.2.2.2.2.2)) (hz : resc.bind KB = some z) :
    W p l e Y.2.2.2.2.2.1 s m args below meth c H locs k n (MQ below (z_Q E (cv z).1 (cv z).2) args s Y.2.2.2.2.2.2.1 Y.2.2.2.2.2.2.2 (z_A E)) (F0 m pc ls stk) := by
  obtain ⟨x, hx, hz⟩ := Option.bind_eq_some_iff.mp hz
  intro T hT X
  obtain ⟨v, st₀, t, T', L, h0, X', hL, e1, e2, ⟨⟨hv, hH⟩, hz1, hk1⟩, stp⟩ := hrun x hx T hT X
  cases hv
  rw [h0] at hz1 hk1
  obtain ⟨c1, c2, c3, c4, ⟨c5, c6⟩, c7, c8, c9⟩ := C
  have hS : va_S (z_A E) s.heap T'.heap (locs ++ L) := by
    refine z_Str c8 ⟨by rw [e1]; exact hz1, fun q h1 h2 => by rw [e1]; exact hk1 q h1 h2, fun q hq => ?_⟩
    rcases List.mem_append.mp hq with h | h
    · exact c8.2.2 q h
    · exact hL q h
  obtain ⟨t2, a1, b1⟩ := K x z hz p e s m args below meth c T'.heap (locs ++ L) ls ⟨c1, c2, c3, c4, ⟨c5, by rw [hmc x]; omega⟩, by rw [e1]; exact hH, hS, c9⟩ T' rfl X'
  exact ⟨t2, stp t2 a1, b1⟩
theorem r_callV {b : Nat} {kd : z_K} {q9 : vw_C} (hM : z_Sp E l y Yc cvc (.ref (E.2.1 + b) :: As) w resc) (hO : z_Ok y Yc As.length) (hF : z_Fit Y Yc k n) (ha : z_at w.1 b kd) (h8 : kd.1 < 8) (hcl : vwCl[kd.1]? = some q9) (hq9 : q9.1 = Yc.1) (hst : stk = As.reverse ++ .ref (E.2.1 + b) :: st) (hcat : (st.map fun v => v.category).sum ≤ 8) (hG : GoodIn Y.2.2.2.1 (wsV Y.1 idx Yc.1 y Yc.2.2.2.1)) (hmc : ∀ x, (cvc x).2.1.1 = w.1.1 + Yc.2.2.2.2.2.2.1) (pc' : Nat) (hp : pc + 3 = pc') (hd : decode Y.2.1 pc = .ok (.invokevirtual idx, 3)) (K : ∀ x, z_G E l Y cv (KB x) pc' lv ((cvc x).1.toList ++ st) (cvc x).2 (k + Yc.2.2.2.2.2.2.1) (n + Yc.2.2.2.2.2.2.2)) : z_G E l Y cv (resc.bind KB) pc lv stk w k n := by
  subst hp
  subst hst
  intro z hz p e s m args below meth c H locs ls C
  obtain ⟨q, hq⟩ := z_get E w ha.1 ha.2 (by omega)
  rw [z_cell, if_pos h8] at hq
  have hrv := va_recv C.2.2.1 C.2.2.2.2.2.1.1 hcl hq
  rw [hq9] at hrv
  obtain ⟨⟨ws', o1⟩, o2, o3, o4, o5, o6⟩ := hO
  refine z_core (a := (Value.ref (E.2.1 + b) :: As).toArray) C (fun x hx => ?_) hmc K hz
  exact va_runV ⟨C.1.1, C.1.2.1, C.1.2.2.1, C.1.2.2.2.1, C.1.2.2.2.2⟩ (hM x hx) (cwV As.length C.1.2.2.2.2 hG o1 o2 o3 ⟨o4, o5.1, o5.2, o6⟩ hF.1) ⟨(z_pre C).1, hrv, (z_pre C).2⟩ rfl rfl C.2.2.2.2.2.2.2.1 rfl (lv_room hcat) hd hF.2
theorem r_callVN {b : Nat} {kd : z_K} {q9 : vw_C} (hM : z_Sp E l y Yc cvc (.ref (E.2.1 + b) :: As) w resc) (hO : z_Ok y Yc As.length) (hF : z_Fit Y Yc k n) (ha : z_at w.1 b kd) (h8 : kd.1 < 8) (hcl : vwCl[kd.1]? = some q9) (hq9 : q9.1 = Yc.1) (hst : stk = As.reverse ++ .ref (E.2.1 + b) :: st) (hcat : (st.map fun v => v.category).sum ≤ 8) (j : Nat) (hj : z_nm[j]? = some (Y.1, idx, y)) (hG : GoodIn Y.2.2.2.1 Yc.2.2.2.1) (h1 : Cond.initialized y.cls ∈ Y.2.2.2.1) (h2 : Cond.instanceMethod y ∈ Y.2.2.2.1) (h3 : Cond.selects Yc.1 y y ∈ Y.2.2.2.1) (hmc : ∀ x, (cvc x).2.1.1 = w.1.1 + Yc.2.2.2.2.2.2.1) (pc' : Nat) (hp : pc + 3 = pc') (hd : decode Y.2.1 pc = .ok (.invokevirtual idx, 3)) (K : ∀ x, z_G E l Y cv (KB x) pc' lv ((cvc x).1.toList ++ st) (cvc x).2 (k + Yc.2.2.2.2.2.2.1) (n + Yc.2.2.2.2.2.2.2)) : z_G E l Y cv (resc.bind KB) pc lv stk w k n := by
  subst hp
  subst hst
  intro z hz p e s m args below meth c H locs ls C
  obtain ⟨q, hq⟩ := z_get E w ha.1 ha.2 (by omega)
  rw [z_cell, if_pos h8] at hq
  have hrv := va_recv C.2.2.1 C.2.2.2.2.2.1.1 hcl hq
  rw [hq9] at hrv
  obtain ⟨⟨ws', o1⟩, o2, o3, o4, o5, o6⟩ := hO
  refine z_core (a := (Value.ref (E.2.1 + b) :: As).toArray) C (fun x hx => ?_) hmc K hz
  have ht := C.1.2.2.2.2
  exact va_runVN ⟨C.1.1, C.1.2.1, C.1.2.2.1, C.1.2.2.2.1, C.1.2.2.2.2⟩ (hM x hx) ⟨va_cnB As.length ht hG o1 o2 o3 (C.2.2.2.1.2.2.2.2.2.2 j _ hj) (ht _ h1) ⟨o5.1, o5.2, o6⟩ hF.1, ht _ h2, ht _ h3⟩ ⟨(z_pre C).1, hrv, (z_pre C).2⟩ rfl rfl C.2.2.2.2.2.2.2.1 rfl (lv_room hcat) hd hF.2
theorem r_callS (hM : z_Sp E l y Yc cvc As w resc) (hO : z_Ok y Yc As.length) (hF : z_Fit Y Yc k n) (hst : stk = As.reverse ++ st) (hcat : (st.map fun v => v.category).sum ≤ 8) (hG : GoodIn Y.2.2.2.1 (va_wsS Y.1 idx y Yc.2.2.2.1)) (hmc : ∀ x, (cvc x).2.1.1 = w.1.1 + Yc.2.2.2.2.2.2.1) (pc' : Nat) (hp : pc + 3 = pc') (hd : decode Y.2.1 pc = .ok (.invokestatic idx, 3)) (K : ∀ x, z_G E l Y cv (KB x) pc' lv ((cvc x).1.toList ++ st) (cvc x).2 (k + Yc.2.2.2.2.2.2.1) (n + Yc.2.2.2.2.2.2.2)) : z_G E l Y cv (resc.bind KB) pc lv stk w k n := by
  subst hp
  subst hst
  intro z hz p e s m args below meth c H locs ls C
  obtain ⟨⟨ws', o1⟩, o2, o3, o4, o5, o6⟩ := hO
  refine z_core (a := As.toArray) C (fun x hx => ?_) hmc K hz
  exact va_runS ⟨C.1.1, C.1.2.1, C.1.2.2.1, C.1.2.2.2.1, C.1.2.2.2.2⟩ (hM x hx) (va_cwS As.length C.1.2.2.2.2 hG o1 o2 o3 ⟨o5.1, o5.2, o6⟩ hF.1) (z_pre C) rfl rfl C.2.2.2.2.2.2.2.1 rfl (lv_room hcat) hd hF.2
theorem r_callSN (hM : z_Sp E l y Yc cvc As w resc) (hO : z_Ok y Yc As.length) (hF : z_Fit Y Yc k n) (hst : stk = As.reverse ++ st) (hcat : (st.map fun v => v.category).sum ≤ 8) (j : Nat) (hj : z_nm[j]? = some (Y.1, idx, y)) (hG : GoodIn Y.2.2.2.1 Yc.2.2.2.1) (h1 : Cond.initialized y.cls ∈ Y.2.2.2.1) (h2 : Cond.static y ∈ Y.2.2.2.1) (hmc : ∀ x, (cvc x).2.1.1 = w.1.1 + Yc.2.2.2.2.2.2.1) (pc' : Nat) (hp : pc + 3 = pc') (hd : decode Y.2.1 pc = .ok (.invokestatic idx, 3)) (K : ∀ x, z_G E l Y cv (KB x) pc' lv ((cvc x).1.toList ++ st) (cvc x).2 (k + Yc.2.2.2.2.2.2.1) (n + Yc.2.2.2.2.2.2.2)) : z_G E l Y cv (resc.bind KB) pc lv stk w k n := by
  subst hp
  subst hst
  intro z hz p e s m args below meth c H locs ls C
  obtain ⟨⟨ws', o1⟩, o2, o3, o4, o5, o6⟩ := hO
  refine z_core (a := As.toArray) C (fun x hx => ?_) hmc K hz
  have ht := C.1.2.2.2.2
  exact va_runSN ⟨C.1.1, C.1.2.1, C.1.2.2.1, C.1.2.2.2.1, C.1.2.2.2.2⟩ (hM x hx) ⟨va_cnB As.length ht hG o1 o2 o3 (C.2.2.2.1.2.2.2.2.2.2 j _ hj) (ht _ h1) ⟨o5.1, o5.2, o6⟩ hF.1, ht _ h2, trivial⟩ (z_pre C) rfl rfl C.2.2.2.2.2.2.2.1 rfl (lv_room hcat) hd hF.2
end
end
section
/-! 06.rows2 -/
def z_N : Nat := 6000
def z_nn : Nat → Option Nat := fun _ => none
def cvI (S : z_S) (d : z_D) : Int32 → Option Value × z_W := fun r => (some (.int r), (S, d))
def cvJ (S : z_S) (d : z_D) : Int64 → Option Value × z_W := fun r => (some (.long r), (S, d))
def cvV (S : z_S) : z_D → Option Value × z_W := fun d => (none, (S, d))
def cvX (S : z_S) : Int32 × z_D → Option Value × z_W := fun x => (some (.int x.1), (S, x.2))
def z_stg (rb : Nat) (x : Option Nat) : Option Nat := x.map (fun j => rb + 5 + 21 * j)
def cvR (E : z_E) (S : z_S) (d : z_D) (rb : Nat) : Option Nat → Option Value × z_W := fun x => (some (va_rf (z_sh E.2.1 (z_stg rb x))), (S, d))
def z_bX {α : Type} (o : Option (Int32 × z_D)) (K : Int32 → z_D → Option α) : Option α := o.bind (fun x => K x.1 x.2)
def z_let {α γ : Type} (J : γ) (F : γ → Option α) : Option α := F J
def z_nul {α : Type} (x : Option Nat) (A : Option α) (B : Nat → Option α) : Option α := match x with
  | none => A
  | some j => if j < 8 then B j else none
section
variable {α : Type} {E : z_E} {l : Launch} {Y : z_Y} {cv : α → Option Value × z_W} {res : Option α} {pc : Nat} {lv : List (Nat × Value)} {st : List Value} {w : z_W} {S : z_S} {d : z_D} {k n : Nat}
theorem r_let {γ : Type} {JB : γ → Option α} {FB : (γ → Option α) → Option α} (pcJ : Nat) {f : γ → List (Nat × Value)} {g : γ → List Value} {ww : γ → z_W} (KJ : ∀ x, z_G E l Y cv (JB x) pcJ (f x) (g x) (ww x) k n) (KF : ∀ J : γ → Option α, (∀ x, z_G E l Y cv (J x) pcJ (f x) (g x) (ww x) k n) → z_G E l Y cv (FB J) pc lv st w k n) : z_G E l Y cv (z_let JB FB) pc lv st w k n := KF JB KJ
theorem r_tsw {dflt lo hi : Int} {offs : Array Int} {len : Nat} {x v : Int32} {off : Int} {A B : Option α} (tgt : Nat) (h1 : decide (v.toInt < lo) = false) (h2 : decide (hi < v.toInt) = false) (ho : offs[(v.toInt - lo).toNat]? = some off) (ht : (pc : Int) + off = (tgt : Int)) (hd : decode Y.2.1 pc = .ok (.tableswitch dflt lo hi offs, len)) (KA : z_G E l Y cv A tgt lv st w k n) (KB : ¬ x = v → z_G E l Y cv B pc lv (.int x :: st) w k n) : z_G E l Y cv (if x = v then A else B) pc lv (.int x :: st) w k n := by
  by_cases hx : x = v
  · rw [if_pos hx]
    subst hx
    exact fun z hz p e s m args below meth c H locs ls C => lv_tableIn C.1.1 C.1.2.1 hd (of_decide_eq_false h1) (of_decide_eq_false h2) ho ht (KA z hz p e s m args below meth c H locs ls C)
  · rw [if_neg hx]
    exact KB hx
theorem r_tswD {dflt lo hi : Int} {offs : Array Int} {len : Nat} {x : Int32} (tgt cnt : Nat) (hc : hi = lo + cnt - 1) (hne : ∀ j : Nat, j < cnt → ¬ x = Int32.ofInt (lo + j)) (ht : (pc : Int) + dflt = (tgt : Int)) (hd : decode Y.2.1 pc = .ok (.tableswitch dflt lo hi offs, len)) (K : z_G E l Y cv res tgt lv st w k n) : z_G E l Y cv res pc lv (.int x :: st) w k n := by
  intro z hz p e s m args below meth c H locs ls C
  refine lv_tableOut C.1.1 C.1.2.1 hd ?_ ht (K z hz p e s m args below meth c H locs ls C)
  by_cases h1 : x.toInt < lo
  · exact Or.inl h1
  · refine Or.inr ?_
    by_cases h2 : hi < x.toInt
    · exact h2
    · refine absurd ?_ (hne (x.toInt - lo).toNat (by omega))
      rw [show lo + ((x.toInt - lo).toNat : Int) = x.toInt by omega]
      exact (Int32.ofInt_toInt x).symm
theorem r_null (pc' : Nat) (hp : pc + 1 = pc') (hd : decode Y.2.1 pc = .ok (.aconst_null, 1)) (K : z_G E l Y cv res pc' lv (.null :: st) w k n) : z_G E l Y cv res pc lv st w k n := by
  subst hp
  exact fun z hz p e s m args below meth c H locs ls C => lv_null C.1.1 C.1.2.1 hd (K z hz p e s m args below meth c H locs ls C)
theorem r_ifnull {a : Nat} {off : Int} (pc' : Nat) (hp : pc + 3 = pc') (hd : decode Y.2.1 pc = .ok (.ifnull off, 3)) (K : z_G E l Y cv res pc' lv st w k n) : z_G E l Y cv res pc lv (.ref a :: st) w k n := by
  subst hp
  exact fun z hz p e s m args below meth c H locs ls C => lv_ifnull C.1.1 C.1.2.1 hd (K z hz p e s m args below meth c H locs ls C)
theorem r_ifnullN {off : Int} (tgt : Nat) (ht : (pc : Int) + off = (tgt : Int)) (hd : decode Y.2.1 pc = .ok (.ifnull off, 3)) (K : z_G E l Y cv res tgt lv st w k n) : z_G E l Y cv res pc lv (.null :: st) w k n := by
  exact fun z hz p e s m args below meth c H locs ls C => lv_ifnullN C.1.1 C.1.2.1 hd ht (K z hz p e s m args below meth c H locs ls C)
theorem r_ifnonnull {a : Nat} {off : Int} (tgt : Nat) (ht : (pc : Int) + off = (tgt : Int)) (hd : decode Y.2.1 pc = .ok (.ifnonnull off, 3)) (K : z_G E l Y cv res tgt lv st w k n) : z_G E l Y cv res pc lv (.ref a :: st) w k n := by
  exact fun z hz p e s m args below meth c H locs ls C => lv_ifnonnull C.1.1 C.1.2.1 hd ht (K z hz p e s m args below meth c H locs ls C)
theorem r_ifnonnullN {off : Int} (pc' : Nat) (hp : pc + 3 = pc') (hd : decode Y.2.1 pc = .ok (.ifnonnull off, 3)) (K : z_G E l Y cv res pc' lv st w k n) : z_G E l Y cv res pc lv (.null :: st) w k n := by
  subst hp
  exact fun z hz p e s m args below meth c H locs ls C => lv_ifnonnullN C.1.1 C.1.2.1 hd (K z hz p e s m args below meth c H locs ls C)
theorem r_aload_nN {kk : Fin 4} (i q : Nat) (hi : (kk : Nat) = i) (hq : lv[q]? = some (i, .null)) (pc' : Nat) (hp : pc + 1 = pc') (hd : decode Y.2.1 pc = .ok (.aload_n kk, 1)) (K : z_G E l Y cv res pc' lv (.null :: st) w k n) : z_G E l Y cv res pc lv st w k n := by
  subst hp
  exact fun z hz p e s m args below meth c H locs ls C => lv_aload_nN C.1.1 C.1.2.1 hd hi (lv_at C.2.2.2.2.2.2.2 q hq) (K z hz p e s m args below meth c H locs ls C)
theorem r_astore_nN {kk : Fin 4} (i : Nat) (hi : (kk : Nat) = i) (lv' : List (Nat × Value)) (hn : i < Y.2.2.1) (hl : (i, Value.null) :: lv.filter (fun q => !(q.1 == i) && !(q.1 + 1 == i && q.2.category == 2)) = lv') (pc' : Nat) (hp : pc + 1 = pc') (hd : decode Y.2.1 pc = .ok (.astore_n kk, 1)) (K : z_G E l Y cv res pc' lv' st w k n) : z_G E l Y cv res pc lv (.null :: st) w k n := by
  subst hp
  exact fun z hz p e s m args below meth c H locs ls C => lv_astore_nN C.1.1 C.1.2.1 hd hi C.2.2.2.2.2.2.2 hn hl (fun ls9 h9 => K z hz p e s m args below meth c H locs ls9 (C.ls h9))
theorem r_nul {x : Option Nat} {rb : Nat} {A : Option α} {B : Nat → Option α} (KA : z_G E l Y cv A pc lv (.null :: st) w k n) (KB : ∀ j, j < 8 → z_G E l Y cv (B j) pc lv (.ref (E.2.1 + (rb + 5 + 21 * j)) :: st) w k n) : z_G E l Y cv (z_nul x A B) pc lv (va_rf (z_sh E.2.1 (z_stg rb x)) :: st) w k n := by
  cases x with
  | none => exact KA
  | some j =>
    by_cases hj : j < 8
    · have e9 : z_nul (some j) A B = B j := if_pos hj
      rw [e9]
      exact KB j hj
    · have e9 : z_nul (some j) A B = none := if_neg hj
      rw [e9]
      exact r_none
theorem r_areturn {x : α} {v : Value} {nm : String} (hv : v = .null ∨ ∃ a, v = .ref a) (hx : cv x = (some v, w)) (hr : Y.2.2.2.2.1 = some (.object nm)) (hk : k ≤ Y.2.2.2.2.2.2.1) (hn : n ≤ Y.2.2.2.2.2.2.2) (hd : decode Y.2.1 pc = .ok (.areturn, 1)) : z_G E l Y cv (some x) pc lv [v] w k n := by
  intro z hz p e s m args below meth c H locs ls C
  cases hz
  rw [hx]
  have hl := C.2.1.2
  exact W.widen hk hn (W.aret C.1.1 C.1.2.1 (C.2.1.1.trans hr) (Or.inl ⟨nm, rfl⟩) hv (z_ret _ C) (z_retL C) hd hl)
def z_cpd (d : z_D) (a0 a N : Nat) : z_D := fun a' k' => if a' = a ∧ k' < N then d a0 k' else d a' k'
def z_cpy {α : Type} (d : z_D) (a0 a N : Nat) (K : z_D → Option α) : Option α := K (z_cpd d a0 a N)
def z_cpyz {α : Type} (d : z_D) (a0 a N : Nat) (K : z_D → Option α) : Option α := if ∀ i, i < N → (d a0 i = 0 ∨ d a0 i = 1) then K (z_cpd d a0 a N) else none
theorem z_setC (E : z_E) (S : z_S) (d : z_D) {a a0 N : Nat} {kd : z_K} (h : a < S.1) (hk : S.2.1 a = kd) (h15 : kd.1 ≠ 15) {p : Nat} (hp : (z_ws E (S, d))[p]? = some (E.2.1 + a, z_cell E kd (S.2.2 a) (d a))) {g : Nat → Int32} (hg : ∀ j, g j = if j < N then d a0 j else d a j) :
    (z_ws E (S, d)).set p (E.2.1 + a, z_cell E kd (S.2.2 a) g) = z_ws E (S, z_cpd d a0 a N) := by
  have hm := z_addr (E := E) (z_live (S := S) h (by rw [hk]; exact h15))
  have hp2 : ([] ++ va_pl ((z_L S).map (fun a => E.2.1 + a)) (z_f E (S, d)))[p]? = some (E.2.1 + a, z_f E (S, d) (E.2.1 + a)) := by
    rw [z_fat]; exact hp.trans (by rw [← hk])
  have h1 := va_pl_set (X := []) (A := z_A E) (e := z_cell E kd (S.2.2 a) g) (z_dd E (S, d)) hm hp2
  refine h1.trans ?_
  show va_pl _ _ = va_pl _ _
  refine List.map_congr_left (fun q hq => ?_)
  obtain ⟨b, -, rfl⟩ := List.mem_map.mp hq
  rw [z_fat]
  by_cases hab : b = a
  · subst hab
    rw [va_up_self]
    refine congrArg (fun z => (E.2.1 + b, z)) ?_
    rw [← hk]
    refine congrArg (z_cell E _ _) ?_
    funext j
    simp [z_cpd, hg]
  · rw [va_up_ne _ _ (fun h => hab (Nat.add_left_cancel h)), z_fat]
    refine congrArg (fun z => (E.2.1 + b, z)) ?_
    refine congrArg (z_cell E _ _) ?_
    funext j
    simp [z_cpd, hab]
theorem r_cpy {a0 a n0 n1 : Nat} {kd0 kd1 : z_K} {idx : Nat} {x : Int32} {KB : z_D → Option α} (h1 : Cond.methodLink Y.1 idx arraycopyName ∈ Y.2.2.2.1) (h2 : Cond.native arraycopyName ∈ Y.2.2.2.1) (h3 : Cond.static arraycopyName ∈ Y.2.2.2.1) (h4 : Cond.initialized "java/lang/System" ∈ Y.2.2.2.1) (ha0 : z_at S a0 kd0) (ha1 : z_at S a kd1) (ht0 : kd0.1 = 8) (ht1 : kd1.1 = 8) (N : Nat) (hx : ¬ x < 0) (hN : x.toNatClampNeg = N) (hN0 : N ≤ kd0.2.1) (hN1 : N ≤ kd1.2.1) (hfr : 1 ≤ Y.2.2.2.2.2.1.frames) (hl : (st.map fun v => v.category).sum + (nativeFrameWords "java/lang/System" "arraycopy" 5 + 11) ≤ Y.2.2.2.2.2.1.locals) (pc' : Nat) (hp : pc + 3 = pc') (hd : decode Y.2.1 pc = .ok (.invokestatic idx, 3)) (K : ∀ d', z_G E l Y cv (KB d') pc' lv st (S, d') k n) : z_G E l Y cv (z_cpy d a0 a N KB) pc lv (.int x :: .int 0 :: .ref (E.2.1 + a) :: .int 0 :: .ref (E.2.1 + a0) :: st) (S, d) k n := by
  subst hp
  subst hN
  intro z hz p e s m args below meth c H locs ls C
  obtain ⟨q0, hq0⟩ := z_get E (S, d) ha0.1 ha0.2 (by omega)
  obtain ⟨q1, hq1⟩ := z_get E (S, d) ha1.1 ha1.2 (by omega)
  have hfit : ∀ i, i < x.toNatClampNeg → fits .int (.int (d a0 ((0 : Int32).toNatClampNeg + i))) = true := fun _ _ => rfl
  have hs := z_setC E S d (a := a) (a0 := a0) (N := x.toNatClampNeg) ha1.1 ha1.2 (by omega) hq1 (g := va_cpy (d a0) (d a) (0 : Int32).toNatClampNeg (0 : Int32).toNatClampNeg x.toNatClampNeg) (fun j => by
    show (if 0 ≤ j ∧ j < 0 + x.toNatClampNeg then d a0 (0 + (j - 0)) else d a j) = _
    simp)
  rw [z_cell, if_neg (by omega), if_pos (by omega), ht0] at hq0
  rw [z_cell, if_neg (by omega), if_pos (by omega), ht1] at hq1 hs
  have ht := C.1.2.2.2.2
  refine va_copyi C.1.1 C.1.2.1 (C.1.2.2.1.trans C.2.2.2.2.2.2.2.1.symm) C.1.2.2.2.1 (ht _ h1) (ht _ h2) (ht _ h3) (ht _ h4) C.2.2.1 C.2.2.2.2.2.1.1 (z_dd E (S, d)) (z_own C) q0 q1 0 0 (ty := .int) hq0 hq1 rfl rfl rfl (by decide) (by decide) hx (by rw [show (0 : Int32).toNatClampNeg = 0 from rfl]; omega) (by rw [show (0 : Int32).toNatClampNeg = 0 from rfl]; omega) hfit hfr hl hd (fun H1 locs1 hP1 _ hS1 => ?_)
  have hP2 : va_P E.1 vwCl (z_ws E (S, z_cpd d a0 a x.toNatClampNeg)) H1 := by rw [← hs]; exact hP1
  exact z_mv C (w' := (S, z_cpd d a0 a x.toNatClampNeg)) rfl hP2 hS1 (fun C1 => K _ z hz p e s m args below meth c H1 locs1 ls C1)
theorem r_cpyz {a0 a n0 n1 : Nat} {kd0 kd1 : z_K} {idx : Nat} {x : Int32} {KB : z_D → Option α} (h1 : Cond.methodLink Y.1 idx arraycopyName ∈ Y.2.2.2.1) (h2 : Cond.native arraycopyName ∈ Y.2.2.2.1) (h3 : Cond.static arraycopyName ∈ Y.2.2.2.1) (h4 : Cond.initialized "java/lang/System" ∈ Y.2.2.2.1) (ha0 : z_at S a0 kd0) (ha1 : z_at S a kd1) (ht0 : kd0.1 = 9) (ht1 : kd1.1 = 9) (N : Nat) (hx : ¬ x < 0) (hN : x.toNatClampNeg = N) (hN0 : N ≤ kd0.2.1) (hN1 : N ≤ kd1.2.1) (hfr : 1 ≤ Y.2.2.2.2.2.1.frames) (hl : (st.map fun v => v.category).sum + (nativeFrameWords "java/lang/System" "arraycopy" 5 + 11) ≤ Y.2.2.2.2.2.1.locals) (pc' : Nat) (hp : pc + 3 = pc') (hd : decode Y.2.1 pc = .ok (.invokestatic idx, 3)) (K : ∀ d', z_G E l Y cv (KB d') pc' lv st (S, d') k n) : z_G E l Y cv (z_cpyz d a0 a N KB) pc lv (.int x :: .int 0 :: .ref (E.2.1 + a) :: .int 0 :: .ref (E.2.1 + a0) :: st) (S, d) k n := by
  subst hp
  subst hN
  intro z hz p e s m args below meth c H locs ls C
  obtain ⟨q0, hq0⟩ := z_get E (S, d) ha0.1 ha0.2 (by omega)
  obtain ⟨q1, hq1⟩ := z_get E (S, d) ha1.1 ha1.2 (by omega)
  unfold z_cpyz at hz
  by_cases hb : ∀ i, i < x.toNatClampNeg → (d a0 i = 0 ∨ d a0 i = 1)
  case neg => rw [if_neg hb] at hz; cases hz
  rw [if_pos hb] at hz
  have hfit : ∀ i, i < x.toNatClampNeg → fits .boolean (.int (d a0 ((0 : Int32).toNatClampNeg + i))) = true := fun i hi => by rw [show (0 : Int32).toNatClampNeg + i = i from Nat.zero_add i]; exact (z_b01 (hb i hi)).2
  have hs := z_setC E S d (a := a) (a0 := a0) (N := x.toNatClampNeg) ha1.1 ha1.2 (by omega) hq1 (g := va_cpy (d a0) (d a) (0 : Int32).toNatClampNeg (0 : Int32).toNatClampNeg x.toNatClampNeg) (fun j => by
    show (if 0 ≤ j ∧ j < 0 + x.toNatClampNeg then d a0 (0 + (j - 0)) else d a j) = _
    simp)
  rw [z_cell, if_neg (by omega), if_pos (by omega), ht0] at hq0
  rw [z_cell, if_neg (by omega), if_pos (by omega), ht1] at hq1 hs
  have ht := C.1.2.2.2.2
  refine va_copyi C.1.1 C.1.2.1 (C.1.2.2.1.trans C.2.2.2.2.2.2.2.1.symm) C.1.2.2.2.1 (ht _ h1) (ht _ h2) (ht _ h3) (ht _ h4) C.2.2.1 C.2.2.2.2.2.1.1 (z_dd E (S, d)) (z_own C) q0 q1 1 1 (ty := .boolean) hq0 hq1 rfl rfl rfl (by decide) (by decide) hx (by rw [show (0 : Int32).toNatClampNeg = 0 from rfl]; omega) (by rw [show (0 : Int32).toNatClampNeg = 0 from rfl]; omega) hfit hfr hl hd (fun H1 locs1 hP1 _ hS1 => ?_)
  have hP2 : va_P E.1 vwCl (z_ws E (S, z_cpd d a0 a x.toNatClampNeg)) H1 := by rw [← hs]; exact hP1
  exact z_mv C (w' := (S, z_cpd d a0 a x.toNatClampNeg)) rfl hP2 hS1 (fun C1 => K _ z hz p e s m args below meth c H1 locs1 ls C1)
theorem r_lstore_n {kk : Fin 4} {x : Int64} (i : Nat) (hi : (kk : Nat) = i) (lv' : List (Nat × Value)) (hn : i + 1 < Y.2.2.1) (hl : (i, Value.long x) :: lv.filter (fun q => !(q.1 == i) && (!(q.1 == i + 1) && !(q.1 + 1 == i && q.2.category == 2))) = lv') (pc' : Nat) (hp : pc + 1 = pc') (hd : decode Y.2.1 pc = .ok (.lstore_n kk, 1)) (K : z_G E l Y cv res pc' lv' st w k n) : z_G E l Y cv res pc lv (.long x :: st) w k n := by
  subst hp
  exact fun z hz p e s m args below meth c H locs ls C => lv_lstore_n C.1.1 C.1.2.1 hd hi C.2.2.2.2.2.2.2 hn hl (fun ls9 h9 => K z hz p e s m args below meth c H locs ls9 (C.ls h9))
theorem r_lstore  {x : Int64} (i : Nat)  (lv' : List (Nat × Value)) (hn : i + 1 < Y.2.2.1) (hl : (i, Value.long x) :: lv.filter (fun q => !(q.1 == i) && (!(q.1 == i + 1) && !(q.1 + 1 == i && q.2.category == 2))) = lv') (pc' : Nat) (hp : pc + 2 = pc') (hd : decode Y.2.1 pc = .ok (.lstore i, 2)) (K : z_G E l Y cv res pc' lv' st w k n) : z_G E l Y cv res pc lv (.long x :: st) w k n := by
  subst hp
  exact fun z hz p e s m args below meth c H locs ls C => lv_lstore C.1.1 C.1.2.1 hd  C.2.2.2.2.2.2.2 hn hl (fun ls9 h9 => K z hz p e s m args below meth c H locs ls9 (C.ls h9))
end
section
variable {α : Type} {E : z_E} {l : Launch} {Y Yc : z_Y} {cv : α → Option Value × z_W} {pc : Nat} {lv : List (Nat × Value)} {st stk : List Value} {S : z_S} {d : z_D} {k n : Nat} {y : MethodName} {idx : Nat} {As : List Value}
theorem r_callV_I {resc : Option Int32} {KB : Int32 → Option α} {b : Nat} {kd : z_K} {q9 : vw_C} (hM : z_Sp E l y Yc (cvI S d) (.ref (E.2.1 + b) :: As) (S, d) resc) (hO : z_Ok y Yc As.length) (hF : z_Fit Y Yc k n) (ha : z_at S b kd) (h8 : kd.1 < 8) (hcl : vwCl[kd.1]? = some q9) (hq9 : q9.1 = Yc.1) (hst : stk = As.reverse ++ .ref (E.2.1 + b) :: st) (hcat : (st.map fun v => v.category).sum ≤ 8) (hG : GoodIn Y.2.2.2.1 (wsV Y.1 idx Yc.1 y Yc.2.2.2.1)) (hz1 : Yc.2.2.2.2.2.2.1 = 0) (hz2 : Yc.2.2.2.2.2.2.2 = 0) (pc' : Nat) (hp : pc + 3 = pc') (hd : decode Y.2.1 pc = .ok (.invokevirtual idx, 3)) (K : ∀ v, z_G E l Y cv (KB v) pc' lv (.int v :: st) (S, d) k n) : z_G E l Y cv (resc.bind KB) pc lv stk (S, d) k n := by
  refine r_callV hM hO hF ha h8 hcl hq9 hst hcat hG (fun _ => by rw [hz1]; rfl) pc' hp hd (fun v => ?_)
  rw [hz1, hz2]
  exact K v
theorem r_callV_J {resc : Option Int64} {KB : Int64 → Option α} {b : Nat} {kd : z_K} {q9 : vw_C} (hM : z_Sp E l y Yc (cvJ S d) (.ref (E.2.1 + b) :: As) (S, d) resc) (hO : z_Ok y Yc As.length) (hF : z_Fit Y Yc k n) (ha : z_at S b kd) (h8 : kd.1 < 8) (hcl : vwCl[kd.1]? = some q9) (hq9 : q9.1 = Yc.1) (hst : stk = As.reverse ++ .ref (E.2.1 + b) :: st) (hcat : (st.map fun v => v.category).sum ≤ 8) (hG : GoodIn Y.2.2.2.1 (wsV Y.1 idx Yc.1 y Yc.2.2.2.1)) (hz1 : Yc.2.2.2.2.2.2.1 = 0) (hz2 : Yc.2.2.2.2.2.2.2 = 0) (pc' : Nat) (hp : pc + 3 = pc') (hd : decode Y.2.1 pc = .ok (.invokevirtual idx, 3)) (K : ∀ v, z_G E l Y cv (KB v) pc' lv (.long v :: st) (S, d) k n) : z_G E l Y cv (resc.bind KB) pc lv stk (S, d) k n := by
  refine r_callV hM hO hF ha h8 hcl hq9 hst hcat hG (fun _ => by rw [hz1]; rfl) pc' hp hd (fun v => ?_)
  rw [hz1, hz2]
  exact K v
theorem r_callV_V {resc : Option z_D} {KB : z_D → Option α} {b : Nat} {kd : z_K} {q9 : vw_C} (hM : z_Sp E l y Yc (cvV S) (.ref (E.2.1 + b) :: As) (S, d) resc) (hO : z_Ok y Yc As.length) (hF : z_Fit Y Yc k n) (ha : z_at S b kd) (h8 : kd.1 < 8) (hcl : vwCl[kd.1]? = some q9) (hq9 : q9.1 = Yc.1) (hst : stk = As.reverse ++ .ref (E.2.1 + b) :: st) (hcat : (st.map fun v => v.category).sum ≤ 8) (hG : GoodIn Y.2.2.2.1 (wsV Y.1 idx Yc.1 y Yc.2.2.2.1)) (hz1 : Yc.2.2.2.2.2.2.1 = 0) (hz2 : Yc.2.2.2.2.2.2.2 = 0) (pc' : Nat) (hp : pc + 3 = pc') (hd : decode Y.2.1 pc = .ok (.invokevirtual idx, 3)) (K : ∀ d', z_G E l Y cv (KB d') pc' lv st (S, d') k n) : z_G E l Y cv (resc.bind KB) pc lv stk (S, d) k n := by
  refine r_callV hM hO hF ha h8 hcl hq9 hst hcat hG (fun _ => by rw [hz1]; rfl) pc' hp hd (fun v => ?_)
  rw [hz1, hz2]
  exact K v
theorem r_callV_X {resc : Option (Int32 × z_D)} {KB : Int32 → z_D → Option α} {b : Nat} {kd : z_K} {q9 : vw_C} (hM : z_Sp E l y Yc (cvX S) (.ref (E.2.1 + b) :: As) (S, d) resc) (hO : z_Ok y Yc As.length) (hF : z_Fit Y Yc k n) (ha : z_at S b kd) (h8 : kd.1 < 8) (hcl : vwCl[kd.1]? = some q9) (hq9 : q9.1 = Yc.1) (hst : stk = As.reverse ++ .ref (E.2.1 + b) :: st) (hcat : (st.map fun v => v.category).sum ≤ 8) (hG : GoodIn Y.2.2.2.1 (wsV Y.1 idx Yc.1 y Yc.2.2.2.1)) (hz1 : Yc.2.2.2.2.2.2.1 = 0) (hz2 : Yc.2.2.2.2.2.2.2 = 0) (pc' : Nat) (hp : pc + 3 = pc') (hd : decode Y.2.1 pc = .ok (.invokevirtual idx, 3)) (K : ∀ v d', z_G E l Y cv (KB v d') pc' lv (.int v :: st) (S, d') k n) : z_G E l Y cv (z_bX resc KB) pc lv stk (S, d) k n := by
  refine r_callV hM hO hF ha h8 hcl hq9 hst hcat hG (fun _ => by rw [hz1]; rfl) pc' hp hd (fun v => ?_)
  rw [hz1, hz2]
  exact K v.1 v.2
theorem r_callVN_I {resc : Option Int32} {KB : Int32 → Option α} {b : Nat} {kd : z_K} {q9 : vw_C} (hM : z_Sp E l y Yc (cvI S d) (.ref (E.2.1 + b) :: As) (S, d) resc) (hO : z_Ok y Yc As.length) (hF : z_Fit Y Yc k n) (ha : z_at S b kd) (h8 : kd.1 < 8) (hcl : vwCl[kd.1]? = some q9) (hq9 : q9.1 = Yc.1) (hst : stk = As.reverse ++ .ref (E.2.1 + b) :: st) (hcat : (st.map fun v => v.category).sum ≤ 8) (j : Nat) (hj : z_nm[j]? = some (Y.1, idx, y)) (hG : GoodIn Y.2.2.2.1 Yc.2.2.2.1) (h1 : Cond.initialized y.cls ∈ Y.2.2.2.1) (h2 : Cond.instanceMethod y ∈ Y.2.2.2.1) (h3 : Cond.selects Yc.1 y y ∈ Y.2.2.2.1) (hz1 : Yc.2.2.2.2.2.2.1 = 0) (hz2 : Yc.2.2.2.2.2.2.2 = 0) (pc' : Nat) (hp : pc + 3 = pc') (hd : decode Y.2.1 pc = .ok (.invokevirtual idx, 3)) (K : ∀ v, z_G E l Y cv (KB v) pc' lv (.int v :: st) (S, d) k n) : z_G E l Y cv (resc.bind KB) pc lv stk (S, d) k n := by
  refine r_callVN hM hO hF ha h8 hcl hq9 hst hcat j hj hG h1 h2 h3 (fun _ => by rw [hz1]; rfl) pc' hp hd (fun v => ?_)
  rw [hz1, hz2]
  exact K v
theorem r_callVN_J {resc : Option Int64} {KB : Int64 → Option α} {b : Nat} {kd : z_K} {q9 : vw_C} (hM : z_Sp E l y Yc (cvJ S d) (.ref (E.2.1 + b) :: As) (S, d) resc) (hO : z_Ok y Yc As.length) (hF : z_Fit Y Yc k n) (ha : z_at S b kd) (h8 : kd.1 < 8) (hcl : vwCl[kd.1]? = some q9) (hq9 : q9.1 = Yc.1) (hst : stk = As.reverse ++ .ref (E.2.1 + b) :: st) (hcat : (st.map fun v => v.category).sum ≤ 8) (j : Nat) (hj : z_nm[j]? = some (Y.1, idx, y)) (hG : GoodIn Y.2.2.2.1 Yc.2.2.2.1) (h1 : Cond.initialized y.cls ∈ Y.2.2.2.1) (h2 : Cond.instanceMethod y ∈ Y.2.2.2.1) (h3 : Cond.selects Yc.1 y y ∈ Y.2.2.2.1) (hz1 : Yc.2.2.2.2.2.2.1 = 0) (hz2 : Yc.2.2.2.2.2.2.2 = 0) (pc' : Nat) (hp : pc + 3 = pc') (hd : decode Y.2.1 pc = .ok (.invokevirtual idx, 3)) (K : ∀ v, z_G E l Y cv (KB v) pc' lv (.long v :: st) (S, d) k n) : z_G E l Y cv (resc.bind KB) pc lv stk (S, d) k n := by
  refine r_callVN hM hO hF ha h8 hcl hq9 hst hcat j hj hG h1 h2 h3 (fun _ => by rw [hz1]; rfl) pc' hp hd (fun v => ?_)
  rw [hz1, hz2]
  exact K v
theorem r_callVN_V {resc : Option z_D} {KB : z_D → Option α} {b : Nat} {kd : z_K} {q9 : vw_C} (hM : z_Sp E l y Yc (cvV S) (.ref (E.2.1 + b) :: As) (S, d) resc) (hO : z_Ok y Yc As.length) (hF : z_Fit Y Yc k n) (ha : z_at S b kd) (h8 : kd.1 < 8) (hcl : vwCl[kd.1]? = some q9) (hq9 : q9.1 = Yc.1) (hst : stk = As.reverse ++ .ref (E.2.1 + b) :: st) (hcat : (st.map fun v => v.category).sum ≤ 8) (j : Nat) (hj : z_nm[j]? = some (Y.1, idx, y)) (hG : GoodIn Y.2.2.2.1 Yc.2.2.2.1) (h1 : Cond.initialized y.cls ∈ Y.2.2.2.1) (h2 : Cond.instanceMethod y ∈ Y.2.2.2.1) (h3 : Cond.selects Yc.1 y y ∈ Y.2.2.2.1) (hz1 : Yc.2.2.2.2.2.2.1 = 0) (hz2 : Yc.2.2.2.2.2.2.2 = 0) (pc' : Nat) (hp : pc + 3 = pc') (hd : decode Y.2.1 pc = .ok (.invokevirtual idx, 3)) (K : ∀ d', z_G E l Y cv (KB d') pc' lv st (S, d') k n) : z_G E l Y cv (resc.bind KB) pc lv stk (S, d) k n := by
  refine r_callVN hM hO hF ha h8 hcl hq9 hst hcat j hj hG h1 h2 h3 (fun _ => by rw [hz1]; rfl) pc' hp hd (fun v => ?_)
  rw [hz1, hz2]
  exact K v
theorem r_callVN_X {resc : Option (Int32 × z_D)} {KB : Int32 → z_D → Option α} {b : Nat} {kd : z_K} {q9 : vw_C} (hM : z_Sp E l y Yc (cvX S) (.ref (E.2.1 + b) :: As) (S, d) resc) (hO : z_Ok y Yc As.length) (hF : z_Fit Y Yc k n) (ha : z_at S b kd) (h8 : kd.1 < 8) (hcl : vwCl[kd.1]? = some q9) (hq9 : q9.1 = Yc.1) (hst : stk = As.reverse ++ .ref (E.2.1 + b) :: st) (hcat : (st.map fun v => v.category).sum ≤ 8) (j : Nat) (hj : z_nm[j]? = some (Y.1, idx, y)) (hG : GoodIn Y.2.2.2.1 Yc.2.2.2.1) (h1 : Cond.initialized y.cls ∈ Y.2.2.2.1) (h2 : Cond.instanceMethod y ∈ Y.2.2.2.1) (h3 : Cond.selects Yc.1 y y ∈ Y.2.2.2.1) (hz1 : Yc.2.2.2.2.2.2.1 = 0) (hz2 : Yc.2.2.2.2.2.2.2 = 0) (pc' : Nat) (hp : pc + 3 = pc') (hd : decode Y.2.1 pc = .ok (.invokevirtual idx, 3)) (K : ∀ v d', z_G E l Y cv (KB v d') pc' lv (.int v :: st) (S, d') k n) : z_G E l Y cv (z_bX resc KB) pc lv stk (S, d) k n := by
  refine r_callVN hM hO hF ha h8 hcl hq9 hst hcat j hj hG h1 h2 h3 (fun _ => by rw [hz1]; rfl) pc' hp hd (fun v => ?_)
  rw [hz1, hz2]
  exact K v.1 v.2
theorem r_callVN_R {rb : Nat} {resc : Option (Option Nat)} {KB : Option Nat → Option α} {b : Nat} {kd : z_K} {q9 : vw_C} (hM : z_Sp E l y Yc (cvR E S d rb) (.ref (E.2.1 + b) :: As) (S, d) resc) (hO : z_Ok y Yc As.length) (hF : z_Fit Y Yc k n) (ha : z_at S b kd) (h8 : kd.1 < 8) (hcl : vwCl[kd.1]? = some q9) (hq9 : q9.1 = Yc.1) (hst : stk = As.reverse ++ .ref (E.2.1 + b) :: st) (hcat : (st.map fun v => v.category).sum ≤ 8) (j : Nat) (hj : z_nm[j]? = some (Y.1, idx, y)) (hG : GoodIn Y.2.2.2.1 Yc.2.2.2.1) (h1 : Cond.initialized y.cls ∈ Y.2.2.2.1) (h2 : Cond.instanceMethod y ∈ Y.2.2.2.1) (h3 : Cond.selects Yc.1 y y ∈ Y.2.2.2.1) (hz1 : Yc.2.2.2.2.2.2.1 = 0) (hz2 : Yc.2.2.2.2.2.2.2 = 0) (pc' : Nat) (hp : pc + 3 = pc') (hd : decode Y.2.1 pc = .ok (.invokevirtual idx, 3)) (K : ∀ v, z_G E l Y cv (KB v) pc' lv (va_rf (z_sh E.2.1 (z_stg rb v)) :: st) (S, d) k n) : z_G E l Y cv (resc.bind KB) pc lv stk (S, d) k n := by
  refine r_callVN hM hO hF ha h8 hcl hq9 hst hcat j hj hG h1 h2 h3 (fun _ => by rw [hz1]; rfl) pc' hp hd (fun v => ?_)
  rw [hz1, hz2]
  exact K v
theorem r_callS_I {resc : Option Int32} {KB : Int32 → Option α} (hM : z_Sp E l y Yc (cvI S d) As (S, d) resc) (hO : z_Ok y Yc As.length) (hF : z_Fit Y Yc k n) (hst : stk = As.reverse ++ st) (hcat : (st.map fun v => v.category).sum ≤ 8) (hG : GoodIn Y.2.2.2.1 (va_wsS Y.1 idx y Yc.2.2.2.1)) (hz1 : Yc.2.2.2.2.2.2.1 = 0) (hz2 : Yc.2.2.2.2.2.2.2 = 0) (pc' : Nat) (hp : pc + 3 = pc') (hd : decode Y.2.1 pc = .ok (.invokestatic idx, 3)) (K : ∀ v, z_G E l Y cv (KB v) pc' lv (.int v :: st) (S, d) k n) : z_G E l Y cv (resc.bind KB) pc lv stk (S, d) k n := by
  refine r_callS hM hO hF hst hcat hG (fun _ => by rw [hz1]; rfl) pc' hp hd (fun v => ?_)
  rw [hz1, hz2]
  exact K v
theorem r_callS_J {resc : Option Int64} {KB : Int64 → Option α} (hM : z_Sp E l y Yc (cvJ S d) As (S, d) resc) (hO : z_Ok y Yc As.length) (hF : z_Fit Y Yc k n) (hst : stk = As.reverse ++ st) (hcat : (st.map fun v => v.category).sum ≤ 8) (hG : GoodIn Y.2.2.2.1 (va_wsS Y.1 idx y Yc.2.2.2.1)) (hz1 : Yc.2.2.2.2.2.2.1 = 0) (hz2 : Yc.2.2.2.2.2.2.2 = 0) (pc' : Nat) (hp : pc + 3 = pc') (hd : decode Y.2.1 pc = .ok (.invokestatic idx, 3)) (K : ∀ v, z_G E l Y cv (KB v) pc' lv (.long v :: st) (S, d) k n) : z_G E l Y cv (resc.bind KB) pc lv stk (S, d) k n := by
  refine r_callS hM hO hF hst hcat hG (fun _ => by rw [hz1]; rfl) pc' hp hd (fun v => ?_)
  rw [hz1, hz2]
  exact K v
theorem r_callS_V {resc : Option z_D} {KB : z_D → Option α} (hM : z_Sp E l y Yc (cvV S) As (S, d) resc) (hO : z_Ok y Yc As.length) (hF : z_Fit Y Yc k n) (hst : stk = As.reverse ++ st) (hcat : (st.map fun v => v.category).sum ≤ 8) (hG : GoodIn Y.2.2.2.1 (va_wsS Y.1 idx y Yc.2.2.2.1)) (hz1 : Yc.2.2.2.2.2.2.1 = 0) (hz2 : Yc.2.2.2.2.2.2.2 = 0) (pc' : Nat) (hp : pc + 3 = pc') (hd : decode Y.2.1 pc = .ok (.invokestatic idx, 3)) (K : ∀ d', z_G E l Y cv (KB d') pc' lv st (S, d') k n) : z_G E l Y cv (resc.bind KB) pc lv stk (S, d) k n := by
  refine r_callS hM hO hF hst hcat hG (fun _ => by rw [hz1]; rfl) pc' hp hd (fun v => ?_)
  rw [hz1, hz2]
  exact K v
theorem r_callS_X {resc : Option (Int32 × z_D)} {KB : Int32 → z_D → Option α} (hM : z_Sp E l y Yc (cvX S) As (S, d) resc) (hO : z_Ok y Yc As.length) (hF : z_Fit Y Yc k n) (hst : stk = As.reverse ++ st) (hcat : (st.map fun v => v.category).sum ≤ 8) (hG : GoodIn Y.2.2.2.1 (va_wsS Y.1 idx y Yc.2.2.2.1)) (hz1 : Yc.2.2.2.2.2.2.1 = 0) (hz2 : Yc.2.2.2.2.2.2.2 = 0) (pc' : Nat) (hp : pc + 3 = pc') (hd : decode Y.2.1 pc = .ok (.invokestatic idx, 3)) (K : ∀ v d', z_G E l Y cv (KB v d') pc' lv (.int v :: st) (S, d') k n) : z_G E l Y cv (z_bX resc KB) pc lv stk (S, d) k n := by
  refine r_callS hM hO hF hst hcat hG (fun _ => by rw [hz1]; rfl) pc' hp hd (fun v => ?_)
  rw [hz1, hz2]
  exact K v.1 v.2
theorem r_callSN_I {resc : Option Int32} {KB : Int32 → Option α} (hM : z_Sp E l y Yc (cvI S d) As (S, d) resc) (hO : z_Ok y Yc As.length) (hF : z_Fit Y Yc k n) (hst : stk = As.reverse ++ st) (hcat : (st.map fun v => v.category).sum ≤ 8) (j : Nat) (hj : z_nm[j]? = some (Y.1, idx, y)) (hG : GoodIn Y.2.2.2.1 Yc.2.2.2.1) (h1 : Cond.initialized y.cls ∈ Y.2.2.2.1) (h2 : Cond.static y ∈ Y.2.2.2.1) (hz1 : Yc.2.2.2.2.2.2.1 = 0) (hz2 : Yc.2.2.2.2.2.2.2 = 0) (pc' : Nat) (hp : pc + 3 = pc') (hd : decode Y.2.1 pc = .ok (.invokestatic idx, 3)) (K : ∀ v, z_G E l Y cv (KB v) pc' lv (.int v :: st) (S, d) k n) : z_G E l Y cv (resc.bind KB) pc lv stk (S, d) k n := by
  refine r_callSN hM hO hF hst hcat j hj hG h1 h2 (fun _ => by rw [hz1]; rfl) pc' hp hd (fun v => ?_)
  rw [hz1, hz2]
  exact K v
theorem r_callSN_J {resc : Option Int64} {KB : Int64 → Option α} (hM : z_Sp E l y Yc (cvJ S d) As (S, d) resc) (hO : z_Ok y Yc As.length) (hF : z_Fit Y Yc k n) (hst : stk = As.reverse ++ st) (hcat : (st.map fun v => v.category).sum ≤ 8) (j : Nat) (hj : z_nm[j]? = some (Y.1, idx, y)) (hG : GoodIn Y.2.2.2.1 Yc.2.2.2.1) (h1 : Cond.initialized y.cls ∈ Y.2.2.2.1) (h2 : Cond.static y ∈ Y.2.2.2.1) (hz1 : Yc.2.2.2.2.2.2.1 = 0) (hz2 : Yc.2.2.2.2.2.2.2 = 0) (pc' : Nat) (hp : pc + 3 = pc') (hd : decode Y.2.1 pc = .ok (.invokestatic idx, 3)) (K : ∀ v, z_G E l Y cv (KB v) pc' lv (.long v :: st) (S, d) k n) : z_G E l Y cv (resc.bind KB) pc lv stk (S, d) k n := by
  refine r_callSN hM hO hF hst hcat j hj hG h1 h2 (fun _ => by rw [hz1]; rfl) pc' hp hd (fun v => ?_)
  rw [hz1, hz2]
  exact K v
theorem r_callSN_V {resc : Option z_D} {KB : z_D → Option α} (hM : z_Sp E l y Yc (cvV S) As (S, d) resc) (hO : z_Ok y Yc As.length) (hF : z_Fit Y Yc k n) (hst : stk = As.reverse ++ st) (hcat : (st.map fun v => v.category).sum ≤ 8) (j : Nat) (hj : z_nm[j]? = some (Y.1, idx, y)) (hG : GoodIn Y.2.2.2.1 Yc.2.2.2.1) (h1 : Cond.initialized y.cls ∈ Y.2.2.2.1) (h2 : Cond.static y ∈ Y.2.2.2.1) (hz1 : Yc.2.2.2.2.2.2.1 = 0) (hz2 : Yc.2.2.2.2.2.2.2 = 0) (pc' : Nat) (hp : pc + 3 = pc') (hd : decode Y.2.1 pc = .ok (.invokestatic idx, 3)) (K : ∀ d', z_G E l Y cv (KB d') pc' lv st (S, d') k n) : z_G E l Y cv (resc.bind KB) pc lv stk (S, d) k n := by
  refine r_callSN hM hO hF hst hcat j hj hG h1 h2 (fun _ => by rw [hz1]; rfl) pc' hp hd (fun v => ?_)
  rw [hz1, hz2]
  exact K v
theorem r_callSN_X {resc : Option (Int32 × z_D)} {KB : Int32 → z_D → Option α} (hM : z_Sp E l y Yc (cvX S) As (S, d) resc) (hO : z_Ok y Yc As.length) (hF : z_Fit Y Yc k n) (hst : stk = As.reverse ++ st) (hcat : (st.map fun v => v.category).sum ≤ 8) (j : Nat) (hj : z_nm[j]? = some (Y.1, idx, y)) (hG : GoodIn Y.2.2.2.1 Yc.2.2.2.1) (h1 : Cond.initialized y.cls ∈ Y.2.2.2.1) (h2 : Cond.static y ∈ Y.2.2.2.1) (hz1 : Yc.2.2.2.2.2.2.1 = 0) (hz2 : Yc.2.2.2.2.2.2.2 = 0) (pc' : Nat) (hp : pc + 3 = pc') (hd : decode Y.2.1 pc = .ok (.invokestatic idx, 3)) (K : ∀ v d', z_G E l Y cv (KB v d') pc' lv (.int v :: st) (S, d') k n) : z_G E l Y cv (z_bX resc KB) pc lv stk (S, d) k n := by
  refine r_callSN hM hO hF hst hcat j hj hG h1 h2 (fun _ => by rw [hz1]; rfl) pc' hp hd (fun v => ?_)
  rw [hz1, hz2]
  exact K v.1 v.2
end
def L_Course (b : Nat) : Nat → z_K := fun o => match o with
  | 0 => (0, 7, (fun k => match k with | 3 => some (b + 1) | 4 => some (b + 2) | 5 => some (b + 3) | 6 => some (b + 4) | _ => none))
  | 1 => (8, 6, z_nn)
  | 2 => (8, 6, z_nn)
  | 3 => (8, 6, z_nn)
  | _ => (8, 96, z_nn)
def L_Prizes (b : Nat) : Nat → z_K := fun o => match o with
  | 0 => (1, 3, (fun k => match k with | 0 => some (b + 1) | 1 => some (b + 2) | 2 => some (b + 3) | _ => none))
  | 1 => (8, 16, z_nn)
  | 2 => (8, 16, z_nn)
  | _ => (8, 16, z_nn)
def L_Stage (b : Nat) : Nat → z_K := fun o => match o with
  | 0 => (3, 20, (fun k => match k with | 0 => some (b + 1) | 1 => some (b + 6) | 2 => some (b + 10) | 3 => some (b + 11) | 4 => some (b + 12) | 5 => some (b + 13) | 6 => some (b + 14) | 8 => some (b + 15) | 9 => some (b + 16) | 10 => some (b + 17) | 11 => some (b + 18) | 12 => some (b + 19) | 13 => some (b + 20) | _ => none))
  | 1 => L_Course (b + 1) 0
  | 2 => L_Course (b + 1) 1
  | 3 => L_Course (b + 1) 2
  | 4 => L_Course (b + 1) 3
  | 5 => L_Course (b + 1) 4
  | 6 => L_Prizes (b + 6) 0
  | 7 => L_Prizes (b + 6) 1
  | 8 => L_Prizes (b + 6) 2
  | 9 => L_Prizes (b + 6) 3
  | 10 => (8, 16, z_nn)
  | 11 => (8, 16, z_nn)
  | 12 => (8, 16, z_nn)
  | 13 => (8, 16, z_nn)
  | 14 => (9, 16, z_nn)
  | 15 => (8, 16, z_nn)
  | 16 => (8, 16, z_nn)
  | 17 => (8, 16, z_nn)
  | 18 => (8, 16, z_nn)
  | 19 => (8, 16, z_nn)
  | _ => (9, 16, z_nn)
def L_Race (b : Nat) : Nat → z_K := fun o => match o with
  | 0 => (2, 10, (fun k => match k with | 6 => some (b + 1) | 7 => some (b + 2) | 8 => some (b + 3) | 9 => some (b + 4) | _ => none))
  | 1 => (8, 16, z_nn)
  | 2 => (8, 16, z_nn)
  | 3 => (9, 16, z_nn)
  | _ => (12, 8, fun j => some (b + 5 + 21 * j))
def L_Standings (b : Nat) : Nat → z_K := fun o => match o with
  | 0 => (4, 5, (fun k => match k with | 0 => some (b + 1) | 1 => some (b + 2) | 2 => some (b + 3) | 3 => some (b + 4) | _ => none))
  | 1 => (8, 16, z_nn)
  | 2 => (8, 16, z_nn)
  | 3 => (8, 16, z_nn)
  | _ => (8, 16, z_nn)
def L_Tape (b : Nat) : Nat → z_K := fun o => match o with
  | 0 => (5, 6, (fun k => match k with | 0 => some (b + 1) | _ => none))
  | _ => (10, 600, z_nn)
def L_Model (b : Nat) : Nat → z_K := fun o => match o with
  | 0 => (7, 18, (fun k => match k with | 1 => some (b + 1) | 2 => some (b + 2) | 3 => some (b + 3) | 4 => some (b + 4) | 5 => some (b + 5) | 7 => some (b + 6) | 9 => some (b + 7) | 10 => some (b + 8) | 16 => some (b + 9) | _ => none))
  | 1 => (8, 2656, z_nn)
  | 2 => (8, 5312, z_nn)
  | 3 => (8, 2656, z_nn)
  | 4 => (9, 2, z_nn)
  | 5 => (8, 16, z_nn)
  | 6 => (8, 16, z_nn)
  | 7 => (8, 3, z_nn)
  | 8 => (10, 600, z_nn)
  | _ => (8, 600, z_nn)
def L_BT (b : Nat) : z_K := (6, 5, (fun k => match k with | 0 => some (b + 1) | 1 => some (b + 174) | 2 => some (b + 347) | 3 => some (b + 348) | 4 => some (b + 353) | _ => none))
def A_Course (S : z_S) (b : Nat) : Prop := ∀ o, o < 5 → z_at S (b + o) (L_Course b o)
def A_Prizes (S : z_S) (b : Nat) : Prop := ∀ o, o < 4 → z_at S (b + o) (L_Prizes b o)
def A_Stage (S : z_S) (b : Nat) : Prop := ∀ o, o < 21 → z_at S (b + o) (L_Stage b o)
def A_Standings (S : z_S) (b : Nat) : Prop := ∀ o, o < 5 → z_at S (b + o) (L_Standings b o)
def A_Tape (S : z_S) (b : Nat) : Prop := ∀ o, o < 2 → z_at S (b + o) (L_Tape b o)
def A_Model (S : z_S) (b : Nat) : Prop := ∀ o, o < 10 → z_at S (b + o) (L_Model b o)
def A_Race (S : z_S) (b : Nat) : Prop := (∀ o, o < 5 → z_at S (b + o) (L_Race b o)) ∧ ∀ j, j < 8 → A_Stage S (b + 5 + 21 * j)
def A_BT (S : z_S) (b : Nat) : Prop := (∀ o, o < 1 → z_at S (b + o) (L_BT b)) ∧ (A_Race S (b + 1) ∧ A_Race S (b + 174) ∧ A_Standings S (b + 348) ∧ A_Tape S (b + 353)) ∧ ∃ rf, z_at S (b + 347) (11, 2, rf)
theorem A_Stage.course {S : z_S} {b : Nat} (h : A_Stage S b) : A_Course S (b + 1) := by
  intro o ho
  have h1 := h (1 + o) (by omega)
  rw [← Nat.add_assoc] at h1
  match o, ho, h1 with
  | 0, _, h1 => exact h1
  | 1, _, h1 => exact h1
  | 2, _, h1 => exact h1
  | 3, _, h1 => exact h1
  | 4, _, h1 => exact h1
theorem A_Stage.prizes {S : z_S} {b : Nat} (h : A_Stage S b) : A_Prizes S (b + 6) := by
  intro o ho
  have h1 := h (6 + o) (by omega)
  rw [← Nat.add_assoc] at h1
  match o, ho, h1 with
  | 0, _, h1 => exact h1
  | 1, _, h1 => exact h1
  | 2, _, h1 => exact h1
  | 3, _, h1 => exact h1
theorem A_BT.race {S : z_S} {b : Nat} (h : A_BT S b) : A_Race S (b + 1) := h.2.1.1
theorem A_BT.ahead {S : z_S} {b : Nat} (h : A_BT S b) : A_Race S (b + 174) := h.2.1.2.1
theorem A_BT.standings {S : z_S} {b : Nat} (h : A_BT S b) : A_Standings S (b + 348) := h.2.1.2.2.1
theorem A_BT.tape {S : z_S} {b : Nat} (h : A_BT S b) : A_Tape S (b + 353) := h.2.1.2.2.2
end
