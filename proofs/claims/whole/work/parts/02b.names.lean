set_option maxRecDepth 20000 in
theorem ggX0_canBe_X8_within : GoodIn wsX0_canBe wsX8_within := goodIn_r _ [3] rfl (by decide +kernel)
set_option maxRecDepth 20000 in
theorem gX0_canBe_X8_within_n9 : GoodIn wsX0_canBe (wsX8_within) := ggX0_canBe_X8_within
theorem dX0_canBe_0 : decode cX0_canBe 0 = .ok (.iload_n 0, 1) := by decide +kernel
theorem dX0_canBe_1 : decode cX0_canBe 1 = .ok (.iconst 1, 1) := by decide +kernel
theorem dX0_canBe_2 : decode cX0_canBe 2 = .ok (.bipush 16, 2) := by decide +kernel
theorem dX0_canBe_4 : decode cX0_canBe 4 = .ok (.invokestatic 9, 3) := by decide +kernel
theorem dX0_canBe_7 : decode cX0_canBe 7 = .ok (.ifCond .eq 28, 3) := by decide +kernel
theorem dX0_canBe_10 : decode cX0_canBe 10 = .ok (.iload_n 1, 1) := by decide +kernel
theorem dX0_canBe_11 : decode cX0_canBe 11 = .ok (.iconst 1, 1) := by decide +kernel
theorem dX0_canBe_12 : decode cX0_canBe 12 = .ok (.sipush 300, 3) := by decide +kernel
theorem dX0_canBe_15 : decode cX0_canBe 15 = .ok (.invokestatic 9, 3) := by decide +kernel
theorem dX0_canBe_18 : decode cX0_canBe 18 = .ok (.ifCond .eq 17, 3) := by decide +kernel
theorem dX0_canBe_21 : decode cX0_canBe 21 = .ok (.iload_n 2, 1) := by decide +kernel
theorem dX0_canBe_22 : decode cX0_canBe 22 = .ok (.iconst 1, 1) := by decide +kernel
theorem dX0_canBe_23 : decode cX0_canBe 23 = .ok (.bipush 16, 2) := by decide +kernel
theorem dX0_canBe_25 : decode cX0_canBe 25 = .ok (.invokestatic 9, 3) := by decide +kernel
theorem dX0_canBe_28 : decode cX0_canBe 28 = .ok (.ifCond .eq 7, 3) := by decide +kernel
theorem dX0_canBe_31 : decode cX0_canBe 31 = .ok (.iconst 1, 1) := by decide +kernel
theorem dX0_canBe_32 : decode cX0_canBe 32 = .ok (.goto 4, 3) := by decide +kernel
theorem dX0_canBe_35 : decode cX0_canBe 35 = .ok (.iconst 0, 1) := by decide +kernel
theorem dX0_canBe_36 : decode cX0_canBe 36 = .ok (.ireturn, 1) := by decide +kernel
theorem dX0_pace_0 : decode cX0_pace 0 = .ok (.ldc 13, 2) := by decide +kernel
theorem dX0_pace_2 : decode cX0_pace 2 = .ok (.sipush 6000, 3) := by decide +kernel
theorem dX0_pace_5 : decode cX0_pace 5 = .ok (.iload_n 0, 1) := by decide +kernel
theorem dX0_pace_6 : decode cX0_pace 6 = .ok (.iconst 1, 1) := by decide +kernel
theorem dX0_pace_7 : decode cX0_pace 7 = .ok (.isub, 1) := by decide +kernel
theorem dX0_pace_8 : decode cX0_pace 8 = .ok (.imul, 1) := by decide +kernel
theorem dX0_pace_9 : decode cX0_pace 9 = .ok (.iload_n 0, 1) := by decide +kernel
theorem dX0_pace_10 : decode cX0_pace 10 = .ok (.iconst 1, 1) := by decide +kernel
theorem dX0_pace_11 : decode cX0_pace 11 = .ok (.invokestatic 14, 3) := by decide +kernel
theorem dX0_pace_14 : decode cX0_pace 14 = .ok (.idiv, 1) := by decide +kernel
theorem dX0_pace_15 : decode cX0_pace 15 = .ok (.iadd, 1) := by decide +kernel
theorem dX0_pace_16 : decode cX0_pace 16 = .ok (.i2l, 1) := by decide +kernel
theorem dX0_pace_17 : decode cX0_pace 17 = .ok (.lreturn, 1) := by decide +kernel
set_option maxRecDepth 20000 in
theorem ggX0_metresLeft_X0_pace : GoodIn wsX0_metresLeft wsX0_pace := goodIn_r _ [6, 7, 8, 9, 10, 11] rfl (by decide +kernel)
set_option maxRecDepth 20000 in
theorem gX0_metresLeft_X0_pace : GoodIn wsX0_metresLeft (va_wsS RX0 20 yX0_pace wsX0_pace) := goodIn_app (goodIn_of _ (by decide +kernel)) ggX0_metresLeft_X0_pace
theorem dX0_metresLeft_0 : decode cX0_metresLeft 0 = .ok (.iload_n 0, 1) := by decide +kernel
theorem dX0_metresLeft_1 : decode cX0_metresLeft 1 = .ok (.invokestatic 20, 3) := by decide +kernel
theorem dX0_metresLeft_4 : decode cX0_metresLeft 4 = .ok (.lstore 4, 2) := by decide +kernel
theorem dX0_metresLeft_6 : decode cX0_metresLeft 6 = .ok (.iload_n 3, 1) := by decide +kernel
theorem dX0_metresLeft_7 : decode cX0_metresLeft 7 = .ok (.invokestatic 20, 3) := by decide +kernel
theorem dX0_metresLeft_10 : decode cX0_metresLeft 10 = .ok (.lstore 6, 2) := by decide +kernel
theorem dX0_metresLeft_12 : decode cX0_metresLeft 12 = .ok (.lload 6, 2) := by decide +kernel
theorem dX0_metresLeft_14 : decode cX0_metresLeft 14 = .ok (.lload 4, 2) := by decide +kernel
theorem dX0_metresLeft_16 : decode cX0_metresLeft 16 = .ok (.lcmp, 1) := by decide +kernel
theorem dX0_metresLeft_17 : decode cX0_metresLeft 17 = .ok (.ifCond .gt 5, 3) := by decide +kernel
theorem dX0_metresLeft_20 : decode cX0_metresLeft 20 = .ok (.iconst (-1), 1) := by decide +kernel
theorem dX0_metresLeft_21 : decode cX0_metresLeft 21 = .ok (.ireturn, 1) := by decide +kernel
theorem dX0_metresLeft_22 : decode cX0_metresLeft 22 = .ok (.ldc2_w 26, 3) := by decide +kernel
theorem dX0_metresLeft_25 : decode cX0_metresLeft 25 = .ok (.lload 6, 2) := by decide +kernel
theorem dX0_metresLeft_27 : decode cX0_metresLeft 27 = .ok (.lload 4, 2) := by decide +kernel
theorem dX0_metresLeft_29 : decode cX0_metresLeft 29 = .ok (.lsub, 1) := by decide +kernel
theorem dX0_metresLeft_30 : decode cX0_metresLeft 30 = .ok (.lmul, 1) := by decide +kernel
theorem dX0_metresLeft_31 : decode cX0_metresLeft 31 = .ok (.lstore 8, 2) := by decide +kernel
theorem dX0_metresLeft_33 : decode cX0_metresLeft 33 = .ok (.iload_n 2, 1) := by decide +kernel
theorem dX0_metresLeft_34 : decode cX0_metresLeft 34 = .ok (.i2l, 1) := by decide +kernel
theorem dX0_metresLeft_35 : decode cX0_metresLeft 35 = .ok (.ldc2_w 28, 3) := by decide +kernel
theorem dX0_metresLeft_38 : decode cX0_metresLeft 38 = .ok (.lmul, 1) := by decide +kernel
theorem dX0_metresLeft_39 : decode cX0_metresLeft 39 = .ok (.lload 8, 2) := by decide +kernel
theorem dX0_metresLeft_41 : decode cX0_metresLeft 41 = .ok (.lmul, 1) := by decide +kernel
theorem dX0_metresLeft_42 : decode cX0_metresLeft 42 = .ok (.lload 4, 2) := by decide +kernel
theorem dX0_metresLeft_44 : decode cX0_metresLeft 44 = .ok (.lload 6, 2) := by decide +kernel
theorem dX0_metresLeft_46 : decode cX0_metresLeft 46 = .ok (.lmul, 1) := by decide +kernel
theorem dX0_metresLeft_47 : decode cX0_metresLeft 47 = .ok (.iload_n 1, 1) := by decide +kernel
theorem dX0_metresLeft_48 : decode cX0_metresLeft 48 = .ok (.i2l, 1) := by decide +kernel
theorem dX0_metresLeft_49 : decode cX0_metresLeft 49 = .ok (.lmul, 1) := by decide +kernel
theorem dX0_metresLeft_50 : decode cX0_metresLeft 50 = .ok (.lsub, 1) := by decide +kernel
theorem dX0_metresLeft_51 : decode cX0_metresLeft 51 = .ok (.lstore 10, 2) := by decide +kernel
theorem dX0_metresLeft_53 : decode cX0_metresLeft 53 = .ok (.lload 10, 2) := by decide +kernel
theorem dX0_metresLeft_55 : decode cX0_metresLeft 55 = .ok (.lconst 0, 1) := by decide +kernel
theorem dX0_metresLeft_56 : decode cX0_metresLeft 56 = .ok (.lcmp, 1) := by decide +kernel
theorem dX0_metresLeft_57 : decode cX0_metresLeft 57 = .ok (.ifCond .ge 7, 3) := by decide +kernel
theorem dX0_metresLeft_60 : decode cX0_metresLeft 60 = .ok (.iconst (-1), 1) := by decide +kernel
theorem dX0_metresLeft_61 : decode cX0_metresLeft 61 = .ok (.goto 9, 3) := by decide +kernel
theorem dX0_metresLeft_64 : decode cX0_metresLeft 64 = .ok (.lload 10, 2) := by decide +kernel
theorem dX0_metresLeft_66 : decode cX0_metresLeft 66 = .ok (.lload 8, 2) := by decide +kernel
theorem dX0_metresLeft_68 : decode cX0_metresLeft 68 = .ok (.ldiv, 1) := by decide +kernel
theorem dX0_metresLeft_69 : decode cX0_metresLeft 69 = .ok (.l2i, 1) := by decide +kernel
theorem dX0_metresLeft_70 : decode cX0_metresLeft 70 = .ok (.ireturn, 1) := by decide +kernel
set_option maxRecDepth 20000 in
theorem ggX0_leastAhead_X0_pace : GoodIn wsX0_leastAhead wsX0_pace := goodIn_r _ [6, 7, 8, 9, 10, 11] rfl (by decide +kernel)
set_option maxRecDepth 20000 in
theorem gX0_leastAhead_X0_pace : GoodIn wsX0_leastAhead (va_wsS RX0 20 yX0_pace wsX0_pace) := goodIn_app (goodIn_of _ (by decide +kernel)) ggX0_leastAhead_X0_pace
theorem dX0_leastAhead_0 : decode cX0_leastAhead 0 = .ok (.iload_n 0, 1) := by decide +kernel
theorem dX0_leastAhead_1 : decode cX0_leastAhead 1 = .ok (.invokestatic 20, 3) := by decide +kernel
theorem dX0_leastAhead_4 : decode cX0_leastAhead 4 = .ok (.lstore_n 3, 1) := by decide +kernel
theorem dX0_leastAhead_5 : decode cX0_leastAhead 5 = .ok (.iload_n 2, 1) := by decide +kernel
theorem dX0_leastAhead_6 : decode cX0_leastAhead 6 = .ok (.invokestatic 20, 3) := by decide +kernel
theorem dX0_leastAhead_9 : decode cX0_leastAhead 9 = .ok (.lstore 5, 2) := by decide +kernel
theorem dX0_leastAhead_11 : decode cX0_leastAhead 11 = .ok (.lload 5, 2) := by decide +kernel
theorem dX0_leastAhead_13 : decode cX0_leastAhead 13 = .ok (.lload_n 3, 1) := by decide +kernel
theorem dX0_leastAhead_14 : decode cX0_leastAhead 14 = .ok (.lcmp, 1) := by decide +kernel
theorem dX0_leastAhead_15 : decode cX0_leastAhead 15 = .ok (.ifCond .gt 5, 3) := by decide +kernel
theorem dX0_leastAhead_18 : decode cX0_leastAhead 18 = .ok (.iconst 0, 1) := by decide +kernel
theorem dX0_leastAhead_19 : decode cX0_leastAhead 19 = .ok (.ireturn, 1) := by decide +kernel
theorem dX0_leastAhead_20 : decode cX0_leastAhead 20 = .ok (.iload_n 1, 1) := by decide +kernel
theorem dX0_leastAhead_21 : decode cX0_leastAhead 21 = .ok (.i2l, 1) := by decide +kernel
theorem dX0_leastAhead_22 : decode cX0_leastAhead 22 = .ok (.ldc2_w 28, 3) := by decide +kernel
theorem dX0_leastAhead_25 : decode cX0_leastAhead 25 = .ok (.lmul, 1) := by decide +kernel
theorem dX0_leastAhead_26 : decode cX0_leastAhead 26 = .ok (.ldc2_w 26, 3) := by decide +kernel
theorem dX0_leastAhead_29 : decode cX0_leastAhead 29 = .ok (.lmul, 1) := by decide +kernel
theorem dX0_leastAhead_30 : decode cX0_leastAhead 30 = .ok (.lload 5, 2) := by decide +kernel
theorem dX0_leastAhead_32 : decode cX0_leastAhead 32 = .ok (.lload_n 3, 1) := by decide +kernel
theorem dX0_leastAhead_33 : decode cX0_leastAhead 33 = .ok (.lsub, 1) := by decide +kernel
theorem dX0_leastAhead_34 : decode cX0_leastAhead 34 = .ok (.lmul, 1) := by decide +kernel
theorem dX0_leastAhead_35 : decode cX0_leastAhead 35 = .ok (.lload_n 3, 1) := by decide +kernel
theorem dX0_leastAhead_36 : decode cX0_leastAhead 36 = .ok (.lload 5, 2) := by decide +kernel
theorem dX0_leastAhead_38 : decode cX0_leastAhead 38 = .ok (.lmul, 1) := by decide +kernel
theorem dX0_leastAhead_39 : decode cX0_leastAhead 39 = .ok (.ldiv, 1) := by decide +kernel
theorem dX0_leastAhead_40 : decode cX0_leastAhead 40 = .ok (.lconst 1, 1) := by decide +kernel
theorem dX0_leastAhead_41 : decode cX0_leastAhead 41 = .ok (.ladd, 1) := by decide +kernel
theorem dX0_leastAhead_42 : decode cX0_leastAhead 42 = .ok (.lstore 7, 2) := by decide +kernel
theorem dX0_leastAhead_44 : decode cX0_leastAhead 44 = .ok (.lload 7, 2) := by decide +kernel
theorem dX0_leastAhead_46 : decode cX0_leastAhead 46 = .ok (.ldc2_w 26, 3) := by decide +kernel
theorem dX0_leastAhead_49 : decode cX0_leastAhead 49 = .ok (.lcmp, 1) := by decide +kernel
theorem dX0_leastAhead_50 : decode cX0_leastAhead 50 = .ok (.ifCond .gt 9, 3) := by decide +kernel
theorem dX0_leastAhead_53 : decode cX0_leastAhead 53 = .ok (.lload 7, 2) := by decide +kernel
theorem dX0_leastAhead_55 : decode cX0_leastAhead 55 = .ok (.l2i, 1) := by decide +kernel
theorem dX0_leastAhead_56 : decode cX0_leastAhead 56 = .ok (.goto 4, 3) := by decide +kernel
theorem dX0_leastAhead_59 : decode cX0_leastAhead 59 = .ok (.iconst (-1), 1) := by decide +kernel
theorem dX0_leastAhead_60 : decode cX0_leastAhead 60 = .ok (.ireturn, 1) := by decide +kernel
theorem dX1_init_0 : decode cX1_init 0 = .ok (.aload_n 0, 1) := by decide +kernel
theorem dX1_init_1 : decode cX1_init 1 = .ok (.invokespecial 3, 3) := by decide +kernel
theorem dX1_init_4 : decode cX1_init 4 = .ok (.aload_n 0, 1) := by decide +kernel
theorem dX1_init_5 : decode cX1_init 5 = .ok (.bipush 6, 2) := by decide +kernel
theorem dX1_init_7 : decode cX1_init 7 = .ok (.newarray .int, 2) := by decide +kernel
theorem dX1_init_9 : decode cX1_init 9 = .ok (.putfield 9, 3) := by decide +kernel
theorem dX1_init_12 : decode cX1_init 12 = .ok (.aload_n 0, 1) := by decide +kernel
theorem dX1_init_13 : decode cX1_init 13 = .ok (.bipush 6, 2) := by decide +kernel
theorem dX1_init_15 : decode cX1_init 15 = .ok (.newarray .int, 2) := by decide +kernel
theorem dX1_init_17 : decode cX1_init 17 = .ok (.putfield 15, 3) := by decide +kernel
theorem dX1_init_20 : decode cX1_init 20 = .ok (.aload_n 0, 1) := by decide +kernel
theorem dX1_init_21 : decode cX1_init 21 = .ok (.bipush 6, 2) := by decide +kernel
theorem dX1_init_23 : decode cX1_init 23 = .ok (.newarray .int, 2) := by decide +kernel
theorem dX1_init_25 : decode cX1_init 25 = .ok (.putfield 18, 3) := by decide +kernel
theorem dX1_init_28 : decode cX1_init 28 = .ok (.aload_n 0, 1) := by decide +kernel
theorem dX1_init_29 : decode cX1_init 29 = .ok (.bipush 96, 2) := by decide +kernel
theorem dX1_init_31 : decode cX1_init 31 = .ok (.newarray .int, 2) := by decide +kernel
theorem dX1_init_33 : decode cX1_init 33 = .ok (.putfield 21, 3) := by decide +kernel
theorem dX1_init_36 : decode cX1_init 36 = .ok (.return_, 1) := by decide +kernel
theorem dX1_begin_0 : decode cX1_begin 0 = .ok (.aload_n 0, 1) := by decide +kernel
theorem dX1_begin_1 : decode cX1_begin 1 = .ok (.iload_n 1, 1) := by decide +kernel
theorem dX1_begin_2 : decode cX1_begin 2 = .ok (.putfield 24, 3) := by decide +kernel
theorem dX1_begin_5 : decode cX1_begin 5 = .ok (.aload_n 0, 1) := by decide +kernel
theorem dX1_begin_6 : decode cX1_begin 6 = .ok (.iload_n 2, 1) := by decide +kernel
theorem dX1_begin_7 : decode cX1_begin 7 = .ok (.putfield 28, 3) := by decide +kernel
theorem dX1_begin_10 : decode cX1_begin 10 = .ok (.aload_n 0, 1) := by decide +kernel
theorem dX1_begin_11 : decode cX1_begin 11 = .ok (.iconst 0, 1) := by decide +kernel
theorem dX1_begin_12 : decode cX1_begin 12 = .ok (.putfield 31, 3) := by decide +kernel
theorem dX1_begin_15 : decode cX1_begin 15 = .ok (.return_, 1) := by decide +kernel
theorem dX1_copyFrom_0 : decode cX1_copyFrom 0 = .ok (.aload_n 0, 1) := by decide +kernel
theorem dX1_copyFrom_1 : decode cX1_copyFrom 1 = .ok (.aload_n 1, 1) := by decide +kernel
theorem dX1_copyFrom_2 : decode cX1_copyFrom 2 = .ok (.getfield 24, 3) := by decide +kernel
theorem dX1_copyFrom_5 : decode cX1_copyFrom 5 = .ok (.putfield 24, 3) := by decide +kernel
theorem dX1_copyFrom_8 : decode cX1_copyFrom 8 = .ok (.aload_n 0, 1) := by decide +kernel
theorem dX1_copyFrom_9 : decode cX1_copyFrom 9 = .ok (.aload_n 1, 1) := by decide +kernel
theorem dX1_copyFrom_10 : decode cX1_copyFrom 10 = .ok (.getfield 28, 3) := by decide +kernel
theorem dX1_copyFrom_13 : decode cX1_copyFrom 13 = .ok (.putfield 28, 3) := by decide +kernel
theorem dX1_copyFrom_16 : decode cX1_copyFrom 16 = .ok (.aload_n 0, 1) := by decide +kernel
theorem dX1_copyFrom_17 : decode cX1_copyFrom 17 = .ok (.aload_n 1, 1) := by decide +kernel
theorem dX1_copyFrom_18 : decode cX1_copyFrom 18 = .ok (.getfield 31, 3) := by decide +kernel
theorem dX1_copyFrom_21 : decode cX1_copyFrom 21 = .ok (.putfield 31, 3) := by decide +kernel
theorem dX1_copyFrom_24 : decode cX1_copyFrom 24 = .ok (.aload_n 1, 1) := by decide +kernel
theorem dX1_copyFrom_25 : decode cX1_copyFrom 25 = .ok (.getfield 9, 3) := by decide +kernel
theorem dX1_copyFrom_28 : decode cX1_copyFrom 28 = .ok (.iconst 0, 1) := by decide +kernel
theorem dX1_copyFrom_29 : decode cX1_copyFrom 29 = .ok (.aload_n 0, 1) := by decide +kernel
theorem dX1_copyFrom_30 : decode cX1_copyFrom 30 = .ok (.getfield 9, 3) := by decide +kernel
theorem dX1_copyFrom_33 : decode cX1_copyFrom 33 = .ok (.iconst 0, 1) := by decide +kernel
theorem dX1_copyFrom_34 : decode cX1_copyFrom 34 = .ok (.bipush 6, 2) := by decide +kernel
theorem dX1_copyFrom_36 : decode cX1_copyFrom 36 = .ok (.invokestatic 34, 3) := by decide +kernel
theorem dX1_copyFrom_39 : decode cX1_copyFrom 39 = .ok (.aload_n 1, 1) := by decide +kernel
theorem dX1_copyFrom_40 : decode cX1_copyFrom 40 = .ok (.getfield 15, 3) := by decide +kernel
theorem dX1_copyFrom_43 : decode cX1_copyFrom 43 = .ok (.iconst 0, 1) := by decide +kernel
theorem dX1_copyFrom_44 : decode cX1_copyFrom 44 = .ok (.aload_n 0, 1) := by decide +kernel
theorem dX1_copyFrom_45 : decode cX1_copyFrom 45 = .ok (.getfield 15, 3) := by decide +kernel
theorem dX1_copyFrom_48 : decode cX1_copyFrom 48 = .ok (.iconst 0, 1) := by decide +kernel
theorem dX1_copyFrom_49 : decode cX1_copyFrom 49 = .ok (.bipush 6, 2) := by decide +kernel
theorem dX1_copyFrom_51 : decode cX1_copyFrom 51 = .ok (.invokestatic 34, 3) := by decide +kernel
theorem dX1_copyFrom_54 : decode cX1_copyFrom 54 = .ok (.aload_n 1, 1) := by decide +kernel
theorem dX1_copyFrom_55 : decode cX1_copyFrom 55 = .ok (.getfield 18, 3) := by decide +kernel
theorem dX1_copyFrom_58 : decode cX1_copyFrom 58 = .ok (.iconst 0, 1) := by decide +kernel
theorem dX1_copyFrom_59 : decode cX1_copyFrom 59 = .ok (.aload_n 0, 1) := by decide +kernel
theorem dX1_copyFrom_60 : decode cX1_copyFrom 60 = .ok (.getfield 18, 3) := by decide +kernel
theorem dX1_copyFrom_63 : decode cX1_copyFrom 63 = .ok (.iconst 0, 1) := by decide +kernel
theorem dX1_copyFrom_64 : decode cX1_copyFrom 64 = .ok (.bipush 6, 2) := by decide +kernel
theorem dX1_copyFrom_66 : decode cX1_copyFrom 66 = .ok (.invokestatic 34, 3) := by decide +kernel
theorem dX1_copyFrom_69 : decode cX1_copyFrom 69 = .ok (.aload_n 1, 1) := by decide +kernel
theorem dX1_copyFrom_70 : decode cX1_copyFrom 70 = .ok (.getfield 21, 3) := by decide +kernel
theorem dX1_copyFrom_73 : decode cX1_copyFrom 73 = .ok (.iconst 0, 1) := by decide +kernel
theorem dX1_copyFrom_74 : decode cX1_copyFrom 74 = .ok (.aload_n 0, 1) := by decide +kernel
theorem dX1_copyFrom_75 : decode cX1_copyFrom 75 = .ok (.getfield 21, 3) := by decide +kernel
theorem dX1_copyFrom_78 : decode cX1_copyFrom 78 = .ok (.iconst 0, 1) := by decide +kernel
theorem dX1_copyFrom_79 : decode cX1_copyFrom 79 = .ok (.bipush 96, 2) := by decide +kernel
theorem dX1_copyFrom_81 : decode cX1_copyFrom 81 = .ok (.invokestatic 34, 3) := by decide +kernel
theorem dX1_copyFrom_84 : decode cX1_copyFrom 84 = .ok (.return_, 1) := by decide +kernel
set_option maxRecDepth 20000 in
theorem ggX1_addMark_X8_within : GoodIn wsX1_addMark wsX8_within := goodIn_r _ [8] rfl (by decide +kernel)
set_option maxRecDepth 20000 in
theorem gX1_addMark_X8_within_n40 : GoodIn wsX1_addMark (wsX8_within) := ggX1_addMark_X8_within
theorem dX1_addMark_0 : decode cX1_addMark 0 = .ok (.aload_n 0, 1) := by decide +kernel
theorem dX1_addMark_1 : decode cX1_addMark 1 = .ok (.getfield 31, 3) := by decide +kernel
theorem dX1_addMark_4 : decode cX1_addMark 4 = .ok (.bipush 6, 2) := by decide +kernel
theorem dX1_addMark_6 : decode cX1_addMark 6 = .ok (.if_icmp .ge 12, 3) := by decide +kernel
theorem dX1_addMark_9 : decode cX1_addMark 9 = .ok (.iload_n 2, 1) := by decide +kernel
theorem dX1_addMark_10 : decode cX1_addMark 10 = .ok (.iconst 0, 1) := by decide +kernel
theorem dX1_addMark_11 : decode cX1_addMark 11 = .ok (.iconst 4, 1) := by decide +kernel
theorem dX1_addMark_12 : decode cX1_addMark 12 = .ok (.invokestatic 40, 3) := by decide +kernel
theorem dX1_addMark_15 : decode cX1_addMark 15 = .ok (.ifCond .ne 5, 3) := by decide +kernel
theorem dX1_addMark_18 : decode cX1_addMark 18 = .ok (.iconst (-1), 1) := by decide +kernel
theorem dX1_addMark_19 : decode cX1_addMark 19 = .ok (.ireturn, 1) := by decide +kernel
theorem dX1_addMark_20 : decode cX1_addMark 20 = .ok (.aload_n 0, 1) := by decide +kernel
theorem dX1_addMark_21 : decode cX1_addMark 21 = .ok (.getfield 31, 3) := by decide +kernel
theorem dX1_addMark_24 : decode cX1_addMark 24 = .ok (.ifCond .ne 7, 3) := by decide +kernel
theorem dX1_addMark_27 : decode cX1_addMark 27 = .ok (.iconst 0, 1) := by decide +kernel
theorem dX1_addMark_28 : decode cX1_addMark 28 = .ok (.goto 14, 3) := by decide +kernel
theorem dX1_addMark_31 : decode cX1_addMark 31 = .ok (.aload_n 0, 1) := by decide +kernel
theorem dX1_addMark_32 : decode cX1_addMark 32 = .ok (.getfield 9, 3) := by decide +kernel
theorem dX1_addMark_35 : decode cX1_addMark 35 = .ok (.aload_n 0, 1) := by decide +kernel
theorem dX1_addMark_36 : decode cX1_addMark 36 = .ok (.getfield 31, 3) := by decide +kernel
theorem dX1_addMark_39 : decode cX1_addMark 39 = .ok (.iconst 1, 1) := by decide +kernel
theorem dX1_addMark_40 : decode cX1_addMark 40 = .ok (.isub, 1) := by decide +kernel
theorem dX1_addMark_41 : decode cX1_addMark 41 = .ok (.iaload, 1) := by decide +kernel
theorem dX1_addMark_42 : decode cX1_addMark 42 = .ok (.istore_n 3, 1) := by decide +kernel
theorem dX1_addMark_43 : decode cX1_addMark 43 = .ok (.iload_n 1, 1) := by decide +kernel
theorem dX1_addMark_44 : decode cX1_addMark 44 = .ok (.iload_n 3, 1) := by decide +kernel
theorem dX1_addMark_45 : decode cX1_addMark 45 = .ok (.if_icmp .le 11, 3) := by decide +kernel
theorem dX1_addMark_48 : decode cX1_addMark 48 = .ok (.iload_n 1, 1) := by decide +kernel
theorem dX1_addMark_49 : decode cX1_addMark 49 = .ok (.aload_n 0, 1) := by decide +kernel
theorem dX1_addMark_50 : decode cX1_addMark 50 = .ok (.getfield 28, 3) := by decide +kernel
theorem dX1_addMark_53 : decode cX1_addMark 53 = .ok (.if_icmp .lt 5, 3) := by decide +kernel
theorem dX1_addMark_56 : decode cX1_addMark 56 = .ok (.iconst (-1), 1) := by decide +kernel
theorem dX1_addMark_57 : decode cX1_addMark 57 = .ok (.ireturn, 1) := by decide +kernel
theorem dX1_addMark_58 : decode cX1_addMark 58 = .ok (.aload_n 0, 1) := by decide +kernel
theorem dX1_addMark_59 : decode cX1_addMark 59 = .ok (.getfield 9, 3) := by decide +kernel
theorem dX1_addMark_62 : decode cX1_addMark 62 = .ok (.aload_n 0, 1) := by decide +kernel
theorem dX1_addMark_63 : decode cX1_addMark 63 = .ok (.getfield 31, 3) := by decide +kernel
theorem dX1_addMark_66 : decode cX1_addMark 66 = .ok (.iload_n 1, 1) := by decide +kernel
theorem dX1_addMark_67 : decode cX1_addMark 67 = .ok (.iastore, 1) := by decide +kernel
theorem dX1_addMark_68 : decode cX1_addMark 68 = .ok (.aload_n 0, 1) := by decide +kernel
theorem dX1_addMark_69 : decode cX1_addMark 69 = .ok (.getfield 15, 3) := by decide +kernel
theorem dX1_addMark_72 : decode cX1_addMark 72 = .ok (.aload_n 0, 1) := by decide +kernel
theorem dX1_addMark_73 : decode cX1_addMark 73 = .ok (.getfield 31, 3) := by decide +kernel
theorem dX1_addMark_76 : decode cX1_addMark 76 = .ok (.iload_n 2, 1) := by decide +kernel
theorem dX1_addMark_77 : decode cX1_addMark 77 = .ok (.iastore, 1) := by decide +kernel
theorem dX1_addMark_78 : decode cX1_addMark 78 = .ok (.aload_n 0, 1) := by decide +kernel
theorem dX1_addMark_79 : decode cX1_addMark 79 = .ok (.getfield 18, 3) := by decide +kernel
theorem dX1_addMark_82 : decode cX1_addMark 82 = .ok (.aload_n 0, 1) := by decide +kernel
theorem dX1_addMark_83 : decode cX1_addMark 83 = .ok (.getfield 31, 3) := by decide +kernel
theorem dX1_addMark_86 : decode cX1_addMark 86 = .ok (.iconst 0, 1) := by decide +kernel
theorem dX1_addMark_87 : decode cX1_addMark 87 = .ok (.iastore, 1) := by decide +kernel
theorem dX1_addMark_88 : decode cX1_addMark 88 = .ok (.aload_n 0, 1) := by decide +kernel
theorem dX1_addMark_89 : decode cX1_addMark 89 = .ok (.dup, 1) := by decide +kernel
theorem dX1_addMark_90 : decode cX1_addMark 90 = .ok (.getfield 31, 3) := by decide +kernel
theorem dX1_addMark_93 : decode cX1_addMark 93 = .ok (.iconst 1, 1) := by decide +kernel
theorem dX1_addMark_94 : decode cX1_addMark 94 = .ok (.iadd, 1) := by decide +kernel
theorem dX1_addMark_95 : decode cX1_addMark 95 = .ok (.putfield 31, 3) := by decide +kernel
theorem dX1_addMark_98 : decode cX1_addMark 98 = .ok (.aload_n 0, 1) := by decide +kernel
theorem dX1_addMark_99 : decode cX1_addMark 99 = .ok (.getfield 31, 3) := by decide +kernel
theorem dX1_addMark_102 : decode cX1_addMark 102 = .ok (.iconst 1, 1) := by decide +kernel
theorem dX1_addMark_103 : decode cX1_addMark 103 = .ok (.isub, 1) := by decide +kernel
theorem dX1_addMark_104 : decode cX1_addMark 104 = .ok (.ireturn, 1) := by decide +kernel
set_option maxRecDepth 20000 in
theorem ggX1_addCrossing_X8_within : GoodIn wsX1_addCrossing wsX8_within := goodIn_r _ [6] rfl (by decide +kernel)
set_option maxRecDepth 20000 in
theorem gX1_addCrossing_X8_within_n40 : GoodIn wsX1_addCrossing (wsX8_within) := ggX1_addCrossing_X8_within
set_option maxRecDepth 20000 in
theorem ggX1_addCrossing_X1_hasCrossed : GoodIn wsX1_addCrossing wsX1_hasCrossed := goodIn_r _ [11, 2, 3, 12, 13, 14, 15, 16, 17, 18] rfl (by decide +kernel)
set_option maxRecDepth 20000 in
theorem gX1_addCrossing_X1_hasCrossed : GoodIn wsX1_addCrossing (wsV RX1 44 RX1 yX1_hasCrossed wsX1_hasCrossed) := goodIn_app (goodIn_of _ (by decide +kernel)) ggX1_addCrossing_X1_hasCrossed
theorem dX1_addCrossing_0 : decode cX1_addCrossing 0 = .ok (.iload_n 1, 1) := by decide +kernel
theorem dX1_addCrossing_1 : decode cX1_addCrossing 1 = .ok (.iconst 0, 1) := by decide +kernel
theorem dX1_addCrossing_2 : decode cX1_addCrossing 2 = .ok (.aload_n 0, 1) := by decide +kernel
theorem dX1_addCrossing_3 : decode cX1_addCrossing 3 = .ok (.getfield 31, 3) := by decide +kernel
theorem dX1_addCrossing_6 : decode cX1_addCrossing 6 = .ok (.iconst 1, 1) := by decide +kernel
theorem dX1_addCrossing_7 : decode cX1_addCrossing 7 = .ok (.isub, 1) := by decide +kernel
theorem dX1_addCrossing_8 : decode cX1_addCrossing 8 = .ok (.invokestatic 40, 3) := by decide +kernel
theorem dX1_addCrossing_11 : decode cX1_addCrossing 11 = .ok (.ifCond .eq 23, 3) := by decide +kernel
theorem dX1_addCrossing_14 : decode cX1_addCrossing 14 = .ok (.aload_n 0, 1) := by decide +kernel
theorem dX1_addCrossing_15 : decode cX1_addCrossing 15 = .ok (.getfield 18, 3) := by decide +kernel
theorem dX1_addCrossing_18 : decode cX1_addCrossing 18 = .ok (.iload_n 1, 1) := by decide +kernel
theorem dX1_addCrossing_19 : decode cX1_addCrossing 19 = .ok (.iaload, 1) := by decide +kernel
theorem dX1_addCrossing_20 : decode cX1_addCrossing 20 = .ok (.bipush 16, 2) := by decide +kernel
theorem dX1_addCrossing_22 : decode cX1_addCrossing 22 = .ok (.if_icmp .ge 12, 3) := by decide +kernel
theorem dX1_addCrossing_25 : decode cX1_addCrossing 25 = .ok (.aload_n 0, 1) := by decide +kernel
theorem dX1_addCrossing_26 : decode cX1_addCrossing 26 = .ok (.iload_n 1, 1) := by decide +kernel
theorem dX1_addCrossing_27 : decode cX1_addCrossing 27 = .ok (.iload_n 2, 1) := by decide +kernel
theorem dX1_addCrossing_28 : decode cX1_addCrossing 28 = .ok (.invokevirtual 44, 3) := by decide +kernel
theorem dX1_addCrossing_31 : decode cX1_addCrossing 31 = .ok (.ifCond .eq 5, 3) := by decide +kernel
theorem dX1_addCrossing_34 : decode cX1_addCrossing 34 = .ok (.iconst (-1), 1) := by decide +kernel
theorem dX1_addCrossing_35 : decode cX1_addCrossing 35 = .ok (.ireturn, 1) := by decide +kernel
theorem dX1_addCrossing_36 : decode cX1_addCrossing 36 = .ok (.aload_n 0, 1) := by decide +kernel
theorem dX1_addCrossing_37 : decode cX1_addCrossing 37 = .ok (.getfield 21, 3) := by decide +kernel
theorem dX1_addCrossing_40 : decode cX1_addCrossing 40 = .ok (.iload_n 1, 1) := by decide +kernel
theorem dX1_addCrossing_41 : decode cX1_addCrossing 41 = .ok (.bipush 16, 2) := by decide +kernel
theorem dX1_addCrossing_43 : decode cX1_addCrossing 43 = .ok (.imul, 1) := by decide +kernel
theorem dX1_addCrossing_44 : decode cX1_addCrossing 44 = .ok (.aload_n 0, 1) := by decide +kernel
theorem dX1_addCrossing_45 : decode cX1_addCrossing 45 = .ok (.getfield 18, 3) := by decide +kernel
theorem dX1_addCrossing_48 : decode cX1_addCrossing 48 = .ok (.iload_n 1, 1) := by decide +kernel
theorem dX1_addCrossing_49 : decode cX1_addCrossing 49 = .ok (.iaload, 1) := by decide +kernel
theorem dX1_addCrossing_50 : decode cX1_addCrossing 50 = .ok (.iadd, 1) := by decide +kernel
theorem dX1_addCrossing_51 : decode cX1_addCrossing 51 = .ok (.iload_n 2, 1) := by decide +kernel
theorem dX1_addCrossing_52 : decode cX1_addCrossing 52 = .ok (.iastore, 1) := by decide +kernel
theorem dX1_addCrossing_53 : decode cX1_addCrossing 53 = .ok (.aload_n 0, 1) := by decide +kernel
theorem dX1_addCrossing_54 : decode cX1_addCrossing 54 = .ok (.getfield 18, 3) := by decide +kernel
theorem dX1_addCrossing_57 : decode cX1_addCrossing 57 = .ok (.iload_n 1, 1) := by decide +kernel
theorem dX1_addCrossing_58 : decode cX1_addCrossing 58 = .ok (.dup2, 1) := by decide +kernel
theorem dX1_addCrossing_59 : decode cX1_addCrossing 59 = .ok (.iaload, 1) := by decide +kernel
theorem dX1_addCrossing_60 : decode cX1_addCrossing 60 = .ok (.iconst 1, 1) := by decide +kernel
theorem dX1_addCrossing_61 : decode cX1_addCrossing 61 = .ok (.iadd, 1) := by decide +kernel
theorem dX1_addCrossing_62 : decode cX1_addCrossing 62 = .ok (.iastore, 1) := by decide +kernel
theorem dX1_addCrossing_63 : decode cX1_addCrossing 63 = .ok (.aload_n 0, 1) := by decide +kernel
theorem dX1_addCrossing_64 : decode cX1_addCrossing 64 = .ok (.getfield 18, 3) := by decide +kernel
theorem dX1_addCrossing_67 : decode cX1_addCrossing 67 = .ok (.iload_n 1, 1) := by decide +kernel
theorem dX1_addCrossing_68 : decode cX1_addCrossing 68 = .ok (.iaload, 1) := by decide +kernel
theorem dX1_addCrossing_69 : decode cX1_addCrossing 69 = .ok (.ireturn, 1) := by decide +kernel
theorem dX1_hasCrossed_0 : decode cX1_hasCrossed 0 = .ok (.iconst 0, 1) := by decide +kernel
theorem dX1_hasCrossed_1 : decode cX1_hasCrossed 1 = .ok (.istore_n 3, 1) := by decide +kernel
theorem dX1_hasCrossed_2 : decode cX1_hasCrossed 2 = .ok (.iload_n 3, 1) := by decide +kernel
theorem dX1_hasCrossed_3 : decode cX1_hasCrossed 3 = .ok (.aload_n 0, 1) := by decide +kernel
theorem dX1_hasCrossed_4 : decode cX1_hasCrossed 4 = .ok (.getfield 18, 3) := by decide +kernel
theorem dX1_hasCrossed_7 : decode cX1_hasCrossed 7 = .ok (.iload_n 1, 1) := by decide +kernel
theorem dX1_hasCrossed_8 : decode cX1_hasCrossed 8 = .ok (.iaload, 1) := by decide +kernel
theorem dX1_hasCrossed_9 : decode cX1_hasCrossed 9 = .ok (.if_icmp .ge 26, 3) := by decide +kernel
theorem dX1_hasCrossed_12 : decode cX1_hasCrossed 12 = .ok (.aload_n 0, 1) := by decide +kernel
theorem dX1_hasCrossed_13 : decode cX1_hasCrossed 13 = .ok (.getfield 21, 3) := by decide +kernel
theorem dX1_hasCrossed_16 : decode cX1_hasCrossed 16 = .ok (.iload_n 1, 1) := by decide +kernel
theorem dX1_hasCrossed_17 : decode cX1_hasCrossed 17 = .ok (.bipush 16, 2) := by decide +kernel
theorem dX1_hasCrossed_19 : decode cX1_hasCrossed 19 = .ok (.imul, 1) := by decide +kernel
theorem dX1_hasCrossed_20 : decode cX1_hasCrossed 20 = .ok (.iload_n 3, 1) := by decide +kernel
theorem dX1_hasCrossed_21 : decode cX1_hasCrossed 21 = .ok (.iadd, 1) := by decide +kernel
theorem dX1_hasCrossed_22 : decode cX1_hasCrossed 22 = .ok (.iaload, 1) := by decide +kernel
theorem dX1_hasCrossed_23 : decode cX1_hasCrossed 23 = .ok (.iload_n 2, 1) := by decide +kernel
theorem dX1_hasCrossed_24 : decode cX1_hasCrossed 24 = .ok (.if_icmp .ne 5, 3) := by decide +kernel
theorem dX1_hasCrossed_27 : decode cX1_hasCrossed 27 = .ok (.iconst 1, 1) := by decide +kernel
theorem dX1_hasCrossed_28 : decode cX1_hasCrossed 28 = .ok (.ireturn, 1) := by decide +kernel
theorem dX1_hasCrossed_29 : decode cX1_hasCrossed 29 = .ok (.iinc 3 1, 3) := by decide +kernel
theorem dX1_hasCrossed_32 : decode cX1_hasCrossed 32 = .ok (.goto (-30), 3) := by decide +kernel
theorem dX1_hasCrossed_35 : decode cX1_hasCrossed 35 = .ok (.iconst 0, 1) := by decide +kernel
theorem dX1_hasCrossed_36 : decode cX1_hasCrossed 36 = .ok (.ireturn, 1) := by decide +kernel
theorem dX1_forget_0 : decode cX1_forget 0 = .ok (.iconst 0, 1) := by decide +kernel
theorem dX1_forget_1 : decode cX1_forget 1 = .ok (.istore_n 2, 1) := by decide +kernel
theorem dX1_forget_2 : decode cX1_forget 2 = .ok (.iload_n 2, 1) := by decide +kernel
theorem dX1_forget_3 : decode cX1_forget 3 = .ok (.aload_n 0, 1) := by decide +kernel
theorem dX1_forget_4 : decode cX1_forget 4 = .ok (.getfield 31, 3) := by decide +kernel
theorem dX1_forget_7 : decode cX1_forget 7 = .ok (.if_icmp .ge 74, 3) := by decide +kernel
theorem dX1_forget_10 : decode cX1_forget 10 = .ok (.iconst 0, 1) := by decide +kernel
theorem dX1_forget_11 : decode cX1_forget 11 = .ok (.istore_n 3, 1) := by decide +kernel
theorem dX1_forget_12 : decode cX1_forget 12 = .ok (.iconst 0, 1) := by decide +kernel
theorem dX1_forget_13 : decode cX1_forget 13 = .ok (.istore 4, 2) := by decide +kernel
theorem dX1_forget_15 : decode cX1_forget 15 = .ok (.iload 4, 2) := by decide +kernel
theorem dX1_forget_17 : decode cX1_forget 17 = .ok (.aload_n 0, 1) := by decide +kernel
theorem dX1_forget_18 : decode cX1_forget 18 = .ok (.getfield 18, 3) := by decide +kernel
theorem dX1_forget_21 : decode cX1_forget 21 = .ok (.iload_n 2, 1) := by decide +kernel
theorem dX1_forget_22 : decode cX1_forget 22 = .ok (.iaload, 1) := by decide +kernel
theorem dX1_forget_23 : decode cX1_forget 23 = .ok (.if_icmp .ge 45, 3) := by decide +kernel
theorem dX1_forget_26 : decode cX1_forget 26 = .ok (.aload_n 0, 1) := by decide +kernel
theorem dX1_forget_27 : decode cX1_forget 27 = .ok (.getfield 21, 3) := by decide +kernel
theorem dX1_forget_30 : decode cX1_forget 30 = .ok (.iload_n 2, 1) := by decide +kernel
theorem dX1_forget_31 : decode cX1_forget 31 = .ok (.bipush 16, 2) := by decide +kernel
theorem dX1_forget_33 : decode cX1_forget 33 = .ok (.imul, 1) := by decide +kernel
theorem dX1_forget_34 : decode cX1_forget 34 = .ok (.iload 4, 2) := by decide +kernel
theorem dX1_forget_36 : decode cX1_forget 36 = .ok (.iadd, 1) := by decide +kernel
theorem dX1_forget_37 : decode cX1_forget 37 = .ok (.iaload, 1) := by decide +kernel
theorem dX1_forget_38 : decode cX1_forget 38 = .ok (.istore 5, 2) := by decide +kernel
theorem dX1_forget_40 : decode cX1_forget 40 = .ok (.iload 5, 2) := by decide +kernel
theorem dX1_forget_42 : decode cX1_forget 42 = .ok (.iload_n 1, 1) := by decide +kernel
theorem dX1_forget_43 : decode cX1_forget 43 = .ok (.if_icmp .eq 19, 3) := by decide +kernel
theorem dX1_forget_46 : decode cX1_forget 46 = .ok (.aload_n 0, 1) := by decide +kernel
theorem dX1_forget_47 : decode cX1_forget 47 = .ok (.getfield 21, 3) := by decide +kernel
theorem dX1_forget_50 : decode cX1_forget 50 = .ok (.iload_n 2, 1) := by decide +kernel
theorem dX1_forget_51 : decode cX1_forget 51 = .ok (.bipush 16, 2) := by decide +kernel
theorem dX1_forget_53 : decode cX1_forget 53 = .ok (.imul, 1) := by decide +kernel
theorem dX1_forget_54 : decode cX1_forget 54 = .ok (.iload_n 3, 1) := by decide +kernel
theorem dX1_forget_55 : decode cX1_forget 55 = .ok (.iadd, 1) := by decide +kernel
theorem dX1_forget_56 : decode cX1_forget 56 = .ok (.iload 5, 2) := by decide +kernel
theorem dX1_forget_58 : decode cX1_forget 58 = .ok (.iastore, 1) := by decide +kernel
theorem dX1_forget_59 : decode cX1_forget 59 = .ok (.iinc 3 1, 3) := by decide +kernel
theorem dX1_forget_62 : decode cX1_forget 62 = .ok (.iinc 4 1, 3) := by decide +kernel
theorem dX1_forget_65 : decode cX1_forget 65 = .ok (.goto (-50), 3) := by decide +kernel
theorem dX1_forget_68 : decode cX1_forget 68 = .ok (.aload_n 0, 1) := by decide +kernel
theorem dX1_forget_69 : decode cX1_forget 69 = .ok (.getfield 18, 3) := by decide +kernel
theorem dX1_forget_72 : decode cX1_forget 72 = .ok (.iload_n 2, 1) := by decide +kernel
theorem dX1_forget_73 : decode cX1_forget 73 = .ok (.iload_n 3, 1) := by decide +kernel
theorem dX1_forget_74 : decode cX1_forget 74 = .ok (.iastore, 1) := by decide +kernel
theorem dX1_forget_75 : decode cX1_forget 75 = .ok (.iinc 2 1, 3) := by decide +kernel
theorem dX1_forget_78 : decode cX1_forget 78 = .ok (.goto (-76), 3) := by decide +kernel
theorem dX1_forget_81 : decode cX1_forget 81 = .ok (.return_, 1) := by decide +kernel
theorem dX2_init_0 : decode cX2_init 0 = .ok (.aload_n 0, 1) := by decide +kernel
theorem dX2_init_1 : decode cX2_init 1 = .ok (.invokespecial 3, 3) := by decide +kernel
theorem dX2_init_4 : decode cX2_init 4 = .ok (.aload_n 0, 1) := by decide +kernel
theorem dX2_init_5 : decode cX2_init 5 = .ok (.bipush 16, 2) := by decide +kernel
theorem dX2_init_7 : decode cX2_init 7 = .ok (.newarray .int, 2) := by decide +kernel
theorem dX2_init_9 : decode cX2_init 9 = .ok (.putfield 9, 3) := by decide +kernel
theorem dX2_init_12 : decode cX2_init 12 = .ok (.aload_n 0, 1) := by decide +kernel
theorem dX2_init_13 : decode cX2_init 13 = .ok (.bipush 16, 2) := by decide +kernel
theorem dX2_init_15 : decode cX2_init 15 = .ok (.newarray .int, 2) := by decide +kernel
theorem dX2_init_17 : decode cX2_init 17 = .ok (.putfield 15, 3) := by decide +kernel
theorem dX2_init_20 : decode cX2_init 20 = .ok (.aload_n 0, 1) := by decide +kernel
theorem dX2_init_21 : decode cX2_init 21 = .ok (.bipush 16, 2) := by decide +kernel
theorem dX2_init_23 : decode cX2_init 23 = .ok (.newarray .int, 2) := by decide +kernel
theorem dX2_init_25 : decode cX2_init 25 = .ok (.putfield 18, 3) := by decide +kernel
theorem dX2_init_28 : decode cX2_init 28 = .ok (.return_, 1) := by decide +kernel
theorem dX2_copyFrom_0 : decode cX2_copyFrom 0 = .ok (.aload_n 1, 1) := by decide +kernel
theorem dX2_copyFrom_1 : decode cX2_copyFrom 1 = .ok (.getfield 9, 3) := by decide +kernel
theorem dX2_copyFrom_4 : decode cX2_copyFrom 4 = .ok (.iconst 0, 1) := by decide +kernel
theorem dX2_copyFrom_5 : decode cX2_copyFrom 5 = .ok (.aload_n 0, 1) := by decide +kernel
theorem dX2_copyFrom_6 : decode cX2_copyFrom 6 = .ok (.getfield 9, 3) := by decide +kernel
theorem dX2_copyFrom_9 : decode cX2_copyFrom 9 = .ok (.iconst 0, 1) := by decide +kernel
theorem dX2_copyFrom_10 : decode cX2_copyFrom 10 = .ok (.bipush 16, 2) := by decide +kernel
theorem dX2_copyFrom_12 : decode cX2_copyFrom 12 = .ok (.invokestatic 21, 3) := by decide +kernel
theorem dX2_copyFrom_15 : decode cX2_copyFrom 15 = .ok (.aload_n 1, 1) := by decide +kernel
theorem dX2_copyFrom_16 : decode cX2_copyFrom 16 = .ok (.getfield 15, 3) := by decide +kernel
theorem dX2_copyFrom_19 : decode cX2_copyFrom 19 = .ok (.iconst 0, 1) := by decide +kernel
theorem dX2_copyFrom_20 : decode cX2_copyFrom 20 = .ok (.aload_n 0, 1) := by decide +kernel
theorem dX2_copyFrom_21 : decode cX2_copyFrom 21 = .ok (.getfield 15, 3) := by decide +kernel
theorem dX2_copyFrom_24 : decode cX2_copyFrom 24 = .ok (.iconst 0, 1) := by decide +kernel
theorem dX2_copyFrom_25 : decode cX2_copyFrom 25 = .ok (.bipush 16, 2) := by decide +kernel
theorem dX2_copyFrom_27 : decode cX2_copyFrom 27 = .ok (.invokestatic 21, 3) := by decide +kernel
theorem dX2_copyFrom_30 : decode cX2_copyFrom 30 = .ok (.aload_n 1, 1) := by decide +kernel
theorem dX2_copyFrom_31 : decode cX2_copyFrom 31 = .ok (.getfield 18, 3) := by decide +kernel
theorem dX2_copyFrom_34 : decode cX2_copyFrom 34 = .ok (.iconst 0, 1) := by decide +kernel
theorem dX2_copyFrom_35 : decode cX2_copyFrom 35 = .ok (.aload_n 0, 1) := by decide +kernel
theorem dX2_copyFrom_36 : decode cX2_copyFrom 36 = .ok (.getfield 18, 3) := by decide +kernel
theorem dX2_copyFrom_39 : decode cX2_copyFrom 39 = .ok (.iconst 0, 1) := by decide +kernel
theorem dX2_copyFrom_40 : decode cX2_copyFrom 40 = .ok (.bipush 16, 2) := by decide +kernel
theorem dX2_copyFrom_42 : decode cX2_copyFrom 42 = .ok (.invokestatic 21, 3) := by decide +kernel
theorem dX2_copyFrom_45 : decode cX2_copyFrom 45 = .ok (.return_, 1) := by decide +kernel
theorem dX2_awardOrder_0 : decode cX2_awardOrder 0 = .ok (.iconst 0, 1) := by decide +kernel
theorem dX2_awardOrder_1 : decode cX2_awardOrder 1 = .ok (.istore_n 2, 1) := by decide +kernel
theorem dX2_awardOrder_2 : decode cX2_awardOrder 2 = .ok (.iload_n 2, 1) := by decide +kernel
theorem dX2_awardOrder_3 : decode cX2_awardOrder 3 = .ok (.bipush 16, 2) := by decide +kernel
theorem dX2_awardOrder_5 : decode cX2_awardOrder 5 = .ok (.if_icmp .ge 30, 3) := by decide +kernel
theorem dX2_awardOrder_8 : decode cX2_awardOrder 8 = .ok (.aload_n 0, 1) := by decide +kernel
theorem dX2_awardOrder_9 : decode cX2_awardOrder 9 = .ok (.getfield 9, 3) := by decide +kernel
theorem dX2_awardOrder_12 : decode cX2_awardOrder 12 = .ok (.iload_n 2, 1) := by decide +kernel
theorem dX2_awardOrder_13 : decode cX2_awardOrder 13 = .ok (.iconst 0, 1) := by decide +kernel
theorem dX2_awardOrder_14 : decode cX2_awardOrder 14 = .ok (.iastore, 1) := by decide +kernel
theorem dX2_awardOrder_15 : decode cX2_awardOrder 15 = .ok (.aload_n 0, 1) := by decide +kernel
theorem dX2_awardOrder_16 : decode cX2_awardOrder 16 = .ok (.getfield 15, 3) := by decide +kernel
theorem dX2_awardOrder_19 : decode cX2_awardOrder 19 = .ok (.iload_n 2, 1) := by decide +kernel
theorem dX2_awardOrder_20 : decode cX2_awardOrder 20 = .ok (.iconst 0, 1) := by decide +kernel
theorem dX2_awardOrder_21 : decode cX2_awardOrder 21 = .ok (.iastore, 1) := by decide +kernel
theorem dX2_awardOrder_22 : decode cX2_awardOrder 22 = .ok (.aload_n 0, 1) := by decide +kernel
theorem dX2_awardOrder_23 : decode cX2_awardOrder 23 = .ok (.getfield 18, 3) := by decide +kernel
theorem dX2_awardOrder_26 : decode cX2_awardOrder 26 = .ok (.iload_n 2, 1) := by decide +kernel
theorem dX2_awardOrder_27 : decode cX2_awardOrder 27 = .ok (.iconst 0, 1) := by decide +kernel
theorem dX2_awardOrder_28 : decode cX2_awardOrder 28 = .ok (.iastore, 1) := by decide +kernel
theorem dX2_awardOrder_29 : decode cX2_awardOrder 29 = .ok (.iinc 2 1, 3) := by decide +kernel
theorem dX2_awardOrder_32 : decode cX2_awardOrder 32 = .ok (.goto (-30), 3) := by decide +kernel
theorem dX2_awardOrder_35 : decode cX2_awardOrder 35 = .ok (.aload_n 1, 1) := by decide +kernel
theorem dX2_awardOrder_36 : decode cX2_awardOrder 36 = .ok (.getfield 27, 3) := by decide +kernel
theorem dX2_awardOrder_39 : decode cX2_awardOrder 39 = .ok (.getfield 33, 3) := by decide +kernel
theorem dX2_awardOrder_42 : decode cX2_awardOrder 42 = .ok (.istore_n 2, 1) := by decide +kernel
theorem dX2_awardOrder_43 : decode cX2_awardOrder 43 = .ok (.iconst 0, 1) := by decide +kernel
theorem dX2_awardOrder_44 : decode cX2_awardOrder 44 = .ok (.istore_n 3, 1) := by decide +kernel
theorem dX2_awardOrder_45 : decode cX2_awardOrder 45 = .ok (.iload_n 3, 1) := by decide +kernel
theorem dX2_awardOrder_46 : decode cX2_awardOrder 46 = .ok (.aload_n 1, 1) := by decide +kernel
theorem dX2_awardOrder_47 : decode cX2_awardOrder 47 = .ok (.getfield 39, 3) := by decide +kernel
theorem dX2_awardOrder_50 : decode cX2_awardOrder 50 = .ok (.if_icmp .ge 79, 3) := by decide +kernel
theorem dX2_awardOrder_53 : decode cX2_awardOrder 53 = .ok (.aload_n 1, 1) := by decide +kernel
theorem dX2_awardOrder_54 : decode cX2_awardOrder 54 = .ok (.getfield 42, 3) := by decide +kernel
theorem dX2_awardOrder_57 : decode cX2_awardOrder 57 = .ok (.iload_n 3, 1) := by decide +kernel
theorem dX2_awardOrder_58 : decode cX2_awardOrder 58 = .ok (.iaload, 1) := by decide +kernel
theorem dX2_awardOrder_59 : decode cX2_awardOrder 59 = .ok (.istore 4, 2) := by decide +kernel
theorem dX2_awardOrder_61 : decode cX2_awardOrder 61 = .ok (.iload_n 3, 1) := by decide +kernel
theorem dX2_awardOrder_62 : decode cX2_awardOrder 62 = .ok (.getstatic 45, 3) := by decide +kernel
theorem dX2_awardOrder_65 : decode cX2_awardOrder 65 = .ok (.arraylength, 1) := by decide +kernel
theorem dX2_awardOrder_66 : decode cX2_awardOrder 66 = .ok (.if_icmp .ge 23, 3) := by decide +kernel
theorem dX2_awardOrder_69 : decode cX2_awardOrder 69 = .ok (.iload_n 2, 1) := by decide +kernel
theorem dX2_awardOrder_70 : decode cX2_awardOrder 70 = .ok (.iconst 3, 1) := by decide +kernel
theorem dX2_awardOrder_71 : decode cX2_awardOrder 71 = .ok (.if_icmp .eq 18, 3) := by decide +kernel
theorem dX2_awardOrder_74 : decode cX2_awardOrder 74 = .ok (.aload_n 0, 1) := by decide +kernel
theorem dX2_awardOrder_75 : decode cX2_awardOrder 75 = .ok (.getfield 9, 3) := by decide +kernel
theorem dX2_awardOrder_78 : decode cX2_awardOrder 78 = .ok (.iload 4, 2) := by decide +kernel
theorem dX2_awardOrder_80 : decode cX2_awardOrder 80 = .ok (.dup2, 1) := by decide +kernel
theorem dX2_awardOrder_81 : decode cX2_awardOrder 81 = .ok (.iaload, 1) := by decide +kernel
theorem dX2_awardOrder_82 : decode cX2_awardOrder 82 = .ok (.getstatic 45, 3) := by decide +kernel
theorem dX2_awardOrder_85 : decode cX2_awardOrder 85 = .ok (.iload_n 3, 1) := by decide +kernel
theorem dX2_awardOrder_86 : decode cX2_awardOrder 86 = .ok (.iaload, 1) := by decide +kernel
theorem dX2_awardOrder_87 : decode cX2_awardOrder 87 = .ok (.iadd, 1) := by decide +kernel
theorem dX2_awardOrder_88 : decode cX2_awardOrder 88 = .ok (.iastore, 1) := by decide +kernel
theorem dX2_awardOrder_89 : decode cX2_awardOrder 89 = .ok (.iload_n 3, 1) := by decide +kernel
theorem dX2_awardOrder_90 : decode cX2_awardOrder 90 = .ok (.iconst 5, 1) := by decide +kernel
theorem dX2_awardOrder_91 : decode cX2_awardOrder 91 = .ok (.if_icmp .ge 32, 3) := by decide +kernel
theorem dX2_awardOrder_94 : decode cX2_awardOrder 94 = .ok (.aload_n 1, 1) := by decide +kernel
theorem dX2_awardOrder_95 : decode cX2_awardOrder 95 = .ok (.getfield 48, 3) := by decide +kernel
theorem dX2_awardOrder_98 : decode cX2_awardOrder 98 = .ok (.iload 4, 2) := by decide +kernel
theorem dX2_awardOrder_100 : decode cX2_awardOrder 100 = .ok (.baload, 1) := by decide +kernel
theorem dX2_awardOrder_101 : decode cX2_awardOrder 101 = .ok (.ifCond .ne 22, 3) := by decide +kernel
theorem dX2_awardOrder_104 : decode cX2_awardOrder 104 = .ok (.aload_n 0, 1) := by decide +kernel
theorem dX2_awardOrder_105 : decode cX2_awardOrder 105 = .ok (.getfield 15, 3) := by decide +kernel
theorem dX2_awardOrder_108 : decode cX2_awardOrder 108 = .ok (.iload 4, 2) := by decide +kernel
theorem dX2_awardOrder_110 : decode cX2_awardOrder 110 = .ok (.dup2, 1) := by decide +kernel
theorem dX2_awardOrder_111 : decode cX2_awardOrder 111 = .ok (.iaload, 1) := by decide +kernel
theorem dX2_awardOrder_112 : decode cX2_awardOrder 112 = .ok (.getstatic 52, 3) := by decide +kernel
theorem dX2_awardOrder_115 : decode cX2_awardOrder 115 = .ok (.iload_n 2, 1) := by decide +kernel
theorem dX2_awardOrder_116 : decode cX2_awardOrder 116 = .ok (.iconst 5, 1) := by decide +kernel
theorem dX2_awardOrder_117 : decode cX2_awardOrder 117 = .ok (.imul, 1) := by decide +kernel
theorem dX2_awardOrder_118 : decode cX2_awardOrder 118 = .ok (.iload_n 3, 1) := by decide +kernel
theorem dX2_awardOrder_119 : decode cX2_awardOrder 119 = .ok (.iadd, 1) := by decide +kernel
theorem dX2_awardOrder_120 : decode cX2_awardOrder 120 = .ok (.iaload, 1) := by decide +kernel
theorem dX2_awardOrder_121 : decode cX2_awardOrder 121 = .ok (.iadd, 1) := by decide +kernel
theorem dX2_awardOrder_122 : decode cX2_awardOrder 122 = .ok (.iastore, 1) := by decide +kernel
theorem dX2_awardOrder_123 : decode cX2_awardOrder 123 = .ok (.iinc 3 1, 3) := by decide +kernel
theorem dX2_awardOrder_126 : decode cX2_awardOrder 126 = .ok (.goto (-81), 3) := by decide +kernel
theorem dX2_awardOrder_129 : decode cX2_awardOrder 129 = .ok (.return_, 1) := by decide +kernel
set_option maxRecDepth 20000 in
theorem ggX2_awardMarks_X2_awardOver : GoodIn wsX2_awardMarks wsX2_awardOver := goodIn_r _ [5, 6, 7, 8, 9, 10, 11, 39, 40, 41] rfl (by decide +kernel)
set_option maxRecDepth 20000 in
theorem gX2_awardMarks_X2_awardOver : GoodIn wsX2_awardMarks (wsV RX2 70 RX2 yX2_awardOver wsX2_awardOver) := goodIn_app (goodIn_of _ (by decide +kernel)) ggX2_awardMarks_X2_awardOver
theorem dX2_awardMarks_0 : decode cX2_awardMarks 0 = .ok (.aload_n 1, 1) := by decide +kernel
theorem dX2_awardMarks_1 : decode cX2_awardMarks 1 = .ok (.getfield 27, 3) := by decide +kernel
theorem dX2_awardMarks_4 : decode cX2_awardMarks 4 = .ok (.astore_n 2, 1) := by decide +kernel
theorem dX2_awardMarks_5 : decode cX2_awardMarks 5 = .ok (.iconst 0, 1) := by decide +kernel
theorem dX2_awardMarks_6 : decode cX2_awardMarks 6 = .ok (.istore_n 3, 1) := by decide +kernel
theorem dX2_awardMarks_7 : decode cX2_awardMarks 7 = .ok (.iload_n 3, 1) := by decide +kernel
theorem dX2_awardMarks_8 : decode cX2_awardMarks 8 = .ok (.aload_n 2, 1) := by decide +kernel
theorem dX2_awardMarks_9 : decode cX2_awardMarks 9 = .ok (.getfield 55, 3) := by decide +kernel
theorem dX2_awardMarks_12 : decode cX2_awardMarks 12 = .ok (.if_icmp .ge 80, 3) := by decide +kernel
theorem dX2_awardMarks_15 : decode cX2_awardMarks 15 = .ok (.iconst 0, 1) := by decide +kernel
theorem dX2_awardMarks_16 : decode cX2_awardMarks 16 = .ok (.istore 4, 2) := by decide +kernel
theorem dX2_awardMarks_18 : decode cX2_awardMarks 18 = .ok (.iconst 0, 1) := by decide +kernel
theorem dX2_awardMarks_19 : decode cX2_awardMarks 19 = .ok (.istore 5, 2) := by decide +kernel
theorem dX2_awardMarks_21 : decode cX2_awardMarks 21 = .ok (.iload 5, 2) := by decide +kernel
theorem dX2_awardMarks_23 : decode cX2_awardMarks 23 = .ok (.aload_n 2, 1) := by decide +kernel
theorem dX2_awardMarks_24 : decode cX2_awardMarks 24 = .ok (.getfield 58, 3) := by decide +kernel
theorem dX2_awardMarks_27 : decode cX2_awardMarks 27 = .ok (.iload_n 3, 1) := by decide +kernel
theorem dX2_awardMarks_28 : decode cX2_awardMarks 28 = .ok (.iaload, 1) := by decide +kernel
theorem dX2_awardMarks_29 : decode cX2_awardMarks 29 = .ok (.if_icmp .ge 57, 3) := by decide +kernel
theorem dX2_awardMarks_32 : decode cX2_awardMarks 32 = .ok (.aload_n 2, 1) := by decide +kernel
theorem dX2_awardMarks_33 : decode cX2_awardMarks 33 = .ok (.getfield 61, 3) := by decide +kernel
theorem dX2_awardMarks_36 : decode cX2_awardMarks 36 = .ok (.iload_n 3, 1) := by decide +kernel
theorem dX2_awardMarks_37 : decode cX2_awardMarks 37 = .ok (.bipush 16, 2) := by decide +kernel
theorem dX2_awardMarks_39 : decode cX2_awardMarks 39 = .ok (.imul, 1) := by decide +kernel
theorem dX2_awardMarks_40 : decode cX2_awardMarks 40 = .ok (.iload 5, 2) := by decide +kernel
theorem dX2_awardMarks_42 : decode cX2_awardMarks 42 = .ok (.iadd, 1) := by decide +kernel
theorem dX2_awardMarks_43 : decode cX2_awardMarks 43 = .ok (.iaload, 1) := by decide +kernel
theorem dX2_awardMarks_44 : decode cX2_awardMarks 44 = .ok (.istore 6, 2) := by decide +kernel
theorem dX2_awardMarks_46 : decode cX2_awardMarks 46 = .ok (.aload_n 1, 1) := by decide +kernel
theorem dX2_awardMarks_47 : decode cX2_awardMarks 47 = .ok (.getfield 64, 3) := by decide +kernel
theorem dX2_awardMarks_50 : decode cX2_awardMarks 50 = .ok (.iload 6, 2) := by decide +kernel
theorem dX2_awardMarks_52 : decode cX2_awardMarks 52 = .ok (.iaload, 1) := by decide +kernel
theorem dX2_awardMarks_53 : decode cX2_awardMarks 53 = .ok (.ifCond .eq 27, 3) := by decide +kernel
theorem dX2_awardMarks_56 : decode cX2_awardMarks 56 = .ok (.aload_n 0, 1) := by decide +kernel
theorem dX2_awardMarks_57 : decode cX2_awardMarks 57 = .ok (.aload_n 2, 1) := by decide +kernel
theorem dX2_awardMarks_58 : decode cX2_awardMarks 58 = .ok (.getfield 67, 3) := by decide +kernel
theorem dX2_awardMarks_61 : decode cX2_awardMarks 61 = .ok (.iload_n 3, 1) := by decide +kernel
theorem dX2_awardMarks_62 : decode cX2_awardMarks 62 = .ok (.iaload, 1) := by decide +kernel
theorem dX2_awardMarks_63 : decode cX2_awardMarks 63 = .ok (.iload 4, 2) := by decide +kernel
theorem dX2_awardMarks_65 : decode cX2_awardMarks 65 = .ok (.iload 6, 2) := by decide +kernel
theorem dX2_awardMarks_67 : decode cX2_awardMarks 67 = .ok (.aload_n 1, 1) := by decide +kernel
theorem dX2_awardMarks_68 : decode cX2_awardMarks 68 = .ok (.getfield 48, 3) := by decide +kernel
theorem dX2_awardMarks_71 : decode cX2_awardMarks 71 = .ok (.iload 6, 2) := by decide +kernel
theorem dX2_awardMarks_73 : decode cX2_awardMarks 73 = .ok (.baload, 1) := by decide +kernel
theorem dX2_awardMarks_74 : decode cX2_awardMarks 74 = .ok (.invokevirtual 70, 3) := by decide +kernel
theorem dX2_awardMarks_77 : decode cX2_awardMarks 77 = .ok (.iinc 4 1, 3) := by decide +kernel
theorem dX2_awardMarks_80 : decode cX2_awardMarks 80 = .ok (.iinc 5 1, 3) := by decide +kernel
theorem dX2_awardMarks_83 : decode cX2_awardMarks 83 = .ok (.goto (-62), 3) := by decide +kernel
theorem dX2_awardMarks_86 : decode cX2_awardMarks 86 = .ok (.iinc 3 1, 3) := by decide +kernel
theorem dX2_awardMarks_89 : decode cX2_awardMarks 89 = .ok (.goto (-82), 3) := by decide +kernel
theorem dX2_awardMarks_92 : decode cX2_awardMarks 92 = .ok (.return_, 1) := by decide +kernel
theorem dX2_awardOver_0 : decode cX2_awardOver 0 = .ok (.iload_n 1, 1) := by decide +kernel
theorem dX2_awardOver_1 : decode cX2_awardOver 1 = .ok (.ifCond .eq 34, 3) := by decide +kernel
theorem dX2_awardOver_4 : decode cX2_awardOver 4 = .ok (.iload_n 2, 1) := by decide +kernel
theorem dX2_awardOver_5 : decode cX2_awardOver 5 = .ok (.iconst 4, 1) := by decide +kernel
theorem dX2_awardOver_6 : decode cX2_awardOver 6 = .ok (.if_icmp .ge 28, 3) := by decide +kernel
theorem dX2_awardOver_9 : decode cX2_awardOver 9 = .ok (.iload 4, 2) := by decide +kernel
theorem dX2_awardOver_11 : decode cX2_awardOver 11 = .ok (.ifCond .ne 23, 3) := by decide +kernel
theorem dX2_awardOver_14 : decode cX2_awardOver 14 = .ok (.aload_n 0, 1) := by decide +kernel
theorem dX2_awardOver_15 : decode cX2_awardOver 15 = .ok (.getfield 18, 3) := by decide +kernel
theorem dX2_awardOver_18 : decode cX2_awardOver 18 = .ok (.iload_n 3, 1) := by decide +kernel
theorem dX2_awardOver_19 : decode cX2_awardOver 19 = .ok (.dup2, 1) := by decide +kernel
theorem dX2_awardOver_20 : decode cX2_awardOver 20 = .ok (.iaload, 1) := by decide +kernel
theorem dX2_awardOver_21 : decode cX2_awardOver 21 = .ok (.getstatic 74, 3) := by decide +kernel
theorem dX2_awardOver_24 : decode cX2_awardOver 24 = .ok (.iload_n 1, 1) := by decide +kernel
theorem dX2_awardOver_25 : decode cX2_awardOver 25 = .ok (.iconst 1, 1) := by decide +kernel
theorem dX2_awardOver_26 : decode cX2_awardOver 26 = .ok (.isub, 1) := by decide +kernel
theorem dX2_awardOver_27 : decode cX2_awardOver 27 = .ok (.iconst 4, 1) := by decide +kernel
theorem dX2_awardOver_28 : decode cX2_awardOver 28 = .ok (.imul, 1) := by decide +kernel
theorem dX2_awardOver_29 : decode cX2_awardOver 29 = .ok (.iload_n 2, 1) := by decide +kernel
theorem dX2_awardOver_30 : decode cX2_awardOver 30 = .ok (.iadd, 1) := by decide +kernel
theorem dX2_awardOver_31 : decode cX2_awardOver 31 = .ok (.iaload, 1) := by decide +kernel
theorem dX2_awardOver_32 : decode cX2_awardOver 32 = .ok (.iadd, 1) := by decide +kernel
theorem dX2_awardOver_33 : decode cX2_awardOver 33 = .ok (.iastore, 1) := by decide +kernel
theorem dX2_awardOver_34 : decode cX2_awardOver 34 = .ok (.return_, 1) := by decide +kernel
theorem dX2_awardOver_35 : decode cX2_awardOver 35 = .ok (.iload_n 2, 1) := by decide +kernel
theorem dX2_awardOver_36 : decode cX2_awardOver 36 = .ok (.getstatic 77, 3) := by decide +kernel
theorem dX2_awardOver_39 : decode cX2_awardOver 39 = .ok (.arraylength, 1) := by decide +kernel
theorem dX2_awardOver_40 : decode cX2_awardOver 40 = .ok (.if_icmp .ge 17, 3) := by decide +kernel
theorem dX2_awardOver_43 : decode cX2_awardOver 43 = .ok (.aload_n 0, 1) := by decide +kernel
theorem dX2_awardOver_44 : decode cX2_awardOver 44 = .ok (.getfield 9, 3) := by decide +kernel
theorem dX2_awardOver_47 : decode cX2_awardOver 47 = .ok (.iload_n 3, 1) := by decide +kernel
theorem dX2_awardOver_48 : decode cX2_awardOver 48 = .ok (.dup2, 1) := by decide +kernel
theorem dX2_awardOver_49 : decode cX2_awardOver 49 = .ok (.iaload, 1) := by decide +kernel
theorem dX2_awardOver_50 : decode cX2_awardOver 50 = .ok (.getstatic 77, 3) := by decide +kernel
theorem dX2_awardOver_53 : decode cX2_awardOver 53 = .ok (.iload_n 2, 1) := by decide +kernel
theorem dX2_awardOver_54 : decode cX2_awardOver 54 = .ok (.iaload, 1) := by decide +kernel
theorem dX2_awardOver_55 : decode cX2_awardOver 55 = .ok (.iadd, 1) := by decide +kernel
theorem dX2_awardOver_56 : decode cX2_awardOver 56 = .ok (.iastore, 1) := by decide +kernel
theorem dX2_awardOver_57 : decode cX2_awardOver 57 = .ok (.iload_n 2, 1) := by decide +kernel
theorem dX2_awardOver_58 : decode cX2_awardOver 58 = .ok (.getstatic 80, 3) := by decide +kernel
theorem dX2_awardOver_61 : decode cX2_awardOver 61 = .ok (.arraylength, 1) := by decide +kernel
theorem dX2_awardOver_62 : decode cX2_awardOver 62 = .ok (.if_icmp .ge 22, 3) := by decide +kernel
theorem dX2_awardOver_65 : decode cX2_awardOver 65 = .ok (.iload 4, 2) := by decide +kernel
theorem dX2_awardOver_67 : decode cX2_awardOver 67 = .ok (.ifCond .ne 17, 3) := by decide +kernel
theorem dX2_awardOver_70 : decode cX2_awardOver 70 = .ok (.aload_n 0, 1) := by decide +kernel
theorem dX2_awardOver_71 : decode cX2_awardOver 71 = .ok (.getfield 15, 3) := by decide +kernel
theorem dX2_awardOver_74 : decode cX2_awardOver 74 = .ok (.iload_n 3, 1) := by decide +kernel
theorem dX2_awardOver_75 : decode cX2_awardOver 75 = .ok (.dup2, 1) := by decide +kernel
theorem dX2_awardOver_76 : decode cX2_awardOver 76 = .ok (.iaload, 1) := by decide +kernel
theorem dX2_awardOver_77 : decode cX2_awardOver 77 = .ok (.getstatic 80, 3) := by decide +kernel
theorem dX2_awardOver_80 : decode cX2_awardOver 80 = .ok (.iload_n 2, 1) := by decide +kernel
theorem dX2_awardOver_81 : decode cX2_awardOver 81 = .ok (.iaload, 1) := by decide +kernel
theorem dX2_awardOver_82 : decode cX2_awardOver 82 = .ok (.iadd, 1) := by decide +kernel
theorem dX2_awardOver_83 : decode cX2_awardOver 83 = .ok (.iastore, 1) := by decide +kernel
theorem dX2_awardOver_84 : decode cX2_awardOver 84 = .ok (.return_, 1) := by decide +kernel
set_option maxRecDepth 20000 in
theorem ggX3_init_X4_init : GoodIn wsX3_init wsX4_init := goodIn_r _ [16, 17, 2, 3, 18, 19, 20, 21, 22, 23, 24, 25, 6, 26, 27, 28, 29, 9, 30, 31, 32, 33, 34, 35, 36, 37, 38, 39, 40, 41, 42, 43, 44, 45, 46, 47, 48, 49, 80, 81, 82, 83, 84, 85, 86, 60, 61, 62, 63, 64, 65, 66, 67, 68, 69, 70, 71, 72, 73, 74, 75, 76, 77, 78, 79, 87, 88, 89] rfl (by decide +kernel)
set_option maxRecDepth 20000 in
theorem gX3_init_X4_init_n35 : GoodIn wsX3_init (wsX4_init) := ggX3_init_X4_init
theorem dX3_init_0 : decode cX3_init 0 = .ok (.aload_n 0, 1) := by decide +kernel
theorem dX3_init_1 : decode cX3_init 1 = .ok (.invokespecial 3, 3) := by decide +kernel
theorem dX3_init_4 : decode cX3_init 4 = .ok (.aload_n 0, 1) := by decide +kernel
theorem dX3_init_5 : decode cX3_init 5 = .ok (.bipush 10, 2) := by decide +kernel
theorem dX3_init_7 : decode cX3_init 7 = .ok (.putfield 9, 3) := by decide +kernel
theorem dX3_init_10 : decode cX3_init 10 = .ok (.aload_n 0, 1) := by decide +kernel
theorem dX3_init_11 : decode cX3_init 11 = .ok (.iconst 3, 1) := by decide +kernel
theorem dX3_init_12 : decode cX3_init 12 = .ok (.putfield 15, 3) := by decide +kernel
theorem dX3_init_15 : decode cX3_init 15 = .ok (.aload_n 0, 1) := by decide +kernel
theorem dX3_init_16 : decode cX3_init 16 = .ok (.bipush 16, 2) := by decide +kernel
theorem dX3_init_18 : decode cX3_init 18 = .ok (.newarray .int, 2) := by decide +kernel
theorem dX3_init_20 : decode cX3_init 20 = .ok (.putfield 18, 3) := by decide +kernel
theorem dX3_init_23 : decode cX3_init 23 = .ok (.aload_n 0, 1) := by decide +kernel
theorem dX3_init_24 : decode cX3_init 24 = .ok (.bipush 16, 2) := by decide +kernel
theorem dX3_init_26 : decode cX3_init 26 = .ok (.newarray .int, 2) := by decide +kernel
theorem dX3_init_28 : decode cX3_init 28 = .ok (.putfield 22, 3) := by decide +kernel
theorem dX3_init_31 : decode cX3_init 31 = .ok (.aload_n 0, 1) := by decide +kernel
theorem dX3_init_32 : decode cX3_init 32 = .ok (.bipush 16, 2) := by decide +kernel
theorem dX3_init_34 : decode cX3_init 34 = .ok (.newarray .boolean, 2) := by decide +kernel
theorem dX3_init_36 : decode cX3_init 36 = .ok (.putfield 25, 3) := by decide +kernel
theorem dX3_init_39 : decode cX3_init 39 = .ok (.aload_n 0, 1) := by decide +kernel
theorem dX3_init_40 : decode cX3_init 40 = .ok (.bipush 8, 2) := by decide +kernel
theorem dX3_init_42 : decode cX3_init 42 = .ok (.anewarray 29, 3) := by decide +kernel
theorem dX3_init_45 : decode cX3_init 45 = .ok (.putfield 31, 3) := by decide +kernel
theorem dX3_init_48 : decode cX3_init 48 = .ok (.iconst 0, 1) := by decide +kernel
theorem dX3_init_49 : decode cX3_init 49 = .ok (.istore_n 1, 1) := by decide +kernel
theorem dX3_init_50 : decode cX3_init 50 = .ok (.iload_n 1, 1) := by decide +kernel
theorem dX3_init_51 : decode cX3_init 51 = .ok (.bipush 8, 2) := by decide +kernel
theorem dX3_init_53 : decode cX3_init 53 = .ok (.if_icmp .ge 22, 3) := by decide +kernel
theorem dX3_init_56 : decode cX3_init 56 = .ok (.aload_n 0, 1) := by decide +kernel
theorem dX3_init_57 : decode cX3_init 57 = .ok (.getfield 31, 3) := by decide +kernel
theorem dX3_init_60 : decode cX3_init 60 = .ok (.iload_n 1, 1) := by decide +kernel
theorem dX3_init_61 : decode cX3_init 61 = .ok (.new 29, 3) := by decide +kernel
theorem dX3_init_64 : decode cX3_init 64 = .ok (.dup, 1) := by decide +kernel
theorem dX3_init_65 : decode cX3_init 65 = .ok (.invokespecial 35, 3) := by decide +kernel
theorem dX3_init_68 : decode cX3_init 68 = .ok (.aastore, 1) := by decide +kernel
theorem dX3_init_69 : decode cX3_init 69 = .ok (.iinc 1 1, 3) := by decide +kernel
theorem dX3_init_72 : decode cX3_init 72 = .ok (.goto (-22), 3) := by decide +kernel
theorem dX3_init_75 : decode cX3_init 75 = .ok (.return_, 1) := by decide +kernel
set_option maxRecDepth 20000 in
theorem ggX3_copyFrom_X4_copyFrom : GoodIn wsX3_copyFrom wsX4_copyFrom := goodIn_r _ [18, 19, 20, 21, 22, 9, 10, 11, 23, 24, 25, 26, 27, 28, 29, 30, 31, 32, 33, 34, 35, 36, 37, 38, 39, 40, 41, 42, 43, 44, 45, 46, 47, 48, 49, 50, 51, 52, 53, 54, 55, 56, 57, 58, 59, 70, 71, 72, 73, 74, 75, 76, 77, 78, 79, 80, 81, 82, 83, 84, 85, 86, 87, 88, 89, 90, 91, 92, 93, 94, 95, 96, 97, 98, 99] rfl (by decide +kernel)
set_option maxRecDepth 20000 in
theorem gX3_copyFrom_X4_copyFrom_n55 : GoodIn wsX3_copyFrom (wsX4_copyFrom) := ggX3_copyFrom_X4_copyFrom
theorem dX3_copyFrom_0 : decode cX3_copyFrom 0 = .ok (.aload_n 0, 1) := by decide +kernel
theorem dX3_copyFrom_1 : decode cX3_copyFrom 1 = .ok (.aload_n 1, 1) := by decide +kernel
theorem dX3_copyFrom_2 : decode cX3_copyFrom 2 = .ok (.getfield 36, 3) := by decide +kernel
theorem dX3_copyFrom_5 : decode cX3_copyFrom 5 = .ok (.putfield 36, 3) := by decide +kernel
theorem dX3_copyFrom_8 : decode cX3_copyFrom 8 = .ok (.aload_n 0, 1) := by decide +kernel
theorem dX3_copyFrom_9 : decode cX3_copyFrom 9 = .ok (.aload_n 1, 1) := by decide +kernel
theorem dX3_copyFrom_10 : decode cX3_copyFrom 10 = .ok (.getfield 39, 3) := by decide +kernel
theorem dX3_copyFrom_13 : decode cX3_copyFrom 13 = .ok (.putfield 39, 3) := by decide +kernel
theorem dX3_copyFrom_16 : decode cX3_copyFrom 16 = .ok (.aload_n 0, 1) := by decide +kernel
theorem dX3_copyFrom_17 : decode cX3_copyFrom 17 = .ok (.aload_n 1, 1) := by decide +kernel
theorem dX3_copyFrom_18 : decode cX3_copyFrom 18 = .ok (.getfield 42, 3) := by decide +kernel
theorem dX3_copyFrom_21 : decode cX3_copyFrom 21 = .ok (.putfield 42, 3) := by decide +kernel
theorem dX3_copyFrom_24 : decode cX3_copyFrom 24 = .ok (.aload_n 0, 1) := by decide +kernel
theorem dX3_copyFrom_25 : decode cX3_copyFrom 25 = .ok (.aload_n 1, 1) := by decide +kernel
theorem dX3_copyFrom_26 : decode cX3_copyFrom 26 = .ok (.getfield 45, 3) := by decide +kernel
theorem dX3_copyFrom_29 : decode cX3_copyFrom 29 = .ok (.putfield 45, 3) := by decide +kernel
theorem dX3_copyFrom_32 : decode cX3_copyFrom 32 = .ok (.aload_n 0, 1) := by decide +kernel
theorem dX3_copyFrom_33 : decode cX3_copyFrom 33 = .ok (.aload_n 1, 1) := by decide +kernel
theorem dX3_copyFrom_34 : decode cX3_copyFrom 34 = .ok (.getfield 9, 3) := by decide +kernel
theorem dX3_copyFrom_37 : decode cX3_copyFrom 37 = .ok (.putfield 9, 3) := by decide +kernel
theorem dX3_copyFrom_40 : decode cX3_copyFrom 40 = .ok (.aload_n 0, 1) := by decide +kernel
theorem dX3_copyFrom_41 : decode cX3_copyFrom 41 = .ok (.aload_n 1, 1) := by decide +kernel
theorem dX3_copyFrom_42 : decode cX3_copyFrom 42 = .ok (.getfield 15, 3) := by decide +kernel
theorem dX3_copyFrom_45 : decode cX3_copyFrom 45 = .ok (.putfield 15, 3) := by decide +kernel
theorem dX3_copyFrom_48 : decode cX3_copyFrom 48 = .ok (.aload_n 1, 1) := by decide +kernel
theorem dX3_copyFrom_49 : decode cX3_copyFrom 49 = .ok (.getfield 18, 3) := by decide +kernel
theorem dX3_copyFrom_52 : decode cX3_copyFrom 52 = .ok (.iconst 0, 1) := by decide +kernel
theorem dX3_copyFrom_53 : decode cX3_copyFrom 53 = .ok (.aload_n 0, 1) := by decide +kernel
theorem dX3_copyFrom_54 : decode cX3_copyFrom 54 = .ok (.getfield 18, 3) := by decide +kernel
theorem dX3_copyFrom_57 : decode cX3_copyFrom 57 = .ok (.iconst 0, 1) := by decide +kernel
theorem dX3_copyFrom_58 : decode cX3_copyFrom 58 = .ok (.bipush 16, 2) := by decide +kernel
theorem dX3_copyFrom_60 : decode cX3_copyFrom 60 = .ok (.invokestatic 49, 3) := by decide +kernel
theorem dX3_copyFrom_63 : decode cX3_copyFrom 63 = .ok (.aload_n 1, 1) := by decide +kernel
theorem dX3_copyFrom_64 : decode cX3_copyFrom 64 = .ok (.getfield 22, 3) := by decide +kernel
theorem dX3_copyFrom_67 : decode cX3_copyFrom 67 = .ok (.iconst 0, 1) := by decide +kernel
theorem dX3_copyFrom_68 : decode cX3_copyFrom 68 = .ok (.aload_n 0, 1) := by decide +kernel
theorem dX3_copyFrom_69 : decode cX3_copyFrom 69 = .ok (.getfield 22, 3) := by decide +kernel
theorem dX3_copyFrom_72 : decode cX3_copyFrom 72 = .ok (.iconst 0, 1) := by decide +kernel
theorem dX3_copyFrom_73 : decode cX3_copyFrom 73 = .ok (.bipush 16, 2) := by decide +kernel
theorem dX3_copyFrom_75 : decode cX3_copyFrom 75 = .ok (.invokestatic 49, 3) := by decide +kernel
theorem dX3_copyFrom_78 : decode cX3_copyFrom 78 = .ok (.aload_n 1, 1) := by decide +kernel
theorem dX3_copyFrom_79 : decode cX3_copyFrom 79 = .ok (.getfield 25, 3) := by decide +kernel
theorem dX3_copyFrom_82 : decode cX3_copyFrom 82 = .ok (.iconst 0, 1) := by decide +kernel
theorem dX3_copyFrom_83 : decode cX3_copyFrom 83 = .ok (.aload_n 0, 1) := by decide +kernel
theorem dX3_copyFrom_84 : decode cX3_copyFrom 84 = .ok (.getfield 25, 3) := by decide +kernel
theorem dX3_copyFrom_87 : decode cX3_copyFrom 87 = .ok (.iconst 0, 1) := by decide +kernel
theorem dX3_copyFrom_88 : decode cX3_copyFrom 88 = .ok (.bipush 16, 2) := by decide +kernel
theorem dX3_copyFrom_90 : decode cX3_copyFrom 90 = .ok (.invokestatic 49, 3) := by decide +kernel
theorem dX3_copyFrom_93 : decode cX3_copyFrom 93 = .ok (.iconst 0, 1) := by decide +kernel
theorem dX3_copyFrom_94 : decode cX3_copyFrom 94 = .ok (.istore_n 2, 1) := by decide +kernel
theorem dX3_copyFrom_95 : decode cX3_copyFrom 95 = .ok (.iload_n 2, 1) := by decide +kernel
theorem dX3_copyFrom_96 : decode cX3_copyFrom 96 = .ok (.aload_n 0, 1) := by decide +kernel
theorem dX3_copyFrom_97 : decode cX3_copyFrom 97 = .ok (.getfield 42, 3) := by decide +kernel
theorem dX3_copyFrom_100 : decode cX3_copyFrom 100 = .ok (.if_icmp .ge 24, 3) := by decide +kernel
theorem dX3_copyFrom_103 : decode cX3_copyFrom 103 = .ok (.aload_n 0, 1) := by decide +kernel
theorem dX3_copyFrom_104 : decode cX3_copyFrom 104 = .ok (.getfield 31, 3) := by decide +kernel
theorem dX3_copyFrom_107 : decode cX3_copyFrom 107 = .ok (.iload_n 2, 1) := by decide +kernel
theorem dX3_copyFrom_108 : decode cX3_copyFrom 108 = .ok (.aaload, 1) := by decide +kernel
theorem dX3_copyFrom_109 : decode cX3_copyFrom 109 = .ok (.aload_n 1, 1) := by decide +kernel
theorem dX3_copyFrom_110 : decode cX3_copyFrom 110 = .ok (.getfield 31, 3) := by decide +kernel
theorem dX3_copyFrom_113 : decode cX3_copyFrom 113 = .ok (.iload_n 2, 1) := by decide +kernel
theorem dX3_copyFrom_114 : decode cX3_copyFrom 114 = .ok (.aaload, 1) := by decide +kernel
theorem dX3_copyFrom_115 : decode cX3_copyFrom 115 = .ok (.invokevirtual 55, 3) := by decide +kernel
theorem dX3_copyFrom_118 : decode cX3_copyFrom 118 = .ok (.iinc 2 1, 3) := by decide +kernel
theorem dX3_copyFrom_121 : decode cX3_copyFrom 121 = .ok (.goto (-26), 3) := by decide +kernel
theorem dX3_copyFrom_124 : decode cX3_copyFrom 124 = .ok (.return_, 1) := by decide +kernel
theorem dX3_addTeam_0 : decode cX3_addTeam 0 = .ok (.aload_n 0, 1) := by decide +kernel
theorem dX3_addTeam_1 : decode cX3_addTeam 1 = .ok (.getfield 36, 3) := by decide +kernel
theorem dX3_addTeam_4 : decode cX3_addTeam 4 = .ok (.bipush 6, 2) := by decide +kernel
theorem dX3_addTeam_6 : decode cX3_addTeam 6 = .ok (.if_icmp .lt 5, 3) := by decide +kernel
theorem dX3_addTeam_9 : decode cX3_addTeam 9 = .ok (.iconst (-1), 1) := by decide +kernel
theorem dX3_addTeam_10 : decode cX3_addTeam 10 = .ok (.ireturn, 1) := by decide +kernel
theorem dX3_addTeam_11 : decode cX3_addTeam 11 = .ok (.aload_n 0, 1) := by decide +kernel
theorem dX3_addTeam_12 : decode cX3_addTeam 12 = .ok (.dup, 1) := by decide +kernel
theorem dX3_addTeam_13 : decode cX3_addTeam 13 = .ok (.getfield 36, 3) := by decide +kernel
theorem dX3_addTeam_16 : decode cX3_addTeam 16 = .ok (.iconst 1, 1) := by decide +kernel
theorem dX3_addTeam_17 : decode cX3_addTeam 17 = .ok (.iadd, 1) := by decide +kernel
theorem dX3_addTeam_18 : decode cX3_addTeam 18 = .ok (.putfield 36, 3) := by decide +kernel
theorem dX3_addTeam_21 : decode cX3_addTeam 21 = .ok (.aload_n 0, 1) := by decide +kernel
theorem dX3_addTeam_22 : decode cX3_addTeam 22 = .ok (.getfield 36, 3) := by decide +kernel
theorem dX3_addTeam_25 : decode cX3_addTeam 25 = .ok (.iconst 1, 1) := by decide +kernel
theorem dX3_addTeam_26 : decode cX3_addTeam 26 = .ok (.isub, 1) := by decide +kernel
theorem dX3_addTeam_27 : decode cX3_addTeam 27 = .ok (.ireturn, 1) := by decide +kernel
set_option maxRecDepth 20000 in
theorem ggX3_addRider_X8_within : GoodIn wsX3_addRider wsX8_within := goodIn_r _ [9] rfl (by decide +kernel)
set_option maxRecDepth 20000 in
theorem gX3_addRider_X8_within_n59 : GoodIn wsX3_addRider (wsX8_within) := ggX3_addRider_X8_within
set_option maxRecDepth 20000 in
theorem ggX3_addRider_X3_latestFinishers : GoodIn wsX3_addRider wsX3_latestFinishers := goodIn_r _ [14, 15, 16, 17, 18, 19, 20, 21, 22, 23, 24, 25, 26, 27, 28, 29, 30, 31, 32, 33, 34, 35, 36, 37, 38, 39, 40, 41, 42, 43, 44, 45, 46] rfl (by decide +kernel)
set_option maxRecDepth 20000 in
theorem gX3_addRider_X3_latestFinishers : GoodIn wsX3_addRider (wsV RX3 63 RX3 yX3_latestFinishers wsX3_latestFinishers) := goodIn_app (goodIn_of _ (by decide +kernel)) ggX3_addRider_X3_latestFinishers
theorem dX3_addRider_0 : decode cX3_addRider 0 = .ok (.aload_n 0, 1) := by decide +kernel
theorem dX3_addRider_1 : decode cX3_addRider 1 = .ok (.getfield 39, 3) := by decide +kernel
theorem dX3_addRider_4 : decode cX3_addRider 4 = .ok (.bipush 16, 2) := by decide +kernel
theorem dX3_addRider_6 : decode cX3_addRider 6 = .ok (.if_icmp .ge 28, 3) := by decide +kernel
theorem dX3_addRider_9 : decode cX3_addRider 9 = .ok (.iload_n 1, 1) := by decide +kernel
theorem dX3_addRider_10 : decode cX3_addRider 10 = .ok (.iconst 0, 1) := by decide +kernel
theorem dX3_addRider_11 : decode cX3_addRider 11 = .ok (.aload_n 0, 1) := by decide +kernel
theorem dX3_addRider_12 : decode cX3_addRider 12 = .ok (.getfield 36, 3) := by decide +kernel
theorem dX3_addRider_15 : decode cX3_addRider 15 = .ok (.iconst 1, 1) := by decide +kernel
theorem dX3_addRider_16 : decode cX3_addRider 16 = .ok (.isub, 1) := by decide +kernel
theorem dX3_addRider_17 : decode cX3_addRider 17 = .ok (.invokestatic 59, 3) := by decide +kernel
theorem dX3_addRider_20 : decode cX3_addRider 20 = .ok (.ifCond .eq 14, 3) := by decide +kernel
theorem dX3_addRider_23 : decode cX3_addRider 23 = .ok (.iload_n 2, 1) := by decide +kernel
theorem dX3_addRider_24 : decode cX3_addRider 24 = .ok (.bipush 16, 2) := by decide +kernel
theorem dX3_addRider_26 : decode cX3_addRider 26 = .ok (.bipush 50, 2) := by decide +kernel
theorem dX3_addRider_28 : decode cX3_addRider 28 = .ok (.invokestatic 59, 3) := by decide +kernel
theorem dX3_addRider_31 : decode cX3_addRider 31 = .ok (.ifCond .ne 5, 3) := by decide +kernel
theorem dX3_addRider_34 : decode cX3_addRider 34 = .ok (.iconst (-1), 1) := by decide +kernel
theorem dX3_addRider_35 : decode cX3_addRider 35 = .ok (.ireturn, 1) := by decide +kernel
theorem dX3_addRider_36 : decode cX3_addRider 36 = .ok (.aload_n 0, 1) := by decide +kernel
theorem dX3_addRider_37 : decode cX3_addRider 37 = .ok (.getfield 45, 3) := by decide +kernel
theorem dX3_addRider_40 : decode cX3_addRider 40 = .ok (.ifCond .eq 12, 3) := by decide +kernel
theorem dX3_addRider_43 : decode cX3_addRider 43 = .ok (.aload_n 0, 1) := by decide +kernel
theorem dX3_addRider_44 : decode cX3_addRider 44 = .ok (.invokevirtual 63, 3) := by decide +kernel
theorem dX3_addRider_47 : decode cX3_addRider 47 = .ok (.ifCond .le 5, 3) := by decide +kernel
theorem dX3_addRider_50 : decode cX3_addRider 50 = .ok (.iconst (-1), 1) := by decide +kernel
theorem dX3_addRider_51 : decode cX3_addRider 51 = .ok (.ireturn, 1) := by decide +kernel
theorem dX3_addRider_52 : decode cX3_addRider 52 = .ok (.aload_n 0, 1) := by decide +kernel
theorem dX3_addRider_53 : decode cX3_addRider 53 = .ok (.getfield 18, 3) := by decide +kernel
theorem dX3_addRider_56 : decode cX3_addRider 56 = .ok (.aload_n 0, 1) := by decide +kernel
theorem dX3_addRider_57 : decode cX3_addRider 57 = .ok (.getfield 39, 3) := by decide +kernel
theorem dX3_addRider_60 : decode cX3_addRider 60 = .ok (.iload_n 1, 1) := by decide +kernel
theorem dX3_addRider_61 : decode cX3_addRider 61 = .ok (.iastore, 1) := by decide +kernel
theorem dX3_addRider_62 : decode cX3_addRider 62 = .ok (.aload_n 0, 1) := by decide +kernel
theorem dX3_addRider_63 : decode cX3_addRider 63 = .ok (.getfield 22, 3) := by decide +kernel
theorem dX3_addRider_66 : decode cX3_addRider 66 = .ok (.aload_n 0, 1) := by decide +kernel
theorem dX3_addRider_67 : decode cX3_addRider 67 = .ok (.getfield 39, 3) := by decide +kernel
theorem dX3_addRider_70 : decode cX3_addRider 70 = .ok (.iload_n 2, 1) := by decide +kernel
theorem dX3_addRider_71 : decode cX3_addRider 71 = .ok (.iastore, 1) := by decide +kernel
theorem dX3_addRider_72 : decode cX3_addRider 72 = .ok (.aload_n 0, 1) := by decide +kernel
theorem dX3_addRider_73 : decode cX3_addRider 73 = .ok (.getfield 25, 3) := by decide +kernel
theorem dX3_addRider_76 : decode cX3_addRider 76 = .ok (.aload_n 0, 1) := by decide +kernel
theorem dX3_addRider_77 : decode cX3_addRider 77 = .ok (.getfield 39, 3) := by decide +kernel
theorem dX3_addRider_80 : decode cX3_addRider 80 = .ok (.iconst 1, 1) := by decide +kernel
theorem dX3_addRider_81 : decode cX3_addRider 81 = .ok (.bastore, 1) := by decide +kernel
theorem dX3_addRider_82 : decode cX3_addRider 82 = .ok (.aload_n 0, 1) := by decide +kernel
theorem dX3_addRider_83 : decode cX3_addRider 83 = .ok (.dup, 1) := by decide +kernel
theorem dX3_addRider_84 : decode cX3_addRider 84 = .ok (.getfield 39, 3) := by decide +kernel
theorem dX3_addRider_87 : decode cX3_addRider 87 = .ok (.iconst 1, 1) := by decide +kernel
theorem dX3_addRider_88 : decode cX3_addRider 88 = .ok (.iadd, 1) := by decide +kernel
theorem dX3_addRider_89 : decode cX3_addRider 89 = .ok (.putfield 39, 3) := by decide +kernel
theorem dX3_addRider_92 : decode cX3_addRider 92 = .ok (.aload_n 0, 1) := by decide +kernel
theorem dX3_addRider_93 : decode cX3_addRider 93 = .ok (.getfield 39, 3) := by decide +kernel
theorem dX3_addRider_96 : decode cX3_addRider 96 = .ok (.iconst 1, 1) := by decide +kernel
theorem dX3_addRider_97 : decode cX3_addRider 97 = .ok (.isub, 1) := by decide +kernel
theorem dX3_addRider_98 : decode cX3_addRider 98 = .ok (.ireturn, 1) := by decide +kernel
set_option maxRecDepth 20000 in
theorem ggX3_openStage_X8_within : GoodIn wsX3_openStage wsX8_within := goodIn_r _ [6] rfl (by decide +kernel)
set_option maxRecDepth 20000 in
theorem gX3_openStage_X8_within_n59 : GoodIn wsX3_openStage (wsX8_within) := ggX3_openStage_X8_within
set_option maxRecDepth 20000 in
theorem ggX3_openStage_X3_countIn : GoodIn wsX3_openStage wsX3_countIn := goodIn_r _ [11, 12, 13, 41, 42, 43, 44, 45, 46, 47, 48, 49, 50] rfl (by decide +kernel)
set_option maxRecDepth 20000 in
theorem gX3_openStage_X3_countIn : GoodIn wsX3_openStage (wsV RX3 67 RX3 yX3_countIn wsX3_countIn) := goodIn_app (goodIn_of _ (by decide +kernel)) ggX3_openStage_X3_countIn
set_option maxRecDepth 20000 in
theorem ggX3_openStage_X4_begin : GoodIn wsX3_openStage wsX4_begin := goodIn_r _ [17, 18, 19, 20, 21, 22, 23, 24, 25, 26, 27, 28, 29, 15, 30, 31, 32, 33, 34, 35, 36, 37, 38, 39, 40, 51, 52, 53, 54, 55, 56, 57, 58, 59, 60, 61, 62, 63, 64, 65, 66, 67, 68, 69, 70, 71, 72, 73, 74, 75, 76, 77] rfl (by decide +kernel)
set_option maxRecDepth 20000 in
theorem gX3_openStage_X4_begin_n70 : GoodIn wsX3_openStage (wsX4_begin) := ggX3_openStage_X4_begin
theorem dX3_openStage_0 : decode cX3_openStage 0 = .ok (.aload_n 0, 1) := by decide +kernel
theorem dX3_openStage_1 : decode cX3_openStage 1 = .ok (.getfield 42, 3) := by decide +kernel
theorem dX3_openStage_4 : decode cX3_openStage 4 = .ok (.bipush 8, 2) := by decide +kernel
theorem dX3_openStage_6 : decode cX3_openStage 6 = .ok (.if_icmp .ge 19, 3) := by decide +kernel
theorem dX3_openStage_9 : decode cX3_openStage 9 = .ok (.aload_n 0, 1) := by decide +kernel
theorem dX3_openStage_10 : decode cX3_openStage 10 = .ok (.getfield 45, 3) := by decide +kernel
theorem dX3_openStage_13 : decode cX3_openStage 13 = .ok (.ifCond .ne 12, 3) := by decide +kernel
theorem dX3_openStage_16 : decode cX3_openStage 16 = .ok (.iload_n 1, 1) := by decide +kernel
theorem dX3_openStage_17 : decode cX3_openStage 17 = .ok (.iconst 0, 1) := by decide +kernel
theorem dX3_openStage_18 : decode cX3_openStage 18 = .ok (.iconst 3, 1) := by decide +kernel
theorem dX3_openStage_19 : decode cX3_openStage 19 = .ok (.invokestatic 59, 3) := by decide +kernel
theorem dX3_openStage_22 : decode cX3_openStage 22 = .ok (.ifCond .ne 5, 3) := by decide +kernel
theorem dX3_openStage_25 : decode cX3_openStage 25 = .ok (.iconst (-1), 1) := by decide +kernel
theorem dX3_openStage_26 : decode cX3_openStage 26 = .ok (.ireturn, 1) := by decide +kernel
theorem dX3_openStage_27 : decode cX3_openStage 27 = .ok (.iload_n 2, 1) := by decide +kernel
theorem dX3_openStage_28 : decode cX3_openStage 28 = .ok (.iconst 1, 1) := by decide +kernel
theorem dX3_openStage_29 : decode cX3_openStage 29 = .ok (.sipush 300, 3) := by decide +kernel
theorem dX3_openStage_32 : decode cX3_openStage 32 = .ok (.invokestatic 59, 3) := by decide +kernel
theorem dX3_openStage_35 : decode cX3_openStage 35 = .ok (.ifCond .eq 10, 3) := by decide +kernel
theorem dX3_openStage_38 : decode cX3_openStage 38 = .ok (.aload_n 0, 1) := by decide +kernel
theorem dX3_openStage_39 : decode cX3_openStage 39 = .ok (.invokevirtual 67, 3) := by decide +kernel
theorem dX3_openStage_42 : decode cX3_openStage 42 = .ok (.ifCond .ne 5, 3) := by decide +kernel
theorem dX3_openStage_45 : decode cX3_openStage 45 = .ok (.iconst (-1), 1) := by decide +kernel
theorem dX3_openStage_46 : decode cX3_openStage 46 = .ok (.ireturn, 1) := by decide +kernel
theorem dX3_openStage_47 : decode cX3_openStage 47 = .ok (.aload_n 0, 1) := by decide +kernel
theorem dX3_openStage_48 : decode cX3_openStage 48 = .ok (.getfield 31, 3) := by decide +kernel
theorem dX3_openStage_51 : decode cX3_openStage 51 = .ok (.aload_n 0, 1) := by decide +kernel
theorem dX3_openStage_52 : decode cX3_openStage 52 = .ok (.getfield 42, 3) := by decide +kernel
theorem dX3_openStage_55 : decode cX3_openStage 55 = .ok (.aaload, 1) := by decide +kernel
theorem dX3_openStage_56 : decode cX3_openStage 56 = .ok (.iload_n 1, 1) := by decide +kernel
theorem dX3_openStage_57 : decode cX3_openStage 57 = .ok (.iload_n 2, 1) := by decide +kernel
theorem dX3_openStage_58 : decode cX3_openStage 58 = .ok (.invokevirtual 70, 3) := by decide +kernel
theorem dX3_openStage_61 : decode cX3_openStage 61 = .ok (.aload_n 0, 1) := by decide +kernel
theorem dX3_openStage_62 : decode cX3_openStage 62 = .ok (.iconst 1, 1) := by decide +kernel
theorem dX3_openStage_63 : decode cX3_openStage 63 = .ok (.putfield 45, 3) := by decide +kernel
theorem dX3_openStage_66 : decode cX3_openStage 66 = .ok (.aload_n 0, 1) := by decide +kernel
theorem dX3_openStage_67 : decode cX3_openStage 67 = .ok (.dup, 1) := by decide +kernel
theorem dX3_openStage_68 : decode cX3_openStage 68 = .ok (.getfield 42, 3) := by decide +kernel
theorem dX3_openStage_71 : decode cX3_openStage 71 = .ok (.iconst 1, 1) := by decide +kernel
theorem dX3_openStage_72 : decode cX3_openStage 72 = .ok (.iadd, 1) := by decide +kernel
theorem dX3_openStage_73 : decode cX3_openStage 73 = .ok (.putfield 42, 3) := by decide +kernel
theorem dX3_openStage_76 : decode cX3_openStage 76 = .ok (.aload_n 0, 1) := by decide +kernel
theorem dX3_openStage_77 : decode cX3_openStage 77 = .ok (.getfield 42, 3) := by decide +kernel
theorem dX3_openStage_80 : decode cX3_openStage 80 = .ok (.iconst 1, 1) := by decide +kernel
theorem dX3_openStage_81 : decode cX3_openStage 81 = .ok (.isub, 1) := by decide +kernel
theorem dX3_openStage_82 : decode cX3_openStage 82 = .ok (.ireturn, 1) := by decide +kernel
set_option maxRecDepth 20000 in
theorem ggX3_addMark_X1_addMark : GoodIn wsX3_addMark wsX1_addMark := goodIn_r _ [7, 8, 9, 10, 11, 12, 13, 14, 15, 46, 47, 48, 49, 50, 51, 52] rfl (by decide +kernel)
set_option maxRecDepth 20000 in
theorem gX3_addMark_X1_addMark_n78 : GoodIn wsX3_addMark (wsX1_addMark) := ggX3_addMark_X1_addMark
theorem dX3_addMark_0 : decode cX3_addMark 0 = .ok (.aload_n 0, 1) := by decide +kernel
theorem dX3_addMark_1 : decode cX3_addMark 1 = .ok (.getfield 45, 3) := by decide +kernel
theorem dX3_addMark_4 : decode cX3_addMark 4 = .ok (.ifCond .eq 25, 3) := by decide +kernel
theorem dX3_addMark_7 : decode cX3_addMark 7 = .ok (.aload_n 0, 1) := by decide +kernel
theorem dX3_addMark_8 : decode cX3_addMark 8 = .ok (.getfield 31, 3) := by decide +kernel
theorem dX3_addMark_11 : decode cX3_addMark 11 = .ok (.aload_n 0, 1) := by decide +kernel
theorem dX3_addMark_12 : decode cX3_addMark 12 = .ok (.getfield 42, 3) := by decide +kernel
theorem dX3_addMark_15 : decode cX3_addMark 15 = .ok (.iconst 1, 1) := by decide +kernel
theorem dX3_addMark_16 : decode cX3_addMark 16 = .ok (.isub, 1) := by decide +kernel
theorem dX3_addMark_17 : decode cX3_addMark 17 = .ok (.aaload, 1) := by decide +kernel
theorem dX3_addMark_18 : decode cX3_addMark 18 = .ok (.getfield 74, 3) := by decide +kernel
theorem dX3_addMark_21 : decode cX3_addMark 21 = .ok (.iload_n 1, 1) := by decide +kernel
theorem dX3_addMark_22 : decode cX3_addMark 22 = .ok (.iload_n 2, 1) := by decide +kernel
theorem dX3_addMark_23 : decode cX3_addMark 23 = .ok (.invokevirtual 78, 3) := by decide +kernel
theorem dX3_addMark_26 : decode cX3_addMark 26 = .ok (.goto 4, 3) := by decide +kernel
theorem dX3_addMark_29 : decode cX3_addMark 29 = .ok (.iconst (-1), 1) := by decide +kernel
theorem dX3_addMark_30 : decode cX3_addMark 30 = .ok (.ireturn, 1) := by decide +kernel
set_option maxRecDepth 20000 in
theorem ggX3_addFinish_X3_isIn : GoodIn wsX3_addFinish wsX3_isIn := goodIn_r _ [8, 9, 10, 11, 12, 7, 13, 14, 15, 16, 17, 25, 26, 27, 28, 29, 30, 31, 32, 33, 34] rfl (by decide +kernel)
set_option maxRecDepth 20000 in
theorem gX3_addFinish_X3_isIn : GoodIn wsX3_addFinish (wsV RX3 84 RX3 yX3_isIn wsX3_isIn) := goodIn_app (goodIn_of _ (by decide +kernel)) ggX3_addFinish_X3_isIn
set_option maxRecDepth 20000 in
theorem ggX3_addFinish_X4_addFinish : GoodIn wsX3_addFinish wsX4_addFinish := goodIn_r _ [21, 22, 23, 24, 15, 16, 17, 35, 36, 37, 38, 39, 40, 41, 42, 43, 44, 45, 46, 47, 48, 49, 50, 51, 52, 53, 54] rfl (by decide +kernel)
set_option maxRecDepth 20000 in
theorem gX3_addFinish_X4_addFinish_n88 : GoodIn wsX3_addFinish (wsX4_addFinish) := ggX3_addFinish_X4_addFinish
theorem dX3_addFinish_0 : decode cX3_addFinish 0 = .ok (.aload_n 0, 1) := by decide +kernel
theorem dX3_addFinish_1 : decode cX3_addFinish 1 = .ok (.getfield 45, 3) := by decide +kernel
theorem dX3_addFinish_4 : decode cX3_addFinish 4 = .ok (.ifCond .eq 34, 3) := by decide +kernel
theorem dX3_addFinish_7 : decode cX3_addFinish 7 = .ok (.aload_n 0, 1) := by decide +kernel
theorem dX3_addFinish_8 : decode cX3_addFinish 8 = .ok (.iload_n 1, 1) := by decide +kernel
theorem dX3_addFinish_9 : decode cX3_addFinish 9 = .ok (.invokevirtual 84, 3) := by decide +kernel
theorem dX3_addFinish_12 : decode cX3_addFinish 12 = .ok (.ifCond .eq 26, 3) := by decide +kernel
theorem dX3_addFinish_15 : decode cX3_addFinish 15 = .ok (.aload_n 0, 1) := by decide +kernel
theorem dX3_addFinish_16 : decode cX3_addFinish 16 = .ok (.getfield 31, 3) := by decide +kernel
theorem dX3_addFinish_19 : decode cX3_addFinish 19 = .ok (.aload_n 0, 1) := by decide +kernel
theorem dX3_addFinish_20 : decode cX3_addFinish 20 = .ok (.getfield 42, 3) := by decide +kernel
theorem dX3_addFinish_23 : decode cX3_addFinish 23 = .ok (.iconst 1, 1) := by decide +kernel
theorem dX3_addFinish_24 : decode cX3_addFinish 24 = .ok (.isub, 1) := by decide +kernel
theorem dX3_addFinish_25 : decode cX3_addFinish 25 = .ok (.aaload, 1) := by decide +kernel
theorem dX3_addFinish_26 : decode cX3_addFinish 26 = .ok (.iload_n 1, 1) := by decide +kernel
theorem dX3_addFinish_27 : decode cX3_addFinish 27 = .ok (.iload_n 2, 1) := by decide +kernel
theorem dX3_addFinish_28 : decode cX3_addFinish 28 = .ok (.invokevirtual 88, 3) := by decide +kernel
theorem dX3_addFinish_31 : decode cX3_addFinish 31 = .ok (.ifCond .eq 7, 3) := by decide +kernel
theorem dX3_addFinish_34 : decode cX3_addFinish 34 = .ok (.iconst 1, 1) := by decide +kernel
theorem dX3_addFinish_35 : decode cX3_addFinish 35 = .ok (.goto 4, 3) := by decide +kernel
theorem dX3_addFinish_38 : decode cX3_addFinish 38 = .ok (.iconst 0, 1) := by decide +kernel
theorem dX3_addFinish_39 : decode cX3_addFinish 39 = .ok (.ireturn, 1) := by decide +kernel
set_option maxRecDepth 20000 in
theorem ggX3_addCrossing_X3_isIn : GoodIn wsX3_addCrossing wsX3_isIn := goodIn_r _ [8, 9, 10, 11, 12, 7, 13, 14, 15, 16, 17, 29, 30, 31, 32, 33, 34, 35, 36, 37, 38] rfl (by decide +kernel)
set_option maxRecDepth 20000 in
theorem gX3_addCrossing_X3_isIn : GoodIn wsX3_addCrossing (wsV RX3 84 RX3 yX3_isIn wsX3_isIn) := goodIn_app (goodIn_of _ (by decide +kernel)) ggX3_addCrossing_X3_isIn
set_option maxRecDepth 20000 in
theorem ggX3_addCrossing_X1_addCrossing : GoodIn wsX3_addCrossing wsX1_addCrossing := goodIn_r _ [21, 22, 23, 24, 15, 16, 17, 25, 26, 27, 19, 28, 59, 60, 61, 62, 63, 64, 65] rfl (by decide +kernel)
set_option maxRecDepth 20000 in
theorem gX3_addCrossing_X1_addCrossing_n92 : GoodIn wsX3_addCrossing (wsX1_addCrossing) := ggX3_addCrossing_X1_addCrossing
theorem dX3_addCrossing_0 : decode cX3_addCrossing 0 = .ok (.aload_n 0, 1) := by decide +kernel
theorem dX3_addCrossing_1 : decode cX3_addCrossing 1 = .ok (.getfield 45, 3) := by decide +kernel
theorem dX3_addCrossing_4 : decode cX3_addCrossing 4 = .ok (.ifCond .eq 33, 3) := by decide +kernel
theorem dX3_addCrossing_7 : decode cX3_addCrossing 7 = .ok (.aload_n 0, 1) := by decide +kernel
theorem dX3_addCrossing_8 : decode cX3_addCrossing 8 = .ok (.iload_n 2, 1) := by decide +kernel
theorem dX3_addCrossing_9 : decode cX3_addCrossing 9 = .ok (.invokevirtual 84, 3) := by decide +kernel
theorem dX3_addCrossing_12 : decode cX3_addCrossing 12 = .ok (.ifCond .eq 25, 3) := by decide +kernel
theorem dX3_addCrossing_15 : decode cX3_addCrossing 15 = .ok (.aload_n 0, 1) := by decide +kernel
theorem dX3_addCrossing_16 : decode cX3_addCrossing 16 = .ok (.getfield 31, 3) := by decide +kernel
theorem dX3_addCrossing_19 : decode cX3_addCrossing 19 = .ok (.aload_n 0, 1) := by decide +kernel
theorem dX3_addCrossing_20 : decode cX3_addCrossing 20 = .ok (.getfield 42, 3) := by decide +kernel
theorem dX3_addCrossing_23 : decode cX3_addCrossing 23 = .ok (.iconst 1, 1) := by decide +kernel
theorem dX3_addCrossing_24 : decode cX3_addCrossing 24 = .ok (.isub, 1) := by decide +kernel
theorem dX3_addCrossing_25 : decode cX3_addCrossing 25 = .ok (.aaload, 1) := by decide +kernel
theorem dX3_addCrossing_26 : decode cX3_addCrossing 26 = .ok (.getfield 74, 3) := by decide +kernel
theorem dX3_addCrossing_29 : decode cX3_addCrossing 29 = .ok (.iload_n 1, 1) := by decide +kernel
theorem dX3_addCrossing_30 : decode cX3_addCrossing 30 = .ok (.iload_n 2, 1) := by decide +kernel
theorem dX3_addCrossing_31 : decode cX3_addCrossing 31 = .ok (.invokevirtual 92, 3) := by decide +kernel
theorem dX3_addCrossing_34 : decode cX3_addCrossing 34 = .ok (.goto 4, 3) := by decide +kernel
theorem dX3_addCrossing_37 : decode cX3_addCrossing 37 = .ok (.iconst (-1), 1) := by decide +kernel
theorem dX3_addCrossing_38 : decode cX3_addCrossing 38 = .ok (.ireturn, 1) := by decide +kernel
set_option maxRecDepth 20000 in
theorem ggX3_addFall_X3_isIn : GoodIn wsX3_addFall wsX3_isIn := goodIn_r _ [8, 9, 10, 11, 12, 7, 13, 14, 15, 16, 17, 25, 26, 27, 28, 29, 30, 31, 32, 33, 34] rfl (by decide +kernel)
set_option maxRecDepth 20000 in
theorem gX3_addFall_X3_isIn : GoodIn wsX3_addFall (wsV RX3 84 RX3 yX3_isIn wsX3_isIn) := goodIn_app (goodIn_of _ (by decide +kernel)) ggX3_addFall_X3_isIn
set_option maxRecDepth 20000 in
theorem ggX3_addFall_X4_addFall : GoodIn wsX3_addFall wsX4_addFall := goodIn_r _ [21, 22, 23, 24, 15, 16, 17, 35, 36, 37, 38, 39, 40, 41, 42, 43, 44, 45, 46, 47, 48, 49, 50, 51, 52, 53, 54, 55, 56, 57, 58, 59, 60, 61] rfl (by decide +kernel)
set_option maxRecDepth 20000 in
theorem gX3_addFall_X4_addFall_n95 : GoodIn wsX3_addFall (wsX4_addFall) := ggX3_addFall_X4_addFall
theorem dX3_addFall_0 : decode cX3_addFall 0 = .ok (.aload_n 0, 1) := by decide +kernel
theorem dX3_addFall_1 : decode cX3_addFall 1 = .ok (.getfield 45, 3) := by decide +kernel
theorem dX3_addFall_4 : decode cX3_addFall 4 = .ok (.ifCond .eq 16, 3) := by decide +kernel
theorem dX3_addFall_7 : decode cX3_addFall 7 = .ok (.aload_n 0, 1) := by decide +kernel
theorem dX3_addFall_8 : decode cX3_addFall 8 = .ok (.iload_n 1, 1) := by decide +kernel
theorem dX3_addFall_9 : decode cX3_addFall 9 = .ok (.invokevirtual 84, 3) := by decide +kernel
theorem dX3_addFall_12 : decode cX3_addFall 12 = .ok (.ifCond .eq 8, 3) := by decide +kernel
theorem dX3_addFall_15 : decode cX3_addFall 15 = .ok (.iload_n 3, 1) := by decide +kernel
theorem dX3_addFall_16 : decode cX3_addFall 16 = .ok (.iload_n 1, 1) := by decide +kernel
theorem dX3_addFall_17 : decode cX3_addFall 17 = .ok (.if_icmp .ne 5, 3) := by decide +kernel
theorem dX3_addFall_20 : decode cX3_addFall 20 = .ok (.iconst 0, 1) := by decide +kernel
theorem dX3_addFall_21 : decode cX3_addFall 21 = .ok (.ireturn, 1) := by decide +kernel
theorem dX3_addFall_22 : decode cX3_addFall 22 = .ok (.iload_n 3, 1) := by decide +kernel
theorem dX3_addFall_23 : decode cX3_addFall 23 = .ok (.iconst (-1), 1) := by decide +kernel
theorem dX3_addFall_24 : decode cX3_addFall 24 = .ok (.if_icmp .eq 11, 3) := by decide +kernel
theorem dX3_addFall_27 : decode cX3_addFall 27 = .ok (.aload_n 0, 1) := by decide +kernel
theorem dX3_addFall_28 : decode cX3_addFall 28 = .ok (.iload_n 3, 1) := by decide +kernel
theorem dX3_addFall_29 : decode cX3_addFall 29 = .ok (.invokevirtual 84, 3) := by decide +kernel
theorem dX3_addFall_32 : decode cX3_addFall 32 = .ok (.ifCond .eq 27, 3) := by decide +kernel
theorem dX3_addFall_35 : decode cX3_addFall 35 = .ok (.aload_n 0, 1) := by decide +kernel
theorem dX3_addFall_36 : decode cX3_addFall 36 = .ok (.getfield 31, 3) := by decide +kernel
theorem dX3_addFall_39 : decode cX3_addFall 39 = .ok (.aload_n 0, 1) := by decide +kernel
theorem dX3_addFall_40 : decode cX3_addFall 40 = .ok (.getfield 42, 3) := by decide +kernel
theorem dX3_addFall_43 : decode cX3_addFall 43 = .ok (.iconst 1, 1) := by decide +kernel
theorem dX3_addFall_44 : decode cX3_addFall 44 = .ok (.isub, 1) := by decide +kernel
theorem dX3_addFall_45 : decode cX3_addFall 45 = .ok (.aaload, 1) := by decide +kernel
theorem dX3_addFall_46 : decode cX3_addFall 46 = .ok (.iload_n 1, 1) := by decide +kernel
theorem dX3_addFall_47 : decode cX3_addFall 47 = .ok (.iload_n 2, 1) := by decide +kernel
theorem dX3_addFall_48 : decode cX3_addFall 48 = .ok (.iload_n 3, 1) := by decide +kernel
theorem dX3_addFall_49 : decode cX3_addFall 49 = .ok (.invokevirtual 95, 3) := by decide +kernel
theorem dX3_addFall_52 : decode cX3_addFall 52 = .ok (.ifCond .eq 7, 3) := by decide +kernel
theorem dX3_addFall_55 : decode cX3_addFall 55 = .ok (.iconst 1, 1) := by decide +kernel
theorem dX3_addFall_56 : decode cX3_addFall 56 = .ok (.goto 4, 3) := by decide +kernel
theorem dX3_addFall_59 : decode cX3_addFall 59 = .ok (.iconst 0, 1) := by decide +kernel
theorem dX3_addFall_60 : decode cX3_addFall 60 = .ok (.ireturn, 1) := by decide +kernel
set_option maxRecDepth 20000 in
theorem ggX3_addJury_X3_isIn : GoodIn wsX3_addJury wsX3_isIn := goodIn_r _ [8, 9, 10, 11, 12, 7, 13, 14, 15, 16, 17, 24, 25, 26, 27, 28, 29, 30, 31, 32, 33] rfl (by decide +kernel)
set_option maxRecDepth 20000 in
theorem gX3_addJury_X3_isIn : GoodIn wsX3_addJury (wsV RX3 84 RX3 yX3_isIn wsX3_isIn) := goodIn_app (goodIn_of _ (by decide +kernel)) ggX3_addJury_X3_isIn
set_option maxRecDepth 20000 in
theorem ggX3_addJury_X4_addJury : GoodIn wsX3_addJury wsX4_addJury := goodIn_r _ [21, 22, 23, 15, 16, 17, 34, 35, 36, 37, 38, 39, 40, 41, 42, 43, 44, 45, 46, 47, 48, 49, 50, 51, 52, 53] rfl (by decide +kernel)
set_option maxRecDepth 20000 in
theorem gX3_addJury_X4_addJury_n98 : GoodIn wsX3_addJury (wsX4_addJury) := ggX3_addJury_X4_addJury
theorem dX3_addJury_0 : decode cX3_addJury 0 = .ok (.aload_n 0, 1) := by decide +kernel
theorem dX3_addJury_1 : decode cX3_addJury 1 = .ok (.getfield 45, 3) := by decide +kernel
theorem dX3_addJury_4 : decode cX3_addJury 4 = .ok (.ifCond .eq 30, 3) := by decide +kernel
theorem dX3_addJury_7 : decode cX3_addJury 7 = .ok (.aload_n 0, 1) := by decide +kernel
theorem dX3_addJury_8 : decode cX3_addJury 8 = .ok (.iload_n 1, 1) := by decide +kernel
theorem dX3_addJury_9 : decode cX3_addJury 9 = .ok (.invokevirtual 84, 3) := by decide +kernel
theorem dX3_addJury_12 : decode cX3_addJury 12 = .ok (.ifCond .eq 22, 3) := by decide +kernel
theorem dX3_addJury_15 : decode cX3_addJury 15 = .ok (.aload_n 0, 1) := by decide +kernel
theorem dX3_addJury_16 : decode cX3_addJury 16 = .ok (.getfield 31, 3) := by decide +kernel
theorem dX3_addJury_19 : decode cX3_addJury 19 = .ok (.aload_n 0, 1) := by decide +kernel
theorem dX3_addJury_20 : decode cX3_addJury 20 = .ok (.getfield 42, 3) := by decide +kernel
theorem dX3_addJury_23 : decode cX3_addJury 23 = .ok (.iconst 1, 1) := by decide +kernel
theorem dX3_addJury_24 : decode cX3_addJury 24 = .ok (.isub, 1) := by decide +kernel
theorem dX3_addJury_25 : decode cX3_addJury 25 = .ok (.aaload, 1) := by decide +kernel
theorem dX3_addJury_26 : decode cX3_addJury 26 = .ok (.iload_n 1, 1) := by decide +kernel
theorem dX3_addJury_27 : decode cX3_addJury 27 = .ok (.iload_n 2, 1) := by decide +kernel
theorem dX3_addJury_28 : decode cX3_addJury 28 = .ok (.invokevirtual 98, 3) := by decide +kernel
theorem dX3_addJury_31 : decode cX3_addJury 31 = .ok (.goto 4, 3) := by decide +kernel
theorem dX3_addJury_34 : decode cX3_addJury 34 = .ok (.iconst (-1), 1) := by decide +kernel
theorem dX3_addJury_35 : decode cX3_addJury 35 = .ok (.ireturn, 1) := by decide +kernel
set_option maxRecDepth 20000 in
theorem ggX3_addGrace_X3_isIn : GoodIn wsX3_addGrace wsX3_isIn := goodIn_r _ [8, 9, 10, 11, 12, 7, 13, 14, 15, 16, 17, 23, 24, 25, 26, 27, 28, 29, 30, 31, 32] rfl (by decide +kernel)
set_option maxRecDepth 20000 in
theorem gX3_addGrace_X3_isIn : GoodIn wsX3_addGrace (wsV RX3 84 RX3 yX3_isIn wsX3_isIn) := goodIn_app (goodIn_of _ (by decide +kernel)) ggX3_addGrace_X3_isIn
set_option maxRecDepth 20000 in
theorem ggX3_addGrace_X4_addGrace : GoodIn wsX3_addGrace wsX4_addGrace := goodIn_r _ [21, 22, 33, 34, 35, 36, 37, 38, 39, 40, 41, 42, 43, 44, 45, 46, 47, 48, 49, 50, 51, 52] rfl (by decide +kernel)
set_option maxRecDepth 20000 in
theorem gX3_addGrace_X4_addGrace_n101 : GoodIn wsX3_addGrace (wsX4_addGrace) := ggX3_addGrace_X4_addGrace
theorem dX3_addGrace_0 : decode cX3_addGrace 0 = .ok (.aload_n 0, 1) := by decide +kernel
theorem dX3_addGrace_1 : decode cX3_addGrace 1 = .ok (.getfield 45, 3) := by decide +kernel
theorem dX3_addGrace_4 : decode cX3_addGrace 4 = .ok (.ifCond .eq 33, 3) := by decide +kernel
theorem dX3_addGrace_7 : decode cX3_addGrace 7 = .ok (.aload_n 0, 1) := by decide +kernel
theorem dX3_addGrace_8 : decode cX3_addGrace 8 = .ok (.iload_n 1, 1) := by decide +kernel
theorem dX3_addGrace_9 : decode cX3_addGrace 9 = .ok (.invokevirtual 84, 3) := by decide +kernel
theorem dX3_addGrace_12 : decode cX3_addGrace 12 = .ok (.ifCond .eq 25, 3) := by decide +kernel
theorem dX3_addGrace_15 : decode cX3_addGrace 15 = .ok (.aload_n 0, 1) := by decide +kernel
theorem dX3_addGrace_16 : decode cX3_addGrace 16 = .ok (.getfield 31, 3) := by decide +kernel
theorem dX3_addGrace_19 : decode cX3_addGrace 19 = .ok (.aload_n 0, 1) := by decide +kernel
theorem dX3_addGrace_20 : decode cX3_addGrace 20 = .ok (.getfield 42, 3) := by decide +kernel
theorem dX3_addGrace_23 : decode cX3_addGrace 23 = .ok (.iconst 1, 1) := by decide +kernel
theorem dX3_addGrace_24 : decode cX3_addGrace 24 = .ok (.isub, 1) := by decide +kernel
theorem dX3_addGrace_25 : decode cX3_addGrace 25 = .ok (.aaload, 1) := by decide +kernel
theorem dX3_addGrace_26 : decode cX3_addGrace 26 = .ok (.iload_n 1, 1) := by decide +kernel
theorem dX3_addGrace_27 : decode cX3_addGrace 27 = .ok (.invokevirtual 101, 3) := by decide +kernel
theorem dX3_addGrace_30 : decode cX3_addGrace 30 = .ok (.ifCond .eq 7, 3) := by decide +kernel
theorem dX3_addGrace_33 : decode cX3_addGrace 33 = .ok (.iconst 1, 1) := by decide +kernel
theorem dX3_addGrace_34 : decode cX3_addGrace 34 = .ok (.goto 4, 3) := by decide +kernel
theorem dX3_addGrace_37 : decode cX3_addGrace 37 = .ok (.iconst 0, 1) := by decide +kernel
theorem dX3_addGrace_38 : decode cX3_addGrace 38 = .ok (.ireturn, 1) := by decide +kernel
set_option maxRecDepth 20000 in
theorem ggX3_dropRider_X3_isIn : GoodIn wsX3_dropRider wsX3_isIn := goodIn_r _ [9, 4, 10, 11, 12, 8, 13, 14, 15, 16, 17, 36, 37, 38, 39, 40, 41, 42, 43, 44, 45] rfl (by decide +kernel)
set_option maxRecDepth 20000 in
theorem gX3_dropRider_X3_isIn : GoodIn wsX3_dropRider (wsV RX3 84 RX3 yX3_isIn wsX3_isIn) := goodIn_app (goodIn_of _ (by decide +kernel)) ggX3_dropRider_X3_isIn
set_option maxRecDepth 20000 in
theorem ggX3_dropRider_X4_forget : GoodIn wsX3_dropRider wsX4_forget := goodIn_r _ [21, 22, 23, 24, 25, 26, 27, 28, 29, 30, 31, 32, 33, 34, 35, 46, 47, 48, 49, 50, 51, 52, 53, 54, 55, 56, 57, 58, 59, 60, 61, 62, 63, 64, 65, 66, 67, 68, 69, 70, 71, 72] rfl (by decide +kernel)
set_option maxRecDepth 20000 in
theorem gX3_dropRider_X4_forget_n104 : GoodIn wsX3_dropRider (wsX4_forget) := ggX3_dropRider_X4_forget
theorem dX3_dropRider_0 : decode cX3_dropRider 0 = .ok (.aload_n 0, 1) := by decide +kernel
theorem dX3_dropRider_1 : decode cX3_dropRider 1 = .ok (.getfield 45, 3) := by decide +kernel
theorem dX3_dropRider_4 : decode cX3_dropRider 4 = .ok (.ifCond .eq 11, 3) := by decide +kernel
theorem dX3_dropRider_7 : decode cX3_dropRider 7 = .ok (.aload_n 0, 1) := by decide +kernel
theorem dX3_dropRider_8 : decode cX3_dropRider 8 = .ok (.iload_n 1, 1) := by decide +kernel
theorem dX3_dropRider_9 : decode cX3_dropRider 9 = .ok (.invokevirtual 84, 3) := by decide +kernel
theorem dX3_dropRider_12 : decode cX3_dropRider 12 = .ok (.ifCond .ne 5, 3) := by decide +kernel
theorem dX3_dropRider_15 : decode cX3_dropRider 15 = .ok (.iconst 0, 1) := by decide +kernel
theorem dX3_dropRider_16 : decode cX3_dropRider 16 = .ok (.ireturn, 1) := by decide +kernel
theorem dX3_dropRider_17 : decode cX3_dropRider 17 = .ok (.aload_n 0, 1) := by decide +kernel
theorem dX3_dropRider_18 : decode cX3_dropRider 18 = .ok (.getfield 31, 3) := by decide +kernel
theorem dX3_dropRider_21 : decode cX3_dropRider 21 = .ok (.aload_n 0, 1) := by decide +kernel
theorem dX3_dropRider_22 : decode cX3_dropRider 22 = .ok (.getfield 42, 3) := by decide +kernel
theorem dX3_dropRider_25 : decode cX3_dropRider 25 = .ok (.iconst 1, 1) := by decide +kernel
theorem dX3_dropRider_26 : decode cX3_dropRider 26 = .ok (.isub, 1) := by decide +kernel
theorem dX3_dropRider_27 : decode cX3_dropRider 27 = .ok (.aaload, 1) := by decide +kernel
theorem dX3_dropRider_28 : decode cX3_dropRider 28 = .ok (.iload_n 1, 1) := by decide +kernel
theorem dX3_dropRider_29 : decode cX3_dropRider 29 = .ok (.invokevirtual 104, 3) := by decide +kernel
theorem dX3_dropRider_32 : decode cX3_dropRider 32 = .ok (.aload_n 0, 1) := by decide +kernel
theorem dX3_dropRider_33 : decode cX3_dropRider 33 = .ok (.getfield 25, 3) := by decide +kernel
theorem dX3_dropRider_36 : decode cX3_dropRider 36 = .ok (.iload_n 1, 1) := by decide +kernel
theorem dX3_dropRider_37 : decode cX3_dropRider 37 = .ok (.iconst 0, 1) := by decide +kernel
theorem dX3_dropRider_38 : decode cX3_dropRider 38 = .ok (.bastore, 1) := by decide +kernel
theorem dX3_dropRider_39 : decode cX3_dropRider 39 = .ok (.iconst 1, 1) := by decide +kernel
theorem dX3_dropRider_40 : decode cX3_dropRider 40 = .ok (.ireturn, 1) := by decide +kernel
set_option maxRecDepth 20000 in
theorem ggX3_setGap_X8_within : GoodIn wsX3_setGap wsX8_within := goodIn_r _ [4] rfl (by decide +kernel)
set_option maxRecDepth 20000 in
theorem gX3_setGap_X8_within_n59 : GoodIn wsX3_setGap (wsX8_within) := ggX3_setGap_X8_within
theorem dX3_setGap_0 : decode cX3_setGap 0 = .ok (.iload_n 1, 1) := by decide +kernel
theorem dX3_setGap_1 : decode cX3_setGap 1 = .ok (.iconst 1, 1) := by decide +kernel
theorem dX3_setGap_2 : decode cX3_setGap 2 = .ok (.bipush 99, 2) := by decide +kernel
theorem dX3_setGap_4 : decode cX3_setGap 4 = .ok (.invokestatic 59, 3) := by decide +kernel
theorem dX3_setGap_7 : decode cX3_setGap 7 = .ok (.ifCond .ne 5, 3) := by decide +kernel
theorem dX3_setGap_10 : decode cX3_setGap 10 = .ok (.iconst 0, 1) := by decide +kernel
theorem dX3_setGap_11 : decode cX3_setGap 11 = .ok (.ireturn, 1) := by decide +kernel
theorem dX3_setGap_12 : decode cX3_setGap 12 = .ok (.aload_n 0, 1) := by decide +kernel
theorem dX3_setGap_13 : decode cX3_setGap 13 = .ok (.iload_n 1, 1) := by decide +kernel
theorem dX3_setGap_14 : decode cX3_setGap 14 = .ok (.putfield 9, 3) := by decide +kernel
theorem dX3_setGap_17 : decode cX3_setGap 17 = .ok (.iconst 1, 1) := by decide +kernel
theorem dX3_setGap_18 : decode cX3_setGap 18 = .ok (.ireturn, 1) := by decide +kernel
set_option maxRecDepth 20000 in
theorem ggX3_setZone_X8_within : GoodIn wsX3_setZone wsX8_within := goodIn_r _ [4] rfl (by decide +kernel)
set_option maxRecDepth 20000 in
theorem gX3_setZone_X8_within_n59 : GoodIn wsX3_setZone (wsX8_within) := ggX3_setZone_X8_within
theorem dX3_setZone_0 : decode cX3_setZone 0 = .ok (.iload_n 1, 1) := by decide +kernel
theorem dX3_setZone_1 : decode cX3_setZone 1 = .ok (.iconst 0, 1) := by decide +kernel
theorem dX3_setZone_2 : decode cX3_setZone 2 = .ok (.bipush 9, 2) := by decide +kernel
theorem dX3_setZone_4 : decode cX3_setZone 4 = .ok (.invokestatic 59, 3) := by decide +kernel
theorem dX3_setZone_7 : decode cX3_setZone 7 = .ok (.ifCond .ne 5, 3) := by decide +kernel
theorem dX3_setZone_10 : decode cX3_setZone 10 = .ok (.iconst 0, 1) := by decide +kernel
theorem dX3_setZone_11 : decode cX3_setZone 11 = .ok (.ireturn, 1) := by decide +kernel
theorem dX3_setZone_12 : decode cX3_setZone 12 = .ok (.aload_n 0, 1) := by decide +kernel
theorem dX3_setZone_13 : decode cX3_setZone 13 = .ok (.iload_n 1, 1) := by decide +kernel
theorem dX3_setZone_14 : decode cX3_setZone 14 = .ok (.putfield 15, 3) := by decide +kernel
theorem dX3_setZone_17 : decode cX3_setZone 17 = .ok (.iconst 1, 1) := by decide +kernel
theorem dX3_setZone_18 : decode cX3_setZone 18 = .ok (.ireturn, 1) := by decide +kernel
set_option maxRecDepth 20000 in
theorem ggX3_closeStage_X4_rank : GoodIn wsX3_closeStage wsX4_rank := goodIn_r _ [9, 10, 11, 12, 108, 109, 110, 111, 112, 113, 114, 115, 116, 117, 118, 119, 120, 121, 122, 123, 124, 125, 126, 127] rfl (by decide +kernel)
set_option maxRecDepth 20000 in
theorem gX3_closeStage_X4_rank_n111 : GoodIn wsX3_closeStage (wsX4_rank) := ggX3_closeStage_X4_rank
set_option maxRecDepth 20000 in
theorem ggX3_closeStage_X4_split : GoodIn wsX3_closeStage wsX4_split := goodIn_r _ [15, 16, 11, 17, 18, 19, 10, 20, 21, 22, 7, 23, 24, 25, 26, 27, 28, 108, 109, 110, 111, 112, 113, 114, 115, 116, 117, 118, 119, 120, 121, 122, 123, 124, 125, 126, 127, 128, 129, 130, 131, 132, 133, 134] rfl (by decide +kernel)
set_option maxRecDepth 20000 in
theorem gX3_closeStage_X4_split_n114 : GoodIn wsX3_closeStage (wsX4_split) := ggX3_closeStage_X4_split
set_option maxRecDepth 20000 in
theorem ggX3_closeStage_X4_takeTimes : GoodIn wsX3_closeStage wsX4_takeTimes := goodIn_r _ [31, 32, 33, 17, 11, 34, 35, 36, 37, 38, 39, 40, 41, 7, 42, 19, 43, 44, 45, 46, 47, 24, 48, 49, 50, 51, 52, 10, 53, 54, 55, 108, 109, 110, 111, 112, 113, 114, 115, 116, 117, 118, 119, 120, 121, 122, 123, 124, 125, 126, 127, 128, 129, 130, 131, 132, 133, 134] rfl (by decide +kernel)
set_option maxRecDepth 20000 in
theorem gX3_closeStage_X4_takeTimes_n117 : GoodIn wsX3_closeStage (wsX4_takeTimes) := ggX3_closeStage_X4_takeTimes
set_option maxRecDepth 20000 in
theorem ggX3_closeStage_X4_judge : GoodIn wsX3_closeStage wsX4_judge := goodIn_r _ [58, 24, 33, 59, 60, 37, 61, 62, 35, 36, 38, 63, 64, 65, 66, 10, 34, 67, 17, 68, 108, 109, 110, 111, 112, 113, 114, 115, 116, 117, 118, 119, 120, 121, 122, 123, 124, 125, 126, 127, 128, 129, 130, 131, 132, 133, 134] rfl (by decide +kernel)
set_option maxRecDepth 20000 in
theorem gX3_closeStage_X4_judge_n120 : GoodIn wsX3_closeStage (wsX4_judge) := ggX3_closeStage_X4_judge
set_option maxRecDepth 20000 in
theorem ggX3_closeStage_X2_awardOrder : GoodIn wsX3_closeStage wsX2_awardOrder := goodIn_r _ [72, 73, 74, 75, 76, 77, 135, 136, 137, 108, 109, 110, 111, 112, 113, 114, 115, 116, 117, 118, 119, 120, 121, 122, 123, 124, 125, 126, 127, 128, 129, 130, 131, 132, 133, 134] rfl (by decide +kernel)
set_option maxRecDepth 20000 in
theorem gX3_closeStage_X2_awardOrder_n127 : GoodIn wsX3_closeStage (wsX2_awardOrder) := ggX3_closeStage_X2_awardOrder
set_option maxRecDepth 20000 in
theorem ggX3_closeStage_X2_awardMarks : GoodIn wsX3_closeStage wsX2_awardMarks := goodIn_r _ [80, 81, 82, 83, 70, 84, 75, 85, 86, 73, 87, 74, 108, 109, 110, 111, 112, 113, 114, 115, 116, 117, 118, 119, 120, 121, 122, 123, 124, 125, 126, 127, 128, 129, 130, 131, 132, 133, 134, 135, 136, 137] rfl (by decide +kernel)
set_option maxRecDepth 20000 in
theorem gX3_closeStage_X2_awardMarks_n132 : GoodIn wsX3_closeStage (wsX2_awardMarks) := ggX3_closeStage_X2_awardMarks
set_option maxRecDepth 20000 in
theorem ggX3_closeStage_X3_sendOut : GoodIn wsX3_closeStage wsX3_sendOut := goodIn_r _ [92, 93, 94, 95, 7, 96, 97, 10, 66, 68, 98, 99, 100, 101, 102, 103, 104, 105, 106, 107, 108, 109, 110, 111, 112, 113, 114, 115, 116, 117, 118, 119, 120, 121, 122, 123, 124, 125, 126, 127] rfl (by decide +kernel)
set_option maxRecDepth 20000 in
theorem gX3_closeStage_X3_sendOut : GoodIn wsX3_closeStage (wsV RX3 135 RX3 yX3_sendOut wsX3_sendOut) := goodIn_app (goodIn_of _ (by decide +kernel)) ggX3_closeStage_X3_sendOut
theorem dX3_closeStage_0 : decode cX3_closeStage 0 = .ok (.aload_n 0, 1) := by decide +kernel
theorem dX3_closeStage_1 : decode cX3_closeStage 1 = .ok (.getfield 45, 3) := by decide +kernel
theorem dX3_closeStage_4 : decode cX3_closeStage 4 = .ok (.ifCond .eq 20, 3) := by decide +kernel
theorem dX3_closeStage_7 : decode cX3_closeStage 7 = .ok (.aload_n 0, 1) := by decide +kernel
theorem dX3_closeStage_8 : decode cX3_closeStage 8 = .ok (.getfield 31, 3) := by decide +kernel
theorem dX3_closeStage_11 : decode cX3_closeStage 11 = .ok (.aload_n 0, 1) := by decide +kernel
theorem dX3_closeStage_12 : decode cX3_closeStage 12 = .ok (.getfield 42, 3) := by decide +kernel
theorem dX3_closeStage_15 : decode cX3_closeStage 15 = .ok (.iconst 1, 1) := by decide +kernel
theorem dX3_closeStage_16 : decode cX3_closeStage 16 = .ok (.isub, 1) := by decide +kernel
theorem dX3_closeStage_17 : decode cX3_closeStage 17 = .ok (.aaload, 1) := by decide +kernel
theorem dX3_closeStage_18 : decode cX3_closeStage 18 = .ok (.getfield 108, 3) := by decide +kernel
theorem dX3_closeStage_21 : decode cX3_closeStage 21 = .ok (.ifCond .ne 5, 3) := by decide +kernel
theorem dX3_closeStage_24 : decode cX3_closeStage 24 = .ok (.iconst (-1), 1) := by decide +kernel
theorem dX3_closeStage_25 : decode cX3_closeStage 25 = .ok (.ireturn, 1) := by decide +kernel
theorem dX3_closeStage_26 : decode cX3_closeStage 26 = .ok (.aload_n 0, 1) := by decide +kernel
theorem dX3_closeStage_27 : decode cX3_closeStage 27 = .ok (.getfield 31, 3) := by decide +kernel
theorem dX3_closeStage_30 : decode cX3_closeStage 30 = .ok (.aload_n 0, 1) := by decide +kernel
theorem dX3_closeStage_31 : decode cX3_closeStage 31 = .ok (.getfield 42, 3) := by decide +kernel
theorem dX3_closeStage_34 : decode cX3_closeStage 34 = .ok (.iconst 1, 1) := by decide +kernel
theorem dX3_closeStage_35 : decode cX3_closeStage 35 = .ok (.isub, 1) := by decide +kernel
theorem dX3_closeStage_36 : decode cX3_closeStage 36 = .ok (.aaload, 1) := by decide +kernel
theorem dX3_closeStage_37 : decode cX3_closeStage 37 = .ok (.astore_n 1, 1) := by decide +kernel
theorem dX3_closeStage_38 : decode cX3_closeStage 38 = .ok (.aload_n 1, 1) := by decide +kernel
theorem dX3_closeStage_39 : decode cX3_closeStage 39 = .ok (.invokevirtual 111, 3) := by decide +kernel
theorem dX3_closeStage_42 : decode cX3_closeStage 42 = .ok (.aload_n 1, 1) := by decide +kernel
theorem dX3_closeStage_43 : decode cX3_closeStage 43 = .ok (.aload_n 0, 1) := by decide +kernel
theorem dX3_closeStage_44 : decode cX3_closeStage 44 = .ok (.getfield 9, 3) := by decide +kernel
theorem dX3_closeStage_47 : decode cX3_closeStage 47 = .ok (.invokevirtual 114, 3) := by decide +kernel
theorem dX3_closeStage_50 : decode cX3_closeStage 50 = .ok (.aload_n 1, 1) := by decide +kernel
theorem dX3_closeStage_51 : decode cX3_closeStage 51 = .ok (.aload_n 0, 1) := by decide +kernel
theorem dX3_closeStage_52 : decode cX3_closeStage 52 = .ok (.getfield 15, 3) := by decide +kernel
theorem dX3_closeStage_55 : decode cX3_closeStage 55 = .ok (.invokevirtual 117, 3) := by decide +kernel
theorem dX3_closeStage_58 : decode cX3_closeStage 58 = .ok (.aload_n 1, 1) := by decide +kernel
theorem dX3_closeStage_59 : decode cX3_closeStage 59 = .ok (.invokevirtual 120, 3) := by decide +kernel
theorem dX3_closeStage_62 : decode cX3_closeStage 62 = .ok (.aload_n 1, 1) := by decide +kernel
theorem dX3_closeStage_63 : decode cX3_closeStage 63 = .ok (.getfield 123, 3) := by decide +kernel
theorem dX3_closeStage_66 : decode cX3_closeStage 66 = .ok (.aload_n 1, 1) := by decide +kernel
theorem dX3_closeStage_67 : decode cX3_closeStage 67 = .ok (.invokevirtual 127, 3) := by decide +kernel
theorem dX3_closeStage_70 : decode cX3_closeStage 70 = .ok (.aload_n 1, 1) := by decide +kernel
theorem dX3_closeStage_71 : decode cX3_closeStage 71 = .ok (.getfield 123, 3) := by decide +kernel
theorem dX3_closeStage_74 : decode cX3_closeStage 74 = .ok (.aload_n 1, 1) := by decide +kernel
theorem dX3_closeStage_75 : decode cX3_closeStage 75 = .ok (.invokevirtual 132, 3) := by decide +kernel
theorem dX3_closeStage_78 : decode cX3_closeStage 78 = .ok (.aload_n 0, 1) := by decide +kernel
theorem dX3_closeStage_79 : decode cX3_closeStage 79 = .ok (.iconst 0, 1) := by decide +kernel
theorem dX3_closeStage_80 : decode cX3_closeStage 80 = .ok (.putfield 45, 3) := by decide +kernel
theorem dX3_closeStage_83 : decode cX3_closeStage 83 = .ok (.aload_n 0, 1) := by decide +kernel
theorem dX3_closeStage_84 : decode cX3_closeStage 84 = .ok (.aload_n 1, 1) := by decide +kernel
theorem dX3_closeStage_85 : decode cX3_closeStage 85 = .ok (.invokevirtual 135, 3) := by decide +kernel
theorem dX3_closeStage_88 : decode cX3_closeStage 88 = .ok (.ireturn, 1) := by decide +kernel
set_option maxRecDepth 20000 in
theorem ggX3_sendOut_X4_sendsOut : GoodIn wsX3_sendOut wsX4_sendsOut := goodIn_r _ [6, 7, 8, 9, 20, 21, 22, 23, 24, 25, 26, 27, 28, 29, 30, 31, 32, 33, 34, 35, 36, 37, 38, 39] rfl (by decide +kernel)
set_option maxRecDepth 20000 in
theorem gX3_sendOut_X4_sendsOut_n139 : GoodIn wsX3_sendOut (wsX4_sendsOut) := ggX3_sendOut_X4_sendsOut
theorem dX3_sendOut_0 : decode cX3_sendOut 0 = .ok (.iconst 0, 1) := by decide +kernel
theorem dX3_sendOut_1 : decode cX3_sendOut 1 = .ok (.istore_n 2, 1) := by decide +kernel
theorem dX3_sendOut_2 : decode cX3_sendOut 2 = .ok (.iconst 0, 1) := by decide +kernel
theorem dX3_sendOut_3 : decode cX3_sendOut 3 = .ok (.istore_n 3, 1) := by decide +kernel
theorem dX3_sendOut_4 : decode cX3_sendOut 4 = .ok (.iload_n 3, 1) := by decide +kernel
theorem dX3_sendOut_5 : decode cX3_sendOut 5 = .ok (.aload_n 0, 1) := by decide +kernel
theorem dX3_sendOut_6 : decode cX3_sendOut 6 = .ok (.getfield 39, 3) := by decide +kernel
theorem dX3_sendOut_9 : decode cX3_sendOut 9 = .ok (.if_icmp .ge 36, 3) := by decide +kernel
theorem dX3_sendOut_12 : decode cX3_sendOut 12 = .ok (.aload_n 0, 1) := by decide +kernel
theorem dX3_sendOut_13 : decode cX3_sendOut 13 = .ok (.getfield 25, 3) := by decide +kernel
theorem dX3_sendOut_16 : decode cX3_sendOut 16 = .ok (.iload_n 3, 1) := by decide +kernel
theorem dX3_sendOut_17 : decode cX3_sendOut 17 = .ok (.baload, 1) := by decide +kernel
theorem dX3_sendOut_18 : decode cX3_sendOut 18 = .ok (.ifCond .eq 21, 3) := by decide +kernel
theorem dX3_sendOut_21 : decode cX3_sendOut 21 = .ok (.aload_n 1, 1) := by decide +kernel
theorem dX3_sendOut_22 : decode cX3_sendOut 22 = .ok (.iload_n 3, 1) := by decide +kernel
theorem dX3_sendOut_23 : decode cX3_sendOut 23 = .ok (.invokevirtual 139, 3) := by decide +kernel
theorem dX3_sendOut_26 : decode cX3_sendOut 26 = .ok (.ifCond .eq 13, 3) := by decide +kernel
theorem dX3_sendOut_29 : decode cX3_sendOut 29 = .ok (.aload_n 0, 1) := by decide +kernel
theorem dX3_sendOut_30 : decode cX3_sendOut 30 = .ok (.getfield 25, 3) := by decide +kernel
theorem dX3_sendOut_33 : decode cX3_sendOut 33 = .ok (.iload_n 3, 1) := by decide +kernel
theorem dX3_sendOut_34 : decode cX3_sendOut 34 = .ok (.iconst 0, 1) := by decide +kernel
theorem dX3_sendOut_35 : decode cX3_sendOut 35 = .ok (.bastore, 1) := by decide +kernel
theorem dX3_sendOut_36 : decode cX3_sendOut 36 = .ok (.iinc 2 1, 3) := by decide +kernel
theorem dX3_sendOut_39 : decode cX3_sendOut 39 = .ok (.iinc 3 1, 3) := by decide +kernel
theorem dX3_sendOut_42 : decode cX3_sendOut 42 = .ok (.goto (-38), 3) := by decide +kernel
theorem dX3_sendOut_45 : decode cX3_sendOut 45 = .ok (.iload_n 2, 1) := by decide +kernel
theorem dX3_sendOut_46 : decode cX3_sendOut 46 = .ok (.ireturn, 1) := by decide +kernel
set_option maxRecDepth 20000 in
theorem ggX3_hasRider_X8_within : GoodIn wsX3_hasRider wsX8_within := goodIn_r _ [4] rfl (by decide +kernel)
set_option maxRecDepth 20000 in
theorem gX3_hasRider_X8_within_n59 : GoodIn wsX3_hasRider (wsX8_within) := ggX3_hasRider_X8_within
theorem dX3_hasRider_0 : decode cX3_hasRider 0 = .ok (.iload_n 1, 1) := by decide +kernel
theorem dX3_hasRider_1 : decode cX3_hasRider 1 = .ok (.iconst 0, 1) := by decide +kernel
theorem dX3_hasRider_2 : decode cX3_hasRider 2 = .ok (.aload_n 0, 1) := by decide +kernel
theorem dX3_hasRider_3 : decode cX3_hasRider 3 = .ok (.getfield 39, 3) := by decide +kernel
theorem dX3_hasRider_6 : decode cX3_hasRider 6 = .ok (.iconst 1, 1) := by decide +kernel
theorem dX3_hasRider_7 : decode cX3_hasRider 7 = .ok (.isub, 1) := by decide +kernel
theorem dX3_hasRider_8 : decode cX3_hasRider 8 = .ok (.invokestatic 59, 3) := by decide +kernel
theorem dX3_hasRider_11 : decode cX3_hasRider 11 = .ok (.ireturn, 1) := by decide +kernel
set_option maxRecDepth 20000 in
theorem ggX3_isIn_X3_hasRider : GoodIn wsX3_isIn wsX3_hasRider := goodIn_r _ [6, 7, 8, 9, 10, 11, 12, 13, 14, 15, 16, 17, 18, 19, 20] rfl (by decide +kernel)
set_option maxRecDepth 20000 in
theorem gX3_isIn_X3_hasRider : GoodIn wsX3_isIn (wsV RX3 142 RX3 yX3_hasRider wsX3_hasRider) := goodIn_app (goodIn_of _ (by decide +kernel)) ggX3_isIn_X3_hasRider
theorem dX3_isIn_0 : decode cX3_isIn 0 = .ok (.aload_n 0, 1) := by decide +kernel
theorem dX3_isIn_1 : decode cX3_isIn 1 = .ok (.iload_n 1, 1) := by decide +kernel
theorem dX3_isIn_2 : decode cX3_isIn 2 = .ok (.invokevirtual 142, 3) := by decide +kernel
theorem dX3_isIn_5 : decode cX3_isIn 5 = .ok (.ifCond .eq 16, 3) := by decide +kernel
theorem dX3_isIn_8 : decode cX3_isIn 8 = .ok (.aload_n 0, 1) := by decide +kernel
theorem dX3_isIn_9 : decode cX3_isIn 9 = .ok (.getfield 25, 3) := by decide +kernel
theorem dX3_isIn_12 : decode cX3_isIn 12 = .ok (.iload_n 1, 1) := by decide +kernel
theorem dX3_isIn_13 : decode cX3_isIn 13 = .ok (.baload, 1) := by decide +kernel
theorem dX3_isIn_14 : decode cX3_isIn 14 = .ok (.ifCond .eq 7, 3) := by decide +kernel
theorem dX3_isIn_17 : decode cX3_isIn 17 = .ok (.iconst 1, 1) := by decide +kernel
theorem dX3_isIn_18 : decode cX3_isIn 18 = .ok (.goto 4, 3) := by decide +kernel
theorem dX3_isIn_21 : decode cX3_isIn 21 = .ok (.iconst 0, 1) := by decide +kernel
theorem dX3_isIn_22 : decode cX3_isIn 22 = .ok (.ireturn, 1) := by decide +kernel
theorem dX3_countIn_0 : decode cX3_countIn 0 = .ok (.iconst 0, 1) := by decide +kernel
theorem dX3_countIn_1 : decode cX3_countIn 1 = .ok (.istore_n 1, 1) := by decide +kernel
theorem dX3_countIn_2 : decode cX3_countIn 2 = .ok (.iconst 0, 1) := by decide +kernel
theorem dX3_countIn_3 : decode cX3_countIn 3 = .ok (.istore_n 2, 1) := by decide +kernel
theorem dX3_countIn_4 : decode cX3_countIn 4 = .ok (.iload_n 2, 1) := by decide +kernel
theorem dX3_countIn_5 : decode cX3_countIn 5 = .ok (.aload_n 0, 1) := by decide +kernel
theorem dX3_countIn_6 : decode cX3_countIn 6 = .ok (.getfield 39, 3) := by decide +kernel
theorem dX3_countIn_9 : decode cX3_countIn 9 = .ok (.if_icmp .ge 21, 3) := by decide +kernel
theorem dX3_countIn_12 : decode cX3_countIn 12 = .ok (.aload_n 0, 1) := by decide +kernel
theorem dX3_countIn_13 : decode cX3_countIn 13 = .ok (.getfield 25, 3) := by decide +kernel
theorem dX3_countIn_16 : decode cX3_countIn 16 = .ok (.iload_n 2, 1) := by decide +kernel
theorem dX3_countIn_17 : decode cX3_countIn 17 = .ok (.baload, 1) := by decide +kernel
theorem dX3_countIn_18 : decode cX3_countIn 18 = .ok (.ifCond .eq 6, 3) := by decide +kernel
theorem dX3_countIn_21 : decode cX3_countIn 21 = .ok (.iinc 1 1, 3) := by decide +kernel
theorem dX3_countIn_24 : decode cX3_countIn 24 = .ok (.iinc 2 1, 3) := by decide +kernel
theorem dX3_countIn_27 : decode cX3_countIn 27 = .ok (.goto (-23), 3) := by decide +kernel
theorem dX3_countIn_30 : decode cX3_countIn 30 = .ok (.iload_n 1, 1) := by decide +kernel
theorem dX3_countIn_31 : decode cX3_countIn 31 = .ok (.ireturn, 1) := by decide +kernel
theorem dX3_closed_0 : decode cX3_closed 0 = .ok (.aload_n 0, 1) := by decide +kernel
theorem dX3_closed_1 : decode cX3_closed 1 = .ok (.getfield 45, 3) := by decide +kernel
theorem dX3_closed_4 : decode cX3_closed 4 = .ok (.ifCond .eq 12, 3) := by decide +kernel
theorem dX3_closed_7 : decode cX3_closed 7 = .ok (.aload_n 0, 1) := by decide +kernel
theorem dX3_closed_8 : decode cX3_closed 8 = .ok (.getfield 42, 3) := by decide +kernel
theorem dX3_closed_11 : decode cX3_closed 11 = .ok (.iconst 1, 1) := by decide +kernel
theorem dX3_closed_12 : decode cX3_closed 12 = .ok (.isub, 1) := by decide +kernel
theorem dX3_closed_13 : decode cX3_closed 13 = .ok (.goto 7, 3) := by decide +kernel
theorem dX3_closed_16 : decode cX3_closed 16 = .ok (.aload_n 0, 1) := by decide +kernel
theorem dX3_closed_17 : decode cX3_closed 17 = .ok (.getfield 42, 3) := by decide +kernel
theorem dX3_closed_20 : decode cX3_closed 20 = .ok (.ireturn, 1) := by decide +kernel
set_option maxRecDepth 20000 in
theorem ggX3_closedStage_X3_closed : GoodIn wsX3_closedStage wsX3_closed := goodIn_r _ [6, 7, 8, 12, 13, 14, 15, 16, 17, 18, 19, 20, 21] rfl (by decide +kernel)
set_option maxRecDepth 20000 in
theorem gX3_closedStage_X3_closed : GoodIn wsX3_closedStage (wsV RX3 145 RX3 yX3_closed wsX3_closed) := goodIn_app (goodIn_of _ (by decide +kernel)) ggX3_closedStage_X3_closed
set_option maxRecDepth 20000 in
theorem ggX3_closedStage_X8_within : GoodIn wsX3_closedStage wsX8_within := goodIn_r _ [11] rfl (by decide +kernel)
set_option maxRecDepth 20000 in
theorem gX3_closedStage_X8_within_n59 : GoodIn wsX3_closedStage (wsX8_within) := ggX3_closedStage_X8_within
theorem dX3_closedStage_0 : decode cX3_closedStage 0 = .ok (.iload_n 1, 1) := by decide +kernel
theorem dX3_closedStage_1 : decode cX3_closedStage 1 = .ok (.iconst 0, 1) := by decide +kernel
theorem dX3_closedStage_2 : decode cX3_closedStage 2 = .ok (.aload_n 0, 1) := by decide +kernel
theorem dX3_closedStage_3 : decode cX3_closedStage 3 = .ok (.invokevirtual 145, 3) := by decide +kernel
theorem dX3_closedStage_6 : decode cX3_closedStage 6 = .ok (.iconst 1, 1) := by decide +kernel
theorem dX3_closedStage_7 : decode cX3_closedStage 7 = .ok (.isub, 1) := by decide +kernel
theorem dX3_closedStage_8 : decode cX3_closedStage 8 = .ok (.invokestatic 59, 3) := by decide +kernel
theorem dX3_closedStage_11 : decode cX3_closedStage 11 = .ok (.ifCond .eq 12, 3) := by decide +kernel
theorem dX3_closedStage_14 : decode cX3_closedStage 14 = .ok (.aload_n 0, 1) := by decide +kernel
theorem dX3_closedStage_15 : decode cX3_closedStage 15 = .ok (.getfield 31, 3) := by decide +kernel
theorem dX3_closedStage_18 : decode cX3_closedStage 18 = .ok (.iload_n 1, 1) := by decide +kernel
theorem dX3_closedStage_19 : decode cX3_closedStage 19 = .ok (.aaload, 1) := by decide +kernel
theorem dX3_closedStage_20 : decode cX3_closedStage 20 = .ok (.goto 4, 3) := by decide +kernel
theorem dX3_closedStage_23 : decode cX3_closedStage 23 = .ok (.aconst_null, 1) := by decide +kernel
theorem dX3_closedStage_24 : decode cX3_closedStage 24 = .ok (.areturn, 1) := by decide +kernel
theorem dX3_latestMarks_0 : decode cX3_latestMarks 0 = .ok (.aload_n 0, 1) := by decide +kernel
theorem dX3_latestMarks_1 : decode cX3_latestMarks 1 = .ok (.getfield 42, 3) := by decide +kernel
theorem dX3_latestMarks_4 : decode cX3_latestMarks 4 = .ok (.ifCond .ne 7, 3) := by decide +kernel
theorem dX3_latestMarks_7 : decode cX3_latestMarks 7 = .ok (.iconst 0, 1) := by decide +kernel
theorem dX3_latestMarks_8 : decode cX3_latestMarks 8 = .ok (.goto 20, 3) := by decide +kernel
theorem dX3_latestMarks_11 : decode cX3_latestMarks 11 = .ok (.aload_n 0, 1) := by decide +kernel
theorem dX3_latestMarks_12 : decode cX3_latestMarks 12 = .ok (.getfield 31, 3) := by decide +kernel
theorem dX3_latestMarks_15 : decode cX3_latestMarks 15 = .ok (.aload_n 0, 1) := by decide +kernel
theorem dX3_latestMarks_16 : decode cX3_latestMarks 16 = .ok (.getfield 42, 3) := by decide +kernel
theorem dX3_latestMarks_19 : decode cX3_latestMarks 19 = .ok (.iconst 1, 1) := by decide +kernel
theorem dX3_latestMarks_20 : decode cX3_latestMarks 20 = .ok (.isub, 1) := by decide +kernel
theorem dX3_latestMarks_21 : decode cX3_latestMarks 21 = .ok (.aaload, 1) := by decide +kernel
theorem dX3_latestMarks_22 : decode cX3_latestMarks 22 = .ok (.getfield 74, 3) := by decide +kernel
theorem dX3_latestMarks_25 : decode cX3_latestMarks 25 = .ok (.getfield 148, 3) := by decide +kernel
theorem dX3_latestMarks_28 : decode cX3_latestMarks 28 = .ok (.ireturn, 1) := by decide +kernel
theorem dX3_latestFinishers_0 : decode cX3_latestFinishers 0 = .ok (.aload_n 0, 1) := by decide +kernel
theorem dX3_latestFinishers_1 : decode cX3_latestFinishers 1 = .ok (.getfield 42, 3) := by decide +kernel
theorem dX3_latestFinishers_4 : decode cX3_latestFinishers 4 = .ok (.ifCond .ne 7, 3) := by decide +kernel
theorem dX3_latestFinishers_7 : decode cX3_latestFinishers 7 = .ok (.iconst 0, 1) := by decide +kernel
theorem dX3_latestFinishers_8 : decode cX3_latestFinishers 8 = .ok (.goto 17, 3) := by decide +kernel
theorem dX3_latestFinishers_11 : decode cX3_latestFinishers 11 = .ok (.aload_n 0, 1) := by decide +kernel
theorem dX3_latestFinishers_12 : decode cX3_latestFinishers 12 = .ok (.getfield 31, 3) := by decide +kernel
theorem dX3_latestFinishers_15 : decode cX3_latestFinishers 15 = .ok (.aload_n 0, 1) := by decide +kernel
theorem dX3_latestFinishers_16 : decode cX3_latestFinishers 16 = .ok (.getfield 42, 3) := by decide +kernel
theorem dX3_latestFinishers_19 : decode cX3_latestFinishers 19 = .ok (.iconst 1, 1) := by decide +kernel
theorem dX3_latestFinishers_20 : decode cX3_latestFinishers 20 = .ok (.isub, 1) := by decide +kernel
theorem dX3_latestFinishers_21 : decode cX3_latestFinishers 21 = .ok (.aaload, 1) := by decide +kernel
theorem dX3_latestFinishers_22 : decode cX3_latestFinishers 22 = .ok (.getfield 108, 3) := by decide +kernel
theorem dX3_latestFinishers_25 : decode cX3_latestFinishers 25 = .ok (.ireturn, 1) := by decide +kernel
theorem dX3_latestLength_0 : decode cX3_latestLength 0 = .ok (.aload_n 0, 1) := by decide +kernel
theorem dX3_latestLength_1 : decode cX3_latestLength 1 = .ok (.getfield 42, 3) := by decide +kernel
theorem dX3_latestLength_4 : decode cX3_latestLength 4 = .ok (.ifCond .ne 7, 3) := by decide +kernel
theorem dX3_latestLength_7 : decode cX3_latestLength 7 = .ok (.iconst 0, 1) := by decide +kernel
theorem dX3_latestLength_8 : decode cX3_latestLength 8 = .ok (.goto 20, 3) := by decide +kernel
theorem dX3_latestLength_11 : decode cX3_latestLength 11 = .ok (.aload_n 0, 1) := by decide +kernel
theorem dX3_latestLength_12 : decode cX3_latestLength 12 = .ok (.getfield 31, 3) := by decide +kernel
theorem dX3_latestLength_15 : decode cX3_latestLength 15 = .ok (.aload_n 0, 1) := by decide +kernel
theorem dX3_latestLength_16 : decode cX3_latestLength 16 = .ok (.getfield 42, 3) := by decide +kernel
theorem dX3_latestLength_19 : decode cX3_latestLength 19 = .ok (.iconst 1, 1) := by decide +kernel
theorem dX3_latestLength_20 : decode cX3_latestLength 20 = .ok (.isub, 1) := by decide +kernel
theorem dX3_latestLength_21 : decode cX3_latestLength 21 = .ok (.aaload, 1) := by decide +kernel
theorem dX3_latestLength_22 : decode cX3_latestLength 22 = .ok (.getfield 74, 3) := by decide +kernel
theorem dX3_latestLength_25 : decode cX3_latestLength 25 = .ok (.getfield 151, 3) := by decide +kernel
theorem dX3_latestLength_28 : decode cX3_latestLength 28 = .ok (.ireturn, 1) := by decide +kernel
set_option maxRecDepth 20000 in
theorem ggX3_gained_X3_closed : GoodIn wsX3_gained wsX3_closed := goodIn_r _ [6, 7, 8, 15, 16, 17, 18, 19, 20, 21, 22, 23, 24] rfl (by decide +kernel)
set_option maxRecDepth 20000 in
theorem gX3_gained_X3_closed : GoodIn wsX3_gained (wsV RX3 145 RX3 yX3_closed wsX3_closed) := goodIn_app (goodIn_of _ (by decide +kernel)) ggX3_gained_X3_closed
set_option maxRecDepth 20000 in
theorem ggX3_gained_X4_gainedBy : GoodIn wsX3_gained wsX4_gainedBy := goodIn_r _ [12, 13, 14, 25, 26, 27, 28, 29, 30, 31, 32, 33, 34, 35, 36, 37, 38, 39, 40, 41, 42, 43, 44, 45, 46, 47] rfl (by decide +kernel)
set_option maxRecDepth 20000 in
theorem gX3_gained_X4_gainedBy_n154 : GoodIn wsX3_gained (wsX4_gainedBy) := ggX3_gained_X4_gainedBy
theorem dX3_gained_0 : decode cX3_gained 0 = .ok (.iconst 0, 1) := by decide +kernel
theorem dX3_gained_1 : decode cX3_gained 1 = .ok (.istore_n 3, 1) := by decide +kernel
theorem dX3_gained_2 : decode cX3_gained 2 = .ok (.iconst 0, 1) := by decide +kernel
theorem dX3_gained_3 : decode cX3_gained 3 = .ok (.istore 4, 2) := by decide +kernel
theorem dX3_gained_5 : decode cX3_gained 5 = .ok (.iload 4, 2) := by decide +kernel
theorem dX3_gained_7 : decode cX3_gained 7 = .ok (.aload_n 0, 1) := by decide +kernel
theorem dX3_gained_8 : decode cX3_gained 8 = .ok (.invokevirtual 145, 3) := by decide +kernel
theorem dX3_gained_11 : decode cX3_gained 11 = .ok (.if_icmp .ge 24, 3) := by decide +kernel
theorem dX3_gained_14 : decode cX3_gained 14 = .ok (.iload_n 3, 1) := by decide +kernel
theorem dX3_gained_15 : decode cX3_gained 15 = .ok (.aload_n 0, 1) := by decide +kernel
theorem dX3_gained_16 : decode cX3_gained 16 = .ok (.getfield 31, 3) := by decide +kernel
theorem dX3_gained_19 : decode cX3_gained 19 = .ok (.iload 4, 2) := by decide +kernel
theorem dX3_gained_21 : decode cX3_gained 21 = .ok (.aaload, 1) := by decide +kernel
theorem dX3_gained_22 : decode cX3_gained 22 = .ok (.iload_n 1, 1) := by decide +kernel
theorem dX3_gained_23 : decode cX3_gained 23 = .ok (.iload_n 2, 1) := by decide +kernel
theorem dX3_gained_24 : decode cX3_gained 24 = .ok (.invokevirtual 154, 3) := by decide +kernel
theorem dX3_gained_27 : decode cX3_gained 27 = .ok (.iadd, 1) := by decide +kernel
theorem dX3_gained_28 : decode cX3_gained 28 = .ok (.istore_n 3, 1) := by decide +kernel
theorem dX3_gained_29 : decode cX3_gained 29 = .ok (.iinc 4 1, 3) := by decide +kernel
theorem dX3_gained_32 : decode cX3_gained 32 = .ok (.goto (-27), 3) := by decide +kernel
theorem dX3_gained_35 : decode cX3_gained 35 = .ok (.iload_n 3, 1) := by decide +kernel
theorem dX3_gained_36 : decode cX3_gained 36 = .ok (.ireturn, 1) := by decide +kernel
set_option maxRecDepth 20000 in
theorem ggX3_sumOf_X3_closed : GoodIn wsX3_sumOf wsX3_closed := goodIn_r _ [6, 7, 8, 18, 19, 20, 21, 22, 23, 24, 25, 26, 27] rfl (by decide +kernel)
set_option maxRecDepth 20000 in
theorem gX3_sumOf_X3_closed : GoodIn wsX3_sumOf (wsV RX3 145 RX3 yX3_closed wsX3_closed) := goodIn_app (goodIn_of _ (by decide +kernel)) ggX3_sumOf_X3_closed
set_option maxRecDepth 20000 in
theorem ggX3_sumOf_X4_netTime : GoodIn wsX3_sumOf wsX4_netTime := goodIn_r _ [12, 13, 14, 15, 16, 17, 28, 29, 30, 31, 32, 33, 34, 35, 36, 37, 38, 39, 40, 41, 42, 43, 44, 45, 46, 47, 48, 49, 50] rfl (by decide +kernel)
set_option maxRecDepth 20000 in
theorem gX3_sumOf_X4_netTime_n157 : GoodIn wsX3_sumOf (wsX4_netTime) := ggX3_sumOf_X4_netTime
theorem dX3_sumOf_0 : decode cX3_sumOf 0 = .ok (.iconst 0, 1) := by decide +kernel
theorem dX3_sumOf_1 : decode cX3_sumOf 1 = .ok (.istore_n 3, 1) := by decide +kernel
theorem dX3_sumOf_2 : decode cX3_sumOf 2 = .ok (.iconst 0, 1) := by decide +kernel
theorem dX3_sumOf_3 : decode cX3_sumOf 3 = .ok (.istore 4, 2) := by decide +kernel
theorem dX3_sumOf_5 : decode cX3_sumOf 5 = .ok (.iload 4, 2) := by decide +kernel
theorem dX3_sumOf_7 : decode cX3_sumOf 7 = .ok (.aload_n 0, 1) := by decide +kernel
theorem dX3_sumOf_8 : decode cX3_sumOf 8 = .ok (.invokevirtual 145, 3) := by decide +kernel
theorem dX3_sumOf_11 : decode cX3_sumOf 11 = .ok (.if_icmp .ge 29, 3) := by decide +kernel
theorem dX3_sumOf_14 : decode cX3_sumOf 14 = .ok (.iload 4, 2) := by decide +kernel
theorem dX3_sumOf_16 : decode cX3_sumOf 16 = .ok (.iload_n 2, 1) := by decide +kernel
theorem dX3_sumOf_17 : decode cX3_sumOf 17 = .ok (.if_icmp .eq 17, 3) := by decide +kernel
theorem dX3_sumOf_20 : decode cX3_sumOf 20 = .ok (.iload_n 3, 1) := by decide +kernel
theorem dX3_sumOf_21 : decode cX3_sumOf 21 = .ok (.aload_n 0, 1) := by decide +kernel
theorem dX3_sumOf_22 : decode cX3_sumOf 22 = .ok (.getfield 31, 3) := by decide +kernel
theorem dX3_sumOf_25 : decode cX3_sumOf 25 = .ok (.iload 4, 2) := by decide +kernel
theorem dX3_sumOf_27 : decode cX3_sumOf 27 = .ok (.aaload, 1) := by decide +kernel
theorem dX3_sumOf_28 : decode cX3_sumOf 28 = .ok (.iload_n 1, 1) := by decide +kernel
theorem dX3_sumOf_29 : decode cX3_sumOf 29 = .ok (.invokevirtual 157, 3) := by decide +kernel
theorem dX3_sumOf_32 : decode cX3_sumOf 32 = .ok (.iadd, 1) := by decide +kernel
theorem dX3_sumOf_33 : decode cX3_sumOf 33 = .ok (.istore_n 3, 1) := by decide +kernel
theorem dX3_sumOf_34 : decode cX3_sumOf 34 = .ok (.iinc 4 1, 3) := by decide +kernel
theorem dX3_sumOf_37 : decode cX3_sumOf 37 = .ok (.goto (-32), 3) := by decide +kernel
theorem dX3_sumOf_40 : decode cX3_sumOf 40 = .ok (.iload_n 3, 1) := by decide +kernel
theorem dX3_sumOf_41 : decode cX3_sumOf 41 = .ok (.ireturn, 1) := by decide +kernel
set_option maxRecDepth 20000 in
theorem ggX3_placesOf_X3_closed : GoodIn wsX3_placesOf wsX3_closed := goodIn_r _ [6, 7, 8, 15, 16, 17, 18, 19, 20, 21, 22, 23, 24] rfl (by decide +kernel)
set_option maxRecDepth 20000 in
theorem gX3_placesOf_X3_closed : GoodIn wsX3_placesOf (wsV RX3 145 RX3 yX3_closed wsX3_closed) := goodIn_app (goodIn_of _ (by decide +kernel)) ggX3_placesOf_X3_closed
set_option maxRecDepth 20000 in
theorem ggX3_placesOf_X4_placeOf : GoodIn wsX3_placesOf wsX4_placeOf := goodIn_r _ [12, 13, 14, 25, 26, 27, 28, 29, 30, 31, 32, 33, 34, 35, 36, 37, 38, 39, 40, 41, 42, 43, 44] rfl (by decide +kernel)
set_option maxRecDepth 20000 in
theorem gX3_placesOf_X4_placeOf_n161 : GoodIn wsX3_placesOf (wsX4_placeOf) := ggX3_placesOf_X4_placeOf
theorem dX3_placesOf_0 : decode cX3_placesOf 0 = .ok (.iconst 0, 1) := by decide +kernel
theorem dX3_placesOf_1 : decode cX3_placesOf 1 = .ok (.istore_n 3, 1) := by decide +kernel
theorem dX3_placesOf_2 : decode cX3_placesOf 2 = .ok (.iconst 0, 1) := by decide +kernel
theorem dX3_placesOf_3 : decode cX3_placesOf 3 = .ok (.istore 4, 2) := by decide +kernel
theorem dX3_placesOf_5 : decode cX3_placesOf 5 = .ok (.iload 4, 2) := by decide +kernel
theorem dX3_placesOf_7 : decode cX3_placesOf 7 = .ok (.aload_n 0, 1) := by decide +kernel
theorem dX3_placesOf_8 : decode cX3_placesOf 8 = .ok (.invokevirtual 145, 3) := by decide +kernel
theorem dX3_placesOf_11 : decode cX3_placesOf 11 = .ok (.if_icmp .ge 29, 3) := by decide +kernel
theorem dX3_placesOf_14 : decode cX3_placesOf 14 = .ok (.iload 4, 2) := by decide +kernel
theorem dX3_placesOf_16 : decode cX3_placesOf 16 = .ok (.iload_n 2, 1) := by decide +kernel
theorem dX3_placesOf_17 : decode cX3_placesOf 17 = .ok (.if_icmp .eq 17, 3) := by decide +kernel
theorem dX3_placesOf_20 : decode cX3_placesOf 20 = .ok (.iload_n 3, 1) := by decide +kernel
theorem dX3_placesOf_21 : decode cX3_placesOf 21 = .ok (.aload_n 0, 1) := by decide +kernel
theorem dX3_placesOf_22 : decode cX3_placesOf 22 = .ok (.getfield 31, 3) := by decide +kernel
theorem dX3_placesOf_25 : decode cX3_placesOf 25 = .ok (.iload 4, 2) := by decide +kernel
theorem dX3_placesOf_27 : decode cX3_placesOf 27 = .ok (.aaload, 1) := by decide +kernel
theorem dX3_placesOf_28 : decode cX3_placesOf 28 = .ok (.iload_n 1, 1) := by decide +kernel
theorem dX3_placesOf_29 : decode cX3_placesOf 29 = .ok (.invokevirtual 161, 3) := by decide +kernel
theorem dX3_placesOf_32 : decode cX3_placesOf 32 = .ok (.iadd, 1) := by decide +kernel
theorem dX3_placesOf_33 : decode cX3_placesOf 33 = .ok (.istore_n 3, 1) := by decide +kernel
theorem dX3_placesOf_34 : decode cX3_placesOf 34 = .ok (.iinc 4 1, 3) := by decide +kernel
theorem dX3_placesOf_37 : decode cX3_placesOf 37 = .ok (.goto (-32), 3) := by decide +kernel
theorem dX3_placesOf_40 : decode cX3_placesOf 40 = .ok (.iload_n 3, 1) := by decide +kernel
theorem dX3_placesOf_41 : decode cX3_placesOf 41 = .ok (.ireturn, 1) := by decide +kernel
set_option maxRecDepth 20000 in
theorem ggX3_isRanked_X3_closed : GoodIn wsX3_isRanked wsX3_closed := goodIn_r _ [9, 10, 11, 15, 16, 17, 18, 19, 20, 21, 22, 23, 24] rfl (by decide +kernel)
set_option maxRecDepth 20000 in
theorem gX3_isRanked_X3_closed : GoodIn wsX3_isRanked (wsV RX3 145 RX3 yX3_closed wsX3_closed) := goodIn_app (goodIn_of _ (by decide +kernel)) ggX3_isRanked_X3_closed
set_option maxRecDepth 20000 in
theorem ggX3_isRanked_X8_within : GoodIn wsX3_isRanked wsX8_within := goodIn_r _ [14] rfl (by decide +kernel)
set_option maxRecDepth 20000 in
theorem gX3_isRanked_X8_within_n59 : GoodIn wsX3_isRanked (wsX8_within) := ggX3_isRanked_X8_within
theorem dX3_isRanked_0 : decode cX3_isRanked 0 = .ok (.aload_n 0, 1) := by decide +kernel
theorem dX3_isRanked_1 : decode cX3_isRanked 1 = .ok (.invokevirtual 145, 3) := by decide +kernel
theorem dX3_isRanked_4 : decode cX3_isRanked 4 = .ok (.ifCond .eq 17, 3) := by decide +kernel
theorem dX3_isRanked_7 : decode cX3_isRanked 7 = .ok (.iload_n 1, 1) := by decide +kernel
theorem dX3_isRanked_8 : decode cX3_isRanked 8 = .ok (.iconst 0, 1) := by decide +kernel
theorem dX3_isRanked_9 : decode cX3_isRanked 9 = .ok (.aload_n 0, 1) := by decide +kernel
theorem dX3_isRanked_10 : decode cX3_isRanked 10 = .ok (.getfield 36, 3) := by decide +kernel
theorem dX3_isRanked_13 : decode cX3_isRanked 13 = .ok (.iconst 1, 1) := by decide +kernel
theorem dX3_isRanked_14 : decode cX3_isRanked 14 = .ok (.isub, 1) := by decide +kernel
theorem dX3_isRanked_15 : decode cX3_isRanked 15 = .ok (.invokestatic 59, 3) := by decide +kernel
theorem dX3_isRanked_18 : decode cX3_isRanked 18 = .ok (.ifCond .ne 5, 3) := by decide +kernel
theorem dX3_isRanked_21 : decode cX3_isRanked 21 = .ok (.iconst 0, 1) := by decide +kernel
theorem dX3_isRanked_22 : decode cX3_isRanked 22 = .ok (.ireturn, 1) := by decide +kernel
theorem dX3_isRanked_23 : decode cX3_isRanked 23 = .ok (.iconst 0, 1) := by decide +kernel
theorem dX3_isRanked_24 : decode cX3_isRanked 24 = .ok (.istore_n 2, 1) := by decide +kernel
theorem dX3_isRanked_25 : decode cX3_isRanked 25 = .ok (.iconst 0, 1) := by decide +kernel
theorem dX3_isRanked_26 : decode cX3_isRanked 26 = .ok (.istore_n 3, 1) := by decide +kernel
theorem dX3_isRanked_27 : decode cX3_isRanked 27 = .ok (.iload_n 3, 1) := by decide +kernel
theorem dX3_isRanked_28 : decode cX3_isRanked 28 = .ok (.aload_n 0, 1) := by decide +kernel
theorem dX3_isRanked_29 : decode cX3_isRanked 29 = .ok (.getfield 39, 3) := by decide +kernel
theorem dX3_isRanked_32 : decode cX3_isRanked 32 = .ok (.if_icmp .ge 31, 3) := by decide +kernel
theorem dX3_isRanked_35 : decode cX3_isRanked 35 = .ok (.aload_n 0, 1) := by decide +kernel
theorem dX3_isRanked_36 : decode cX3_isRanked 36 = .ok (.getfield 25, 3) := by decide +kernel
theorem dX3_isRanked_39 : decode cX3_isRanked 39 = .ok (.iload_n 3, 1) := by decide +kernel
theorem dX3_isRanked_40 : decode cX3_isRanked 40 = .ok (.baload, 1) := by decide +kernel
theorem dX3_isRanked_41 : decode cX3_isRanked 41 = .ok (.ifCond .eq 16, 3) := by decide +kernel
theorem dX3_isRanked_44 : decode cX3_isRanked 44 = .ok (.aload_n 0, 1) := by decide +kernel
theorem dX3_isRanked_45 : decode cX3_isRanked 45 = .ok (.getfield 18, 3) := by decide +kernel
theorem dX3_isRanked_48 : decode cX3_isRanked 48 = .ok (.iload_n 3, 1) := by decide +kernel
theorem dX3_isRanked_49 : decode cX3_isRanked 49 = .ok (.iaload, 1) := by decide +kernel
theorem dX3_isRanked_50 : decode cX3_isRanked 50 = .ok (.iload_n 1, 1) := by decide +kernel
theorem dX3_isRanked_51 : decode cX3_isRanked 51 = .ok (.if_icmp .ne 6, 3) := by decide +kernel
theorem dX3_isRanked_54 : decode cX3_isRanked 54 = .ok (.iinc 2 1, 3) := by decide +kernel
theorem dX3_isRanked_57 : decode cX3_isRanked 57 = .ok (.iinc 3 1, 3) := by decide +kernel
theorem dX3_isRanked_60 : decode cX3_isRanked 60 = .ok (.goto (-33), 3) := by decide +kernel
theorem dX3_isRanked_63 : decode cX3_isRanked 63 = .ok (.iload_n 2, 1) := by decide +kernel
theorem dX3_isRanked_64 : decode cX3_isRanked 64 = .ok (.iconst 3, 1) := by decide +kernel
theorem dX3_isRanked_65 : decode cX3_isRanked 65 = .ok (.if_icmp .lt 7, 3) := by decide +kernel
theorem dX3_isRanked_68 : decode cX3_isRanked 68 = .ok (.iconst 1, 1) := by decide +kernel
theorem dX3_isRanked_69 : decode cX3_isRanked 69 = .ok (.goto 4, 3) := by decide +kernel
theorem dX3_isRanked_72 : decode cX3_isRanked 72 = .ok (.iconst 0, 1) := by decide +kernel
theorem dX3_isRanked_73 : decode cX3_isRanked 73 = .ok (.ireturn, 1) := by decide +kernel
set_option maxRecDepth 20000 in
theorem ggX3_teamSum_X3_closed : GoodIn wsX3_teamSum wsX3_closed := goodIn_r _ [7, 8, 9, 26, 27, 28, 29, 30, 31, 32, 33, 34, 35] rfl (by decide +kernel)
set_option maxRecDepth 20000 in
theorem gX3_teamSum_X3_closed : GoodIn wsX3_teamSum (wsV RX3 145 RX3 yX3_closed wsX3_closed) := goodIn_app (goodIn_of _ (by decide +kernel)) ggX3_teamSum_X3_closed
set_option maxRecDepth 20000 in
theorem ggX3_teamSum_X4_teamTime : GoodIn wsX3_teamSum wsX4_teamTime := goodIn_r _ [13, 14, 15, 16, 17, 18, 19, 20, 21, 22, 23, 24, 25, 36, 37, 38, 39, 40, 41, 42, 43, 44, 45, 46, 47, 48, 49, 50, 51, 52, 53, 54, 55] rfl (by decide +kernel)
set_option maxRecDepth 20000 in
theorem gX3_teamSum_X4_teamTime_n164 : GoodIn wsX3_teamSum (wsX4_teamTime) := ggX3_teamSum_X4_teamTime
theorem dX3_teamSum_0 : decode cX3_teamSum 0 = .ok (.iconst 0, 1) := by decide +kernel
theorem dX3_teamSum_1 : decode cX3_teamSum 1 = .ok (.istore_n 2, 1) := by decide +kernel
theorem dX3_teamSum_2 : decode cX3_teamSum 2 = .ok (.iconst 0, 1) := by decide +kernel
theorem dX3_teamSum_3 : decode cX3_teamSum 3 = .ok (.istore_n 3, 1) := by decide +kernel
theorem dX3_teamSum_4 : decode cX3_teamSum 4 = .ok (.iload_n 3, 1) := by decide +kernel
theorem dX3_teamSum_5 : decode cX3_teamSum 5 = .ok (.aload_n 0, 1) := by decide +kernel
theorem dX3_teamSum_6 : decode cX3_teamSum 6 = .ok (.invokevirtual 145, 3) := by decide +kernel
theorem dX3_teamSum_9 : decode cX3_teamSum 9 = .ok (.if_icmp .ge 26, 3) := by decide +kernel
theorem dX3_teamSum_12 : decode cX3_teamSum 12 = .ok (.iload_n 2, 1) := by decide +kernel
theorem dX3_teamSum_13 : decode cX3_teamSum 13 = .ok (.aload_n 0, 1) := by decide +kernel
theorem dX3_teamSum_14 : decode cX3_teamSum 14 = .ok (.getfield 31, 3) := by decide +kernel
theorem dX3_teamSum_17 : decode cX3_teamSum 17 = .ok (.iload_n 3, 1) := by decide +kernel
theorem dX3_teamSum_18 : decode cX3_teamSum 18 = .ok (.aaload, 1) := by decide +kernel
theorem dX3_teamSum_19 : decode cX3_teamSum 19 = .ok (.aload_n 0, 1) := by decide +kernel
theorem dX3_teamSum_20 : decode cX3_teamSum 20 = .ok (.getfield 18, 3) := by decide +kernel
theorem dX3_teamSum_23 : decode cX3_teamSum 23 = .ok (.iload_n 1, 1) := by decide +kernel
theorem dX3_teamSum_24 : decode cX3_teamSum 24 = .ok (.invokevirtual 164, 3) := by decide +kernel
theorem dX3_teamSum_27 : decode cX3_teamSum 27 = .ok (.iadd, 1) := by decide +kernel
theorem dX3_teamSum_28 : decode cX3_teamSum 28 = .ok (.istore_n 2, 1) := by decide +kernel
theorem dX3_teamSum_29 : decode cX3_teamSum 29 = .ok (.iinc 3 1, 3) := by decide +kernel
theorem dX3_teamSum_32 : decode cX3_teamSum 32 = .ok (.goto (-28), 3) := by decide +kernel
theorem dX3_teamSum_35 : decode cX3_teamSum 35 = .ok (.iload_n 2, 1) := by decide +kernel
theorem dX3_teamSum_36 : decode cX3_teamSum 36 = .ok (.ireturn, 1) := by decide +kernel
set_option maxRecDepth 20000 in
theorem ggX4_init_X1_init : GoodIn wsX4_init wsX1_init := goodIn_r _ [26, 27, 2, 3, 12, 28, 29, 30, 31, 38, 39, 40, 41, 42, 43, 44] rfl (by decide +kernel)
set_option maxRecDepth 20000 in
theorem gX4_init_X1_init_n11 : GoodIn wsX4_init (wsX1_init) := ggX4_init_X1_init
set_option maxRecDepth 20000 in
theorem ggX4_init_X2_init : GoodIn wsX4_init wsX2_init := goodIn_r _ [33, 34, 2, 3, 12, 35, 36, 37, 65, 66, 67] rfl (by decide +kernel)
set_option maxRecDepth 20000 in
theorem gX4_init_X2_init_n20 : GoodIn wsX4_init (wsX2_init) := ggX4_init_X2_init
theorem dX4_init_0 : decode cX4_init 0 = .ok (.aload_n 0, 1) := by decide +kernel
theorem dX4_init_1 : decode cX4_init 1 = .ok (.invokespecial 3, 3) := by decide +kernel
theorem dX4_init_4 : decode cX4_init 4 = .ok (.aload_n 0, 1) := by decide +kernel
theorem dX4_init_5 : decode cX4_init 5 = .ok (.new 9, 3) := by decide +kernel
theorem dX4_init_8 : decode cX4_init 8 = .ok (.dup, 1) := by decide +kernel
theorem dX4_init_9 : decode cX4_init 9 = .ok (.invokespecial 11, 3) := by decide +kernel
theorem dX4_init_12 : decode cX4_init 12 = .ok (.putfield 12, 3) := by decide +kernel
theorem dX4_init_15 : decode cX4_init 15 = .ok (.aload_n 0, 1) := by decide +kernel
theorem dX4_init_16 : decode cX4_init 16 = .ok (.new 18, 3) := by decide +kernel
theorem dX4_init_19 : decode cX4_init 19 = .ok (.dup, 1) := by decide +kernel
theorem dX4_init_20 : decode cX4_init 20 = .ok (.invokespecial 20, 3) := by decide +kernel
theorem dX4_init_23 : decode cX4_init 23 = .ok (.putfield 21, 3) := by decide +kernel
theorem dX4_init_26 : decode cX4_init 26 = .ok (.aload_n 0, 1) := by decide +kernel
theorem dX4_init_27 : decode cX4_init 27 = .ok (.bipush 16, 2) := by decide +kernel
theorem dX4_init_29 : decode cX4_init 29 = .ok (.newarray .int, 2) := by decide +kernel
theorem dX4_init_31 : decode cX4_init 31 = .ok (.putfield 25, 3) := by decide +kernel
theorem dX4_init_34 : decode cX4_init 34 = .ok (.aload_n 0, 1) := by decide +kernel
theorem dX4_init_35 : decode cX4_init 35 = .ok (.bipush 16, 2) := by decide +kernel
theorem dX4_init_37 : decode cX4_init 37 = .ok (.newarray .int, 2) := by decide +kernel
theorem dX4_init_39 : decode cX4_init 39 = .ok (.putfield 29, 3) := by decide +kernel
theorem dX4_init_42 : decode cX4_init 42 = .ok (.aload_n 0, 1) := by decide +kernel
theorem dX4_init_43 : decode cX4_init 43 = .ok (.bipush 16, 2) := by decide +kernel
theorem dX4_init_45 : decode cX4_init 45 = .ok (.newarray .int, 2) := by decide +kernel
theorem dX4_init_47 : decode cX4_init 47 = .ok (.putfield 32, 3) := by decide +kernel
theorem dX4_init_50 : decode cX4_init 50 = .ok (.aload_n 0, 1) := by decide +kernel
theorem dX4_init_51 : decode cX4_init 51 = .ok (.bipush 16, 2) := by decide +kernel
theorem dX4_init_53 : decode cX4_init 53 = .ok (.newarray .int, 2) := by decide +kernel
theorem dX4_init_55 : decode cX4_init 55 = .ok (.putfield 35, 3) := by decide +kernel
theorem dX4_init_58 : decode cX4_init 58 = .ok (.aload_n 0, 1) := by decide +kernel
theorem dX4_init_59 : decode cX4_init 59 = .ok (.bipush 16, 2) := by decide +kernel
theorem dX4_init_61 : decode cX4_init 61 = .ok (.newarray .boolean, 2) := by decide +kernel
theorem dX4_init_63 : decode cX4_init 63 = .ok (.putfield 38, 3) := by decide +kernel
theorem dX4_init_66 : decode cX4_init 66 = .ok (.aload_n 0, 1) := by decide +kernel
theorem dX4_init_67 : decode cX4_init 67 = .ok (.bipush 16, 2) := by decide +kernel
theorem dX4_init_69 : decode cX4_init 69 = .ok (.newarray .int, 2) := by decide +kernel
theorem dX4_init_71 : decode cX4_init 71 = .ok (.putfield 42, 3) := by decide +kernel
theorem dX4_init_74 : decode cX4_init 74 = .ok (.aload_n 0, 1) := by decide +kernel
theorem dX4_init_75 : decode cX4_init 75 = .ok (.bipush 16, 2) := by decide +kernel
theorem dX4_init_77 : decode cX4_init 77 = .ok (.newarray .int, 2) := by decide +kernel
theorem dX4_init_79 : decode cX4_init 79 = .ok (.putfield 45, 3) := by decide +kernel
theorem dX4_init_82 : decode cX4_init 82 = .ok (.aload_n 0, 1) := by decide +kernel
theorem dX4_init_83 : decode cX4_init 83 = .ok (.bipush 16, 2) := by decide +kernel
theorem dX4_init_85 : decode cX4_init 85 = .ok (.newarray .int, 2) := by decide +kernel
theorem dX4_init_87 : decode cX4_init 87 = .ok (.putfield 48, 3) := by decide +kernel
theorem dX4_init_90 : decode cX4_init 90 = .ok (.aload_n 0, 1) := by decide +kernel
theorem dX4_init_91 : decode cX4_init 91 = .ok (.bipush 16, 2) := by decide +kernel
theorem dX4_init_93 : decode cX4_init 93 = .ok (.newarray .int, 2) := by decide +kernel
theorem dX4_init_95 : decode cX4_init 95 = .ok (.putfield 51, 3) := by decide +kernel
theorem dX4_init_98 : decode cX4_init 98 = .ok (.aload_n 0, 1) := by decide +kernel
theorem dX4_init_99 : decode cX4_init 99 = .ok (.bipush 16, 2) := by decide +kernel
theorem dX4_init_101 : decode cX4_init 101 = .ok (.newarray .int, 2) := by decide +kernel
theorem dX4_init_103 : decode cX4_init 103 = .ok (.putfield 54, 3) := by decide +kernel
theorem dX4_init_106 : decode cX4_init 106 = .ok (.aload_n 0, 1) := by decide +kernel
theorem dX4_init_107 : decode cX4_init 107 = .ok (.bipush 16, 2) := by decide +kernel
theorem dX4_init_109 : decode cX4_init 109 = .ok (.newarray .boolean, 2) := by decide +kernel
theorem dX4_init_111 : decode cX4_init 111 = .ok (.putfield 57, 3) := by decide +kernel
theorem dX4_init_114 : decode cX4_init 114 = .ok (.return_, 1) := by decide +kernel
set_option maxRecDepth 20000 in
theorem ggX4_begin_X1_begin : GoodIn wsX4_begin wsX1_begin := goodIn_r _ [6, 7, 8, 9, 45, 46, 47, 48, 49, 50, 51] rfl (by decide +kernel)
set_option maxRecDepth 20000 in
theorem gX4_begin_X1_begin_n60 : GoodIn wsX4_begin (wsX1_begin) := ggX4_begin_X1_begin
set_option maxRecDepth 20000 in
theorem ggX4_begin_X4_forget : GoodIn wsX4_begin wsX4_forget := goodIn_r _ [14, 15, 2, 16, 17, 18, 19, 1, 20, 4, 21, 22, 9, 23, 24, 25, 26, 27, 28, 29, 30, 31, 32, 33, 34, 35, 36, 37, 38, 39, 40, 41, 42, 43, 44, 45, 46, 47, 48, 49, 50, 51] rfl (by decide +kernel)
set_option maxRecDepth 20000 in
theorem gX4_begin_X4_forget : GoodIn wsX4_begin (wsV RX4 64 RX4 yX4_forget wsX4_forget) := goodIn_app (goodIn_of _ (by decide +kernel)) ggX4_begin_X4_forget
theorem dX4_begin_0 : decode cX4_begin 0 = .ok (.aload_n 0, 1) := by decide +kernel
theorem dX4_begin_1 : decode cX4_begin 1 = .ok (.getfield 12, 3) := by decide +kernel
theorem dX4_begin_4 : decode cX4_begin 4 = .ok (.iload_n 1, 1) := by decide +kernel
theorem dX4_begin_5 : decode cX4_begin 5 = .ok (.iload_n 2, 1) := by decide +kernel
theorem dX4_begin_6 : decode cX4_begin 6 = .ok (.invokevirtual 60, 3) := by decide +kernel
theorem dX4_begin_9 : decode cX4_begin 9 = .ok (.iconst 0, 1) := by decide +kernel
theorem dX4_begin_10 : decode cX4_begin 10 = .ok (.istore_n 3, 1) := by decide +kernel
theorem dX4_begin_11 : decode cX4_begin 11 = .ok (.iload_n 3, 1) := by decide +kernel
theorem dX4_begin_12 : decode cX4_begin 12 = .ok (.bipush 16, 2) := by decide +kernel
theorem dX4_begin_14 : decode cX4_begin 14 = .ok (.if_icmp .ge 14, 3) := by decide +kernel
theorem dX4_begin_17 : decode cX4_begin 17 = .ok (.aload_n 0, 1) := by decide +kernel
theorem dX4_begin_18 : decode cX4_begin 18 = .ok (.iload_n 3, 1) := by decide +kernel
theorem dX4_begin_19 : decode cX4_begin 19 = .ok (.invokevirtual 64, 3) := by decide +kernel
theorem dX4_begin_22 : decode cX4_begin 22 = .ok (.iinc 3 1, 3) := by decide +kernel
theorem dX4_begin_25 : decode cX4_begin 25 = .ok (.goto (-14), 3) := by decide +kernel
theorem dX4_begin_28 : decode cX4_begin 28 = .ok (.aload_n 0, 1) := by decide +kernel
theorem dX4_begin_29 : decode cX4_begin 29 = .ok (.iconst 0, 1) := by decide +kernel
theorem dX4_begin_30 : decode cX4_begin 30 = .ok (.putfield 68, 3) := by decide +kernel
theorem dX4_begin_33 : decode cX4_begin 33 = .ok (.return_, 1) := by decide +kernel
set_option maxRecDepth 20000 in
theorem ggX4_copyFrom_X1_copyFrom : GoodIn wsX4_copyFrom wsX1_copyFrom := goodIn_r _ [28, 29, 30, 31, 32, 33, 5, 6, 7, 34, 35, 36, 65, 66, 67, 68, 69, 70, 71] rfl (by decide +kernel)
set_option maxRecDepth 20000 in
theorem gX4_copyFrom_X1_copyFrom_n72 : GoodIn wsX4_copyFrom (wsX1_copyFrom) := ggX4_copyFrom_X1_copyFrom
set_option maxRecDepth 20000 in
theorem ggX4_copyFrom_X2_copyFrom : GoodIn wsX4_copyFrom wsX2_copyFrom := goodIn_r _ [40, 41, 42, 5, 6, 7, 43, 44, 72, 73, 74] rfl (by decide +kernel)
set_option maxRecDepth 20000 in
theorem gX4_copyFrom_X2_copyFrom_n76 : GoodIn wsX4_copyFrom (wsX2_copyFrom) := ggX4_copyFrom_X2_copyFrom
theorem dX4_copyFrom_0 : decode cX4_copyFrom 0 = .ok (.aload_n 0, 1) := by decide +kernel
theorem dX4_copyFrom_1 : decode cX4_copyFrom 1 = .ok (.getfield 12, 3) := by decide +kernel
theorem dX4_copyFrom_4 : decode cX4_copyFrom 4 = .ok (.aload_n 1, 1) := by decide +kernel
theorem dX4_copyFrom_5 : decode cX4_copyFrom 5 = .ok (.getfield 12, 3) := by decide +kernel
theorem dX4_copyFrom_8 : decode cX4_copyFrom 8 = .ok (.invokevirtual 72, 3) := by decide +kernel
theorem dX4_copyFrom_11 : decode cX4_copyFrom 11 = .ok (.aload_n 0, 1) := by decide +kernel
theorem dX4_copyFrom_12 : decode cX4_copyFrom 12 = .ok (.getfield 21, 3) := by decide +kernel
theorem dX4_copyFrom_15 : decode cX4_copyFrom 15 = .ok (.aload_n 1, 1) := by decide +kernel
theorem dX4_copyFrom_16 : decode cX4_copyFrom 16 = .ok (.getfield 21, 3) := by decide +kernel
theorem dX4_copyFrom_19 : decode cX4_copyFrom 19 = .ok (.invokevirtual 76, 3) := by decide +kernel
theorem dX4_copyFrom_22 : decode cX4_copyFrom 22 = .ok (.aload_n 1, 1) := by decide +kernel
theorem dX4_copyFrom_23 : decode cX4_copyFrom 23 = .ok (.getfield 25, 3) := by decide +kernel
theorem dX4_copyFrom_26 : decode cX4_copyFrom 26 = .ok (.iconst 0, 1) := by decide +kernel
theorem dX4_copyFrom_27 : decode cX4_copyFrom 27 = .ok (.aload_n 0, 1) := by decide +kernel
theorem dX4_copyFrom_28 : decode cX4_copyFrom 28 = .ok (.getfield 25, 3) := by decide +kernel
theorem dX4_copyFrom_31 : decode cX4_copyFrom 31 = .ok (.iconst 0, 1) := by decide +kernel
theorem dX4_copyFrom_32 : decode cX4_copyFrom 32 = .ok (.bipush 16, 2) := by decide +kernel
theorem dX4_copyFrom_34 : decode cX4_copyFrom 34 = .ok (.invokestatic 79, 3) := by decide +kernel
theorem dX4_copyFrom_37 : decode cX4_copyFrom 37 = .ok (.aload_n 1, 1) := by decide +kernel
theorem dX4_copyFrom_38 : decode cX4_copyFrom 38 = .ok (.getfield 29, 3) := by decide +kernel
theorem dX4_copyFrom_41 : decode cX4_copyFrom 41 = .ok (.iconst 0, 1) := by decide +kernel
theorem dX4_copyFrom_42 : decode cX4_copyFrom 42 = .ok (.aload_n 0, 1) := by decide +kernel
theorem dX4_copyFrom_43 : decode cX4_copyFrom 43 = .ok (.getfield 29, 3) := by decide +kernel
theorem dX4_copyFrom_46 : decode cX4_copyFrom 46 = .ok (.iconst 0, 1) := by decide +kernel
theorem dX4_copyFrom_47 : decode cX4_copyFrom 47 = .ok (.bipush 16, 2) := by decide +kernel
theorem dX4_copyFrom_49 : decode cX4_copyFrom 49 = .ok (.invokestatic 79, 3) := by decide +kernel
theorem dX4_copyFrom_52 : decode cX4_copyFrom 52 = .ok (.aload_n 1, 1) := by decide +kernel
theorem dX4_copyFrom_53 : decode cX4_copyFrom 53 = .ok (.getfield 32, 3) := by decide +kernel
theorem dX4_copyFrom_56 : decode cX4_copyFrom 56 = .ok (.iconst 0, 1) := by decide +kernel
theorem dX4_copyFrom_57 : decode cX4_copyFrom 57 = .ok (.aload_n 0, 1) := by decide +kernel
theorem dX4_copyFrom_58 : decode cX4_copyFrom 58 = .ok (.getfield 32, 3) := by decide +kernel
theorem dX4_copyFrom_61 : decode cX4_copyFrom 61 = .ok (.iconst 0, 1) := by decide +kernel
theorem dX4_copyFrom_62 : decode cX4_copyFrom 62 = .ok (.bipush 16, 2) := by decide +kernel
theorem dX4_copyFrom_64 : decode cX4_copyFrom 64 = .ok (.invokestatic 79, 3) := by decide +kernel
theorem dX4_copyFrom_67 : decode cX4_copyFrom 67 = .ok (.aload_n 1, 1) := by decide +kernel
theorem dX4_copyFrom_68 : decode cX4_copyFrom 68 = .ok (.getfield 35, 3) := by decide +kernel
theorem dX4_copyFrom_71 : decode cX4_copyFrom 71 = .ok (.iconst 0, 1) := by decide +kernel
theorem dX4_copyFrom_72 : decode cX4_copyFrom 72 = .ok (.aload_n 0, 1) := by decide +kernel
theorem dX4_copyFrom_73 : decode cX4_copyFrom 73 = .ok (.getfield 35, 3) := by decide +kernel
theorem dX4_copyFrom_76 : decode cX4_copyFrom 76 = .ok (.iconst 0, 1) := by decide +kernel
theorem dX4_copyFrom_77 : decode cX4_copyFrom 77 = .ok (.bipush 16, 2) := by decide +kernel
theorem dX4_copyFrom_79 : decode cX4_copyFrom 79 = .ok (.invokestatic 79, 3) := by decide +kernel
theorem dX4_copyFrom_82 : decode cX4_copyFrom 82 = .ok (.aload_n 1, 1) := by decide +kernel
theorem dX4_copyFrom_83 : decode cX4_copyFrom 83 = .ok (.getfield 38, 3) := by decide +kernel
theorem dX4_copyFrom_86 : decode cX4_copyFrom 86 = .ok (.iconst 0, 1) := by decide +kernel
theorem dX4_copyFrom_87 : decode cX4_copyFrom 87 = .ok (.aload_n 0, 1) := by decide +kernel
theorem dX4_copyFrom_88 : decode cX4_copyFrom 88 = .ok (.getfield 38, 3) := by decide +kernel
theorem dX4_copyFrom_91 : decode cX4_copyFrom 91 = .ok (.iconst 0, 1) := by decide +kernel
theorem dX4_copyFrom_92 : decode cX4_copyFrom 92 = .ok (.bipush 16, 2) := by decide +kernel
theorem dX4_copyFrom_94 : decode cX4_copyFrom 94 = .ok (.invokestatic 79, 3) := by decide +kernel
theorem dX4_copyFrom_97 : decode cX4_copyFrom 97 = .ok (.aload_n 0, 1) := by decide +kernel
theorem dX4_copyFrom_98 : decode cX4_copyFrom 98 = .ok (.aload_n 1, 1) := by decide +kernel
theorem dX4_copyFrom_99 : decode cX4_copyFrom 99 = .ok (.getfield 68, 3) := by decide +kernel
theorem dX4_copyFrom_102 : decode cX4_copyFrom 102 = .ok (.putfield 68, 3) := by decide +kernel
theorem dX4_copyFrom_105 : decode cX4_copyFrom 105 = .ok (.aload_n 1, 1) := by decide +kernel
theorem dX4_copyFrom_106 : decode cX4_copyFrom 106 = .ok (.getfield 42, 3) := by decide +kernel
theorem dX4_copyFrom_109 : decode cX4_copyFrom 109 = .ok (.iconst 0, 1) := by decide +kernel
theorem dX4_copyFrom_110 : decode cX4_copyFrom 110 = .ok (.aload_n 0, 1) := by decide +kernel
theorem dX4_copyFrom_111 : decode cX4_copyFrom 111 = .ok (.getfield 42, 3) := by decide +kernel
theorem dX4_copyFrom_114 : decode cX4_copyFrom 114 = .ok (.iconst 0, 1) := by decide +kernel
theorem dX4_copyFrom_115 : decode cX4_copyFrom 115 = .ok (.bipush 16, 2) := by decide +kernel
theorem dX4_copyFrom_117 : decode cX4_copyFrom 117 = .ok (.invokestatic 79, 3) := by decide +kernel
theorem dX4_copyFrom_120 : decode cX4_copyFrom 120 = .ok (.aload_n 1, 1) := by decide +kernel
theorem dX4_copyFrom_121 : decode cX4_copyFrom 121 = .ok (.getfield 45, 3) := by decide +kernel
theorem dX4_copyFrom_124 : decode cX4_copyFrom 124 = .ok (.iconst 0, 1) := by decide +kernel
theorem dX4_copyFrom_125 : decode cX4_copyFrom 125 = .ok (.aload_n 0, 1) := by decide +kernel
theorem dX4_copyFrom_126 : decode cX4_copyFrom 126 = .ok (.getfield 45, 3) := by decide +kernel
theorem dX4_copyFrom_129 : decode cX4_copyFrom 129 = .ok (.iconst 0, 1) := by decide +kernel
theorem dX4_copyFrom_130 : decode cX4_copyFrom 130 = .ok (.bipush 16, 2) := by decide +kernel
theorem dX4_copyFrom_132 : decode cX4_copyFrom 132 = .ok (.invokestatic 79, 3) := by decide +kernel
theorem dX4_copyFrom_135 : decode cX4_copyFrom 135 = .ok (.aload_n 1, 1) := by decide +kernel
theorem dX4_copyFrom_136 : decode cX4_copyFrom 136 = .ok (.getfield 48, 3) := by decide +kernel
theorem dX4_copyFrom_139 : decode cX4_copyFrom 139 = .ok (.iconst 0, 1) := by decide +kernel
theorem dX4_copyFrom_140 : decode cX4_copyFrom 140 = .ok (.aload_n 0, 1) := by decide +kernel
theorem dX4_copyFrom_141 : decode cX4_copyFrom 141 = .ok (.getfield 48, 3) := by decide +kernel
theorem dX4_copyFrom_144 : decode cX4_copyFrom 144 = .ok (.iconst 0, 1) := by decide +kernel
theorem dX4_copyFrom_145 : decode cX4_copyFrom 145 = .ok (.bipush 16, 2) := by decide +kernel
theorem dX4_copyFrom_147 : decode cX4_copyFrom 147 = .ok (.invokestatic 79, 3) := by decide +kernel
theorem dX4_copyFrom_150 : decode cX4_copyFrom 150 = .ok (.aload_n 1, 1) := by decide +kernel
theorem dX4_copyFrom_151 : decode cX4_copyFrom 151 = .ok (.getfield 51, 3) := by decide +kernel
theorem dX4_copyFrom_154 : decode cX4_copyFrom 154 = .ok (.iconst 0, 1) := by decide +kernel
theorem dX4_copyFrom_155 : decode cX4_copyFrom 155 = .ok (.aload_n 0, 1) := by decide +kernel
theorem dX4_copyFrom_156 : decode cX4_copyFrom 156 = .ok (.getfield 51, 3) := by decide +kernel
theorem dX4_copyFrom_159 : decode cX4_copyFrom 159 = .ok (.iconst 0, 1) := by decide +kernel
theorem dX4_copyFrom_160 : decode cX4_copyFrom 160 = .ok (.bipush 16, 2) := by decide +kernel
theorem dX4_copyFrom_162 : decode cX4_copyFrom 162 = .ok (.invokestatic 79, 3) := by decide +kernel
theorem dX4_copyFrom_165 : decode cX4_copyFrom 165 = .ok (.aload_n 1, 1) := by decide +kernel
theorem dX4_copyFrom_166 : decode cX4_copyFrom 166 = .ok (.getfield 54, 3) := by decide +kernel
theorem dX4_copyFrom_169 : decode cX4_copyFrom 169 = .ok (.iconst 0, 1) := by decide +kernel
theorem dX4_copyFrom_170 : decode cX4_copyFrom 170 = .ok (.aload_n 0, 1) := by decide +kernel
theorem dX4_copyFrom_171 : decode cX4_copyFrom 171 = .ok (.getfield 54, 3) := by decide +kernel
theorem dX4_copyFrom_174 : decode cX4_copyFrom 174 = .ok (.iconst 0, 1) := by decide +kernel
theorem dX4_copyFrom_175 : decode cX4_copyFrom 175 = .ok (.bipush 16, 2) := by decide +kernel
theorem dX4_copyFrom_177 : decode cX4_copyFrom 177 = .ok (.invokestatic 79, 3) := by decide +kernel
theorem dX4_copyFrom_180 : decode cX4_copyFrom 180 = .ok (.aload_n 1, 1) := by decide +kernel
theorem dX4_copyFrom_181 : decode cX4_copyFrom 181 = .ok (.getfield 57, 3) := by decide +kernel
theorem dX4_copyFrom_184 : decode cX4_copyFrom 184 = .ok (.iconst 0, 1) := by decide +kernel
theorem dX4_copyFrom_185 : decode cX4_copyFrom 185 = .ok (.aload_n 0, 1) := by decide +kernel
theorem dX4_copyFrom_186 : decode cX4_copyFrom 186 = .ok (.getfield 57, 3) := by decide +kernel
theorem dX4_copyFrom_189 : decode cX4_copyFrom 189 = .ok (.iconst 0, 1) := by decide +kernel
theorem dX4_copyFrom_190 : decode cX4_copyFrom 190 = .ok (.bipush 16, 2) := by decide +kernel
theorem dX4_copyFrom_192 : decode cX4_copyFrom 192 = .ok (.invokestatic 79, 3) := by decide +kernel
theorem dX4_copyFrom_195 : decode cX4_copyFrom 195 = .ok (.aload_n 0, 1) := by decide +kernel
theorem dX4_copyFrom_196 : decode cX4_copyFrom 196 = .ok (.aload_n 1, 1) := by decide +kernel
theorem dX4_copyFrom_197 : decode cX4_copyFrom 197 = .ok (.getfield 85, 3) := by decide +kernel
theorem dX4_copyFrom_200 : decode cX4_copyFrom 200 = .ok (.putfield 85, 3) := by decide +kernel
theorem dX4_copyFrom_203 : decode cX4_copyFrom 203 = .ok (.aload_n 0, 1) := by decide +kernel
theorem dX4_copyFrom_204 : decode cX4_copyFrom 204 = .ok (.aload_n 1, 1) := by decide +kernel
theorem dX4_copyFrom_205 : decode cX4_copyFrom 205 = .ok (.getfield 88, 3) := by decide +kernel
theorem dX4_copyFrom_208 : decode cX4_copyFrom 208 = .ok (.putfield 88, 3) := by decide +kernel
theorem dX4_copyFrom_211 : decode cX4_copyFrom 211 = .ok (.aload_n 0, 1) := by decide +kernel
theorem dX4_copyFrom_212 : decode cX4_copyFrom 212 = .ok (.aload_n 1, 1) := by decide +kernel
theorem dX4_copyFrom_213 : decode cX4_copyFrom 213 = .ok (.getfield 91, 3) := by decide +kernel
theorem dX4_copyFrom_216 : decode cX4_copyFrom 216 = .ok (.putfield 91, 3) := by decide +kernel
theorem dX4_copyFrom_219 : decode cX4_copyFrom 219 = .ok (.aload_n 0, 1) := by decide +kernel
theorem dX4_copyFrom_220 : decode cX4_copyFrom 220 = .ok (.aload_n 1, 1) := by decide +kernel
theorem dX4_copyFrom_221 : decode cX4_copyFrom 221 = .ok (.getfield 94, 3) := by decide +kernel
theorem dX4_copyFrom_224 : decode cX4_copyFrom 224 = .ok (.putfield 94, 3) := by decide +kernel
theorem dX4_copyFrom_227 : decode cX4_copyFrom 227 = .ok (.aload_n 0, 1) := by decide +kernel
theorem dX4_copyFrom_228 : decode cX4_copyFrom 228 = .ok (.aload_n 1, 1) := by decide +kernel
theorem dX4_copyFrom_229 : decode cX4_copyFrom 229 = .ok (.getfield 97, 3) := by decide +kernel
theorem dX4_copyFrom_232 : decode cX4_copyFrom 232 = .ok (.putfield 97, 3) := by decide +kernel
theorem dX4_copyFrom_235 : decode cX4_copyFrom 235 = .ok (.aload_n 0, 1) := by decide +kernel
theorem dX4_copyFrom_236 : decode cX4_copyFrom 236 = .ok (.aload_n 1, 1) := by decide +kernel
theorem dX4_copyFrom_237 : decode cX4_copyFrom 237 = .ok (.getfield 100, 3) := by decide +kernel
theorem dX4_copyFrom_240 : decode cX4_copyFrom 240 = .ok (.putfield 100, 3) := by decide +kernel
theorem dX4_copyFrom_243 : decode cX4_copyFrom 243 = .ok (.return_, 1) := by decide +kernel
set_option maxRecDepth 20000 in
theorem ggX4_addFinish_X8_within : GoodIn wsX4_addFinish wsX8_within := goodIn_r _ [6] rfl (by decide +kernel)
set_option maxRecDepth 20000 in
theorem gX4_addFinish_X8_within_n105 : GoodIn wsX4_addFinish (wsX8_within) := ggX4_addFinish_X8_within
theorem dX4_addFinish_0 : decode cX4_addFinish 0 = .ok (.aload_n 0, 1) := by decide +kernel
theorem dX4_addFinish_1 : decode cX4_addFinish 1 = .ok (.getfield 25, 3) := by decide +kernel
theorem dX4_addFinish_4 : decode cX4_addFinish 4 = .ok (.iload_n 1, 1) := by decide +kernel
theorem dX4_addFinish_5 : decode cX4_addFinish 5 = .ok (.iaload, 1) := by decide +kernel
theorem dX4_addFinish_6 : decode cX4_addFinish 6 = .ok (.ifCond .ne 13, 3) := by decide +kernel
theorem dX4_addFinish_9 : decode cX4_addFinish 9 = .ok (.iload_n 2, 1) := by decide +kernel
theorem dX4_addFinish_10 : decode cX4_addFinish 10 = .ok (.iconst 1, 1) := by decide +kernel
theorem dX4_addFinish_11 : decode cX4_addFinish 11 = .ok (.ldc 104, 2) := by decide +kernel
theorem dX4_addFinish_13 : decode cX4_addFinish 13 = .ok (.invokestatic 105, 3) := by decide +kernel
theorem dX4_addFinish_16 : decode cX4_addFinish 16 = .ok (.ifCond .ne 5, 3) := by decide +kernel
theorem dX4_addFinish_19 : decode cX4_addFinish 19 = .ok (.iconst 0, 1) := by decide +kernel
theorem dX4_addFinish_20 : decode cX4_addFinish 20 = .ok (.ireturn, 1) := by decide +kernel
theorem dX4_addFinish_21 : decode cX4_addFinish 21 = .ok (.aload_n 0, 1) := by decide +kernel
theorem dX4_addFinish_22 : decode cX4_addFinish 22 = .ok (.getfield 25, 3) := by decide +kernel
theorem dX4_addFinish_25 : decode cX4_addFinish 25 = .ok (.iload_n 1, 1) := by decide +kernel
theorem dX4_addFinish_26 : decode cX4_addFinish 26 = .ok (.iload_n 2, 1) := by decide +kernel
theorem dX4_addFinish_27 : decode cX4_addFinish 27 = .ok (.iastore, 1) := by decide +kernel
theorem dX4_addFinish_28 : decode cX4_addFinish 28 = .ok (.aload_n 0, 1) := by decide +kernel
theorem dX4_addFinish_29 : decode cX4_addFinish 29 = .ok (.dup, 1) := by decide +kernel
theorem dX4_addFinish_30 : decode cX4_addFinish 30 = .ok (.getfield 68, 3) := by decide +kernel
theorem dX4_addFinish_33 : decode cX4_addFinish 33 = .ok (.iconst 1, 1) := by decide +kernel
theorem dX4_addFinish_34 : decode cX4_addFinish 34 = .ok (.iadd, 1) := by decide +kernel
theorem dX4_addFinish_35 : decode cX4_addFinish 35 = .ok (.putfield 68, 3) := by decide +kernel
theorem dX4_addFinish_38 : decode cX4_addFinish 38 = .ok (.iconst 1, 1) := by decide +kernel
theorem dX4_addFinish_39 : decode cX4_addFinish 39 = .ok (.ireturn, 1) := by decide +kernel
set_option maxRecDepth 20000 in
theorem ggX4_addFall_X8_within : GoodIn wsX4_addFall wsX8_within := goodIn_r _ [6] rfl (by decide +kernel)
set_option maxRecDepth 20000 in
theorem gX4_addFall_X8_within_n105 : GoodIn wsX4_addFall (wsX8_within) := ggX4_addFall_X8_within
theorem dX4_addFall_0 : decode cX4_addFall 0 = .ok (.aload_n 0, 1) := by decide +kernel
theorem dX4_addFall_1 : decode cX4_addFall 1 = .ok (.getfield 29, 3) := by decide +kernel
theorem dX4_addFall_4 : decode cX4_addFall 4 = .ok (.iload_n 1, 1) := by decide +kernel
theorem dX4_addFall_5 : decode cX4_addFall 5 = .ok (.iaload, 1) := by decide +kernel
theorem dX4_addFall_6 : decode cX4_addFall 6 = .ok (.iconst (-1), 1) := by decide +kernel
theorem dX4_addFall_7 : decode cX4_addFall 7 = .ok (.if_icmp .ne 18, 3) := by decide +kernel
theorem dX4_addFall_10 : decode cX4_addFall 10 = .ok (.iload_n 2, 1) := by decide +kernel
theorem dX4_addFall_11 : decode cX4_addFall 11 = .ok (.iconst 0, 1) := by decide +kernel
theorem dX4_addFall_12 : decode cX4_addFall 12 = .ok (.aload_n 0, 1) := by decide +kernel
theorem dX4_addFall_13 : decode cX4_addFall 13 = .ok (.getfield 12, 3) := by decide +kernel
theorem dX4_addFall_16 : decode cX4_addFall 16 = .ok (.getfield 109, 3) := by decide +kernel
theorem dX4_addFall_19 : decode cX4_addFall 19 = .ok (.invokestatic 105, 3) := by decide +kernel
theorem dX4_addFall_22 : decode cX4_addFall 22 = .ok (.ifCond .ne 5, 3) := by decide +kernel
theorem dX4_addFall_25 : decode cX4_addFall 25 = .ok (.iconst 0, 1) := by decide +kernel
theorem dX4_addFall_26 : decode cX4_addFall 26 = .ok (.ireturn, 1) := by decide +kernel
theorem dX4_addFall_27 : decode cX4_addFall 27 = .ok (.aload_n 0, 1) := by decide +kernel
theorem dX4_addFall_28 : decode cX4_addFall 28 = .ok (.getfield 29, 3) := by decide +kernel
theorem dX4_addFall_31 : decode cX4_addFall 31 = .ok (.iload_n 1, 1) := by decide +kernel
theorem dX4_addFall_32 : decode cX4_addFall 32 = .ok (.iload_n 2, 1) := by decide +kernel
theorem dX4_addFall_33 : decode cX4_addFall 33 = .ok (.iastore, 1) := by decide +kernel
theorem dX4_addFall_34 : decode cX4_addFall 34 = .ok (.aload_n 0, 1) := by decide +kernel
theorem dX4_addFall_35 : decode cX4_addFall 35 = .ok (.getfield 32, 3) := by decide +kernel
theorem dX4_addFall_38 : decode cX4_addFall 38 = .ok (.iload_n 1, 1) := by decide +kernel
theorem dX4_addFall_39 : decode cX4_addFall 39 = .ok (.iload_n 3, 1) := by decide +kernel
theorem dX4_addFall_40 : decode cX4_addFall 40 = .ok (.iastore, 1) := by decide +kernel
theorem dX4_addFall_41 : decode cX4_addFall 41 = .ok (.iconst 1, 1) := by decide +kernel
theorem dX4_addFall_42 : decode cX4_addFall 42 = .ok (.ireturn, 1) := by decide +kernel
set_option maxRecDepth 20000 in
theorem ggX4_addJury_X8_within : GoodIn wsX4_addJury wsX8_within := goodIn_r _ [5] rfl (by decide +kernel)
set_option maxRecDepth 20000 in
theorem gX4_addJury_X8_within_n105 : GoodIn wsX4_addJury (wsX8_within) := ggX4_addJury_X8_within
theorem dX4_addJury_0 : decode cX4_addJury 0 = .ok (.iload_n 2, 1) := by decide +kernel
theorem dX4_addJury_1 : decode cX4_addJury 1 = .ok (.iconst 1, 1) := by decide +kernel
theorem dX4_addJury_2 : decode cX4_addJury 2 = .ok (.sipush 3600, 3) := by decide +kernel
theorem dX4_addJury_5 : decode cX4_addJury 5 = .ok (.invokestatic 105, 3) := by decide +kernel
theorem dX4_addJury_8 : decode cX4_addJury 8 = .ok (.ifCond .eq 16, 3) := by decide +kernel
theorem dX4_addJury_11 : decode cX4_addJury 11 = .ok (.aload_n 0, 1) := by decide +kernel
theorem dX4_addJury_12 : decode cX4_addJury 12 = .ok (.getfield 35, 3) := by decide +kernel
theorem dX4_addJury_15 : decode cX4_addJury 15 = .ok (.iload_n 1, 1) := by decide +kernel
theorem dX4_addJury_16 : decode cX4_addJury 16 = .ok (.iaload, 1) := by decide +kernel
theorem dX4_addJury_17 : decode cX4_addJury 17 = .ok (.iload_n 2, 1) := by decide +kernel
theorem dX4_addJury_18 : decode cX4_addJury 18 = .ok (.iadd, 1) := by decide +kernel
theorem dX4_addJury_19 : decode cX4_addJury 19 = .ok (.ldc 112, 2) := by decide +kernel
theorem dX4_addJury_21 : decode cX4_addJury 21 = .ok (.if_icmp .le 5, 3) := by decide +kernel
theorem dX4_addJury_24 : decode cX4_addJury 24 = .ok (.iconst (-1), 1) := by decide +kernel
theorem dX4_addJury_25 : decode cX4_addJury 25 = .ok (.ireturn, 1) := by decide +kernel
theorem dX4_addJury_26 : decode cX4_addJury 26 = .ok (.aload_n 0, 1) := by decide +kernel
theorem dX4_addJury_27 : decode cX4_addJury 27 = .ok (.getfield 35, 3) := by decide +kernel
theorem dX4_addJury_30 : decode cX4_addJury 30 = .ok (.iload_n 1, 1) := by decide +kernel
theorem dX4_addJury_31 : decode cX4_addJury 31 = .ok (.dup2, 1) := by decide +kernel
theorem dX4_addJury_32 : decode cX4_addJury 32 = .ok (.iaload, 1) := by decide +kernel
theorem dX4_addJury_33 : decode cX4_addJury 33 = .ok (.iload_n 2, 1) := by decide +kernel
theorem dX4_addJury_34 : decode cX4_addJury 34 = .ok (.iadd, 1) := by decide +kernel
theorem dX4_addJury_35 : decode cX4_addJury 35 = .ok (.iastore, 1) := by decide +kernel
theorem dX4_addJury_36 : decode cX4_addJury 36 = .ok (.aload_n 0, 1) := by decide +kernel
theorem dX4_addJury_37 : decode cX4_addJury 37 = .ok (.getfield 35, 3) := by decide +kernel
theorem dX4_addJury_40 : decode cX4_addJury 40 = .ok (.iload_n 1, 1) := by decide +kernel
theorem dX4_addJury_41 : decode cX4_addJury 41 = .ok (.iaload, 1) := by decide +kernel
theorem dX4_addJury_42 : decode cX4_addJury 42 = .ok (.ireturn, 1) := by decide +kernel
theorem dX4_addGrace_0 : decode cX4_addGrace 0 = .ok (.aload_n 0, 1) := by decide +kernel
theorem dX4_addGrace_1 : decode cX4_addGrace 1 = .ok (.getfield 38, 3) := by decide +kernel
theorem dX4_addGrace_4 : decode cX4_addGrace 4 = .ok (.iload_n 1, 1) := by decide +kernel
theorem dX4_addGrace_5 : decode cX4_addGrace 5 = .ok (.baload, 1) := by decide +kernel
theorem dX4_addGrace_6 : decode cX4_addGrace 6 = .ok (.ifCond .eq 5, 3) := by decide +kernel
theorem dX4_addGrace_9 : decode cX4_addGrace 9 = .ok (.iconst 0, 1) := by decide +kernel
theorem dX4_addGrace_10 : decode cX4_addGrace 10 = .ok (.ireturn, 1) := by decide +kernel
theorem dX4_addGrace_11 : decode cX4_addGrace 11 = .ok (.aload_n 0, 1) := by decide +kernel
theorem dX4_addGrace_12 : decode cX4_addGrace 12 = .ok (.getfield 38, 3) := by decide +kernel
theorem dX4_addGrace_15 : decode cX4_addGrace 15 = .ok (.iload_n 1, 1) := by decide +kernel
theorem dX4_addGrace_16 : decode cX4_addGrace 16 = .ok (.iconst 1, 1) := by decide +kernel
theorem dX4_addGrace_17 : decode cX4_addGrace 17 = .ok (.bastore, 1) := by decide +kernel
theorem dX4_addGrace_18 : decode cX4_addGrace 18 = .ok (.iconst 1, 1) := by decide +kernel
theorem dX4_addGrace_19 : decode cX4_addGrace 19 = .ok (.ireturn, 1) := by decide +kernel
set_option maxRecDepth 20000 in
theorem ggX4_forget_X1_forget : GoodIn wsX4_forget wsX1_forget := goodIn_r _ [11, 12, 13, 14, 35, 36, 37, 38, 39, 40, 41] rfl (by decide +kernel)
set_option maxRecDepth 20000 in
theorem gX4_forget_X1_forget_n113 : GoodIn wsX4_forget (wsX1_forget) := ggX4_forget_X1_forget
theorem dX4_forget_0 : decode cX4_forget 0 = .ok (.aload_n 0, 1) := by decide +kernel
theorem dX4_forget_1 : decode cX4_forget 1 = .ok (.getfield 25, 3) := by decide +kernel
theorem dX4_forget_4 : decode cX4_forget 4 = .ok (.iload_n 1, 1) := by decide +kernel
theorem dX4_forget_5 : decode cX4_forget 5 = .ok (.iaload, 1) := by decide +kernel
theorem dX4_forget_6 : decode cX4_forget 6 = .ok (.ifCond .eq 13, 3) := by decide +kernel
theorem dX4_forget_9 : decode cX4_forget 9 = .ok (.aload_n 0, 1) := by decide +kernel
theorem dX4_forget_10 : decode cX4_forget 10 = .ok (.dup, 1) := by decide +kernel
theorem dX4_forget_11 : decode cX4_forget 11 = .ok (.getfield 68, 3) := by decide +kernel
theorem dX4_forget_14 : decode cX4_forget 14 = .ok (.iconst 1, 1) := by decide +kernel
theorem dX4_forget_15 : decode cX4_forget 15 = .ok (.isub, 1) := by decide +kernel
theorem dX4_forget_16 : decode cX4_forget 16 = .ok (.putfield 68, 3) := by decide +kernel
theorem dX4_forget_19 : decode cX4_forget 19 = .ok (.aload_n 0, 1) := by decide +kernel
theorem dX4_forget_20 : decode cX4_forget 20 = .ok (.getfield 25, 3) := by decide +kernel
theorem dX4_forget_23 : decode cX4_forget 23 = .ok (.iload_n 1, 1) := by decide +kernel
theorem dX4_forget_24 : decode cX4_forget 24 = .ok (.iconst 0, 1) := by decide +kernel
theorem dX4_forget_25 : decode cX4_forget 25 = .ok (.iastore, 1) := by decide +kernel
theorem dX4_forget_26 : decode cX4_forget 26 = .ok (.aload_n 0, 1) := by decide +kernel
theorem dX4_forget_27 : decode cX4_forget 27 = .ok (.getfield 29, 3) := by decide +kernel
theorem dX4_forget_30 : decode cX4_forget 30 = .ok (.iload_n 1, 1) := by decide +kernel
theorem dX4_forget_31 : decode cX4_forget 31 = .ok (.iconst (-1), 1) := by decide +kernel
theorem dX4_forget_32 : decode cX4_forget 32 = .ok (.iastore, 1) := by decide +kernel
theorem dX4_forget_33 : decode cX4_forget 33 = .ok (.aload_n 0, 1) := by decide +kernel
theorem dX4_forget_34 : decode cX4_forget 34 = .ok (.getfield 32, 3) := by decide +kernel
theorem dX4_forget_37 : decode cX4_forget 37 = .ok (.iload_n 1, 1) := by decide +kernel
theorem dX4_forget_38 : decode cX4_forget 38 = .ok (.iconst (-1), 1) := by decide +kernel
theorem dX4_forget_39 : decode cX4_forget 39 = .ok (.iastore, 1) := by decide +kernel
theorem dX4_forget_40 : decode cX4_forget 40 = .ok (.aload_n 0, 1) := by decide +kernel
theorem dX4_forget_41 : decode cX4_forget 41 = .ok (.getfield 35, 3) := by decide +kernel
theorem dX4_forget_44 : decode cX4_forget 44 = .ok (.iload_n 1, 1) := by decide +kernel
theorem dX4_forget_45 : decode cX4_forget 45 = .ok (.iconst 0, 1) := by decide +kernel
theorem dX4_forget_46 : decode cX4_forget 46 = .ok (.iastore, 1) := by decide +kernel
theorem dX4_forget_47 : decode cX4_forget 47 = .ok (.aload_n 0, 1) := by decide +kernel
theorem dX4_forget_48 : decode cX4_forget 48 = .ok (.getfield 38, 3) := by decide +kernel
theorem dX4_forget_51 : decode cX4_forget 51 = .ok (.iload_n 1, 1) := by decide +kernel
theorem dX4_forget_52 : decode cX4_forget 52 = .ok (.iconst 0, 1) := by decide +kernel
theorem dX4_forget_53 : decode cX4_forget 53 = .ok (.bastore, 1) := by decide +kernel
theorem dX4_forget_54 : decode cX4_forget 54 = .ok (.aload_n 0, 1) := by decide +kernel
theorem dX4_forget_55 : decode cX4_forget 55 = .ok (.getfield 12, 3) := by decide +kernel
theorem dX4_forget_58 : decode cX4_forget 58 = .ok (.iload_n 1, 1) := by decide +kernel
theorem dX4_forget_59 : decode cX4_forget 59 = .ok (.invokevirtual 113, 3) := by decide +kernel
theorem dX4_forget_62 : decode cX4_forget 62 = .ok (.return_, 1) := by decide +kernel
theorem dX4_rank_0 : decode cX4_rank 0 = .ok (.iconst 0, 1) := by decide +kernel
theorem dX4_rank_1 : decode cX4_rank 1 = .ok (.istore_n 1, 1) := by decide +kernel
theorem dX4_rank_2 : decode cX4_rank 2 = .ok (.iconst 0, 1) := by decide +kernel
theorem dX4_rank_3 : decode cX4_rank 3 = .ok (.istore_n 2, 1) := by decide +kernel
theorem dX4_rank_4 : decode cX4_rank 4 = .ok (.iload_n 2, 1) := by decide +kernel
theorem dX4_rank_5 : decode cX4_rank 5 = .ok (.bipush 16, 2) := by decide +kernel
theorem dX4_rank_7 : decode cX4_rank 7 = .ok (.if_icmp .ge 79, 3) := by decide +kernel
theorem dX4_rank_10 : decode cX4_rank 10 = .ok (.aload_n 0, 1) := by decide +kernel
theorem dX4_rank_11 : decode cX4_rank 11 = .ok (.getfield 25, 3) := by decide +kernel
theorem dX4_rank_14 : decode cX4_rank 14 = .ok (.iload_n 2, 1) := by decide +kernel
theorem dX4_rank_15 : decode cX4_rank 15 = .ok (.iaload, 1) := by decide +kernel
theorem dX4_rank_16 : decode cX4_rank 16 = .ok (.ifCond .ne 6, 3) := by decide +kernel
theorem dX4_rank_19 : decode cX4_rank 19 = .ok (.goto 61, 3) := by decide +kernel
theorem dX4_rank_22 : decode cX4_rank 22 = .ok (.iload_n 1, 1) := by decide +kernel
theorem dX4_rank_23 : decode cX4_rank 23 = .ok (.istore_n 3, 1) := by decide +kernel
theorem dX4_rank_24 : decode cX4_rank 24 = .ok (.iload_n 3, 1) := by decide +kernel
theorem dX4_rank_25 : decode cX4_rank 25 = .ok (.ifCond .le 45, 3) := by decide +kernel
theorem dX4_rank_28 : decode cX4_rank 28 = .ok (.aload_n 0, 1) := by decide +kernel
theorem dX4_rank_29 : decode cX4_rank 29 = .ok (.getfield 25, 3) := by decide +kernel
theorem dX4_rank_32 : decode cX4_rank 32 = .ok (.aload_n 0, 1) := by decide +kernel
theorem dX4_rank_33 : decode cX4_rank 33 = .ok (.getfield 42, 3) := by decide +kernel
theorem dX4_rank_36 : decode cX4_rank 36 = .ok (.iload_n 3, 1) := by decide +kernel
theorem dX4_rank_37 : decode cX4_rank 37 = .ok (.iconst 1, 1) := by decide +kernel
theorem dX4_rank_38 : decode cX4_rank 38 = .ok (.isub, 1) := by decide +kernel
theorem dX4_rank_39 : decode cX4_rank 39 = .ok (.iaload, 1) := by decide +kernel
theorem dX4_rank_40 : decode cX4_rank 40 = .ok (.iaload, 1) := by decide +kernel
theorem dX4_rank_41 : decode cX4_rank 41 = .ok (.aload_n 0, 1) := by decide +kernel
theorem dX4_rank_42 : decode cX4_rank 42 = .ok (.getfield 25, 3) := by decide +kernel
theorem dX4_rank_45 : decode cX4_rank 45 = .ok (.iload_n 2, 1) := by decide +kernel
theorem dX4_rank_46 : decode cX4_rank 46 = .ok (.iaload, 1) := by decide +kernel
theorem dX4_rank_47 : decode cX4_rank 47 = .ok (.if_icmp .le 23, 3) := by decide +kernel
theorem dX4_rank_50 : decode cX4_rank 50 = .ok (.aload_n 0, 1) := by decide +kernel
theorem dX4_rank_51 : decode cX4_rank 51 = .ok (.getfield 42, 3) := by decide +kernel
theorem dX4_rank_54 : decode cX4_rank 54 = .ok (.iload_n 3, 1) := by decide +kernel
theorem dX4_rank_55 : decode cX4_rank 55 = .ok (.aload_n 0, 1) := by decide +kernel
theorem dX4_rank_56 : decode cX4_rank 56 = .ok (.getfield 42, 3) := by decide +kernel
theorem dX4_rank_59 : decode cX4_rank 59 = .ok (.iload_n 3, 1) := by decide +kernel
theorem dX4_rank_60 : decode cX4_rank 60 = .ok (.iconst 1, 1) := by decide +kernel
theorem dX4_rank_61 : decode cX4_rank 61 = .ok (.isub, 1) := by decide +kernel
theorem dX4_rank_62 : decode cX4_rank 62 = .ok (.iaload, 1) := by decide +kernel
theorem dX4_rank_63 : decode cX4_rank 63 = .ok (.iastore, 1) := by decide +kernel
theorem dX4_rank_64 : decode cX4_rank 64 = .ok (.iinc 3 (-1), 3) := by decide +kernel
theorem dX4_rank_67 : decode cX4_rank 67 = .ok (.goto (-43), 3) := by decide +kernel
theorem dX4_rank_70 : decode cX4_rank 70 = .ok (.aload_n 0, 1) := by decide +kernel
theorem dX4_rank_71 : decode cX4_rank 71 = .ok (.getfield 42, 3) := by decide +kernel
theorem dX4_rank_74 : decode cX4_rank 74 = .ok (.iload_n 3, 1) := by decide +kernel
theorem dX4_rank_75 : decode cX4_rank 75 = .ok (.iload_n 2, 1) := by decide +kernel
theorem dX4_rank_76 : decode cX4_rank 76 = .ok (.iastore, 1) := by decide +kernel
theorem dX4_rank_77 : decode cX4_rank 77 = .ok (.iinc 1 1, 3) := by decide +kernel
theorem dX4_rank_80 : decode cX4_rank 80 = .ok (.iinc 2 1, 3) := by decide +kernel
theorem dX4_rank_83 : decode cX4_rank 83 = .ok (.goto (-79), 3) := by decide +kernel
theorem dX4_rank_86 : decode cX4_rank 86 = .ok (.iconst 0, 1) := by decide +kernel
theorem dX4_rank_87 : decode cX4_rank 87 = .ok (.istore_n 2, 1) := by decide +kernel
theorem dX4_rank_88 : decode cX4_rank 88 = .ok (.iload_n 2, 1) := by decide +kernel
theorem dX4_rank_89 : decode cX4_rank 89 = .ok (.iload_n 1, 1) := by decide +kernel
theorem dX4_rank_90 : decode cX4_rank 90 = .ok (.if_icmp .ge 23, 3) := by decide +kernel
theorem dX4_rank_93 : decode cX4_rank 93 = .ok (.aload_n 0, 1) := by decide +kernel
theorem dX4_rank_94 : decode cX4_rank 94 = .ok (.getfield 45, 3) := by decide +kernel
theorem dX4_rank_97 : decode cX4_rank 97 = .ok (.aload_n 0, 1) := by decide +kernel
theorem dX4_rank_98 : decode cX4_rank 98 = .ok (.getfield 42, 3) := by decide +kernel
theorem dX4_rank_101 : decode cX4_rank 101 = .ok (.iload_n 2, 1) := by decide +kernel
theorem dX4_rank_102 : decode cX4_rank 102 = .ok (.iaload, 1) := by decide +kernel
theorem dX4_rank_103 : decode cX4_rank 103 = .ok (.iload_n 2, 1) := by decide +kernel
theorem dX4_rank_104 : decode cX4_rank 104 = .ok (.iconst 1, 1) := by decide +kernel
theorem dX4_rank_105 : decode cX4_rank 105 = .ok (.iadd, 1) := by decide +kernel
theorem dX4_rank_106 : decode cX4_rank 106 = .ok (.iastore, 1) := by decide +kernel
theorem dX4_rank_107 : decode cX4_rank 107 = .ok (.iinc 2 1, 3) := by decide +kernel
theorem dX4_rank_110 : decode cX4_rank 110 = .ok (.goto (-22), 3) := by decide +kernel
theorem dX4_rank_113 : decode cX4_rank 113 = .ok (.return_, 1) := by decide +kernel
set_option maxRecDepth 20000 in
theorem ggX4_beginsBunch_X4_space : GoodIn wsX4_beginsBunch wsX4_space := goodIn_r _ [6, 7, 8, 9, 10, 11, 12, 13, 14, 15, 16, 17, 18, 19, 20, 21, 22, 23, 24, 25, 26, 27, 28] rfl (by decide +kernel)
set_option maxRecDepth 20000 in
theorem gX4_beginsBunch_X4_space : GoodIn wsX4_beginsBunch (wsV RX4 117 RX4 yX4_space wsX4_space) := goodIn_app (goodIn_of _ (by decide +kernel)) ggX4_beginsBunch_X4_space
theorem dX4_beginsBunch_0 : decode cX4_beginsBunch 0 = .ok (.iload_n 1, 1) := by decide +kernel
theorem dX4_beginsBunch_1 : decode cX4_beginsBunch 1 = .ok (.ifCond .eq 23, 3) := by decide +kernel
theorem dX4_beginsBunch_4 : decode cX4_beginsBunch 4 = .ok (.aload_n 0, 1) := by decide +kernel
theorem dX4_beginsBunch_5 : decode cX4_beginsBunch 5 = .ok (.getfield 12, 3) := by decide +kernel
theorem dX4_beginsBunch_8 : decode cX4_beginsBunch 8 = .ok (.getfield 114, 3) := by decide +kernel
theorem dX4_beginsBunch_11 : decode cX4_beginsBunch 11 = .ok (.iconst 3, 1) := by decide +kernel
theorem dX4_beginsBunch_12 : decode cX4_beginsBunch 12 = .ok (.if_icmp .eq 12, 3) := by decide +kernel
theorem dX4_beginsBunch_15 : decode cX4_beginsBunch 15 = .ok (.aload_n 0, 1) := by decide +kernel
theorem dX4_beginsBunch_16 : decode cX4_beginsBunch 16 = .ok (.iload_n 1, 1) := by decide +kernel
theorem dX4_beginsBunch_17 : decode cX4_beginsBunch 17 = .ok (.invokevirtual 117, 3) := by decide +kernel
theorem dX4_beginsBunch_20 : decode cX4_beginsBunch 20 = .ok (.iload_n 2, 1) := by decide +kernel
theorem dX4_beginsBunch_21 : decode cX4_beginsBunch 21 = .ok (.if_icmp .lt 7, 3) := by decide +kernel
theorem dX4_beginsBunch_24 : decode cX4_beginsBunch 24 = .ok (.iconst 1, 1) := by decide +kernel
theorem dX4_beginsBunch_25 : decode cX4_beginsBunch 25 = .ok (.goto 4, 3) := by decide +kernel
theorem dX4_beginsBunch_28 : decode cX4_beginsBunch 28 = .ok (.iconst 0, 1) := by decide +kernel
theorem dX4_beginsBunch_29 : decode cX4_beginsBunch 29 = .ok (.ireturn, 1) := by decide +kernel
theorem dX4_space_0 : decode cX4_space 0 = .ok (.aload_n 0, 1) := by decide +kernel
theorem dX4_space_1 : decode cX4_space 1 = .ok (.getfield 25, 3) := by decide +kernel
theorem dX4_space_4 : decode cX4_space 4 = .ok (.aload_n 0, 1) := by decide +kernel
theorem dX4_space_5 : decode cX4_space 5 = .ok (.getfield 42, 3) := by decide +kernel
theorem dX4_space_8 : decode cX4_space 8 = .ok (.iload_n 1, 1) := by decide +kernel
theorem dX4_space_9 : decode cX4_space 9 = .ok (.iaload, 1) := by decide +kernel
theorem dX4_space_10 : decode cX4_space 10 = .ok (.iaload, 1) := by decide +kernel
theorem dX4_space_11 : decode cX4_space 11 = .ok (.aload_n 0, 1) := by decide +kernel
theorem dX4_space_12 : decode cX4_space 12 = .ok (.getfield 25, 3) := by decide +kernel
theorem dX4_space_15 : decode cX4_space 15 = .ok (.aload_n 0, 1) := by decide +kernel
theorem dX4_space_16 : decode cX4_space 16 = .ok (.getfield 42, 3) := by decide +kernel
theorem dX4_space_19 : decode cX4_space 19 = .ok (.iload_n 1, 1) := by decide +kernel
theorem dX4_space_20 : decode cX4_space 20 = .ok (.iconst 1, 1) := by decide +kernel
theorem dX4_space_21 : decode cX4_space 21 = .ok (.isub, 1) := by decide +kernel
theorem dX4_space_22 : decode cX4_space 22 = .ok (.iaload, 1) := by decide +kernel
theorem dX4_space_23 : decode cX4_space 23 = .ok (.iaload, 1) := by decide +kernel
theorem dX4_space_24 : decode cX4_space 24 = .ok (.isub, 1) := by decide +kernel
theorem dX4_space_25 : decode cX4_space 25 = .ok (.ireturn, 1) := by decide +kernel
set_option maxRecDepth 20000 in
theorem ggX4_split_X4_beginsBunch : GoodIn wsX4_split wsX4_beginsBunch := goodIn_r _ [11, 12, 13, 14, 15, 10, 16, 6, 2, 17, 18, 19, 20, 21, 22, 23, 24, 25, 26, 27, 28, 29, 30, 31, 32, 33, 34, 35, 36, 37, 38, 39, 40, 41, 42, 43] rfl (by decide +kernel)
set_option maxRecDepth 20000 in
theorem gX4_split_X4_beginsBunch : GoodIn wsX4_split (wsV RX4 121 RX4 yX4_beginsBunch wsX4_beginsBunch) := goodIn_app (goodIn_of _ (by decide +kernel)) ggX4_split_X4_beginsBunch
theorem dX4_split_0 : decode cX4_split 0 = .ok (.aload_n 0, 1) := by decide +kernel
theorem dX4_split_1 : decode cX4_split 1 = .ok (.iconst 0, 1) := by decide +kernel
theorem dX4_split_2 : decode cX4_split 2 = .ok (.putfield 85, 3) := by decide +kernel
theorem dX4_split_5 : decode cX4_split 5 = .ok (.aload_n 0, 1) := by decide +kernel
theorem dX4_split_6 : decode cX4_split 6 = .ok (.getfield 42, 3) := by decide +kernel
theorem dX4_split_9 : decode cX4_split 9 = .ok (.iconst 0, 1) := by decide +kernel
theorem dX4_split_10 : decode cX4_split 10 = .ok (.iaload, 1) := by decide +kernel
theorem dX4_split_11 : decode cX4_split 11 = .ok (.istore_n 2, 1) := by decide +kernel
theorem dX4_split_12 : decode cX4_split 12 = .ok (.iconst 0, 1) := by decide +kernel
theorem dX4_split_13 : decode cX4_split 13 = .ok (.istore_n 3, 1) := by decide +kernel
theorem dX4_split_14 : decode cX4_split 14 = .ok (.iload_n 3, 1) := by decide +kernel
theorem dX4_split_15 : decode cX4_split 15 = .ok (.aload_n 0, 1) := by decide +kernel
theorem dX4_split_16 : decode cX4_split 16 = .ok (.getfield 68, 3) := by decide +kernel
theorem dX4_split_19 : decode cX4_split 19 = .ok (.if_icmp .ge 68, 3) := by decide +kernel
theorem dX4_split_22 : decode cX4_split 22 = .ok (.aload_n 0, 1) := by decide +kernel
theorem dX4_split_23 : decode cX4_split 23 = .ok (.getfield 42, 3) := by decide +kernel
theorem dX4_split_26 : decode cX4_split 26 = .ok (.iload_n 3, 1) := by decide +kernel
theorem dX4_split_27 : decode cX4_split 27 = .ok (.iaload, 1) := by decide +kernel
theorem dX4_split_28 : decode cX4_split 28 = .ok (.istore 4, 2) := by decide +kernel
theorem dX4_split_30 : decode cX4_split 30 = .ok (.aload_n 0, 1) := by decide +kernel
theorem dX4_split_31 : decode cX4_split 31 = .ok (.iload_n 3, 1) := by decide +kernel
theorem dX4_split_32 : decode cX4_split 32 = .ok (.iload_n 1, 1) := by decide +kernel
theorem dX4_split_33 : decode cX4_split 33 = .ok (.invokevirtual 121, 3) := by decide +kernel
theorem dX4_split_36 : decode cX4_split 36 = .ok (.ifCond .eq 16, 3) := by decide +kernel
theorem dX4_split_39 : decode cX4_split 39 = .ok (.aload_n 0, 1) := by decide +kernel
theorem dX4_split_40 : decode cX4_split 40 = .ok (.dup, 1) := by decide +kernel
theorem dX4_split_41 : decode cX4_split 41 = .ok (.getfield 85, 3) := by decide +kernel
theorem dX4_split_44 : decode cX4_split 44 = .ok (.iconst 1, 1) := by decide +kernel
theorem dX4_split_45 : decode cX4_split 45 = .ok (.iadd, 1) := by decide +kernel
theorem dX4_split_46 : decode cX4_split 46 = .ok (.putfield 85, 3) := by decide +kernel
theorem dX4_split_49 : decode cX4_split 49 = .ok (.iload 4, 2) := by decide +kernel
theorem dX4_split_51 : decode cX4_split 51 = .ok (.istore_n 2, 1) := by decide +kernel
theorem dX4_split_52 : decode cX4_split 52 = .ok (.aload_n 0, 1) := by decide +kernel
theorem dX4_split_53 : decode cX4_split 53 = .ok (.getfield 48, 3) := by decide +kernel
theorem dX4_split_56 : decode cX4_split 56 = .ok (.iload 4, 2) := by decide +kernel
theorem dX4_split_58 : decode cX4_split 58 = .ok (.aload_n 0, 1) := by decide +kernel
theorem dX4_split_59 : decode cX4_split 59 = .ok (.getfield 85, 3) := by decide +kernel
theorem dX4_split_62 : decode cX4_split 62 = .ok (.iconst 1, 1) := by decide +kernel
theorem dX4_split_63 : decode cX4_split 63 = .ok (.isub, 1) := by decide +kernel
theorem dX4_split_64 : decode cX4_split 64 = .ok (.iastore, 1) := by decide +kernel
theorem dX4_split_65 : decode cX4_split 65 = .ok (.aload_n 0, 1) := by decide +kernel
theorem dX4_split_66 : decode cX4_split 66 = .ok (.getfield 51, 3) := by decide +kernel
theorem dX4_split_69 : decode cX4_split 69 = .ok (.iload 4, 2) := by decide +kernel
theorem dX4_split_71 : decode cX4_split 71 = .ok (.aload_n 0, 1) := by decide +kernel
theorem dX4_split_72 : decode cX4_split 72 = .ok (.getfield 25, 3) := by decide +kernel
theorem dX4_split_75 : decode cX4_split 75 = .ok (.iload_n 2, 1) := by decide +kernel
theorem dX4_split_76 : decode cX4_split 76 = .ok (.iaload, 1) := by decide +kernel
theorem dX4_split_77 : decode cX4_split 77 = .ok (.bipush 10, 2) := by decide +kernel
theorem dX4_split_79 : decode cX4_split 79 = .ok (.idiv, 1) := by decide +kernel
theorem dX4_split_80 : decode cX4_split 80 = .ok (.iastore, 1) := by decide +kernel
theorem dX4_split_81 : decode cX4_split 81 = .ok (.iinc 3 1, 3) := by decide +kernel
theorem dX4_split_84 : decode cX4_split 84 = .ok (.goto (-70), 3) := by decide +kernel
theorem dX4_split_87 : decode cX4_split 87 = .ok (.return_, 1) := by decide +kernel
set_option maxRecDepth 20000 in
theorem ggX4_takeTimes_X4_leastRaw : GoodIn wsX4_takeTimes wsX4_leastRaw := goodIn_r _ [14, 15, 16, 6, 7, 8, 9, 17, 18, 19, 13, 20, 21, 22, 23, 24, 25, 26, 27, 28, 29, 30, 31, 32, 33, 34, 35, 36, 37, 38, 39, 40, 41, 42, 43, 44, 45, 46, 47, 48, 49, 50, 51, 52, 53, 54, 55, 56, 57] rfl (by decide +kernel)
set_option maxRecDepth 20000 in
theorem gX4_takeTimes_X4_leastRaw : GoodIn wsX4_takeTimes (wsV RX4 126 RX4 yX4_leastRaw wsX4_leastRaw) := goodIn_app (goodIn_of _ (by decide +kernel)) ggX4_takeTimes_X4_leastRaw
theorem dX4_takeTimes_0 : decode cX4_takeTimes 0 = .ok (.aload_n 0, 1) := by decide +kernel
theorem dX4_takeTimes_1 : decode cX4_takeTimes 1 = .ok (.ldc 125, 2) := by decide +kernel
theorem dX4_takeTimes_3 : decode cX4_takeTimes 3 = .ok (.putfield 88, 3) := by decide +kernel
theorem dX4_takeTimes_6 : decode cX4_takeTimes 6 = .ok (.iconst 0, 1) := by decide +kernel
theorem dX4_takeTimes_7 : decode cX4_takeTimes 7 = .ok (.istore_n 2, 1) := by decide +kernel
theorem dX4_takeTimes_8 : decode cX4_takeTimes 8 = .ok (.iload_n 2, 1) := by decide +kernel
theorem dX4_takeTimes_9 : decode cX4_takeTimes 9 = .ok (.aload_n 0, 1) := by decide +kernel
theorem dX4_takeTimes_10 : decode cX4_takeTimes 10 = .ok (.getfield 68, 3) := by decide +kernel
theorem dX4_takeTimes_13 : decode cX4_takeTimes 13 = .ok (.if_icmp .ge 45, 3) := by decide +kernel
theorem dX4_takeTimes_16 : decode cX4_takeTimes 16 = .ok (.aload_n 0, 1) := by decide +kernel
theorem dX4_takeTimes_17 : decode cX4_takeTimes 17 = .ok (.getfield 42, 3) := by decide +kernel
theorem dX4_takeTimes_20 : decode cX4_takeTimes 20 = .ok (.iload_n 2, 1) := by decide +kernel
theorem dX4_takeTimes_21 : decode cX4_takeTimes 21 = .ok (.iaload, 1) := by decide +kernel
theorem dX4_takeTimes_22 : decode cX4_takeTimes 22 = .ok (.istore_n 3, 1) := by decide +kernel
theorem dX4_takeTimes_23 : decode cX4_takeTimes 23 = .ok (.aload_n 0, 1) := by decide +kernel
theorem dX4_takeTimes_24 : decode cX4_takeTimes 24 = .ok (.getfield 54, 3) := by decide +kernel
theorem dX4_takeTimes_27 : decode cX4_takeTimes 27 = .ok (.iload_n 3, 1) := by decide +kernel
theorem dX4_takeTimes_28 : decode cX4_takeTimes 28 = .ok (.aload_n 0, 1) := by decide +kernel
theorem dX4_takeTimes_29 : decode cX4_takeTimes 29 = .ok (.iload_n 3, 1) := by decide +kernel
theorem dX4_takeTimes_30 : decode cX4_takeTimes 30 = .ok (.iload_n 1, 1) := by decide +kernel
theorem dX4_takeTimes_31 : decode cX4_takeTimes 31 = .ok (.invokevirtual 126, 3) := by decide +kernel
theorem dX4_takeTimes_34 : decode cX4_takeTimes 34 = .ok (.iastore, 1) := by decide +kernel
theorem dX4_takeTimes_35 : decode cX4_takeTimes 35 = .ok (.aload_n 0, 1) := by decide +kernel
theorem dX4_takeTimes_36 : decode cX4_takeTimes 36 = .ok (.aload_n 0, 1) := by decide +kernel
theorem dX4_takeTimes_37 : decode cX4_takeTimes 37 = .ok (.getfield 88, 3) := by decide +kernel
theorem dX4_takeTimes_40 : decode cX4_takeTimes 40 = .ok (.aload_n 0, 1) := by decide +kernel
theorem dX4_takeTimes_41 : decode cX4_takeTimes 41 = .ok (.getfield 54, 3) := by decide +kernel
theorem dX4_takeTimes_44 : decode cX4_takeTimes 44 = .ok (.iload_n 3, 1) := by decide +kernel
theorem dX4_takeTimes_45 : decode cX4_takeTimes 45 = .ok (.iaload, 1) := by decide +kernel
theorem dX4_takeTimes_46 : decode cX4_takeTimes 46 = .ok (.invokestatic 130, 3) := by decide +kernel
theorem dX4_takeTimes_49 : decode cX4_takeTimes 49 = .ok (.putfield 88, 3) := by decide +kernel
theorem dX4_takeTimes_52 : decode cX4_takeTimes 52 = .ok (.iinc 2 1, 3) := by decide +kernel
theorem dX4_takeTimes_55 : decode cX4_takeTimes 55 = .ok (.goto (-47), 3) := by decide +kernel
theorem dX4_takeTimes_58 : decode cX4_takeTimes 58 = .ok (.return_, 1) := by decide +kernel
set_option maxRecDepth 20000 in
theorem ggX4_leastRaw_X4_fallCounts : GoodIn wsX4_leastRaw wsX4_fallCounts := goodIn_r _ [11, 12, 13, 22, 23, 24, 25, 26, 27, 28, 29, 30, 31, 32, 33, 34, 35, 36, 37, 38, 39, 40, 41, 42, 43, 44, 45, 46, 47, 48] rfl (by decide +kernel)
set_option maxRecDepth 20000 in
theorem gX4_leastRaw_X4_fallCounts : GoodIn wsX4_leastRaw (wsV RX4 135 RX4 yX4_fallCounts wsX4_fallCounts) := goodIn_app (goodIn_of _ (by decide +kernel)) ggX4_leastRaw_X4_fallCounts
set_option maxRecDepth 20000 in
theorem ggX4_leastRaw_X4_hasFinish : GoodIn wsX4_leastRaw wsX4_hasFinish := goodIn_r _ [17, 18, 19, 20, 21, 22, 23, 24, 25, 26, 27, 28, 29, 30, 31, 32, 33, 34, 35, 36, 37, 38, 39, 40, 41] rfl (by decide +kernel)
set_option maxRecDepth 20000 in
theorem gX4_leastRaw_X4_hasFinish : GoodIn wsX4_leastRaw (wsV RX4 138 RX4 yX4_hasFinish wsX4_hasFinish) := goodIn_app (goodIn_of _ (by decide +kernel)) ggX4_leastRaw_X4_hasFinish
theorem dX4_leastRaw_0 : decode cX4_leastRaw 0 = .ok (.aload_n 0, 1) := by decide +kernel
theorem dX4_leastRaw_1 : decode cX4_leastRaw 1 = .ok (.getfield 51, 3) := by decide +kernel
theorem dX4_leastRaw_4 : decode cX4_leastRaw 4 = .ok (.iload_n 1, 1) := by decide +kernel
theorem dX4_leastRaw_5 : decode cX4_leastRaw 5 = .ok (.iaload, 1) := by decide +kernel
theorem dX4_leastRaw_6 : decode cX4_leastRaw 6 = .ok (.istore_n 3, 1) := by decide +kernel
theorem dX4_leastRaw_7 : decode cX4_leastRaw 7 = .ok (.iload_n 1, 1) := by decide +kernel
theorem dX4_leastRaw_8 : decode cX4_leastRaw 8 = .ok (.istore 4, 2) := by decide +kernel
theorem dX4_leastRaw_10 : decode cX4_leastRaw 10 = .ok (.iconst 0, 1) := by decide +kernel
theorem dX4_leastRaw_11 : decode cX4_leastRaw 11 = .ok (.istore 5, 2) := by decide +kernel
theorem dX4_leastRaw_13 : decode cX4_leastRaw 13 = .ok (.iload 5, 2) := by decide +kernel
theorem dX4_leastRaw_15 : decode cX4_leastRaw 15 = .ok (.bipush 16, 2) := by decide +kernel
theorem dX4_leastRaw_17 : decode cX4_leastRaw 17 = .ok (.if_icmp .ge 54, 3) := by decide +kernel
theorem dX4_leastRaw_20 : decode cX4_leastRaw 20 = .ok (.aload_n 0, 1) := by decide +kernel
theorem dX4_leastRaw_21 : decode cX4_leastRaw 21 = .ok (.iload 4, 2) := by decide +kernel
theorem dX4_leastRaw_23 : decode cX4_leastRaw 23 = .ok (.iload_n 2, 1) := by decide +kernel
theorem dX4_leastRaw_24 : decode cX4_leastRaw 24 = .ok (.invokevirtual 135, 3) := by decide +kernel
theorem dX4_leastRaw_27 : decode cX4_leastRaw 27 = .ok (.ifCond .eq 44, 3) := by decide +kernel
theorem dX4_leastRaw_30 : decode cX4_leastRaw 30 = .ok (.aload_n 0, 1) := by decide +kernel
theorem dX4_leastRaw_31 : decode cX4_leastRaw 31 = .ok (.aload_n 0, 1) := by decide +kernel
theorem dX4_leastRaw_32 : decode cX4_leastRaw 32 = .ok (.getfield 32, 3) := by decide +kernel
theorem dX4_leastRaw_35 : decode cX4_leastRaw 35 = .ok (.iload 4, 2) := by decide +kernel
theorem dX4_leastRaw_37 : decode cX4_leastRaw 37 = .ok (.iaload, 1) := by decide +kernel
theorem dX4_leastRaw_38 : decode cX4_leastRaw 38 = .ok (.invokevirtual 138, 3) := by decide +kernel
theorem dX4_leastRaw_41 : decode cX4_leastRaw 41 = .ok (.ifCond .eq 30, 3) := by decide +kernel
theorem dX4_leastRaw_44 : decode cX4_leastRaw 44 = .ok (.aload_n 0, 1) := by decide +kernel
theorem dX4_leastRaw_45 : decode cX4_leastRaw 45 = .ok (.getfield 32, 3) := by decide +kernel
theorem dX4_leastRaw_48 : decode cX4_leastRaw 48 = .ok (.iload 4, 2) := by decide +kernel
theorem dX4_leastRaw_50 : decode cX4_leastRaw 50 = .ok (.iaload, 1) := by decide +kernel
theorem dX4_leastRaw_51 : decode cX4_leastRaw 51 = .ok (.istore 4, 2) := by decide +kernel
theorem dX4_leastRaw_53 : decode cX4_leastRaw 53 = .ok (.iload_n 3, 1) := by decide +kernel
theorem dX4_leastRaw_54 : decode cX4_leastRaw 54 = .ok (.aload_n 0, 1) := by decide +kernel
theorem dX4_leastRaw_55 : decode cX4_leastRaw 55 = .ok (.getfield 51, 3) := by decide +kernel
theorem dX4_leastRaw_58 : decode cX4_leastRaw 58 = .ok (.iload 4, 2) := by decide +kernel
theorem dX4_leastRaw_60 : decode cX4_leastRaw 60 = .ok (.iaload, 1) := by decide +kernel
theorem dX4_leastRaw_61 : decode cX4_leastRaw 61 = .ok (.invokestatic 130, 3) := by decide +kernel
theorem dX4_leastRaw_64 : decode cX4_leastRaw 64 = .ok (.istore_n 3, 1) := by decide +kernel
theorem dX4_leastRaw_65 : decode cX4_leastRaw 65 = .ok (.iinc 5 1, 3) := by decide +kernel
theorem dX4_leastRaw_68 : decode cX4_leastRaw 68 = .ok (.goto (-55), 3) := by decide +kernel
theorem dX4_leastRaw_71 : decode cX4_leastRaw 71 = .ok (.iload_n 3, 1) := by decide +kernel
theorem dX4_leastRaw_72 : decode cX4_leastRaw 72 = .ok (.ireturn, 1) := by decide +kernel
set_option maxRecDepth 20000 in
theorem ggX4_hasFinish_X8_within : GoodIn wsX4_hasFinish wsX8_within := goodIn_r _ [4] rfl (by decide +kernel)
set_option maxRecDepth 20000 in
theorem gX4_hasFinish_X8_within_n105 : GoodIn wsX4_hasFinish (wsX8_within) := ggX4_hasFinish_X8_within
theorem dX4_hasFinish_0 : decode cX4_hasFinish 0 = .ok (.iload_n 1, 1) := by decide +kernel
theorem dX4_hasFinish_1 : decode cX4_hasFinish 1 = .ok (.iconst 0, 1) := by decide +kernel
theorem dX4_hasFinish_2 : decode cX4_hasFinish 2 = .ok (.bipush 15, 2) := by decide +kernel
theorem dX4_hasFinish_4 : decode cX4_hasFinish 4 = .ok (.invokestatic 105, 3) := by decide +kernel
theorem dX4_hasFinish_7 : decode cX4_hasFinish 7 = .ok (.ifCond .eq 16, 3) := by decide +kernel
theorem dX4_hasFinish_10 : decode cX4_hasFinish 10 = .ok (.aload_n 0, 1) := by decide +kernel
theorem dX4_hasFinish_11 : decode cX4_hasFinish 11 = .ok (.getfield 25, 3) := by decide +kernel
theorem dX4_hasFinish_14 : decode cX4_hasFinish 14 = .ok (.iload_n 1, 1) := by decide +kernel
theorem dX4_hasFinish_15 : decode cX4_hasFinish 15 = .ok (.iaload, 1) := by decide +kernel
theorem dX4_hasFinish_16 : decode cX4_hasFinish 16 = .ok (.ifCond .eq 7, 3) := by decide +kernel
theorem dX4_hasFinish_19 : decode cX4_hasFinish 19 = .ok (.iconst 1, 1) := by decide +kernel
theorem dX4_hasFinish_20 : decode cX4_hasFinish 20 = .ok (.goto 4, 3) := by decide +kernel
theorem dX4_hasFinish_23 : decode cX4_hasFinish 23 = .ok (.iconst 0, 1) := by decide +kernel
theorem dX4_hasFinish_24 : decode cX4_hasFinish 24 = .ok (.ireturn, 1) := by decide +kernel
theorem dX4_fallCounts_0 : decode cX4_fallCounts 0 = .ok (.aload_n 0, 1) := by decide +kernel
theorem dX4_fallCounts_1 : decode cX4_fallCounts 1 = .ok (.getfield 12, 3) := by decide +kernel
theorem dX4_fallCounts_4 : decode cX4_fallCounts 4 = .ok (.getfield 114, 3) := by decide +kernel
theorem dX4_fallCounts_7 : decode cX4_fallCounts 7 = .ok (.ifCond .eq 14, 3) := by decide +kernel
theorem dX4_fallCounts_10 : decode cX4_fallCounts 10 = .ok (.aload_n 0, 1) := by decide +kernel
theorem dX4_fallCounts_11 : decode cX4_fallCounts 11 = .ok (.getfield 12, 3) := by decide +kernel
theorem dX4_fallCounts_14 : decode cX4_fallCounts 14 = .ok (.getfield 114, 3) := by decide +kernel
theorem dX4_fallCounts_17 : decode cX4_fallCounts 17 = .ok (.iconst 1, 1) := by decide +kernel
theorem dX4_fallCounts_18 : decode cX4_fallCounts 18 = .ok (.if_icmp .ne 7, 3) := by decide +kernel
theorem dX4_fallCounts_21 : decode cX4_fallCounts 21 = .ok (.iconst 1, 1) := by decide +kernel
theorem dX4_fallCounts_22 : decode cX4_fallCounts 22 = .ok (.goto 4, 3) := by decide +kernel
theorem dX4_fallCounts_25 : decode cX4_fallCounts 25 = .ok (.iconst 0, 1) := by decide +kernel
theorem dX4_fallCounts_26 : decode cX4_fallCounts 26 = .ok (.istore_n 3, 1) := by decide +kernel
theorem dX4_fallCounts_27 : decode cX4_fallCounts 27 = .ok (.iload_n 3, 1) := by decide +kernel
theorem dX4_fallCounts_28 : decode cX4_fallCounts 28 = .ok (.ifCond .eq 27, 3) := by decide +kernel
theorem dX4_fallCounts_31 : decode cX4_fallCounts 31 = .ok (.aload_n 0, 1) := by decide +kernel
theorem dX4_fallCounts_32 : decode cX4_fallCounts 32 = .ok (.getfield 29, 3) := by decide +kernel
theorem dX4_fallCounts_35 : decode cX4_fallCounts 35 = .ok (.iload_n 1, 1) := by decide +kernel
theorem dX4_fallCounts_36 : decode cX4_fallCounts 36 = .ok (.iaload, 1) := by decide +kernel
theorem dX4_fallCounts_37 : decode cX4_fallCounts 37 = .ok (.iconst (-1), 1) := by decide +kernel
theorem dX4_fallCounts_38 : decode cX4_fallCounts 38 = .ok (.if_icmp .eq 17, 3) := by decide +kernel
theorem dX4_fallCounts_41 : decode cX4_fallCounts 41 = .ok (.aload_n 0, 1) := by decide +kernel
theorem dX4_fallCounts_42 : decode cX4_fallCounts 42 = .ok (.getfield 29, 3) := by decide +kernel
theorem dX4_fallCounts_45 : decode cX4_fallCounts 45 = .ok (.iload_n 1, 1) := by decide +kernel
theorem dX4_fallCounts_46 : decode cX4_fallCounts 46 = .ok (.iaload, 1) := by decide +kernel
theorem dX4_fallCounts_47 : decode cX4_fallCounts 47 = .ok (.iload_n 2, 1) := by decide +kernel
theorem dX4_fallCounts_48 : decode cX4_fallCounts 48 = .ok (.if_icmp .gt 7, 3) := by decide +kernel
theorem dX4_fallCounts_51 : decode cX4_fallCounts 51 = .ok (.iconst 1, 1) := by decide +kernel
theorem dX4_fallCounts_52 : decode cX4_fallCounts 52 = .ok (.goto 4, 3) := by decide +kernel
theorem dX4_fallCounts_55 : decode cX4_fallCounts 55 = .ok (.iconst 0, 1) := by decide +kernel
theorem dX4_fallCounts_56 : decode cX4_fallCounts 56 = .ok (.ireturn, 1) := by decide +kernel
theorem dX4_judge_0 : decode cX4_judge 0 = .ok (.aload_n 0, 1) := by decide +kernel
theorem dX4_judge_1 : decode cX4_judge 1 = .ok (.aload_n 0, 1) := by decide +kernel
theorem dX4_judge_2 : decode cX4_judge 2 = .ok (.getfield 12, 3) := by decide +kernel
theorem dX4_judge_5 : decode cX4_judge 5 = .ok (.getfield 109, 3) := by decide +kernel
theorem dX4_judge_8 : decode cX4_judge 8 = .ok (.sipush 3600, 3) := by decide +kernel
theorem dX4_judge_11 : decode cX4_judge 11 = .ok (.imul, 1) := by decide +kernel
theorem dX4_judge_12 : decode cX4_judge 12 = .ok (.aload_n 0, 1) := by decide +kernel
theorem dX4_judge_13 : decode cX4_judge 13 = .ok (.getfield 88, 3) := by decide +kernel
theorem dX4_judge_16 : decode cX4_judge 16 = .ok (.iconst 1, 1) := by decide +kernel
theorem dX4_judge_17 : decode cX4_judge 17 = .ok (.invokestatic 142, 3) := by decide +kernel
theorem dX4_judge_20 : decode cX4_judge 20 = .ok (.idiv, 1) := by decide +kernel
theorem dX4_judge_21 : decode cX4_judge 21 = .ok (.putfield 91, 3) := by decide +kernel
theorem dX4_judge_24 : decode cX4_judge 24 = .ok (.aload_n 0, 1) := by decide +kernel
theorem dX4_judge_25 : decode cX4_judge 25 = .ok (.getfield 91, 3) := by decide +kernel
theorem dX4_judge_28 : decode cX4_judge 28 = .ok (.bipush 38, 2) := by decide +kernel
theorem dX4_judge_30 : decode cX4_judge 30 = .ok (.isub, 1) := by decide +kernel
theorem dX4_judge_31 : decode cX4_judge 31 = .ok (.iconst 2, 1) := by decide +kernel
theorem dX4_judge_32 : decode cX4_judge 32 = .ok (.idiv, 1) := by decide +kernel
theorem dX4_judge_33 : decode cX4_judge 33 = .ok (.iconst 0, 1) := by decide +kernel
theorem dX4_judge_34 : decode cX4_judge 34 = .ok (.invokestatic 142, 3) := by decide +kernel
theorem dX4_judge_37 : decode cX4_judge 37 = .ok (.bipush 10, 2) := by decide +kernel
theorem dX4_judge_39 : decode cX4_judge 39 = .ok (.invokestatic 130, 3) := by decide +kernel
theorem dX4_judge_42 : decode cX4_judge 42 = .ok (.istore_n 1, 1) := by decide +kernel
theorem dX4_judge_43 : decode cX4_judge 43 = .ok (.aload_n 0, 1) := by decide +kernel
theorem dX4_judge_44 : decode cX4_judge 44 = .ok (.aload_n 0, 1) := by decide +kernel
theorem dX4_judge_45 : decode cX4_judge 45 = .ok (.getfield 88, 3) := by decide +kernel
theorem dX4_judge_48 : decode cX4_judge 48 = .ok (.aload_n 0, 1) := by decide +kernel
theorem dX4_judge_49 : decode cX4_judge 49 = .ok (.getfield 88, 3) := by decide +kernel
theorem dX4_judge_52 : decode cX4_judge 52 = .ok (.getstatic 145, 3) := by decide +kernel
theorem dX4_judge_55 : decode cX4_judge 55 = .ok (.aload_n 0, 1) := by decide +kernel
theorem dX4_judge_56 : decode cX4_judge 56 = .ok (.getfield 12, 3) := by decide +kernel
theorem dX4_judge_59 : decode cX4_judge 59 = .ok (.getfield 114, 3) := by decide +kernel
theorem dX4_judge_62 : decode cX4_judge 62 = .ok (.iaload, 1) := by decide +kernel
theorem dX4_judge_63 : decode cX4_judge 63 = .ok (.iload_n 1, 1) := by decide +kernel
theorem dX4_judge_64 : decode cX4_judge 64 = .ok (.iadd, 1) := by decide +kernel
theorem dX4_judge_65 : decode cX4_judge 65 = .ok (.imul, 1) := by decide +kernel
theorem dX4_judge_66 : decode cX4_judge 66 = .ok (.bipush 100, 2) := by decide +kernel
theorem dX4_judge_68 : decode cX4_judge 68 = .ok (.idiv, 1) := by decide +kernel
theorem dX4_judge_69 : decode cX4_judge 69 = .ok (.iadd, 1) := by decide +kernel
theorem dX4_judge_70 : decode cX4_judge 70 = .ok (.putfield 94, 3) := by decide +kernel
theorem dX4_judge_73 : decode cX4_judge 73 = .ok (.aload_n 0, 1) := by decide +kernel
theorem dX4_judge_74 : decode cX4_judge 74 = .ok (.iconst 0, 1) := by decide +kernel
theorem dX4_judge_75 : decode cX4_judge 75 = .ok (.putfield 97, 3) := by decide +kernel
theorem dX4_judge_78 : decode cX4_judge 78 = .ok (.iconst 0, 1) := by decide +kernel
theorem dX4_judge_79 : decode cX4_judge 79 = .ok (.istore_n 2, 1) := by decide +kernel
theorem dX4_judge_80 : decode cX4_judge 80 = .ok (.iload_n 2, 1) := by decide +kernel
theorem dX4_judge_81 : decode cX4_judge 81 = .ok (.bipush 16, 2) := by decide +kernel
theorem dX4_judge_83 : decode cX4_judge 83 = .ok (.if_icmp .ge 70, 3) := by decide +kernel
theorem dX4_judge_86 : decode cX4_judge 86 = .ok (.aload_n 0, 1) := by decide +kernel
theorem dX4_judge_87 : decode cX4_judge 87 = .ok (.getfield 57, 3) := by decide +kernel
theorem dX4_judge_90 : decode cX4_judge 90 = .ok (.iload_n 2, 1) := by decide +kernel
theorem dX4_judge_91 : decode cX4_judge 91 = .ok (.aload_n 0, 1) := by decide +kernel
theorem dX4_judge_92 : decode cX4_judge 92 = .ok (.getfield 25, 3) := by decide +kernel
theorem dX4_judge_95 : decode cX4_judge 95 = .ok (.iload_n 2, 1) := by decide +kernel
theorem dX4_judge_96 : decode cX4_judge 96 = .ok (.iaload, 1) := by decide +kernel
theorem dX4_judge_97 : decode cX4_judge 97 = .ok (.ifCond .eq 29, 3) := by decide +kernel
theorem dX4_judge_100 : decode cX4_judge 100 = .ok (.aload_n 0, 1) := by decide +kernel
theorem dX4_judge_101 : decode cX4_judge 101 = .ok (.getfield 54, 3) := by decide +kernel
theorem dX4_judge_104 : decode cX4_judge 104 = .ok (.iload_n 2, 1) := by decide +kernel
theorem dX4_judge_105 : decode cX4_judge 105 = .ok (.iaload, 1) := by decide +kernel
theorem dX4_judge_106 : decode cX4_judge 106 = .ok (.aload_n 0, 1) := by decide +kernel
theorem dX4_judge_107 : decode cX4_judge 107 = .ok (.getfield 94, 3) := by decide +kernel
theorem dX4_judge_110 : decode cX4_judge 110 = .ok (.if_icmp .le 16, 3) := by decide +kernel
theorem dX4_judge_113 : decode cX4_judge 113 = .ok (.aload_n 0, 1) := by decide +kernel
theorem dX4_judge_114 : decode cX4_judge 114 = .ok (.getfield 38, 3) := by decide +kernel
theorem dX4_judge_117 : decode cX4_judge 117 = .ok (.iload_n 2, 1) := by decide +kernel
theorem dX4_judge_118 : decode cX4_judge 118 = .ok (.baload, 1) := by decide +kernel
theorem dX4_judge_119 : decode cX4_judge 119 = .ok (.ifCond .ne 7, 3) := by decide +kernel
theorem dX4_judge_122 : decode cX4_judge 122 = .ok (.iconst 1, 1) := by decide +kernel
theorem dX4_judge_123 : decode cX4_judge 123 = .ok (.goto 4, 3) := by decide +kernel
theorem dX4_judge_126 : decode cX4_judge 126 = .ok (.iconst 0, 1) := by decide +kernel
theorem dX4_judge_127 : decode cX4_judge 127 = .ok (.bastore, 1) := by decide +kernel
theorem dX4_judge_128 : decode cX4_judge 128 = .ok (.aload_n 0, 1) := by decide +kernel
theorem dX4_judge_129 : decode cX4_judge 129 = .ok (.getfield 57, 3) := by decide +kernel
theorem dX4_judge_132 : decode cX4_judge 132 = .ok (.iload_n 2, 1) := by decide +kernel
theorem dX4_judge_133 : decode cX4_judge 133 = .ok (.baload, 1) := by decide +kernel
theorem dX4_judge_134 : decode cX4_judge 134 = .ok (.ifCond .eq 13, 3) := by decide +kernel
theorem dX4_judge_137 : decode cX4_judge 137 = .ok (.aload_n 0, 1) := by decide +kernel
theorem dX4_judge_138 : decode cX4_judge 138 = .ok (.dup, 1) := by decide +kernel
theorem dX4_judge_139 : decode cX4_judge 139 = .ok (.getfield 97, 3) := by decide +kernel
theorem dX4_judge_142 : decode cX4_judge 142 = .ok (.iconst 1, 1) := by decide +kernel
theorem dX4_judge_143 : decode cX4_judge 143 = .ok (.iadd, 1) := by decide +kernel
theorem dX4_judge_144 : decode cX4_judge 144 = .ok (.putfield 97, 3) := by decide +kernel
theorem dX4_judge_147 : decode cX4_judge 147 = .ok (.iinc 2 1, 3) := by decide +kernel
theorem dX4_judge_150 : decode cX4_judge 150 = .ok (.goto (-70), 3) := by decide +kernel
theorem dX4_judge_153 : decode cX4_judge 153 = .ok (.aload_n 0, 1) := by decide +kernel
theorem dX4_judge_154 : decode cX4_judge 154 = .ok (.aload_n 0, 1) := by decide +kernel
theorem dX4_judge_155 : decode cX4_judge 155 = .ok (.getfield 97, 3) := by decide +kernel
theorem dX4_judge_158 : decode cX4_judge 158 = .ok (.iconst 5, 1) := by decide +kernel
theorem dX4_judge_159 : decode cX4_judge 159 = .ok (.imul, 1) := by decide +kernel
theorem dX4_judge_160 : decode cX4_judge 160 = .ok (.aload_n 0, 1) := by decide +kernel
theorem dX4_judge_161 : decode cX4_judge 161 = .ok (.getfield 68, 3) := by decide +kernel
theorem dX4_judge_164 : decode cX4_judge 164 = .ok (.if_icmp .le 7, 3) := by decide +kernel
theorem dX4_judge_167 : decode cX4_judge 167 = .ok (.iconst 1, 1) := by decide +kernel
theorem dX4_judge_168 : decode cX4_judge 168 = .ok (.goto 4, 3) := by decide +kernel
theorem dX4_judge_171 : decode cX4_judge 171 = .ok (.iconst 0, 1) := by decide +kernel
theorem dX4_judge_172 : decode cX4_judge 172 = .ok (.putfield 100, 3) := by decide +kernel
theorem dX4_judge_175 : decode cX4_judge 175 = .ok (.return_, 1) := by decide +kernel
theorem dX4_sendsOut_0 : decode cX4_sendsOut 0 = .ok (.aload_n 0, 1) := by decide +kernel
theorem dX4_sendsOut_1 : decode cX4_sendsOut 1 = .ok (.getfield 25, 3) := by decide +kernel
theorem dX4_sendsOut_4 : decode cX4_sendsOut 4 = .ok (.iload_n 1, 1) := by decide +kernel
theorem dX4_sendsOut_5 : decode cX4_sendsOut 5 = .ok (.iaload, 1) := by decide +kernel
theorem dX4_sendsOut_6 : decode cX4_sendsOut 6 = .ok (.ifCond .eq 19, 3) := by decide +kernel
theorem dX4_sendsOut_9 : decode cX4_sendsOut 9 = .ok (.aload_n 0, 1) := by decide +kernel
theorem dX4_sendsOut_10 : decode cX4_sendsOut 10 = .ok (.getfield 57, 3) := by decide +kernel
theorem dX4_sendsOut_13 : decode cX4_sendsOut 13 = .ok (.iload_n 1, 1) := by decide +kernel
theorem dX4_sendsOut_14 : decode cX4_sendsOut 14 = .ok (.baload, 1) := by decide +kernel
theorem dX4_sendsOut_15 : decode cX4_sendsOut 15 = .ok (.ifCond .eq 14, 3) := by decide +kernel
theorem dX4_sendsOut_18 : decode cX4_sendsOut 18 = .ok (.aload_n 0, 1) := by decide +kernel
theorem dX4_sendsOut_19 : decode cX4_sendsOut 19 = .ok (.getfield 100, 3) := by decide +kernel
theorem dX4_sendsOut_22 : decode cX4_sendsOut 22 = .ok (.ifCond .ne 7, 3) := by decide +kernel
theorem dX4_sendsOut_25 : decode cX4_sendsOut 25 = .ok (.iconst 1, 1) := by decide +kernel
theorem dX4_sendsOut_26 : decode cX4_sendsOut 26 = .ok (.goto 4, 3) := by decide +kernel
theorem dX4_sendsOut_29 : decode cX4_sendsOut 29 = .ok (.iconst 0, 1) := by decide +kernel
theorem dX4_sendsOut_30 : decode cX4_sendsOut 30 = .ok (.ireturn, 1) := by decide +kernel
set_option maxRecDepth 20000 in
theorem ggX4_fact_X4_countHelped : GoodIn wsX4_fact wsX4_countHelped := goodIn_r _ [13, 2, 14, 15, 16, 21, 22, 23, 24, 25, 26, 27, 28, 29, 30, 31, 32, 33, 34, 35, 36, 37, 38, 39, 40] rfl (by decide +kernel)
set_option maxRecDepth 20000 in
theorem gX4_fact_X4_countHelped : GoodIn wsX4_fact (wsV RX4 148 RX4 yX4_countHelped wsX4_countHelped) := goodIn_app (goodIn_of _ (by decide +kernel)) ggX4_fact_X4_countHelped
set_option maxRecDepth 20000 in
theorem ggX4_fact_X4_sumHelped : GoodIn wsX4_fact wsX4_sumHelped := goodIn_r _ [20, 2, 16, 15, 14, 21, 22, 23, 24, 25, 26, 27, 28, 29, 30, 31, 32, 33, 34, 35, 36, 37, 38, 39, 40] rfl (by decide +kernel)
set_option maxRecDepth 20000 in
theorem gX4_fact_X4_sumHelped : GoodIn wsX4_fact (wsV RX4 152 RX4 yX4_sumHelped wsX4_sumHelped) := goodIn_app (goodIn_of _ (by decide +kernel)) ggX4_fact_X4_sumHelped
theorem dX4_fact_0 : decode cX4_fact 0 = .ok (.iload_n 1, 1) := by decide +kernel
theorem dX4_fact_1 : decode cX4_fact 1 = .ok (.tableswitch 128 0 10 #[59, 67, 75, 80, 85, 90, 95, 100, 105, 118, 123], 59) := by decide +kernel
theorem dX4_fact_60 : decode cX4_fact 60 = .ok (.aload_n 0, 1) := by decide +kernel
theorem dX4_fact_61 : decode cX4_fact 61 = .ok (.getfield 12, 3) := by decide +kernel
theorem dX4_fact_64 : decode cX4_fact 64 = .ok (.getfield 114, 3) := by decide +kernel
theorem dX4_fact_67 : decode cX4_fact 67 = .ok (.ireturn, 1) := by decide +kernel
theorem dX4_fact_68 : decode cX4_fact 68 = .ok (.aload_n 0, 1) := by decide +kernel
theorem dX4_fact_69 : decode cX4_fact 69 = .ok (.getfield 12, 3) := by decide +kernel
theorem dX4_fact_72 : decode cX4_fact 72 = .ok (.getfield 109, 3) := by decide +kernel
theorem dX4_fact_75 : decode cX4_fact 75 = .ok (.ireturn, 1) := by decide +kernel
theorem dX4_fact_76 : decode cX4_fact 76 = .ok (.aload_n 0, 1) := by decide +kernel
theorem dX4_fact_77 : decode cX4_fact 77 = .ok (.getfield 68, 3) := by decide +kernel
theorem dX4_fact_80 : decode cX4_fact 80 = .ok (.ireturn, 1) := by decide +kernel
theorem dX4_fact_81 : decode cX4_fact 81 = .ok (.aload_n 0, 1) := by decide +kernel
theorem dX4_fact_82 : decode cX4_fact 82 = .ok (.getfield 85, 3) := by decide +kernel
theorem dX4_fact_85 : decode cX4_fact 85 = .ok (.ireturn, 1) := by decide +kernel
theorem dX4_fact_86 : decode cX4_fact 86 = .ok (.aload_n 0, 1) := by decide +kernel
theorem dX4_fact_87 : decode cX4_fact 87 = .ok (.getfield 88, 3) := by decide +kernel
theorem dX4_fact_90 : decode cX4_fact 90 = .ok (.ireturn, 1) := by decide +kernel
theorem dX4_fact_91 : decode cX4_fact 91 = .ok (.aload_n 0, 1) := by decide +kernel
theorem dX4_fact_92 : decode cX4_fact 92 = .ok (.getfield 91, 3) := by decide +kernel
theorem dX4_fact_95 : decode cX4_fact 95 = .ok (.ireturn, 1) := by decide +kernel
theorem dX4_fact_96 : decode cX4_fact 96 = .ok (.aload_n 0, 1) := by decide +kernel
theorem dX4_fact_97 : decode cX4_fact 97 = .ok (.getfield 94, 3) := by decide +kernel
theorem dX4_fact_100 : decode cX4_fact 100 = .ok (.ireturn, 1) := by decide +kernel
theorem dX4_fact_101 : decode cX4_fact 101 = .ok (.aload_n 0, 1) := by decide +kernel
theorem dX4_fact_102 : decode cX4_fact 102 = .ok (.getfield 97, 3) := by decide +kernel
theorem dX4_fact_105 : decode cX4_fact 105 = .ok (.ireturn, 1) := by decide +kernel
theorem dX4_fact_106 : decode cX4_fact 106 = .ok (.aload_n 0, 1) := by decide +kernel
theorem dX4_fact_107 : decode cX4_fact 107 = .ok (.getfield 100, 3) := by decide +kernel
theorem dX4_fact_110 : decode cX4_fact 110 = .ok (.ifCond .eq 7, 3) := by decide +kernel
theorem dX4_fact_113 : decode cX4_fact 113 = .ok (.iconst 1, 1) := by decide +kernel
theorem dX4_fact_114 : decode cX4_fact 114 = .ok (.goto 4, 3) := by decide +kernel
theorem dX4_fact_117 : decode cX4_fact 117 = .ok (.iconst 0, 1) := by decide +kernel
theorem dX4_fact_118 : decode cX4_fact 118 = .ok (.ireturn, 1) := by decide +kernel
theorem dX4_fact_119 : decode cX4_fact 119 = .ok (.aload_n 0, 1) := by decide +kernel
theorem dX4_fact_120 : decode cX4_fact 120 = .ok (.invokevirtual 148, 3) := by decide +kernel
theorem dX4_fact_123 : decode cX4_fact 123 = .ok (.ireturn, 1) := by decide +kernel
theorem dX4_fact_124 : decode cX4_fact 124 = .ok (.aload_n 0, 1) := by decide +kernel
theorem dX4_fact_125 : decode cX4_fact 125 = .ok (.invokevirtual 152, 3) := by decide +kernel
theorem dX4_fact_128 : decode cX4_fact 128 = .ok (.ireturn, 1) := by decide +kernel
theorem dX4_fact_129 : decode cX4_fact 129 = .ok (.iconst (-1), 1) := by decide +kernel
theorem dX4_fact_130 : decode cX4_fact 130 = .ok (.ireturn, 1) := by decide +kernel
theorem dX4_countHelped_0 : decode cX4_countHelped 0 = .ok (.iconst 0, 1) := by decide +kernel
theorem dX4_countHelped_1 : decode cX4_countHelped 1 = .ok (.istore_n 1, 1) := by decide +kernel
theorem dX4_countHelped_2 : decode cX4_countHelped 2 = .ok (.iconst 0, 1) := by decide +kernel
theorem dX4_countHelped_3 : decode cX4_countHelped 3 = .ok (.istore_n 2, 1) := by decide +kernel
theorem dX4_countHelped_4 : decode cX4_countHelped 4 = .ok (.iload_n 2, 1) := by decide +kernel
theorem dX4_countHelped_5 : decode cX4_countHelped 5 = .ok (.aload_n 0, 1) := by decide +kernel
theorem dX4_countHelped_6 : decode cX4_countHelped 6 = .ok (.getfield 68, 3) := by decide +kernel
theorem dX4_countHelped_9 : decode cX4_countHelped 9 = .ok (.if_icmp .ge 37, 3) := by decide +kernel
theorem dX4_countHelped_12 : decode cX4_countHelped 12 = .ok (.aload_n 0, 1) := by decide +kernel
theorem dX4_countHelped_13 : decode cX4_countHelped 13 = .ok (.getfield 54, 3) := by decide +kernel
theorem dX4_countHelped_16 : decode cX4_countHelped 16 = .ok (.aload_n 0, 1) := by decide +kernel
theorem dX4_countHelped_17 : decode cX4_countHelped 17 = .ok (.getfield 42, 3) := by decide +kernel
theorem dX4_countHelped_20 : decode cX4_countHelped 20 = .ok (.iload_n 2, 1) := by decide +kernel
theorem dX4_countHelped_21 : decode cX4_countHelped 21 = .ok (.iaload, 1) := by decide +kernel
theorem dX4_countHelped_22 : decode cX4_countHelped 22 = .ok (.iaload, 1) := by decide +kernel
theorem dX4_countHelped_23 : decode cX4_countHelped 23 = .ok (.aload_n 0, 1) := by decide +kernel
theorem dX4_countHelped_24 : decode cX4_countHelped 24 = .ok (.getfield 51, 3) := by decide +kernel
theorem dX4_countHelped_27 : decode cX4_countHelped 27 = .ok (.aload_n 0, 1) := by decide +kernel
theorem dX4_countHelped_28 : decode cX4_countHelped 28 = .ok (.getfield 42, 3) := by decide +kernel
theorem dX4_countHelped_31 : decode cX4_countHelped 31 = .ok (.iload_n 2, 1) := by decide +kernel
theorem dX4_countHelped_32 : decode cX4_countHelped 32 = .ok (.iaload, 1) := by decide +kernel
theorem dX4_countHelped_33 : decode cX4_countHelped 33 = .ok (.iaload, 1) := by decide +kernel
theorem dX4_countHelped_34 : decode cX4_countHelped 34 = .ok (.if_icmp .ge 6, 3) := by decide +kernel
theorem dX4_countHelped_37 : decode cX4_countHelped 37 = .ok (.iinc 1 1, 3) := by decide +kernel
theorem dX4_countHelped_40 : decode cX4_countHelped 40 = .ok (.iinc 2 1, 3) := by decide +kernel
theorem dX4_countHelped_43 : decode cX4_countHelped 43 = .ok (.goto (-39), 3) := by decide +kernel
theorem dX4_countHelped_46 : decode cX4_countHelped 46 = .ok (.iload_n 1, 1) := by decide +kernel
theorem dX4_countHelped_47 : decode cX4_countHelped 47 = .ok (.ireturn, 1) := by decide +kernel
theorem dX4_sumHelped_0 : decode cX4_sumHelped 0 = .ok (.iconst 0, 1) := by decide +kernel
theorem dX4_sumHelped_1 : decode cX4_sumHelped 1 = .ok (.istore_n 1, 1) := by decide +kernel
theorem dX4_sumHelped_2 : decode cX4_sumHelped 2 = .ok (.iconst 0, 1) := by decide +kernel
theorem dX4_sumHelped_3 : decode cX4_sumHelped 3 = .ok (.istore_n 2, 1) := by decide +kernel
theorem dX4_sumHelped_4 : decode cX4_sumHelped 4 = .ok (.iload_n 2, 1) := by decide +kernel
theorem dX4_sumHelped_5 : decode cX4_sumHelped 5 = .ok (.aload_n 0, 1) := by decide +kernel
theorem dX4_sumHelped_6 : decode cX4_sumHelped 6 = .ok (.getfield 68, 3) := by decide +kernel
theorem dX4_sumHelped_9 : decode cX4_sumHelped 9 = .ok (.if_icmp .ge 35, 3) := by decide +kernel
theorem dX4_sumHelped_12 : decode cX4_sumHelped 12 = .ok (.iload_n 1, 1) := by decide +kernel
theorem dX4_sumHelped_13 : decode cX4_sumHelped 13 = .ok (.aload_n 0, 1) := by decide +kernel
theorem dX4_sumHelped_14 : decode cX4_sumHelped 14 = .ok (.getfield 51, 3) := by decide +kernel
theorem dX4_sumHelped_17 : decode cX4_sumHelped 17 = .ok (.aload_n 0, 1) := by decide +kernel
theorem dX4_sumHelped_18 : decode cX4_sumHelped 18 = .ok (.getfield 42, 3) := by decide +kernel
theorem dX4_sumHelped_21 : decode cX4_sumHelped 21 = .ok (.iload_n 2, 1) := by decide +kernel
theorem dX4_sumHelped_22 : decode cX4_sumHelped 22 = .ok (.iaload, 1) := by decide +kernel
theorem dX4_sumHelped_23 : decode cX4_sumHelped 23 = .ok (.iaload, 1) := by decide +kernel
theorem dX4_sumHelped_24 : decode cX4_sumHelped 24 = .ok (.aload_n 0, 1) := by decide +kernel
theorem dX4_sumHelped_25 : decode cX4_sumHelped 25 = .ok (.getfield 54, 3) := by decide +kernel
theorem dX4_sumHelped_28 : decode cX4_sumHelped 28 = .ok (.aload_n 0, 1) := by decide +kernel
theorem dX4_sumHelped_29 : decode cX4_sumHelped 29 = .ok (.getfield 42, 3) := by decide +kernel
theorem dX4_sumHelped_32 : decode cX4_sumHelped 32 = .ok (.iload_n 2, 1) := by decide +kernel
theorem dX4_sumHelped_33 : decode cX4_sumHelped 33 = .ok (.iaload, 1) := by decide +kernel
theorem dX4_sumHelped_34 : decode cX4_sumHelped 34 = .ok (.iaload, 1) := by decide +kernel
theorem dX4_sumHelped_35 : decode cX4_sumHelped 35 = .ok (.isub, 1) := by decide +kernel
theorem dX4_sumHelped_36 : decode cX4_sumHelped 36 = .ok (.iadd, 1) := by decide +kernel
theorem dX4_sumHelped_37 : decode cX4_sumHelped 37 = .ok (.istore_n 1, 1) := by decide +kernel
theorem dX4_sumHelped_38 : decode cX4_sumHelped 38 = .ok (.iinc 2 1, 3) := by decide +kernel
theorem dX4_sumHelped_41 : decode cX4_sumHelped 41 = .ok (.goto (-37), 3) := by decide +kernel
theorem dX4_sumHelped_44 : decode cX4_sumHelped 44 = .ok (.iload_n 1, 1) := by decide +kernel
theorem dX4_sumHelped_45 : decode cX4_sumHelped 45 = .ok (.ireturn, 1) := by decide +kernel
theorem dX4_resultOf_0 : decode cX4_resultOf 0 = .ok (.iload_n 2, 1) := by decide +kernel
theorem dX4_resultOf_1 : decode cX4_resultOf 1 = .ok (.tableswitch 112 0 7 #[47, 54, 61, 68, 75, 82, 92, 102], 47) := by decide +kernel
theorem dX4_resultOf_48 : decode cX4_resultOf 48 = .ok (.aload_n 0, 1) := by decide +kernel
theorem dX4_resultOf_49 : decode cX4_resultOf 49 = .ok (.getfield 25, 3) := by decide +kernel
theorem dX4_resultOf_52 : decode cX4_resultOf 52 = .ok (.iload_n 1, 1) := by decide +kernel
theorem dX4_resultOf_53 : decode cX4_resultOf 53 = .ok (.iaload, 1) := by decide +kernel
theorem dX4_resultOf_54 : decode cX4_resultOf 54 = .ok (.ireturn, 1) := by decide +kernel
theorem dX4_resultOf_55 : decode cX4_resultOf 55 = .ok (.aload_n 0, 1) := by decide +kernel
theorem dX4_resultOf_56 : decode cX4_resultOf 56 = .ok (.getfield 51, 3) := by decide +kernel
theorem dX4_resultOf_59 : decode cX4_resultOf 59 = .ok (.iload_n 1, 1) := by decide +kernel
theorem dX4_resultOf_60 : decode cX4_resultOf 60 = .ok (.iaload, 1) := by decide +kernel
theorem dX4_resultOf_61 : decode cX4_resultOf 61 = .ok (.ireturn, 1) := by decide +kernel
theorem dX4_resultOf_62 : decode cX4_resultOf 62 = .ok (.aload_n 0, 1) := by decide +kernel
theorem dX4_resultOf_63 : decode cX4_resultOf 63 = .ok (.getfield 54, 3) := by decide +kernel
theorem dX4_resultOf_66 : decode cX4_resultOf 66 = .ok (.iload_n 1, 1) := by decide +kernel
theorem dX4_resultOf_67 : decode cX4_resultOf 67 = .ok (.iaload, 1) := by decide +kernel
theorem dX4_resultOf_68 : decode cX4_resultOf 68 = .ok (.ireturn, 1) := by decide +kernel
theorem dX4_resultOf_69 : decode cX4_resultOf 69 = .ok (.aload_n 0, 1) := by decide +kernel
theorem dX4_resultOf_70 : decode cX4_resultOf 70 = .ok (.getfield 48, 3) := by decide +kernel
theorem dX4_resultOf_73 : decode cX4_resultOf 73 = .ok (.iload_n 1, 1) := by decide +kernel
theorem dX4_resultOf_74 : decode cX4_resultOf 74 = .ok (.iaload, 1) := by decide +kernel
theorem dX4_resultOf_75 : decode cX4_resultOf 75 = .ok (.ireturn, 1) := by decide +kernel
theorem dX4_resultOf_76 : decode cX4_resultOf 76 = .ok (.aload_n 0, 1) := by decide +kernel
theorem dX4_resultOf_77 : decode cX4_resultOf 77 = .ok (.getfield 45, 3) := by decide +kernel
theorem dX4_resultOf_80 : decode cX4_resultOf 80 = .ok (.iload_n 1, 1) := by decide +kernel
theorem dX4_resultOf_81 : decode cX4_resultOf 81 = .ok (.iaload, 1) := by decide +kernel
theorem dX4_resultOf_82 : decode cX4_resultOf 82 = .ok (.ireturn, 1) := by decide +kernel
theorem dX4_resultOf_83 : decode cX4_resultOf 83 = .ok (.aload_n 0, 1) := by decide +kernel
theorem dX4_resultOf_84 : decode cX4_resultOf 84 = .ok (.getfield 21, 3) := by decide +kernel
theorem dX4_resultOf_87 : decode cX4_resultOf 87 = .ok (.getfield 155, 3) := by decide +kernel
theorem dX4_resultOf_90 : decode cX4_resultOf 90 = .ok (.iload_n 1, 1) := by decide +kernel
theorem dX4_resultOf_91 : decode cX4_resultOf 91 = .ok (.iaload, 1) := by decide +kernel
theorem dX4_resultOf_92 : decode cX4_resultOf 92 = .ok (.ireturn, 1) := by decide +kernel
theorem dX4_resultOf_93 : decode cX4_resultOf 93 = .ok (.aload_n 0, 1) := by decide +kernel
theorem dX4_resultOf_94 : decode cX4_resultOf 94 = .ok (.getfield 21, 3) := by decide +kernel
theorem dX4_resultOf_97 : decode cX4_resultOf 97 = .ok (.getfield 158, 3) := by decide +kernel
theorem dX4_resultOf_100 : decode cX4_resultOf 100 = .ok (.iload_n 1, 1) := by decide +kernel
theorem dX4_resultOf_101 : decode cX4_resultOf 101 = .ok (.iaload, 1) := by decide +kernel
theorem dX4_resultOf_102 : decode cX4_resultOf 102 = .ok (.ireturn, 1) := by decide +kernel
theorem dX4_resultOf_103 : decode cX4_resultOf 103 = .ok (.aload_n 0, 1) := by decide +kernel
theorem dX4_resultOf_104 : decode cX4_resultOf 104 = .ok (.getfield 21, 3) := by decide +kernel
theorem dX4_resultOf_107 : decode cX4_resultOf 107 = .ok (.getfield 161, 3) := by decide +kernel
theorem dX4_resultOf_110 : decode cX4_resultOf 110 = .ok (.iload_n 1, 1) := by decide +kernel
theorem dX4_resultOf_111 : decode cX4_resultOf 111 = .ok (.iaload, 1) := by decide +kernel
theorem dX4_resultOf_112 : decode cX4_resultOf 112 = .ok (.ireturn, 1) := by decide +kernel
theorem dX4_resultOf_113 : decode cX4_resultOf 113 = .ok (.iconst (-1), 1) := by decide +kernel
theorem dX4_resultOf_114 : decode cX4_resultOf 114 = .ok (.ireturn, 1) := by decide +kernel
set_option maxRecDepth 20000 in
theorem ggX4_countBunches_X4_beginsBunch : GoodIn wsX4_countBunches wsX4_beginsBunch := goodIn_r _ [6, 7, 8, 9, 10, 5, 11, 12, 13, 14, 15, 16, 17, 18, 19, 20, 21, 22, 23, 24, 25, 26, 27, 28, 29, 30, 31, 32, 33, 34, 35, 36, 37, 38, 39, 40] rfl (by decide +kernel)
set_option maxRecDepth 20000 in
theorem gX4_countBunches_X4_beginsBunch : GoodIn wsX4_countBunches (wsV RX4 121 RX4 yX4_beginsBunch wsX4_beginsBunch) := goodIn_app (goodIn_of _ (by decide +kernel)) ggX4_countBunches_X4_beginsBunch
theorem dX4_countBunches_0 : decode cX4_countBunches 0 = .ok (.iconst 0, 1) := by decide +kernel
theorem dX4_countBunches_1 : decode cX4_countBunches 1 = .ok (.istore_n 2, 1) := by decide +kernel
theorem dX4_countBunches_2 : decode cX4_countBunches 2 = .ok (.iconst 0, 1) := by decide +kernel
theorem dX4_countBunches_3 : decode cX4_countBunches 3 = .ok (.istore_n 3, 1) := by decide +kernel
theorem dX4_countBunches_4 : decode cX4_countBunches 4 = .ok (.iload_n 3, 1) := by decide +kernel
theorem dX4_countBunches_5 : decode cX4_countBunches 5 = .ok (.aload_n 0, 1) := by decide +kernel
theorem dX4_countBunches_6 : decode cX4_countBunches 6 = .ok (.getfield 68, 3) := by decide +kernel
theorem dX4_countBunches_9 : decode cX4_countBunches 9 = .ok (.if_icmp .ge 21, 3) := by decide +kernel
theorem dX4_countBunches_12 : decode cX4_countBunches 12 = .ok (.aload_n 0, 1) := by decide +kernel
theorem dX4_countBunches_13 : decode cX4_countBunches 13 = .ok (.iload_n 3, 1) := by decide +kernel
theorem dX4_countBunches_14 : decode cX4_countBunches 14 = .ok (.iload_n 1, 1) := by decide +kernel
theorem dX4_countBunches_15 : decode cX4_countBunches 15 = .ok (.invokevirtual 121, 3) := by decide +kernel
theorem dX4_countBunches_18 : decode cX4_countBunches 18 = .ok (.ifCond .eq 6, 3) := by decide +kernel
theorem dX4_countBunches_21 : decode cX4_countBunches 21 = .ok (.iinc 2 1, 3) := by decide +kernel
theorem dX4_countBunches_24 : decode cX4_countBunches 24 = .ok (.iinc 3 1, 3) := by decide +kernel
theorem dX4_countBunches_27 : decode cX4_countBunches 27 = .ok (.goto (-23), 3) := by decide +kernel
theorem dX4_countBunches_30 : decode cX4_countBunches 30 = .ok (.iload_n 2, 1) := by decide +kernel
theorem dX4_countBunches_31 : decode cX4_countBunches 31 = .ok (.ireturn, 1) := by decide +kernel
set_option maxRecDepth 20000 in
theorem ggX4_joiningGap_X4_space : GoodIn wsX4_joiningGap wsX4_space := goodIn_r _ [11, 12, 13, 14, 15, 16, 17, 18, 19, 20, 21, 22, 23, 24, 25, 26, 27, 28, 29, 30, 31, 32, 33] rfl (by decide +kernel)
set_option maxRecDepth 20000 in
theorem gX4_joiningGap_X4_space : GoodIn wsX4_joiningGap (wsV RX4 117 RX4 yX4_space wsX4_space) := goodIn_app (goodIn_of _ (by decide +kernel)) ggX4_joiningGap_X4_space
theorem dX4_joiningGap_0 : decode cX4_joiningGap 0 = .ok (.aload_n 0, 1) := by decide +kernel
theorem dX4_joiningGap_1 : decode cX4_joiningGap 1 = .ok (.getfield 12, 3) := by decide +kernel
theorem dX4_joiningGap_4 : decode cX4_joiningGap 4 = .ok (.getfield 114, 3) := by decide +kernel
theorem dX4_joiningGap_7 : decode cX4_joiningGap 7 = .ok (.iconst 3, 1) := by decide +kernel
theorem dX4_joiningGap_8 : decode cX4_joiningGap 8 = .ok (.if_icmp .ne 13, 3) := by decide +kernel
theorem dX4_joiningGap_11 : decode cX4_joiningGap 11 = .ok (.aload_n 0, 1) := by decide +kernel
theorem dX4_joiningGap_12 : decode cX4_joiningGap 12 = .ok (.getfield 68, 3) := by decide +kernel
theorem dX4_joiningGap_15 : decode cX4_joiningGap 15 = .ok (.iconst 1, 1) := by decide +kernel
theorem dX4_joiningGap_16 : decode cX4_joiningGap 16 = .ok (.if_icmp .le 5, 3) := by decide +kernel
theorem dX4_joiningGap_19 : decode cX4_joiningGap 19 = .ok (.iconst (-1), 1) := by decide +kernel
theorem dX4_joiningGap_20 : decode cX4_joiningGap 20 = .ok (.ireturn, 1) := by decide +kernel
theorem dX4_joiningGap_21 : decode cX4_joiningGap 21 = .ok (.iconst 1, 1) := by decide +kernel
theorem dX4_joiningGap_22 : decode cX4_joiningGap 22 = .ok (.istore_n 1, 1) := by decide +kernel
theorem dX4_joiningGap_23 : decode cX4_joiningGap 23 = .ok (.iconst 1, 1) := by decide +kernel
theorem dX4_joiningGap_24 : decode cX4_joiningGap 24 = .ok (.istore_n 2, 1) := by decide +kernel
theorem dX4_joiningGap_25 : decode cX4_joiningGap 25 = .ok (.iload_n 2, 1) := by decide +kernel
theorem dX4_joiningGap_26 : decode cX4_joiningGap 26 = .ok (.aload_n 0, 1) := by decide +kernel
theorem dX4_joiningGap_27 : decode cX4_joiningGap 27 = .ok (.getfield 68, 3) := by decide +kernel
theorem dX4_joiningGap_30 : decode cX4_joiningGap 30 = .ok (.if_icmp .ge 21, 3) := by decide +kernel
theorem dX4_joiningGap_33 : decode cX4_joiningGap 33 = .ok (.iload_n 1, 1) := by decide +kernel
theorem dX4_joiningGap_34 : decode cX4_joiningGap 34 = .ok (.aload_n 0, 1) := by decide +kernel
theorem dX4_joiningGap_35 : decode cX4_joiningGap 35 = .ok (.iload_n 2, 1) := by decide +kernel
theorem dX4_joiningGap_36 : decode cX4_joiningGap 36 = .ok (.invokevirtual 117, 3) := by decide +kernel
theorem dX4_joiningGap_39 : decode cX4_joiningGap 39 = .ok (.iconst 1, 1) := by decide +kernel
theorem dX4_joiningGap_40 : decode cX4_joiningGap 40 = .ok (.iadd, 1) := by decide +kernel
theorem dX4_joiningGap_41 : decode cX4_joiningGap 41 = .ok (.invokestatic 142, 3) := by decide +kernel
theorem dX4_joiningGap_44 : decode cX4_joiningGap 44 = .ok (.istore_n 1, 1) := by decide +kernel
theorem dX4_joiningGap_45 : decode cX4_joiningGap 45 = .ok (.iinc 2 1, 3) := by decide +kernel
theorem dX4_joiningGap_48 : decode cX4_joiningGap 48 = .ok (.goto (-23), 3) := by decide +kernel
theorem dX4_joiningGap_51 : decode cX4_joiningGap 51 = .ok (.iload_n 1, 1) := by decide +kernel
theorem dX4_joiningGap_52 : decode cX4_joiningGap 52 = .ok (.bipush 99, 2) := by decide +kernel
theorem dX4_joiningGap_54 : decode cX4_joiningGap 54 = .ok (.if_icmp .gt 7, 3) := by decide +kernel
theorem dX4_joiningGap_57 : decode cX4_joiningGap 57 = .ok (.iload_n 1, 1) := by decide +kernel
theorem dX4_joiningGap_58 : decode cX4_joiningGap 58 = .ok (.goto 4, 3) := by decide +kernel
theorem dX4_joiningGap_61 : decode cX4_joiningGap 61 = .ok (.iconst (-1), 1) := by decide +kernel
theorem dX4_joiningGap_62 : decode cX4_joiningGap 62 = .ok (.ireturn, 1) := by decide +kernel
set_option maxRecDepth 20000 in
theorem ggX4_aheadOfWidest_X4_space : GoodIn wsX4_aheadOfWidest wsX4_space := goodIn_r _ [6, 7, 8, 9, 10, 11, 12, 13, 14, 15, 16, 17, 18, 19, 20, 21, 22, 23, 24, 25, 26, 27, 28] rfl (by decide +kernel)
set_option maxRecDepth 20000 in
theorem gX4_aheadOfWidest_X4_space : GoodIn wsX4_aheadOfWidest (wsV RX4 117 RX4 yX4_space wsX4_space) := goodIn_app (goodIn_of _ (by decide +kernel)) ggX4_aheadOfWidest_X4_space
theorem dX4_aheadOfWidest_0 : decode cX4_aheadOfWidest 0 = .ok (.iconst (-1), 1) := by decide +kernel
theorem dX4_aheadOfWidest_1 : decode cX4_aheadOfWidest 1 = .ok (.istore_n 1, 1) := by decide +kernel
theorem dX4_aheadOfWidest_2 : decode cX4_aheadOfWidest 2 = .ok (.iconst (-1), 1) := by decide +kernel
theorem dX4_aheadOfWidest_3 : decode cX4_aheadOfWidest 3 = .ok (.istore_n 2, 1) := by decide +kernel
theorem dX4_aheadOfWidest_4 : decode cX4_aheadOfWidest 4 = .ok (.iconst 1, 1) := by decide +kernel
theorem dX4_aheadOfWidest_5 : decode cX4_aheadOfWidest 5 = .ok (.istore_n 3, 1) := by decide +kernel
theorem dX4_aheadOfWidest_6 : decode cX4_aheadOfWidest 6 = .ok (.iload_n 3, 1) := by decide +kernel
theorem dX4_aheadOfWidest_7 : decode cX4_aheadOfWidest 7 = .ok (.aload_n 0, 1) := by decide +kernel
theorem dX4_aheadOfWidest_8 : decode cX4_aheadOfWidest 8 = .ok (.getfield 68, 3) := by decide +kernel
theorem dX4_aheadOfWidest_11 : decode cX4_aheadOfWidest 11 = .ok (.if_icmp .ge 26, 3) := by decide +kernel
theorem dX4_aheadOfWidest_14 : decode cX4_aheadOfWidest 14 = .ok (.aload_n 0, 1) := by decide +kernel
theorem dX4_aheadOfWidest_15 : decode cX4_aheadOfWidest 15 = .ok (.iload_n 3, 1) := by decide +kernel
theorem dX4_aheadOfWidest_16 : decode cX4_aheadOfWidest 16 = .ok (.invokevirtual 117, 3) := by decide +kernel
theorem dX4_aheadOfWidest_19 : decode cX4_aheadOfWidest 19 = .ok (.iload_n 1, 1) := by decide +kernel
theorem dX4_aheadOfWidest_20 : decode cX4_aheadOfWidest 20 = .ok (.if_icmp .le 11, 3) := by decide +kernel
theorem dX4_aheadOfWidest_23 : decode cX4_aheadOfWidest 23 = .ok (.aload_n 0, 1) := by decide +kernel
theorem dX4_aheadOfWidest_24 : decode cX4_aheadOfWidest 24 = .ok (.iload_n 3, 1) := by decide +kernel
theorem dX4_aheadOfWidest_25 : decode cX4_aheadOfWidest 25 = .ok (.invokevirtual 117, 3) := by decide +kernel
theorem dX4_aheadOfWidest_28 : decode cX4_aheadOfWidest 28 = .ok (.istore_n 1, 1) := by decide +kernel
theorem dX4_aheadOfWidest_29 : decode cX4_aheadOfWidest 29 = .ok (.iload_n 3, 1) := by decide +kernel
theorem dX4_aheadOfWidest_30 : decode cX4_aheadOfWidest 30 = .ok (.istore_n 2, 1) := by decide +kernel
theorem dX4_aheadOfWidest_31 : decode cX4_aheadOfWidest 31 = .ok (.iinc 3 1, 3) := by decide +kernel
theorem dX4_aheadOfWidest_34 : decode cX4_aheadOfWidest 34 = .ok (.goto (-28), 3) := by decide +kernel
theorem dX4_aheadOfWidest_37 : decode cX4_aheadOfWidest 37 = .ok (.iload_n 2, 1) := by decide +kernel
theorem dX4_aheadOfWidest_38 : decode cX4_aheadOfWidest 38 = .ok (.ireturn, 1) := by decide +kernel
theorem dX4_gainedBy_0 : decode cX4_gainedBy 0 = .ok (.iload_n 2, 1) := by decide +kernel
theorem dX4_gainedBy_1 : decode cX4_gainedBy 1 = .ok (.tableswitch 68 3 6 #[31, 41, 51, 61], 31) := by decide +kernel
theorem dX4_gainedBy_32 : decode cX4_gainedBy 32 = .ok (.aload_n 0, 1) := by decide +kernel
theorem dX4_gainedBy_33 : decode cX4_gainedBy 33 = .ok (.getfield 21, 3) := by decide +kernel
theorem dX4_gainedBy_36 : decode cX4_gainedBy 36 = .ok (.getfield 158, 3) := by decide +kernel
theorem dX4_gainedBy_39 : decode cX4_gainedBy 39 = .ok (.iload_n 1, 1) := by decide +kernel
theorem dX4_gainedBy_40 : decode cX4_gainedBy 40 = .ok (.iaload, 1) := by decide +kernel
theorem dX4_gainedBy_41 : decode cX4_gainedBy 41 = .ok (.ireturn, 1) := by decide +kernel
theorem dX4_gainedBy_42 : decode cX4_gainedBy 42 = .ok (.aload_n 0, 1) := by decide +kernel
theorem dX4_gainedBy_43 : decode cX4_gainedBy 43 = .ok (.getfield 21, 3) := by decide +kernel
theorem dX4_gainedBy_46 : decode cX4_gainedBy 46 = .ok (.getfield 161, 3) := by decide +kernel
theorem dX4_gainedBy_49 : decode cX4_gainedBy 49 = .ok (.iload_n 1, 1) := by decide +kernel
theorem dX4_gainedBy_50 : decode cX4_gainedBy 50 = .ok (.iaload, 1) := by decide +kernel
theorem dX4_gainedBy_51 : decode cX4_gainedBy 51 = .ok (.ireturn, 1) := by decide +kernel
theorem dX4_gainedBy_52 : decode cX4_gainedBy 52 = .ok (.aload_n 0, 1) := by decide +kernel
theorem dX4_gainedBy_53 : decode cX4_gainedBy 53 = .ok (.getfield 21, 3) := by decide +kernel
theorem dX4_gainedBy_56 : decode cX4_gainedBy 56 = .ok (.getfield 155, 3) := by decide +kernel
theorem dX4_gainedBy_59 : decode cX4_gainedBy 59 = .ok (.iload_n 1, 1) := by decide +kernel
theorem dX4_gainedBy_60 : decode cX4_gainedBy 60 = .ok (.iaload, 1) := by decide +kernel
theorem dX4_gainedBy_61 : decode cX4_gainedBy 61 = .ok (.ireturn, 1) := by decide +kernel
theorem dX4_gainedBy_62 : decode cX4_gainedBy 62 = .ok (.aload_n 0, 1) := by decide +kernel
theorem dX4_gainedBy_63 : decode cX4_gainedBy 63 = .ok (.getfield 35, 3) := by decide +kernel
theorem dX4_gainedBy_66 : decode cX4_gainedBy 66 = .ok (.iload_n 1, 1) := by decide +kernel
theorem dX4_gainedBy_67 : decode cX4_gainedBy 67 = .ok (.iaload, 1) := by decide +kernel
theorem dX4_gainedBy_68 : decode cX4_gainedBy 68 = .ok (.ireturn, 1) := by decide +kernel
theorem dX4_gainedBy_69 : decode cX4_gainedBy 69 = .ok (.iconst 0, 1) := by decide +kernel
theorem dX4_gainedBy_70 : decode cX4_gainedBy 70 = .ok (.ireturn, 1) := by decide +kernel
theorem dX4_netTime_0 : decode cX4_netTime 0 = .ok (.aload_n 0, 1) := by decide +kernel
theorem dX4_netTime_1 : decode cX4_netTime 1 = .ok (.getfield 25, 3) := by decide +kernel
theorem dX4_netTime_4 : decode cX4_netTime 4 = .ok (.iload_n 1, 1) := by decide +kernel
theorem dX4_netTime_5 : decode cX4_netTime 5 = .ok (.iaload, 1) := by decide +kernel
theorem dX4_netTime_6 : decode cX4_netTime 6 = .ok (.ifCond .ne 10, 3) := by decide +kernel
theorem dX4_netTime_9 : decode cX4_netTime 9 = .ok (.aload_n 0, 1) := by decide +kernel
theorem dX4_netTime_10 : decode cX4_netTime 10 = .ok (.getfield 94, 3) := by decide +kernel
theorem dX4_netTime_13 : decode cX4_netTime 13 = .ok (.goto 26, 3) := by decide +kernel
theorem dX4_netTime_16 : decode cX4_netTime 16 = .ok (.aload_n 0, 1) := by decide +kernel
theorem dX4_netTime_17 : decode cX4_netTime 17 = .ok (.getfield 54, 3) := by decide +kernel
theorem dX4_netTime_20 : decode cX4_netTime 20 = .ok (.iload_n 1, 1) := by decide +kernel
theorem dX4_netTime_21 : decode cX4_netTime 21 = .ok (.iaload, 1) := by decide +kernel
theorem dX4_netTime_22 : decode cX4_netTime 22 = .ok (.aload_n 0, 1) := by decide +kernel
theorem dX4_netTime_23 : decode cX4_netTime 23 = .ok (.getfield 35, 3) := by decide +kernel
theorem dX4_netTime_26 : decode cX4_netTime 26 = .ok (.iload_n 1, 1) := by decide +kernel
theorem dX4_netTime_27 : decode cX4_netTime 27 = .ok (.iaload, 1) := by decide +kernel
theorem dX4_netTime_28 : decode cX4_netTime 28 = .ok (.iadd, 1) := by decide +kernel
theorem dX4_netTime_29 : decode cX4_netTime 29 = .ok (.aload_n 0, 1) := by decide +kernel
theorem dX4_netTime_30 : decode cX4_netTime 30 = .ok (.getfield 21, 3) := by decide +kernel
theorem dX4_netTime_33 : decode cX4_netTime 33 = .ok (.getfield 155, 3) := by decide +kernel
theorem dX4_netTime_36 : decode cX4_netTime 36 = .ok (.iload_n 1, 1) := by decide +kernel
theorem dX4_netTime_37 : decode cX4_netTime 37 = .ok (.iaload, 1) := by decide +kernel
theorem dX4_netTime_38 : decode cX4_netTime 38 = .ok (.isub, 1) := by decide +kernel
theorem dX4_netTime_39 : decode cX4_netTime 39 = .ok (.ireturn, 1) := by decide +kernel
theorem dX4_placeOf_0 : decode cX4_placeOf 0 = .ok (.aload_n 0, 1) := by decide +kernel
theorem dX4_placeOf_1 : decode cX4_placeOf 1 = .ok (.getfield 25, 3) := by decide +kernel
theorem dX4_placeOf_4 : decode cX4_placeOf 4 = .ok (.iload_n 1, 1) := by decide +kernel
theorem dX4_placeOf_5 : decode cX4_placeOf 5 = .ok (.iaload, 1) := by decide +kernel
theorem dX4_placeOf_6 : decode cX4_placeOf 6 = .ok (.ifCond .ne 8, 3) := by decide +kernel
theorem dX4_placeOf_9 : decode cX4_placeOf 9 = .ok (.bipush 99, 2) := by decide +kernel
theorem dX4_placeOf_11 : decode cX4_placeOf 11 = .ok (.goto 9, 3) := by decide +kernel
theorem dX4_placeOf_14 : decode cX4_placeOf 14 = .ok (.aload_n 0, 1) := by decide +kernel
theorem dX4_placeOf_15 : decode cX4_placeOf 15 = .ok (.getfield 45, 3) := by decide +kernel
theorem dX4_placeOf_18 : decode cX4_placeOf 18 = .ok (.iload_n 1, 1) := by decide +kernel
theorem dX4_placeOf_19 : decode cX4_placeOf 19 = .ok (.iaload, 1) := by decide +kernel
theorem dX4_placeOf_20 : decode cX4_placeOf 20 = .ok (.ireturn, 1) := by decide +kernel
theorem dX4_teamTime_0 : decode cX4_teamTime 0 = .ok (.iconst 0, 1) := by decide +kernel
theorem dX4_teamTime_1 : decode cX4_teamTime 1 = .ok (.istore_n 3, 1) := by decide +kernel
theorem dX4_teamTime_2 : decode cX4_teamTime 2 = .ok (.ldc 125, 2) := by decide +kernel
theorem dX4_teamTime_4 : decode cX4_teamTime 4 = .ok (.istore 4, 2) := by decide +kernel
theorem dX4_teamTime_6 : decode cX4_teamTime 6 = .ok (.ldc 125, 2) := by decide +kernel
theorem dX4_teamTime_8 : decode cX4_teamTime 8 = .ok (.istore 5, 2) := by decide +kernel
theorem dX4_teamTime_10 : decode cX4_teamTime 10 = .ok (.ldc 125, 2) := by decide +kernel
theorem dX4_teamTime_12 : decode cX4_teamTime 12 = .ok (.istore 6, 2) := by decide +kernel
theorem dX4_teamTime_14 : decode cX4_teamTime 14 = .ok (.iconst 0, 1) := by decide +kernel
theorem dX4_teamTime_15 : decode cX4_teamTime 15 = .ok (.istore 7, 2) := by decide +kernel
theorem dX4_teamTime_17 : decode cX4_teamTime 17 = .ok (.iload 7, 2) := by decide +kernel
theorem dX4_teamTime_19 : decode cX4_teamTime 19 = .ok (.aload_n 0, 1) := by decide +kernel
theorem dX4_teamTime_20 : decode cX4_teamTime 20 = .ok (.getfield 68, 3) := by decide +kernel
theorem dX4_teamTime_23 : decode cX4_teamTime 23 = .ok (.if_icmp .ge 79, 3) := by decide +kernel
theorem dX4_teamTime_26 : decode cX4_teamTime 26 = .ok (.aload_n 1, 1) := by decide +kernel
theorem dX4_teamTime_27 : decode cX4_teamTime 27 = .ok (.aload_n 0, 1) := by decide +kernel
theorem dX4_teamTime_28 : decode cX4_teamTime 28 = .ok (.getfield 42, 3) := by decide +kernel
theorem dX4_teamTime_31 : decode cX4_teamTime 31 = .ok (.iload 7, 2) := by decide +kernel
theorem dX4_teamTime_33 : decode cX4_teamTime 33 = .ok (.iaload, 1) := by decide +kernel
theorem dX4_teamTime_34 : decode cX4_teamTime 34 = .ok (.iaload, 1) := by decide +kernel
theorem dX4_teamTime_35 : decode cX4_teamTime 35 = .ok (.iload_n 2, 1) := by decide +kernel
theorem dX4_teamTime_36 : decode cX4_teamTime 36 = .ok (.if_icmp .eq 6, 3) := by decide +kernel
theorem dX4_teamTime_39 : decode cX4_teamTime 39 = .ok (.goto 57, 3) := by decide +kernel
theorem dX4_teamTime_42 : decode cX4_teamTime 42 = .ok (.iinc 3 1, 3) := by decide +kernel
theorem dX4_teamTime_45 : decode cX4_teamTime 45 = .ok (.aload_n 0, 1) := by decide +kernel
theorem dX4_teamTime_46 : decode cX4_teamTime 46 = .ok (.getfield 54, 3) := by decide +kernel
theorem dX4_teamTime_49 : decode cX4_teamTime 49 = .ok (.aload_n 0, 1) := by decide +kernel
theorem dX4_teamTime_50 : decode cX4_teamTime 50 = .ok (.getfield 42, 3) := by decide +kernel
theorem dX4_teamTime_53 : decode cX4_teamTime 53 = .ok (.iload 7, 2) := by decide +kernel
theorem dX4_teamTime_55 : decode cX4_teamTime 55 = .ok (.iaload, 1) := by decide +kernel
theorem dX4_teamTime_56 : decode cX4_teamTime 56 = .ok (.iaload, 1) := by decide +kernel
theorem dX4_teamTime_57 : decode cX4_teamTime 57 = .ok (.istore 8, 2) := by decide +kernel
theorem dX4_teamTime_59 : decode cX4_teamTime 59 = .ok (.iload 6, 2) := by decide +kernel
theorem dX4_teamTime_61 : decode cX4_teamTime 61 = .ok (.iload 5, 2) := by decide +kernel
theorem dX4_teamTime_63 : decode cX4_teamTime 63 = .ok (.iload 8, 2) := by decide +kernel
theorem dX4_teamTime_65 : decode cX4_teamTime 65 = .ok (.invokestatic 142, 3) := by decide +kernel
theorem dX4_teamTime_68 : decode cX4_teamTime 68 = .ok (.invokestatic 130, 3) := by decide +kernel
theorem dX4_teamTime_71 : decode cX4_teamTime 71 = .ok (.istore 6, 2) := by decide +kernel
theorem dX4_teamTime_73 : decode cX4_teamTime 73 = .ok (.iload 5, 2) := by decide +kernel
theorem dX4_teamTime_75 : decode cX4_teamTime 75 = .ok (.iload 4, 2) := by decide +kernel
theorem dX4_teamTime_77 : decode cX4_teamTime 77 = .ok (.iload 8, 2) := by decide +kernel
theorem dX4_teamTime_79 : decode cX4_teamTime 79 = .ok (.invokestatic 142, 3) := by decide +kernel
theorem dX4_teamTime_82 : decode cX4_teamTime 82 = .ok (.invokestatic 130, 3) := by decide +kernel
theorem dX4_teamTime_85 : decode cX4_teamTime 85 = .ok (.istore 5, 2) := by decide +kernel
theorem dX4_teamTime_87 : decode cX4_teamTime 87 = .ok (.iload 4, 2) := by decide +kernel
theorem dX4_teamTime_89 : decode cX4_teamTime 89 = .ok (.iload 8, 2) := by decide +kernel
theorem dX4_teamTime_91 : decode cX4_teamTime 91 = .ok (.invokestatic 130, 3) := by decide +kernel
theorem dX4_teamTime_94 : decode cX4_teamTime 94 = .ok (.istore 4, 2) := by decide +kernel
theorem dX4_teamTime_96 : decode cX4_teamTime 96 = .ok (.iinc 7 1, 3) := by decide +kernel
theorem dX4_teamTime_99 : decode cX4_teamTime 99 = .ok (.goto (-82), 3) := by decide +kernel
theorem dX4_teamTime_102 : decode cX4_teamTime 102 = .ok (.iload_n 3, 1) := by decide +kernel
theorem dX4_teamTime_103 : decode cX4_teamTime 103 = .ok (.iconst 3, 1) := by decide +kernel
theorem dX4_teamTime_104 : decode cX4_teamTime 104 = .ok (.if_icmp .ge 12, 3) := by decide +kernel
theorem dX4_teamTime_107 : decode cX4_teamTime 107 = .ok (.iconst 3, 1) := by decide +kernel
theorem dX4_teamTime_108 : decode cX4_teamTime 108 = .ok (.aload_n 0, 1) := by decide +kernel
theorem dX4_teamTime_109 : decode cX4_teamTime 109 = .ok (.getfield 94, 3) := by decide +kernel
theorem dX4_teamTime_112 : decode cX4_teamTime 112 = .ok (.imul, 1) := by decide +kernel
theorem dX4_teamTime_113 : decode cX4_teamTime 113 = .ok (.goto 11, 3) := by decide +kernel
theorem dX4_teamTime_116 : decode cX4_teamTime 116 = .ok (.iload 4, 2) := by decide +kernel
theorem dX4_teamTime_118 : decode cX4_teamTime 118 = .ok (.iload 5, 2) := by decide +kernel
theorem dX4_teamTime_120 : decode cX4_teamTime 120 = .ok (.iadd, 1) := by decide +kernel
theorem dX4_teamTime_121 : decode cX4_teamTime 121 = .ok (.iload 6, 2) := by decide +kernel
theorem dX4_teamTime_123 : decode cX4_teamTime 123 = .ok (.iadd, 1) := by decide +kernel
theorem dX4_teamTime_124 : decode cX4_teamTime 124 = .ok (.ireturn, 1) := by decide +kernel
