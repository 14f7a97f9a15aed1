theorem dX9_needs_103 : decode cX9_needs 103 = .ok (.iadd, 1) := by decide +kernel
theorem dX9_needs_104 : decode cX9_needs 104 = .ok (.goto 5, 3) := by decide +kernel
theorem dX9_needs_107 : decode cX9_needs 107 = .ok (.iload 4, 2) := by decide +kernel
theorem dX9_needs_109 : decode cX9_needs 109 = .ok (.istore 4, 2) := by decide +kernel
theorem dX9_needs_111 : decode cX9_needs 111 = .ok (.iload 4, 2) := by decide +kernel
theorem dX9_needs_113 : decode cX9_needs 113 = .ok (.iload_n 2, 1) := by decide +kernel
theorem dX9_needs_114 : decode cX9_needs 114 = .ok (.if_icmp .le 8, 3) := by decide +kernel
theorem dX9_needs_117 : decode cX9_needs 117 = .ok (.iload 4, 2) := by decide +kernel
theorem dX9_needs_119 : decode cX9_needs 119 = .ok (.goto 4, 3) := by decide +kernel
theorem dX9_needs_122 : decode cX9_needs 122 = .ok (.iload_n 2, 1) := by decide +kernel
theorem dX9_needs_123 : decode cX9_needs 123 = .ok (.istore_n 2, 1) := by decide +kernel
theorem dX9_needs_124 : decode cX9_needs 124 = .ok (.iinc 3 1, 3) := by decide +kernel
theorem dX9_needs_127 : decode cX9_needs 127 = .ok (.goto (-101), 3) := by decide +kernel
theorem dX9_needs_130 : decode cX9_needs 130 = .ok (.iload_n 2, 1) := by decide +kernel
theorem dX9_needs_131 : decode cX9_needs 131 = .ok (.ireturn, 1) := by decide +kernel
set_option maxRecDepth 20000 in
theorem ggX9_without_X9_isClosed : GoodIn wsX9_without wsX9_isClosed := goodIn_r _ [7, 8, 9, 10, 6, 11, 2, 12, 13, 14, 45, 46, 47, 48, 49, 50, 51, 52, 53, 54, 55, 56, 57, 58, 59, 60, 61, 62] rfl (by decide +kernel)
set_option maxRecDepth 20000 in
theorem gX9_without_X9_isClosed : GoodIn wsX9_without (wsV RX9 185 RX9 yX9_isClosed wsX9_isClosed) := goodIn_app (goodIn_of _ (by decide +kernel)) ggX9_without_X9_isClosed
set_option maxRecDepth 20000 in
theorem ggX9_without_X9_isThere : GoodIn wsX9_without wsX9_isThere := goodIn_r _ [18, 2, 19, 20, 21, 6, 22, 12, 13, 14, 45, 46, 47, 48, 49, 50, 51, 52, 53, 54, 55, 56, 57, 58, 59, 60, 61, 62] rfl (by decide +kernel)
set_option maxRecDepth 20000 in
theorem gX9_without_X9_isThere : GoodIn wsX9_without (wsV RX9 59 RX9 yX9_isThere wsX9_isThere) := goodIn_app (goodIn_of _ (by decide +kernel)) ggX9_without_X9_isThere
set_option maxRecDepth 20000 in
theorem ggX9_without_X9_isAhead : GoodIn wsX9_without wsX9_isAhead := goodIn_r _ [26, 27, 28, 29, 6, 30, 2, 8, 9, 10, 11, 31, 32, 33, 34, 35, 36, 37, 38, 39, 40, 41, 42, 43, 44, 45, 46, 47, 48, 49, 50, 51, 52, 53, 54, 55, 56, 57, 58, 59, 60, 61, 62] rfl (by decide +kernel)
set_option maxRecDepth 20000 in
theorem gX9_without_X9_isAhead : GoodIn wsX9_without (wsV RX9 201 RX9 yX9_isAhead wsX9_isAhead) := goodIn_app (goodIn_of _ (by decide +kernel)) ggX9_without_X9_isAhead
theorem dX9_without_0 : decode cX9_without 0 = .ok (.aload_n 0, 1) := by decide +kernel
theorem dX9_without_1 : decode cX9_without 1 = .ok (.iconst 0, 1) := by decide +kernel
theorem dX9_without_2 : decode cX9_without 2 = .ok (.putfield 39, 3) := by decide +kernel
theorem dX9_without_5 : decode cX9_without 5 = .ok (.aload_n 0, 1) := by decide +kernel
theorem dX9_without_6 : decode cX9_without 6 = .ok (.iload_n 1, 1) := by decide +kernel
theorem dX9_without_7 : decode cX9_without 7 = .ok (.invokevirtual 185, 3) := by decide +kernel
theorem dX9_without_10 : decode cX9_without 10 = .ok (.ifCond .ne 5, 3) := by decide +kernel
theorem dX9_without_13 : decode cX9_without 13 = .ok (.iconst (-1), 1) := by decide +kernel
theorem dX9_without_14 : decode cX9_without 14 = .ok (.ireturn, 1) := by decide +kernel
theorem dX9_without_15 : decode cX9_without 15 = .ok (.iconst (-1), 1) := by decide +kernel
theorem dX9_without_16 : decode cX9_without 16 = .ok (.istore_n 2, 1) := by decide +kernel
theorem dX9_without_17 : decode cX9_without 17 = .ok (.iconst 0, 1) := by decide +kernel
theorem dX9_without_18 : decode cX9_without 18 = .ok (.istore_n 3, 1) := by decide +kernel
theorem dX9_without_19 : decode cX9_without 19 = .ok (.iload_n 3, 1) := by decide +kernel
theorem dX9_without_20 : decode cX9_without 20 = .ok (.aload_n 0, 1) := by decide +kernel
theorem dX9_without_21 : decode cX9_without 21 = .ok (.getfield 7, 3) := by decide +kernel
theorem dX9_without_24 : decode cX9_without 24 = .ok (.iconst 1, 1) := by decide +kernel
theorem dX9_without_25 : decode cX9_without 25 = .ok (.iaload, 1) := by decide +kernel
theorem dX9_without_26 : decode cX9_without 26 = .ok (.if_icmp .ge 35, 3) := by decide +kernel
theorem dX9_without_29 : decode cX9_without 29 = .ok (.aload_n 0, 1) := by decide +kernel
theorem dX9_without_30 : decode cX9_without 30 = .ok (.iload_n 3, 1) := by decide +kernel
theorem dX9_without_31 : decode cX9_without 31 = .ok (.invokevirtual 59, 3) := by decide +kernel
theorem dX9_without_34 : decode cX9_without 34 = .ok (.ifCond .eq 21, 3) := by decide +kernel
theorem dX9_without_37 : decode cX9_without 37 = .ok (.iload_n 2, 1) := by decide +kernel
theorem dX9_without_38 : decode cX9_without 38 = .ok (.iconst (-1), 1) := by decide +kernel
theorem dX9_without_39 : decode cX9_without 39 = .ok (.if_icmp .eq 14, 3) := by decide +kernel
theorem dX9_without_42 : decode cX9_without 42 = .ok (.aload_n 0, 1) := by decide +kernel
theorem dX9_without_43 : decode cX9_without 43 = .ok (.iload_n 3, 1) := by decide +kernel
theorem dX9_without_44 : decode cX9_without 44 = .ok (.iload_n 2, 1) := by decide +kernel
theorem dX9_without_45 : decode cX9_without 45 = .ok (.iconst 0, 1) := by decide +kernel
theorem dX9_without_46 : decode cX9_without 46 = .ok (.iload_n 1, 1) := by decide +kernel
theorem dX9_without_47 : decode cX9_without 47 = .ok (.invokevirtual 201, 3) := by decide +kernel
theorem dX9_without_50 : decode cX9_without 50 = .ok (.ifCond .eq 5, 3) := by decide +kernel
theorem dX9_without_53 : decode cX9_without 53 = .ok (.iload_n 3, 1) := by decide +kernel
theorem dX9_without_54 : decode cX9_without 54 = .ok (.istore_n 2, 1) := by decide +kernel
theorem dX9_without_55 : decode cX9_without 55 = .ok (.iinc 3 1, 3) := by decide +kernel
theorem dX9_without_58 : decode cX9_without 58 = .ok (.goto (-39), 3) := by decide +kernel
theorem dX9_without_61 : decode cX9_without 61 = .ok (.iload_n 2, 1) := by decide +kernel
theorem dX9_without_62 : decode cX9_without 62 = .ok (.ireturn, 1) := by decide +kernel
theorem dX9_metres_0 : decode cX9_metres 0 = .ok (.ldc2_w 233, 3) := by decide +kernel
theorem dX9_metres_3 : decode cX9_metres 3 = .ok (.ldc2_w 235, 3) := by decide +kernel
theorem dX9_metres_6 : decode cX9_metres 6 = .ok (.iload_n 0, 1) := by decide +kernel
theorem dX9_metres_7 : decode cX9_metres 7 = .ok (.iconst 1, 1) := by decide +kernel
theorem dX9_metres_8 : decode cX9_metres 8 = .ok (.isub, 1) := by decide +kernel
theorem dX9_metres_9 : decode cX9_metres 9 = .ok (.i2l, 1) := by decide +kernel
theorem dX9_metres_10 : decode cX9_metres 10 = .ok (.lmul, 1) := by decide +kernel
theorem dX9_metres_11 : decode cX9_metres 11 = .ok (.iload_n 0, 1) := by decide +kernel
theorem dX9_metres_12 : decode cX9_metres 12 = .ok (.i2l, 1) := by decide +kernel
theorem dX9_metres_13 : decode cX9_metres 13 = .ok (.ldiv, 1) := by decide +kernel
theorem dX9_metres_14 : decode cX9_metres 14 = .ok (.ladd, 1) := by decide +kernel
theorem dX9_metres_15 : decode cX9_metres 15 = .ok (.lreturn, 1) := by decide +kernel
set_option maxRecDepth 20000 in
theorem ggX9_caughtAt_X9_metres : GoodIn wsX9_caughtAt wsX9_metres := goodIn_r _ [6, 7, 8] rfl (by decide +kernel)
set_option maxRecDepth 20000 in
theorem gX9_caughtAt_X9_metres : GoodIn wsX9_caughtAt (va_wsS RX9 237 yX9_metres wsX9_metres) := goodIn_app (goodIn_of _ (by decide +kernel)) ggX9_caughtAt_X9_metres
theorem dX9_caughtAt_0 : decode cX9_caughtAt 0 = .ok (.iload_n 0, 1) := by decide +kernel
theorem dX9_caughtAt_1 : decode cX9_caughtAt 1 = .ok (.invokestatic 237, 3) := by decide +kernel
theorem dX9_caughtAt_4 : decode cX9_caughtAt 4 = .ok (.lstore 4, 2) := by decide +kernel
theorem dX9_caughtAt_6 : decode cX9_caughtAt 6 = .ok (.iload_n 3, 1) := by decide +kernel
theorem dX9_caughtAt_7 : decode cX9_caughtAt 7 = .ok (.invokestatic 237, 3) := by decide +kernel
theorem dX9_caughtAt_10 : decode cX9_caughtAt 10 = .ok (.lstore 6, 2) := by decide +kernel
theorem dX9_caughtAt_12 : decode cX9_caughtAt 12 = .ok (.lload 6, 2) := by decide +kernel
theorem dX9_caughtAt_14 : decode cX9_caughtAt 14 = .ok (.lload 4, 2) := by decide +kernel
theorem dX9_caughtAt_16 : decode cX9_caughtAt 16 = .ok (.lcmp, 1) := by decide +kernel
theorem dX9_caughtAt_17 : decode cX9_caughtAt 17 = .ok (.ifCond .gt 5, 3) := by decide +kernel
theorem dX9_caughtAt_20 : decode cX9_caughtAt 20 = .ok (.iconst (-1), 1) := by decide +kernel
theorem dX9_caughtAt_21 : decode cX9_caughtAt 21 = .ok (.ireturn, 1) := by decide +kernel
theorem dX9_caughtAt_22 : decode cX9_caughtAt 22 = .ok (.ldc2_w 241, 3) := by decide +kernel
theorem dX9_caughtAt_25 : decode cX9_caughtAt 25 = .ok (.lload 6, 2) := by decide +kernel
theorem dX9_caughtAt_27 : decode cX9_caughtAt 27 = .ok (.lload 4, 2) := by decide +kernel
theorem dX9_caughtAt_29 : decode cX9_caughtAt 29 = .ok (.lsub, 1) := by decide +kernel
theorem dX9_caughtAt_30 : decode cX9_caughtAt 30 = .ok (.lmul, 1) := by decide +kernel
theorem dX9_caughtAt_31 : decode cX9_caughtAt 31 = .ok (.lstore 8, 2) := by decide +kernel
theorem dX9_caughtAt_33 : decode cX9_caughtAt 33 = .ok (.ldc2_w 243, 3) := by decide +kernel
theorem dX9_caughtAt_36 : decode cX9_caughtAt 36 = .ok (.iload_n 2, 1) := by decide +kernel
theorem dX9_caughtAt_37 : decode cX9_caughtAt 37 = .ok (.i2l, 1) := by decide +kernel
theorem dX9_caughtAt_38 : decode cX9_caughtAt 38 = .ok (.lmul, 1) := by decide +kernel
theorem dX9_caughtAt_39 : decode cX9_caughtAt 39 = .ok (.lload 8, 2) := by decide +kernel
theorem dX9_caughtAt_41 : decode cX9_caughtAt 41 = .ok (.lmul, 1) := by decide +kernel
theorem dX9_caughtAt_42 : decode cX9_caughtAt 42 = .ok (.lload 4, 2) := by decide +kernel
theorem dX9_caughtAt_44 : decode cX9_caughtAt 44 = .ok (.lload 6, 2) := by decide +kernel
theorem dX9_caughtAt_46 : decode cX9_caughtAt 46 = .ok (.lmul, 1) := by decide +kernel
theorem dX9_caughtAt_47 : decode cX9_caughtAt 47 = .ok (.iload_n 1, 1) := by decide +kernel
theorem dX9_caughtAt_48 : decode cX9_caughtAt 48 = .ok (.i2l, 1) := by decide +kernel
theorem dX9_caughtAt_49 : decode cX9_caughtAt 49 = .ok (.lmul, 1) := by decide +kernel
theorem dX9_caughtAt_50 : decode cX9_caughtAt 50 = .ok (.lsub, 1) := by decide +kernel
theorem dX9_caughtAt_51 : decode cX9_caughtAt 51 = .ok (.lstore 10, 2) := by decide +kernel
theorem dX9_caughtAt_53 : decode cX9_caughtAt 53 = .ok (.lload 10, 2) := by decide +kernel
theorem dX9_caughtAt_55 : decode cX9_caughtAt 55 = .ok (.lconst 0, 1) := by decide +kernel
theorem dX9_caughtAt_56 : decode cX9_caughtAt 56 = .ok (.lcmp, 1) := by decide +kernel
theorem dX9_caughtAt_57 : decode cX9_caughtAt 57 = .ok (.ifCond .ge 7, 3) := by decide +kernel
theorem dX9_caughtAt_60 : decode cX9_caughtAt 60 = .ok (.iconst (-1), 1) := by decide +kernel
theorem dX9_caughtAt_61 : decode cX9_caughtAt 61 = .ok (.goto 9, 3) := by decide +kernel
theorem dX9_caughtAt_64 : decode cX9_caughtAt 64 = .ok (.lload 10, 2) := by decide +kernel
theorem dX9_caughtAt_66 : decode cX9_caughtAt 66 = .ok (.lload 8, 2) := by decide +kernel
theorem dX9_caughtAt_68 : decode cX9_caughtAt 68 = .ok (.ldiv, 1) := by decide +kernel
theorem dX9_caughtAt_69 : decode cX9_caughtAt 69 = .ok (.l2i, 1) := by decide +kernel
theorem dX9_caughtAt_70 : decode cX9_caughtAt 70 = .ok (.ireturn, 1) := by decide +kernel
set_option maxRecDepth 20000 in
theorem ggX9_areRiders_X9_isIn : GoodIn wsX9_areRiders wsX9_isIn := goodIn_r _ [4] rfl (by decide +kernel)
set_option maxRecDepth 20000 in
theorem gX9_areRiders_X9_isIn : GoodIn wsX9_areRiders (va_wsS RX9 43 yX9_isIn wsX9_isIn) := goodIn_app (goodIn_of _ (by decide +kernel)) ggX9_areRiders_X9_isIn
theorem dX9_areRiders_0 : decode cX9_areRiders 0 = .ok (.iload_n 0, 1) := by decide +kernel
theorem dX9_areRiders_1 : decode cX9_areRiders 1 = .ok (.iconst 1, 1) := by decide +kernel
theorem dX9_areRiders_2 : decode cX9_areRiders 2 = .ok (.bipush 16, 2) := by decide +kernel
theorem dX9_areRiders_4 : decode cX9_areRiders 4 = .ok (.invokestatic 43, 3) := by decide +kernel
theorem dX9_areRiders_7 : decode cX9_areRiders 7 = .ok (.ireturn, 1) := by decide +kernel
set_option maxRecDepth 20000 in
theorem ggX9_caught_X9_areRiders : GoodIn wsX9_caught wsX9_areRiders := goodIn_r _ [5, 6, 7, 4, 8] rfl (by decide +kernel)
set_option maxRecDepth 20000 in
theorem gX9_caught_X9_areRiders : GoodIn wsX9_caught (va_wsS RX9 245 yX9_areRiders wsX9_areRiders) := goodIn_app (goodIn_of _ (by decide +kernel)) ggX9_caught_X9_areRiders
set_option maxRecDepth 20000 in
theorem ggX9_caught_X9_isIn : GoodIn wsX9_caught wsX9_isIn := goodIn_r _ [8] rfl (by decide +kernel)
set_option maxRecDepth 20000 in
theorem gX9_caught_X9_isIn : GoodIn wsX9_caught (va_wsS RX9 43 yX9_isIn wsX9_isIn) := goodIn_app (goodIn_of _ (by decide +kernel)) ggX9_caught_X9_isIn
set_option maxRecDepth 20000 in
theorem ggX9_caught_X9_caughtAt : GoodIn wsX9_caught wsX9_caughtAt := goodIn_r _ [11, 12, 13, 14, 15, 4, 16, 17, 18] rfl (by decide +kernel)
set_option maxRecDepth 20000 in
theorem gX9_caught_X9_caughtAt : GoodIn wsX9_caught (va_wsS RX9 248 yX9_caughtAt wsX9_caughtAt) := goodIn_app (goodIn_of _ (by decide +kernel)) ggX9_caught_X9_caughtAt
theorem dX9_caught_0 : decode cX9_caught 0 = .ok (.aload_n 0, 1) := by decide +kernel
theorem dX9_caught_1 : decode cX9_caught 1 = .ok (.iconst 0, 1) := by decide +kernel
theorem dX9_caught_2 : decode cX9_caught 2 = .ok (.putfield 39, 3) := by decide +kernel
theorem dX9_caught_5 : decode cX9_caught 5 = .ok (.iload_n 1, 1) := by decide +kernel
theorem dX9_caught_6 : decode cX9_caught 6 = .ok (.invokestatic 245, 3) := by decide +kernel
theorem dX9_caught_9 : decode cX9_caught 9 = .ok (.ifCond .eq 44, 3) := by decide +kernel
theorem dX9_caught_12 : decode cX9_caught 12 = .ok (.iload 4, 2) := by decide +kernel
theorem dX9_caught_14 : decode cX9_caught 14 = .ok (.invokestatic 245, 3) := by decide +kernel
theorem dX9_caught_17 : decode cX9_caught 17 = .ok (.ifCond .eq 36, 3) := by decide +kernel
theorem dX9_caught_20 : decode cX9_caught 20 = .ok (.iload_n 2, 1) := by decide +kernel
theorem dX9_caught_21 : decode cX9_caught 21 = .ok (.iconst 0, 1) := by decide +kernel
theorem dX9_caught_22 : decode cX9_caught 22 = .ok (.sipush 3600, 3) := by decide +kernel
theorem dX9_caught_25 : decode cX9_caught 25 = .ok (.invokestatic 43, 3) := by decide +kernel
theorem dX9_caught_28 : decode cX9_caught 28 = .ok (.ifCond .eq 25, 3) := by decide +kernel
theorem dX9_caught_31 : decode cX9_caught 31 = .ok (.iload_n 3, 1) := by decide +kernel
theorem dX9_caught_32 : decode cX9_caught 32 = .ok (.iconst 1, 1) := by decide +kernel
theorem dX9_caught_33 : decode cX9_caught 33 = .ok (.sipush 300, 3) := by decide +kernel
theorem dX9_caught_36 : decode cX9_caught 36 = .ok (.invokestatic 43, 3) := by decide +kernel
theorem dX9_caught_39 : decode cX9_caught 39 = .ok (.ifCond .eq 14, 3) := by decide +kernel
theorem dX9_caught_42 : decode cX9_caught 42 = .ok (.iload_n 1, 1) := by decide +kernel
theorem dX9_caught_43 : decode cX9_caught 43 = .ok (.iload_n 2, 1) := by decide +kernel
theorem dX9_caught_44 : decode cX9_caught 44 = .ok (.iload_n 3, 1) := by decide +kernel
theorem dX9_caught_45 : decode cX9_caught 45 = .ok (.iload 4, 2) := by decide +kernel
theorem dX9_caught_47 : decode cX9_caught 47 = .ok (.invokestatic 248, 3) := by decide +kernel
theorem dX9_caught_50 : decode cX9_caught 50 = .ok (.goto 4, 3) := by decide +kernel
theorem dX9_caught_53 : decode cX9_caught 53 = .ok (.iconst (-1), 1) := by decide +kernel
theorem dX9_caught_54 : decode cX9_caught 54 = .ok (.ireturn, 1) := by decide +kernel
set_option maxRecDepth 20000 in
theorem ggX9_holds_X9_areRiders : GoodIn wsX9_holds wsX9_areRiders := goodIn_r _ [5, 6, 7, 4, 8] rfl (by decide +kernel)
set_option maxRecDepth 20000 in
theorem gX9_holds_X9_areRiders : GoodIn wsX9_holds (va_wsS RX9 245 yX9_areRiders wsX9_areRiders) := goodIn_app (goodIn_of _ (by decide +kernel)) ggX9_holds_X9_areRiders
set_option maxRecDepth 20000 in
theorem ggX9_holds_X9_isIn : GoodIn wsX9_holds wsX9_isIn := goodIn_r _ [8] rfl (by decide +kernel)
set_option maxRecDepth 20000 in
theorem gX9_holds_X9_isIn : GoodIn wsX9_holds (va_wsS RX9 43 yX9_isIn wsX9_isIn) := goodIn_app (goodIn_of _ (by decide +kernel)) ggX9_holds_X9_isIn
set_option maxRecDepth 20000 in
theorem ggX9_holds_X9_caughtAt : GoodIn wsX9_holds wsX9_caughtAt := goodIn_r _ [11, 12, 13, 14, 15, 4, 16, 17, 18] rfl (by decide +kernel)
set_option maxRecDepth 20000 in
theorem gX9_holds_X9_caughtAt : GoodIn wsX9_holds (va_wsS RX9 248 yX9_caughtAt wsX9_caughtAt) := goodIn_app (goodIn_of _ (by decide +kernel)) ggX9_holds_X9_caughtAt
theorem dX9_holds_0 : decode cX9_holds 0 = .ok (.aload_n 0, 1) := by decide +kernel
theorem dX9_holds_1 : decode cX9_holds 1 = .ok (.iconst 0, 1) := by decide +kernel
theorem dX9_holds_2 : decode cX9_holds 2 = .ok (.putfield 39, 3) := by decide +kernel
theorem dX9_holds_5 : decode cX9_holds 5 = .ok (.iload_n 1, 1) := by decide +kernel
theorem dX9_holds_6 : decode cX9_holds 6 = .ok (.invokestatic 245, 3) := by decide +kernel
theorem dX9_holds_9 : decode cX9_holds 9 = .ok (.ifCond .eq 21, 3) := by decide +kernel
theorem dX9_holds_12 : decode cX9_holds 12 = .ok (.iload_n 3, 1) := by decide +kernel
theorem dX9_holds_13 : decode cX9_holds 13 = .ok (.invokestatic 245, 3) := by decide +kernel
theorem dX9_holds_16 : decode cX9_holds 16 = .ok (.ifCond .eq 14, 3) := by decide +kernel
theorem dX9_holds_19 : decode cX9_holds 19 = .ok (.iload_n 2, 1) := by decide +kernel
theorem dX9_holds_20 : decode cX9_holds 20 = .ok (.iconst 1, 1) := by decide +kernel
theorem dX9_holds_21 : decode cX9_holds 21 = .ok (.sipush 300, 3) := by decide +kernel
theorem dX9_holds_24 : decode cX9_holds 24 = .ok (.invokestatic 43, 3) := by decide +kernel
theorem dX9_holds_27 : decode cX9_holds 27 = .ok (.ifCond .ne 5, 3) := by decide +kernel
theorem dX9_holds_30 : decode cX9_holds 30 = .ok (.iconst (-1), 1) := by decide +kernel
theorem dX9_holds_31 : decode cX9_holds 31 = .ok (.ireturn, 1) := by decide +kernel
theorem dX9_holds_32 : decode cX9_holds 32 = .ok (.iconst 0, 1) := by decide +kernel
theorem dX9_holds_33 : decode cX9_holds 33 = .ok (.istore 4, 2) := by decide +kernel
theorem dX9_holds_35 : decode cX9_holds 35 = .ok (.iload 4, 2) := by decide +kernel
theorem dX9_holds_37 : decode cX9_holds 37 = .ok (.sipush 3600, 3) := by decide +kernel
theorem dX9_holds_40 : decode cX9_holds 40 = .ok (.if_icmp .gt 24, 3) := by decide +kernel
theorem dX9_holds_43 : decode cX9_holds 43 = .ok (.iload_n 1, 1) := by decide +kernel
theorem dX9_holds_44 : decode cX9_holds 44 = .ok (.iload 4, 2) := by decide +kernel
theorem dX9_holds_46 : decode cX9_holds 46 = .ok (.iload_n 2, 1) := by decide +kernel
theorem dX9_holds_47 : decode cX9_holds 47 = .ok (.iload_n 3, 1) := by decide +kernel
theorem dX9_holds_48 : decode cX9_holds 48 = .ok (.invokestatic 248, 3) := by decide +kernel
theorem dX9_holds_51 : decode cX9_holds 51 = .ok (.iconst (-1), 1) := by decide +kernel
theorem dX9_holds_52 : decode cX9_holds 52 = .ok (.if_icmp .ne 6, 3) := by decide +kernel
theorem dX9_holds_55 : decode cX9_holds 55 = .ok (.iload 4, 2) := by decide +kernel
theorem dX9_holds_57 : decode cX9_holds 57 = .ok (.ireturn, 1) := by decide +kernel
theorem dX9_holds_58 : decode cX9_holds 58 = .ok (.iinc 4 1, 3) := by decide +kernel
theorem dX9_holds_61 : decode cX9_holds 61 = .ok (.goto (-26), 3) := by decide +kernel
theorem dX9_holds_64 : decode cX9_holds 64 = .ok (.iconst (-1), 1) := by decide +kernel
theorem dX9_holds_65 : decode cX9_holds 65 = .ok (.ireturn, 1) := by decide +kernel
set_option maxRecDepth 20000 in
theorem ggX9_chase_X9_areRiders : GoodIn wsX9_chase wsX9_areRiders := goodIn_r _ [5, 6, 7, 4, 8] rfl (by decide +kernel)
set_option maxRecDepth 20000 in
theorem gX9_chase_X9_areRiders : GoodIn wsX9_chase (va_wsS RX9 245 yX9_areRiders wsX9_areRiders) := goodIn_app (goodIn_of _ (by decide +kernel)) ggX9_chase_X9_areRiders
set_option maxRecDepth 20000 in
theorem ggX9_chase_X9_isIn : GoodIn wsX9_chase wsX9_isIn := goodIn_r _ [8] rfl (by decide +kernel)
set_option maxRecDepth 20000 in
theorem gX9_chase_X9_isIn : GoodIn wsX9_chase (va_wsS RX9 43 yX9_isIn wsX9_isIn) := goodIn_app (goodIn_of _ (by decide +kernel)) ggX9_chase_X9_isIn
set_option maxRecDepth 20000 in
theorem ggX9_chase_X9_caughtAt : GoodIn wsX9_chase wsX9_caughtAt := goodIn_r _ [11, 12, 13, 14, 15, 4, 16, 17, 18] rfl (by decide +kernel)
set_option maxRecDepth 20000 in
theorem gX9_chase_X9_caughtAt : GoodIn wsX9_chase (va_wsS RX9 248 yX9_caughtAt wsX9_caughtAt) := goodIn_app (goodIn_of _ (by decide +kernel)) ggX9_chase_X9_caughtAt
theorem dX9_chase_0 : decode cX9_chase 0 = .ok (.aload_n 0, 1) := by decide +kernel
theorem dX9_chase_1 : decode cX9_chase 1 = .ok (.iconst 0, 1) := by decide +kernel
theorem dX9_chase_2 : decode cX9_chase 2 = .ok (.putfield 39, 3) := by decide +kernel
theorem dX9_chase_5 : decode cX9_chase 5 = .ok (.iload_n 1, 1) := by decide +kernel
theorem dX9_chase_6 : decode cX9_chase 6 = .ok (.invokestatic 245, 3) := by decide +kernel
theorem dX9_chase_9 : decode cX9_chase 9 = .ok (.ifCond .eq 25, 3) := by decide +kernel
theorem dX9_chase_12 : decode cX9_chase 12 = .ok (.iload_n 2, 1) := by decide +kernel
theorem dX9_chase_13 : decode cX9_chase 13 = .ok (.iconst 0, 1) := by decide +kernel
theorem dX9_chase_14 : decode cX9_chase 14 = .ok (.sipush 3600, 3) := by decide +kernel
theorem dX9_chase_17 : decode cX9_chase 17 = .ok (.invokestatic 43, 3) := by decide +kernel
theorem dX9_chase_20 : decode cX9_chase 20 = .ok (.ifCond .eq 14, 3) := by decide +kernel
theorem dX9_chase_23 : decode cX9_chase 23 = .ok (.iload_n 3, 1) := by decide +kernel
theorem dX9_chase_24 : decode cX9_chase 24 = .ok (.iconst 1, 1) := by decide +kernel
theorem dX9_chase_25 : decode cX9_chase 25 = .ok (.sipush 300, 3) := by decide +kernel
theorem dX9_chase_28 : decode cX9_chase 28 = .ok (.invokestatic 43, 3) := by decide +kernel
theorem dX9_chase_31 : decode cX9_chase 31 = .ok (.ifCond .ne 5, 3) := by decide +kernel
theorem dX9_chase_34 : decode cX9_chase 34 = .ok (.iconst (-1), 1) := by decide +kernel
theorem dX9_chase_35 : decode cX9_chase 35 = .ok (.ireturn, 1) := by decide +kernel
theorem dX9_chase_36 : decode cX9_chase 36 = .ok (.iconst 1, 1) := by decide +kernel
theorem dX9_chase_37 : decode cX9_chase 37 = .ok (.istore 4, 2) := by decide +kernel
theorem dX9_chase_39 : decode cX9_chase 39 = .ok (.iload 4, 2) := by decide +kernel
theorem dX9_chase_41 : decode cX9_chase 41 = .ok (.bipush 16, 2) := by decide +kernel
theorem dX9_chase_43 : decode cX9_chase 43 = .ok (.if_icmp .gt 24, 3) := by decide +kernel
theorem dX9_chase_46 : decode cX9_chase 46 = .ok (.iload_n 1, 1) := by decide +kernel
theorem dX9_chase_47 : decode cX9_chase 47 = .ok (.iload_n 2, 1) := by decide +kernel
theorem dX9_chase_48 : decode cX9_chase 48 = .ok (.iload_n 3, 1) := by decide +kernel
theorem dX9_chase_49 : decode cX9_chase 49 = .ok (.iload 4, 2) := by decide +kernel
theorem dX9_chase_51 : decode cX9_chase 51 = .ok (.invokestatic 248, 3) := by decide +kernel
theorem dX9_chase_54 : decode cX9_chase 54 = .ok (.iconst (-1), 1) := by decide +kernel
theorem dX9_chase_55 : decode cX9_chase 55 = .ok (.if_icmp .eq 6, 3) := by decide +kernel
theorem dX9_chase_58 : decode cX9_chase 58 = .ok (.iload 4, 2) := by decide +kernel
theorem dX9_chase_60 : decode cX9_chase 60 = .ok (.ireturn, 1) := by decide +kernel
theorem dX9_chase_61 : decode cX9_chase 61 = .ok (.iinc 4 1, 3) := by decide +kernel
theorem dX9_chase_64 : decode cX9_chase 64 = .ok (.goto (-25), 3) := by decide +kernel
theorem dX9_chase_67 : decode cX9_chase 67 = .ok (.iconst (-1), 1) := by decide +kernel
theorem dX9_chase_68 : decode cX9_chase 68 = .ok (.ireturn, 1) := by decide +kernel
theorem dX9_put_0 : decode cX9_put 0 = .ok (.bipush 24, 2) := by decide +kernel
theorem dX9_put_2 : decode cX9_put 2 = .ok (.istore_n 2, 1) := by decide +kernel
theorem dX9_put_3 : decode cX9_put 3 = .ok (.iload_n 2, 1) := by decide +kernel
theorem dX9_put_4 : decode cX9_put 4 = .ok (.ifCond .lt 32, 3) := by decide +kernel
theorem dX9_put_7 : decode cX9_put 7 = .ok (.aload_n 0, 1) := by decide +kernel
theorem dX9_put_8 : decode cX9_put 8 = .ok (.getfield 32, 3) := by decide +kernel
theorem dX9_put_11 : decode cX9_put 11 = .ok (.aload_n 0, 1) := by decide +kernel
theorem dX9_put_12 : decode cX9_put 12 = .ok (.getfield 179, 3) := by decide +kernel
theorem dX9_put_15 : decode cX9_put 15 = .ok (.iload_n 1, 1) := by decide +kernel
theorem dX9_put_16 : decode cX9_put 16 = .ok (.iload_n 2, 1) := by decide +kernel
theorem dX9_put_17 : decode cX9_put 17 = .ok (.ishr, 1) := by decide +kernel
theorem dX9_put_18 : decode cX9_put 18 = .ok (.i2b, 1) := by decide +kernel
theorem dX9_put_19 : decode cX9_put 19 = .ok (.bastore, 1) := by decide +kernel
theorem dX9_put_20 : decode cX9_put 20 = .ok (.aload_n 0, 1) := by decide +kernel
theorem dX9_put_21 : decode cX9_put 21 = .ok (.dup, 1) := by decide +kernel
theorem dX9_put_22 : decode cX9_put 22 = .ok (.getfield 179, 3) := by decide +kernel
theorem dX9_put_25 : decode cX9_put 25 = .ok (.iconst 1, 1) := by decide +kernel
theorem dX9_put_26 : decode cX9_put 26 = .ok (.iadd, 1) := by decide +kernel
theorem dX9_put_27 : decode cX9_put 27 = .ok (.putfield 179, 3) := by decide +kernel
theorem dX9_put_30 : decode cX9_put 30 = .ok (.iinc 2 (-8), 3) := by decide +kernel
theorem dX9_put_33 : decode cX9_put 33 = .ok (.goto (-30), 3) := by decide +kernel
theorem dX9_put_36 : decode cX9_put 36 = .ok (.return_, 1) := by decide +kernel
set_option maxRecDepth 20000 in
theorem ggX9_feed_X9_put : GoodIn wsX9_feed wsX9_put := goodIn_r _ [7, 8, 2, 9, 10, 11, 12, 13, 14, 15, 16, 17, 18, 19, 20, 21, 22, 23, 24, 25, 26] rfl (by decide +kernel)
set_option maxRecDepth 20000 in
theorem gX9_feed_X9_put : GoodIn wsX9_feed (wsV RX9 252 RX9 yX9_put wsX9_put) := goodIn_app (goodIn_of _ (by decide +kernel)) ggX9_feed_X9_put
theorem dX9_feed_0 : decode cX9_feed 0 = .ok (.aload_n 0, 1) := by decide +kernel
theorem dX9_feed_1 : decode cX9_feed 1 = .ok (.iconst 0, 1) := by decide +kernel
theorem dX9_feed_2 : decode cX9_feed 2 = .ok (.putfield 39, 3) := by decide +kernel
theorem dX9_feed_5 : decode cX9_feed 5 = .ok (.aload_n 0, 1) := by decide +kernel
theorem dX9_feed_6 : decode cX9_feed 6 = .ok (.getfield 179, 3) := by decide +kernel
theorem dX9_feed_9 : decode cX9_feed 9 = .ok (.bipush 20, 2) := by decide +kernel
theorem dX9_feed_11 : decode cX9_feed 11 = .ok (.iadd, 1) := by decide +kernel
theorem dX9_feed_12 : decode cX9_feed 12 = .ok (.sipush 600, 3) := by decide +kernel
theorem dX9_feed_15 : decode cX9_feed 15 = .ok (.if_icmp .le 5, 3) := by decide +kernel
theorem dX9_feed_18 : decode cX9_feed 18 = .ok (.iconst (-1), 1) := by decide +kernel
theorem dX9_feed_19 : decode cX9_feed 19 = .ok (.ireturn, 1) := by decide +kernel
theorem dX9_feed_20 : decode cX9_feed 20 = .ok (.aload_n 0, 1) := by decide +kernel
theorem dX9_feed_21 : decode cX9_feed 21 = .ok (.iload_n 1, 1) := by decide +kernel
theorem dX9_feed_22 : decode cX9_feed 22 = .ok (.invokevirtual 252, 3) := by decide +kernel
theorem dX9_feed_25 : decode cX9_feed 25 = .ok (.aload_n 0, 1) := by decide +kernel
theorem dX9_feed_26 : decode cX9_feed 26 = .ok (.iload_n 2, 1) := by decide +kernel
theorem dX9_feed_27 : decode cX9_feed 27 = .ok (.invokevirtual 252, 3) := by decide +kernel
theorem dX9_feed_30 : decode cX9_feed 30 = .ok (.aload_n 0, 1) := by decide +kernel
theorem dX9_feed_31 : decode cX9_feed 31 = .ok (.iload_n 3, 1) := by decide +kernel
theorem dX9_feed_32 : decode cX9_feed 32 = .ok (.invokevirtual 252, 3) := by decide +kernel
theorem dX9_feed_35 : decode cX9_feed 35 = .ok (.aload_n 0, 1) := by decide +kernel
theorem dX9_feed_36 : decode cX9_feed 36 = .ok (.iload 4, 2) := by decide +kernel
theorem dX9_feed_38 : decode cX9_feed 38 = .ok (.invokevirtual 252, 3) := by decide +kernel
theorem dX9_feed_41 : decode cX9_feed 41 = .ok (.aload_n 0, 1) := by decide +kernel
theorem dX9_feed_42 : decode cX9_feed 42 = .ok (.iload 5, 2) := by decide +kernel
theorem dX9_feed_44 : decode cX9_feed 44 = .ok (.invokevirtual 252, 3) := by decide +kernel
theorem dX9_feed_47 : decode cX9_feed 47 = .ok (.aload_n 0, 1) := by decide +kernel
theorem dX9_feed_48 : decode cX9_feed 48 = .ok (.getfield 179, 3) := by decide +kernel
theorem dX9_feed_51 : decode cX9_feed 51 = .ok (.ireturn, 1) := by decide +kernel
set_option maxRecDepth 20000 in
theorem ggX9_end_X9_isIn : GoodIn wsX9_end wsX9_isIn := goodIn_r _ [6] rfl (by decide +kernel)
set_option maxRecDepth 20000 in
theorem gX9_end_X9_isIn : GoodIn wsX9_end (va_wsS RX9 43 yX9_isIn wsX9_isIn) := goodIn_app (goodIn_of _ (by decide +kernel)) ggX9_end_X9_isIn
theorem dX9_end_0 : decode cX9_end 0 = .ok (.aload_n 0, 1) := by decide +kernel
theorem dX9_end_1 : decode cX9_end 1 = .ok (.iconst 0, 1) := by decide +kernel
theorem dX9_end_2 : decode cX9_end 2 = .ok (.putfield 39, 3) := by decide +kernel
theorem dX9_end_5 : decode cX9_end 5 = .ok (.iload_n 1, 1) := by decide +kernel
theorem dX9_end_6 : decode cX9_end 6 = .ok (.iconst 0, 1) := by decide +kernel
theorem dX9_end_7 : decode cX9_end 7 = .ok (.aload_n 0, 1) := by decide +kernel
theorem dX9_end_8 : decode cX9_end 8 = .ok (.getfield 179, 3) := by decide +kernel
theorem dX9_end_11 : decode cX9_end 11 = .ok (.invokestatic 43, 3) := by decide +kernel
theorem dX9_end_14 : decode cX9_end 14 = .ok (.ifCond .ne 5, 3) := by decide +kernel
theorem dX9_end_17 : decode cX9_end 17 = .ok (.iconst 0, 1) := by decide +kernel
theorem dX9_end_18 : decode cX9_end 18 = .ok (.ireturn, 1) := by decide +kernel
theorem dX9_end_19 : decode cX9_end 19 = .ok (.aload_n 0, 1) := by decide +kernel
theorem dX9_end_20 : decode cX9_end 20 = .ok (.iload_n 1, 1) := by decide +kernel
theorem dX9_end_21 : decode cX9_end 21 = .ok (.putfield 179, 3) := by decide +kernel
theorem dX9_end_24 : decode cX9_end 24 = .ok (.iconst 1, 1) := by decide +kernel
theorem dX9_end_25 : decode cX9_end 25 = .ok (.ireturn, 1) := by decide +kernel
theorem dX9_here_0 : decode cX9_here 0 = .ok (.aload_n 0, 1) := by decide +kernel
theorem dX9_here_1 : decode cX9_here 1 = .ok (.getfield 255, 3) := by decide +kernel
theorem dX9_here_4 : decode cX9_here 4 = .ok (.aload_n 0, 1) := by decide +kernel
theorem dX9_here_5 : decode cX9_here 5 = .ok (.getfield 258, 3) := by decide +kernel
theorem dX9_here_8 : decode cX9_here 8 = .ok (.if_icmp .ge 44, 3) := by decide +kernel
theorem dX9_here_11 : decode cX9_here 11 = .ok (.aload_n 0, 1) := by decide +kernel
theorem dX9_here_12 : decode cX9_here 12 = .ok (.getfield 32, 3) := by decide +kernel
theorem dX9_here_15 : decode cX9_here 15 = .ok (.aload_n 0, 1) := by decide +kernel
theorem dX9_here_16 : decode cX9_here 16 = .ok (.getfield 255, 3) := by decide +kernel
theorem dX9_here_19 : decode cX9_here 19 = .ok (.baload, 1) := by decide +kernel
theorem dX9_here_20 : decode cX9_here 20 = .ok (.bipush 32, 2) := by decide +kernel
theorem dX9_here_22 : decode cX9_here 22 = .ok (.if_icmp .eq 17, 3) := by decide +kernel
theorem dX9_here_25 : decode cX9_here 25 = .ok (.aload_n 0, 1) := by decide +kernel
theorem dX9_here_26 : decode cX9_here 26 = .ok (.getfield 32, 3) := by decide +kernel
theorem dX9_here_29 : decode cX9_here 29 = .ok (.aload_n 0, 1) := by decide +kernel
theorem dX9_here_30 : decode cX9_here 30 = .ok (.getfield 255, 3) := by decide +kernel
theorem dX9_here_33 : decode cX9_here 33 = .ok (.baload, 1) := by decide +kernel
theorem dX9_here_34 : decode cX9_here 34 = .ok (.bipush 10, 2) := by decide +kernel
theorem dX9_here_36 : decode cX9_here 36 = .ok (.if_icmp .ne 16, 3) := by decide +kernel
theorem dX9_here_39 : decode cX9_here 39 = .ok (.aload_n 0, 1) := by decide +kernel
theorem dX9_here_40 : decode cX9_here 40 = .ok (.dup, 1) := by decide +kernel
theorem dX9_here_41 : decode cX9_here 41 = .ok (.getfield 255, 3) := by decide +kernel
theorem dX9_here_44 : decode cX9_here 44 = .ok (.iconst 1, 1) := by decide +kernel
theorem dX9_here_45 : decode cX9_here 45 = .ok (.iadd, 1) := by decide +kernel
theorem dX9_here_46 : decode cX9_here 46 = .ok (.putfield 255, 3) := by decide +kernel
theorem dX9_here_49 : decode cX9_here 49 = .ok (.goto (-49), 3) := by decide +kernel
theorem dX9_here_52 : decode cX9_here 52 = .ok (.aload_n 0, 1) := by decide +kernel
theorem dX9_here_53 : decode cX9_here 53 = .ok (.getfield 255, 3) := by decide +kernel
theorem dX9_here_56 : decode cX9_here 56 = .ok (.aload_n 0, 1) := by decide +kernel
theorem dX9_here_57 : decode cX9_here 57 = .ok (.getfield 258, 3) := by decide +kernel
theorem dX9_here_60 : decode cX9_here 60 = .ok (.if_icmp .ge 19, 3) := by decide +kernel
theorem dX9_here_63 : decode cX9_here 63 = .ok (.aload_n 0, 1) := by decide +kernel
theorem dX9_here_64 : decode cX9_here 64 = .ok (.getfield 32, 3) := by decide +kernel
theorem dX9_here_67 : decode cX9_here 67 = .ok (.aload_n 0, 1) := by decide +kernel
theorem dX9_here_68 : decode cX9_here 68 = .ok (.getfield 255, 3) := by decide +kernel
theorem dX9_here_71 : decode cX9_here 71 = .ok (.baload, 1) := by decide +kernel
theorem dX9_here_72 : decode cX9_here 72 = .ok (.sipush 255, 3) := by decide +kernel
theorem dX9_here_75 : decode cX9_here 75 = .ok (.iand, 1) := by decide +kernel
theorem dX9_here_76 : decode cX9_here 76 = .ok (.goto 4, 3) := by decide +kernel
theorem dX9_here_79 : decode cX9_here 79 = .ok (.iconst (-1), 1) := by decide +kernel
theorem dX9_here_80 : decode cX9_here 80 = .ok (.ireturn, 1) := by decide +kernel
theorem dX9_fails_0 : decode cX9_fails 0 = .ok (.aload_n 0, 1) := by decide +kernel
theorem dX9_fails_1 : decode cX9_fails 1 = .ok (.getfield 261, 3) := by decide +kernel
theorem dX9_fails_4 : decode cX9_fails 4 = .ok (.ifCond .ne 13, 3) := by decide +kernel
theorem dX9_fails_7 : decode cX9_fails 7 = .ok (.aload_n 0, 1) := by decide +kernel
theorem dX9_fails_8 : decode cX9_fails 8 = .ok (.iload_n 1, 1) := by decide +kernel
theorem dX9_fails_9 : decode cX9_fails 9 = .ok (.bipush 8, 2) := by decide +kernel
theorem dX9_fails_11 : decode cX9_fails 11 = .ok (.iload_n 2, 1) := by decide +kernel
theorem dX9_fails_12 : decode cX9_fails 12 = .ok (.imul, 1) := by decide +kernel
theorem dX9_fails_13 : decode cX9_fails 13 = .ok (.iadd, 1) := by decide +kernel
theorem dX9_fails_14 : decode cX9_fails 14 = .ok (.putfield 261, 3) := by decide +kernel
theorem dX9_fails_17 : decode cX9_fails 17 = .ok (.return_, 1) := by decide +kernel
set_option maxRecDepth 20000 in
theorem ggX9_isDigit_X9_here : GoodIn wsX9_isDigit wsX9_here := goodIn_r _ [5, 6, 7, 8, 12, 13, 14, 15, 16, 17, 18, 19, 20, 21, 22, 23, 24, 25, 26, 27, 28, 29] rfl (by decide +kernel)
set_option maxRecDepth 20000 in
theorem gX9_isDigit_X9_here : GoodIn wsX9_isDigit (wsV RX9 264 RX9 yX9_here wsX9_here) := goodIn_app (goodIn_of _ (by decide +kernel)) ggX9_isDigit_X9_here
set_option maxRecDepth 20000 in
theorem ggX9_isDigit_X9_isIn : GoodIn wsX9_isDigit wsX9_isIn := goodIn_r _ [11] rfl (by decide +kernel)
set_option maxRecDepth 20000 in
theorem gX9_isDigit_X9_isIn : GoodIn wsX9_isDigit (va_wsS RX9 43 yX9_isIn wsX9_isIn) := goodIn_app (goodIn_of _ (by decide +kernel)) ggX9_isDigit_X9_isIn
theorem dX9_isDigit_0 : decode cX9_isDigit 0 = .ok (.aload_n 0, 1) := by decide +kernel
theorem dX9_isDigit_1 : decode cX9_isDigit 1 = .ok (.invokevirtual 264, 3) := by decide +kernel
theorem dX9_isDigit_4 : decode cX9_isDigit 4 = .ok (.bipush 48, 2) := by decide +kernel
theorem dX9_isDigit_6 : decode cX9_isDigit 6 = .ok (.bipush 57, 2) := by decide +kernel
theorem dX9_isDigit_8 : decode cX9_isDigit 8 = .ok (.invokestatic 43, 3) := by decide +kernel
theorem dX9_isDigit_11 : decode cX9_isDigit 11 = .ok (.ireturn, 1) := by decide +kernel
set_option maxRecDepth 20000 in
theorem ggX9_number_X9_isDigit : GoodIn wsX9_number wsX9_isDigit := goodIn_r _ [12, 13, 14, 15, 11, 16, 2, 4, 5, 17, 18, 19, 24, 25, 26, 27, 28, 29, 30, 31, 32, 33, 34, 35, 36, 37, 38, 39, 40, 41] rfl (by decide +kernel)
set_option maxRecDepth 20000 in
theorem gX9_number_X9_isDigit : GoodIn wsX9_number (wsV RX9 267 RX9 yX9_isDigit wsX9_isDigit) := goodIn_app (goodIn_of _ (by decide +kernel)) ggX9_number_X9_isDigit
set_option maxRecDepth 20000 in
theorem ggX9_number_X9_isIn : GoodIn wsX9_number wsX9_isIn := goodIn_r _ [19] rfl (by decide +kernel)
set_option maxRecDepth 20000 in
theorem gX9_number_X9_isIn : GoodIn wsX9_number (va_wsS RX9 43 yX9_isIn wsX9_isIn) := goodIn_app (goodIn_of _ (by decide +kernel)) ggX9_number_X9_isIn
set_option maxRecDepth 20000 in
theorem ggX9_number_X9_fails : GoodIn wsX9_number wsX9_fails := goodIn_r _ [23, 1, 24, 25, 26, 27, 28, 29, 30, 31, 32, 33, 34, 35, 36, 37, 38, 39, 40, 41] rfl (by decide +kernel)
set_option maxRecDepth 20000 in
theorem gX9_number_X9_fails : GoodIn wsX9_number (wsV RX9 273 RX9 yX9_fails wsX9_fails) := goodIn_app (goodIn_of _ (by decide +kernel)) ggX9_number_X9_fails
theorem dX9_number_0 : decode cX9_number 0 = .ok (.aload_n 0, 1) := by decide +kernel
theorem dX9_number_1 : decode cX9_number 1 = .ok (.getfield 261, 3) := by decide +kernel
theorem dX9_number_4 : decode cX9_number 4 = .ok (.ifCond .eq 4, 3) := by decide +kernel
theorem dX9_number_7 : decode cX9_number 7 = .ok (.return_, 1) := by decide +kernel
theorem dX9_number_8 : decode cX9_number 8 = .ok (.aload_n 0, 1) := by decide +kernel
theorem dX9_number_9 : decode cX9_number 9 = .ok (.invokevirtual 267, 3) := by decide +kernel
theorem dX9_number_12 : decode cX9_number 12 = .ok (.istore_n 3, 1) := by decide +kernel
theorem dX9_number_13 : decode cX9_number 13 = .ok (.aload_n 0, 1) := by decide +kernel
theorem dX9_number_14 : decode cX9_number 14 = .ok (.aload_n 0, 1) := by decide +kernel
theorem dX9_number_15 : decode cX9_number 15 = .ok (.getfield 255, 3) := by decide +kernel
theorem dX9_number_18 : decode cX9_number 18 = .ok (.putfield 270, 3) := by decide +kernel
theorem dX9_number_21 : decode cX9_number 21 = .ok (.iconst 0, 1) := by decide +kernel
theorem dX9_number_22 : decode cX9_number 22 = .ok (.istore 4, 2) := by decide +kernel
theorem dX9_number_24 : decode cX9_number 24 = .ok (.iload_n 3, 1) := by decide +kernel
theorem dX9_number_25 : decode cX9_number 25 = .ok (.ifCond .eq 85, 3) := by decide +kernel
theorem dX9_number_28 : decode cX9_number 28 = .ok (.aload_n 0, 1) := by decide +kernel
theorem dX9_number_29 : decode cX9_number 29 = .ok (.getfield 255, 3) := by decide +kernel
theorem dX9_number_32 : decode cX9_number 32 = .ok (.aload_n 0, 1) := by decide +kernel
theorem dX9_number_33 : decode cX9_number 33 = .ok (.getfield 258, 3) := by decide +kernel
theorem dX9_number_36 : decode cX9_number 36 = .ok (.if_icmp .ge 74, 3) := by decide +kernel
theorem dX9_number_39 : decode cX9_number 39 = .ok (.aload_n 0, 1) := by decide +kernel
theorem dX9_number_40 : decode cX9_number 40 = .ok (.getfield 32, 3) := by decide +kernel
theorem dX9_number_43 : decode cX9_number 43 = .ok (.aload_n 0, 1) := by decide +kernel
theorem dX9_number_44 : decode cX9_number 44 = .ok (.getfield 255, 3) := by decide +kernel
theorem dX9_number_47 : decode cX9_number 47 = .ok (.baload, 1) := by decide +kernel
theorem dX9_number_48 : decode cX9_number 48 = .ok (.bipush 48, 2) := by decide +kernel
theorem dX9_number_50 : decode cX9_number 50 = .ok (.bipush 57, 2) := by decide +kernel
theorem dX9_number_52 : decode cX9_number 52 = .ok (.invokestatic 43, 3) := by decide +kernel
theorem dX9_number_55 : decode cX9_number 55 = .ok (.ifCond .eq 55, 3) := by decide +kernel
theorem dX9_number_58 : decode cX9_number 58 = .ok (.aload_n 0, 1) := by decide +kernel
theorem dX9_number_59 : decode cX9_number 59 = .ok (.getfield 255, 3) := by decide +kernel
theorem dX9_number_62 : decode cX9_number 62 = .ok (.aload_n 0, 1) := by decide +kernel
theorem dX9_number_63 : decode cX9_number 63 = .ok (.getfield 270, 3) := by decide +kernel
theorem dX9_number_66 : decode cX9_number 66 = .ok (.isub, 1) := by decide +kernel
theorem dX9_number_67 : decode cX9_number 67 = .ok (.bipush 6, 2) := by decide +kernel
theorem dX9_number_69 : decode cX9_number 69 = .ok (.if_icmp .ge 24, 3) := by decide +kernel
theorem dX9_number_72 : decode cX9_number 72 = .ok (.bipush 10, 2) := by decide +kernel
theorem dX9_number_74 : decode cX9_number 74 = .ok (.iload 4, 2) := by decide +kernel
theorem dX9_number_76 : decode cX9_number 76 = .ok (.imul, 1) := by decide +kernel
theorem dX9_number_77 : decode cX9_number 77 = .ok (.aload_n 0, 1) := by decide +kernel
theorem dX9_number_78 : decode cX9_number 78 = .ok (.getfield 32, 3) := by decide +kernel
theorem dX9_number_81 : decode cX9_number 81 = .ok (.aload_n 0, 1) := by decide +kernel
theorem dX9_number_82 : decode cX9_number 82 = .ok (.getfield 255, 3) := by decide +kernel
theorem dX9_number_85 : decode cX9_number 85 = .ok (.baload, 1) := by decide +kernel
theorem dX9_number_86 : decode cX9_number 86 = .ok (.iadd, 1) := by decide +kernel
theorem dX9_number_87 : decode cX9_number 87 = .ok (.bipush 48, 2) := by decide +kernel
theorem dX9_number_89 : decode cX9_number 89 = .ok (.isub, 1) := by decide +kernel
theorem dX9_number_90 : decode cX9_number 90 = .ok (.goto 5, 3) := by decide +kernel
theorem dX9_number_93 : decode cX9_number 93 = .ok (.iload 4, 2) := by decide +kernel
theorem dX9_number_95 : decode cX9_number 95 = .ok (.istore 4, 2) := by decide +kernel
theorem dX9_number_97 : decode cX9_number 97 = .ok (.aload_n 0, 1) := by decide +kernel
theorem dX9_number_98 : decode cX9_number 98 = .ok (.dup, 1) := by decide +kernel
theorem dX9_number_99 : decode cX9_number 99 = .ok (.getfield 255, 3) := by decide +kernel
theorem dX9_number_102 : decode cX9_number 102 = .ok (.iconst 1, 1) := by decide +kernel
theorem dX9_number_103 : decode cX9_number 103 = .ok (.iadd, 1) := by decide +kernel
theorem dX9_number_104 : decode cX9_number 104 = .ok (.putfield 255, 3) := by decide +kernel
theorem dX9_number_107 : decode cX9_number 107 = .ok (.goto (-83), 3) := by decide +kernel
theorem dX9_number_110 : decode cX9_number 110 = .ok (.aload_n 0, 1) := by decide +kernel
theorem dX9_number_111 : decode cX9_number 111 = .ok (.getfield 255, 3) := by decide +kernel
theorem dX9_number_114 : decode cX9_number 114 = .ok (.aload_n 0, 1) := by decide +kernel
theorem dX9_number_115 : decode cX9_number 115 = .ok (.getfield 270, 3) := by decide +kernel
theorem dX9_number_118 : decode cX9_number 118 = .ok (.isub, 1) := by decide +kernel
theorem dX9_number_119 : decode cX9_number 119 = .ok (.iconst 1, 1) := by decide +kernel
theorem dX9_number_120 : decode cX9_number 120 = .ok (.bipush 6, 2) := by decide +kernel
theorem dX9_number_122 : decode cX9_number 122 = .ok (.invokestatic 43, 3) := by decide +kernel
theorem dX9_number_125 : decode cX9_number 125 = .ok (.ifCond .ne 12, 3) := by decide +kernel
theorem dX9_number_128 : decode cX9_number 128 = .ok (.aload_n 0, 1) := by decide +kernel
theorem dX9_number_129 : decode cX9_number 129 = .ok (.iconst 1, 1) := by decide +kernel
theorem dX9_number_130 : decode cX9_number 130 = .ok (.aload_n 0, 1) := by decide +kernel
theorem dX9_number_131 : decode cX9_number 131 = .ok (.getfield 270, 3) := by decide +kernel
theorem dX9_number_134 : decode cX9_number 134 = .ok (.invokevirtual 273, 3) := by decide +kernel
theorem dX9_number_137 : decode cX9_number 137 = .ok (.iload 4, 2) := by decide +kernel
theorem dX9_number_139 : decode cX9_number 139 = .ok (.iload_n 1, 1) := by decide +kernel
theorem dX9_number_140 : decode cX9_number 140 = .ok (.iload_n 2, 1) := by decide +kernel
theorem dX9_number_141 : decode cX9_number 141 = .ok (.invokestatic 43, 3) := by decide +kernel
theorem dX9_number_144 : decode cX9_number 144 = .ok (.ifCond .ne 12, 3) := by decide +kernel
theorem dX9_number_147 : decode cX9_number 147 = .ok (.aload_n 0, 1) := by decide +kernel
theorem dX9_number_148 : decode cX9_number 148 = .ok (.iconst 2, 1) := by decide +kernel
theorem dX9_number_149 : decode cX9_number 149 = .ok (.aload_n 0, 1) := by decide +kernel
theorem dX9_number_150 : decode cX9_number 150 = .ok (.getfield 270, 3) := by decide +kernel
theorem dX9_number_153 : decode cX9_number 153 = .ok (.invokevirtual 273, 3) := by decide +kernel
theorem dX9_number_156 : decode cX9_number 156 = .ok (.aload_n 0, 1) := by decide +kernel
theorem dX9_number_157 : decode cX9_number 157 = .ok (.getfield 36, 3) := by decide +kernel
theorem dX9_number_160 : decode cX9_number 160 = .ok (.aload_n 0, 1) := by decide +kernel
theorem dX9_number_161 : decode cX9_number 161 = .ok (.getfield 277, 3) := by decide +kernel
theorem dX9_number_164 : decode cX9_number 164 = .ok (.iload 4, 2) := by decide +kernel
theorem dX9_number_166 : decode cX9_number 166 = .ok (.iastore, 1) := by decide +kernel
theorem dX9_number_167 : decode cX9_number 167 = .ok (.aload_n 0, 1) := by decide +kernel
theorem dX9_number_168 : decode cX9_number 168 = .ok (.dup, 1) := by decide +kernel
theorem dX9_number_169 : decode cX9_number 169 = .ok (.getfield 277, 3) := by decide +kernel
theorem dX9_number_172 : decode cX9_number 172 = .ok (.iconst 1, 1) := by decide +kernel
theorem dX9_number_173 : decode cX9_number 173 = .ok (.iadd, 1) := by decide +kernel
theorem dX9_number_174 : decode cX9_number 174 = .ok (.putfield 277, 3) := by decide +kernel
theorem dX9_number_177 : decode cX9_number 177 = .ok (.return_, 1) := by decide +kernel
set_option maxRecDepth 20000 in
theorem ggX9_word_X9_here : GoodIn wsX9_word wsX9_here := goodIn_r _ [11, 1, 3, 4, 15, 16, 17, 18, 19, 20, 21, 22, 23, 24, 25, 26, 27, 28, 29, 30, 31, 32] rfl (by decide +kernel)
set_option maxRecDepth 20000 in
theorem gX9_word_X9_here : GoodIn wsX9_word (wsV RX9 264 RX9 yX9_here wsX9_here) := goodIn_app (goodIn_of _ (by decide +kernel)) ggX9_word_X9_here
set_option maxRecDepth 20000 in
theorem ggX9_word_X9_isIn : GoodIn wsX9_word wsX9_isIn := goodIn_r _ [14] rfl (by decide +kernel)
set_option maxRecDepth 20000 in
theorem gX9_word_X9_isIn : GoodIn wsX9_word (va_wsS RX9 43 yX9_isIn wsX9_isIn) := goodIn_app (goodIn_of _ (by decide +kernel)) ggX9_word_X9_isIn
theorem dX9_word_0 : decode cX9_word 0 = .ok (.aload_n 0, 1) := by decide +kernel
theorem dX9_word_1 : decode cX9_word 1 = .ok (.invokevirtual 264, 3) := by decide +kernel
theorem dX9_word_4 : decode cX9_word 4 = .ok (.pop, 1) := by decide +kernel
theorem dX9_word_5 : decode cX9_word 5 = .ok (.aload_n 0, 1) := by decide +kernel
theorem dX9_word_6 : decode cX9_word 6 = .ok (.aload_n 0, 1) := by decide +kernel
theorem dX9_word_7 : decode cX9_word 7 = .ok (.getfield 255, 3) := by decide +kernel
theorem dX9_word_10 : decode cX9_word 10 = .ok (.putfield 270, 3) := by decide +kernel
theorem dX9_word_13 : decode cX9_word 13 = .ok (.lconst 0, 1) := by decide +kernel
theorem dX9_word_14 : decode cX9_word 14 = .ok (.lstore_n 1, 1) := by decide +kernel
theorem dX9_word_15 : decode cX9_word 15 = .ok (.aload_n 0, 1) := by decide +kernel
theorem dX9_word_16 : decode cX9_word 16 = .ok (.getfield 255, 3) := by decide +kernel
theorem dX9_word_19 : decode cX9_word 19 = .ok (.aload_n 0, 1) := by decide +kernel
theorem dX9_word_20 : decode cX9_word 20 = .ok (.getfield 258, 3) := by decide +kernel
theorem dX9_word_23 : decode cX9_word 23 = .ok (.if_icmp .ge 74, 3) := by decide +kernel
theorem dX9_word_26 : decode cX9_word 26 = .ok (.aload_n 0, 1) := by decide +kernel
theorem dX9_word_27 : decode cX9_word 27 = .ok (.getfield 32, 3) := by decide +kernel
theorem dX9_word_30 : decode cX9_word 30 = .ok (.aload_n 0, 1) := by decide +kernel
theorem dX9_word_31 : decode cX9_word 31 = .ok (.getfield 255, 3) := by decide +kernel
theorem dX9_word_34 : decode cX9_word 34 = .ok (.baload, 1) := by decide +kernel
theorem dX9_word_35 : decode cX9_word 35 = .ok (.bipush 97, 2) := by decide +kernel
theorem dX9_word_37 : decode cX9_word 37 = .ok (.bipush 122, 2) := by decide +kernel
theorem dX9_word_39 : decode cX9_word 39 = .ok (.invokestatic 43, 3) := by decide +kernel
theorem dX9_word_42 : decode cX9_word 42 = .ok (.ifCond .eq 55, 3) := by decide +kernel
theorem dX9_word_45 : decode cX9_word 45 = .ok (.aload_n 0, 1) := by decide +kernel
theorem dX9_word_46 : decode cX9_word 46 = .ok (.getfield 255, 3) := by decide +kernel
theorem dX9_word_49 : decode cX9_word 49 = .ok (.aload_n 0, 1) := by decide +kernel
theorem dX9_word_50 : decode cX9_word 50 = .ok (.getfield 270, 3) := by decide +kernel
theorem dX9_word_53 : decode cX9_word 53 = .ok (.isub, 1) := by decide +kernel
theorem dX9_word_54 : decode cX9_word 54 = .ok (.bipush 7, 2) := by decide +kernel
theorem dX9_word_56 : decode cX9_word 56 = .ok (.if_icmp .ge 26, 3) := by decide +kernel
theorem dX9_word_59 : decode cX9_word 59 = .ok (.ldc2_w 280, 3) := by decide +kernel
theorem dX9_word_62 : decode cX9_word 62 = .ok (.lload_n 1, 1) := by decide +kernel
theorem dX9_word_63 : decode cX9_word 63 = .ok (.lmul, 1) := by decide +kernel
theorem dX9_word_64 : decode cX9_word 64 = .ok (.aload_n 0, 1) := by decide +kernel
theorem dX9_word_65 : decode cX9_word 65 = .ok (.getfield 32, 3) := by decide +kernel
theorem dX9_word_68 : decode cX9_word 68 = .ok (.aload_n 0, 1) := by decide +kernel
theorem dX9_word_69 : decode cX9_word 69 = .ok (.getfield 255, 3) := by decide +kernel
theorem dX9_word_72 : decode cX9_word 72 = .ok (.baload, 1) := by decide +kernel
theorem dX9_word_73 : decode cX9_word 73 = .ok (.i2l, 1) := by decide +kernel
theorem dX9_word_74 : decode cX9_word 74 = .ok (.ladd, 1) := by decide +kernel
theorem dX9_word_75 : decode cX9_word 75 = .ok (.ldc2_w 282, 3) := by decide +kernel
theorem dX9_word_78 : decode cX9_word 78 = .ok (.lsub, 1) := by decide +kernel
theorem dX9_word_79 : decode cX9_word 79 = .ok (.goto 4, 3) := by decide +kernel
theorem dX9_word_82 : decode cX9_word 82 = .ok (.lconst 0, 1) := by decide +kernel
theorem dX9_word_83 : decode cX9_word 83 = .ok (.lstore_n 1, 1) := by decide +kernel
theorem dX9_word_84 : decode cX9_word 84 = .ok (.aload_n 0, 1) := by decide +kernel
theorem dX9_word_85 : decode cX9_word 85 = .ok (.dup, 1) := by decide +kernel
theorem dX9_word_86 : decode cX9_word 86 = .ok (.getfield 255, 3) := by decide +kernel
theorem dX9_word_89 : decode cX9_word 89 = .ok (.iconst 1, 1) := by decide +kernel
theorem dX9_word_90 : decode cX9_word 90 = .ok (.iadd, 1) := by decide +kernel
theorem dX9_word_91 : decode cX9_word 91 = .ok (.putfield 255, 3) := by decide +kernel
theorem dX9_word_94 : decode cX9_word 94 = .ok (.goto (-79), 3) := by decide +kernel
theorem dX9_word_97 : decode cX9_word 97 = .ok (.lload_n 1, 1) := by decide +kernel
theorem dX9_word_98 : decode cX9_word 98 = .ok (.lreturn, 1) := by decide +kernel
set_option maxRecDepth 20000 in
theorem ggX9_isWord_X9_word : GoodIn wsX9_isWord wsX9_word := goodIn_r _ [6, 1, 7, 8, 9, 10, 11, 12, 13, 14, 5, 15, 16, 17, 18, 19, 20, 21, 22, 23, 24, 25, 26, 27, 28, 29, 30, 31, 32, 33, 34, 35, 36] rfl (by decide +kernel)
set_option maxRecDepth 20000 in
theorem gX9_isWord_X9_word : GoodIn wsX9_isWord (wsV RX9 284 RX9 yX9_word wsX9_word) := goodIn_app (goodIn_of _ (by decide +kernel)) ggX9_isWord_X9_word
theorem dX9_isWord_0 : decode cX9_isWord 0 = .ok (.aload_n 0, 1) := by decide +kernel
theorem dX9_isWord_1 : decode cX9_isWord 1 = .ok (.getfield 255, 3) := by decide +kernel
theorem dX9_isWord_4 : decode cX9_isWord 4 = .ok (.istore_n 3, 1) := by decide +kernel
theorem dX9_isWord_5 : decode cX9_isWord 5 = .ok (.aload_n 0, 1) := by decide +kernel
theorem dX9_isWord_6 : decode cX9_isWord 6 = .ok (.invokevirtual 284, 3) := by decide +kernel
theorem dX9_isWord_9 : decode cX9_isWord 9 = .ok (.lload_n 1, 1) := by decide +kernel
theorem dX9_isWord_10 : decode cX9_isWord 10 = .ok (.lcmp, 1) := by decide +kernel
theorem dX9_isWord_11 : decode cX9_isWord 11 = .ok (.ifCond .ne 7, 3) := by decide +kernel
theorem dX9_isWord_14 : decode cX9_isWord 14 = .ok (.iconst 1, 1) := by decide +kernel
theorem dX9_isWord_15 : decode cX9_isWord 15 = .ok (.goto 4, 3) := by decide +kernel
theorem dX9_isWord_18 : decode cX9_isWord 18 = .ok (.iconst 0, 1) := by decide +kernel
theorem dX9_isWord_19 : decode cX9_isWord 19 = .ok (.istore 4, 2) := by decide +kernel
theorem dX9_isWord_21 : decode cX9_isWord 21 = .ok (.aload_n 0, 1) := by decide +kernel
theorem dX9_isWord_22 : decode cX9_isWord 22 = .ok (.iload_n 3, 1) := by decide +kernel
theorem dX9_isWord_23 : decode cX9_isWord 23 = .ok (.putfield 255, 3) := by decide +kernel
theorem dX9_isWord_26 : decode cX9_isWord 26 = .ok (.iload 4, 2) := by decide +kernel
theorem dX9_isWord_28 : decode cX9_isWord 28 = .ok (.ireturn, 1) := by decide +kernel
set_option maxRecDepth 20000 in
theorem ggX9_ends_X9_here : GoodIn wsX9_ends wsX9_here := goodIn_r _ [7, 2, 8, 9, 14, 15, 16, 17, 18, 19, 20, 21, 22, 23, 24, 25, 26, 27, 28, 29, 30, 31] rfl (by decide +kernel)
set_option maxRecDepth 20000 in
theorem gX9_ends_X9_here : GoodIn wsX9_ends (wsV RX9 264 RX9 yX9_here wsX9_here) := goodIn_app (goodIn_of _ (by decide +kernel)) ggX9_ends_X9_here
set_option maxRecDepth 20000 in
theorem ggX9_ends_X9_fails : GoodIn wsX9_ends wsX9_fails := goodIn_r _ [13, 1, 14, 15, 16, 17, 18, 19, 20, 21, 22, 23, 24, 25, 26, 27, 28, 29, 30, 31] rfl (by decide +kernel)
set_option maxRecDepth 20000 in
theorem gX9_ends_X9_fails : GoodIn wsX9_ends (wsV RX9 273 RX9 yX9_fails wsX9_fails) := goodIn_app (goodIn_of _ (by decide +kernel)) ggX9_ends_X9_fails
theorem dX9_ends_0 : decode cX9_ends 0 = .ok (.aload_n 0, 1) := by decide +kernel
theorem dX9_ends_1 : decode cX9_ends 1 = .ok (.getfield 261, 3) := by decide +kernel
theorem dX9_ends_4 : decode cX9_ends 4 = .ok (.ifCond .ne 21, 3) := by decide +kernel
theorem dX9_ends_7 : decode cX9_ends 7 = .ok (.aload_n 0, 1) := by decide +kernel
theorem dX9_ends_8 : decode cX9_ends 8 = .ok (.invokevirtual 264, 3) := by decide +kernel
theorem dX9_ends_11 : decode cX9_ends 11 = .ok (.bipush 59, 2) := by decide +kernel
theorem dX9_ends_13 : decode cX9_ends 13 = .ok (.if_icmp .eq 12, 3) := by decide +kernel
theorem dX9_ends_16 : decode cX9_ends 16 = .ok (.aload_n 0, 1) := by decide +kernel
theorem dX9_ends_17 : decode cX9_ends 17 = .ok (.iconst 1, 1) := by decide +kernel
theorem dX9_ends_18 : decode cX9_ends 18 = .ok (.aload_n 0, 1) := by decide +kernel
theorem dX9_ends_19 : decode cX9_ends 19 = .ok (.getfield 255, 3) := by decide +kernel
theorem dX9_ends_22 : decode cX9_ends 22 = .ok (.invokevirtual 273, 3) := by decide +kernel
theorem dX9_ends_25 : decode cX9_ends 25 = .ok (.aload_n 0, 1) := by decide +kernel
theorem dX9_ends_26 : decode cX9_ends 26 = .ok (.dup, 1) := by decide +kernel
theorem dX9_ends_27 : decode cX9_ends 27 = .ok (.getfield 255, 3) := by decide +kernel
theorem dX9_ends_30 : decode cX9_ends 30 = .ok (.iconst 1, 1) := by decide +kernel
theorem dX9_ends_31 : decode cX9_ends 31 = .ok (.iadd, 1) := by decide +kernel
theorem dX9_ends_32 : decode cX9_ends 32 = .ok (.putfield 255, 3) := by decide +kernel
theorem dX9_ends_35 : decode cX9_ends 35 = .ok (.aload_n 0, 1) := by decide +kernel
theorem dX9_ends_36 : decode cX9_ends 36 = .ok (.getfield 261, 3) := by decide +kernel
theorem dX9_ends_39 : decode cX9_ends 39 = .ok (.ifCond .ne 7, 3) := by decide +kernel
theorem dX9_ends_42 : decode cX9_ends 42 = .ok (.iconst 1, 1) := by decide +kernel
theorem dX9_ends_43 : decode cX9_ends 43 = .ok (.goto 4, 3) := by decide +kernel
theorem dX9_ends_46 : decode cX9_ends 46 = .ok (.iconst 0, 1) := by decide +kernel
theorem dX9_ends_47 : decode cX9_ends 47 = .ok (.ireturn, 1) := by decide +kernel
set_option maxRecDepth 20000 in
theorem ggX9_can_X9_fails : GoodIn wsX9_can wsX9_fails := goodIn_r _ [5, 6, 7, 8, 9, 10, 11, 12, 13, 14, 15, 16, 17, 18, 19, 20, 21, 22, 23, 24] rfl (by decide +kernel)
set_option maxRecDepth 20000 in
theorem gX9_can_X9_fails : GoodIn wsX9_can (wsV RX9 273 RX9 yX9_fails wsX9_fails) := goodIn_app (goodIn_of _ (by decide +kernel)) ggX9_can_X9_fails
theorem dX9_can_0 : decode cX9_can 0 = .ok (.iload_n 1, 1) := by decide +kernel
theorem dX9_can_1 : decode cX9_can 1 = .ok (.ifCond .ne 9, 3) := by decide +kernel
theorem dX9_can_4 : decode cX9_can 4 = .ok (.aload_n 0, 1) := by decide +kernel
theorem dX9_can_5 : decode cX9_can 5 = .ok (.iconst 3, 1) := by decide +kernel
theorem dX9_can_6 : decode cX9_can 6 = .ok (.iload_n 2, 1) := by decide +kernel
theorem dX9_can_7 : decode cX9_can 7 = .ok (.invokevirtual 273, 3) := by decide +kernel
theorem dX9_can_10 : decode cX9_can 10 = .ok (.return_, 1) := by decide +kernel
theorem dX9_lastRider_0 : decode cX9_lastRider 0 = .ok (.aload_n 0, 1) := by decide +kernel
theorem dX9_lastRider_1 : decode cX9_lastRider 1 = .ok (.getfield 7, 3) := by decide +kernel
theorem dX9_lastRider_4 : decode cX9_lastRider 4 = .ok (.iconst 1, 1) := by decide +kernel
theorem dX9_lastRider_5 : decode cX9_lastRider 5 = .ok (.iaload, 1) := by decide +kernel
theorem dX9_lastRider_6 : decode cX9_lastRider 6 = .ok (.iconst 1, 1) := by decide +kernel
theorem dX9_lastRider_7 : decode cX9_lastRider 7 = .ok (.isub, 1) := by decide +kernel
theorem dX9_lastRider_8 : decode cX9_lastRider 8 = .ok (.ireturn, 1) := by decide +kernel
set_option maxRecDepth 20000 in
theorem ggX9_stageTold_X9_word : GoodIn wsX9_stageTold wsX9_word := goodIn_r _ [16, 17, 6, 18, 19, 20, 21, 22, 23, 24, 15, 25, 26, 27, 28, 91, 92, 93, 94, 95, 96, 97, 98, 99, 100, 101, 102, 103, 104, 105, 106, 107, 108] rfl (by decide +kernel)
set_option maxRecDepth 20000 in
theorem gX9_stageTold_X9_word : GoodIn wsX9_stageTold (wsV RX9 284 RX9 yX9_word wsX9_word) := goodIn_app (goodIn_of _ (by decide +kernel)) ggX9_stageTold_X9_word
set_option maxRecDepth 20000 in
theorem ggX9_stageTold_X9_fails : GoodIn wsX9_stageTold wsX9_fails := goodIn_r _ [32, 1, 91, 92, 93, 94, 95, 96, 97, 98, 99, 100, 101, 102, 103, 104, 105, 106, 107, 108] rfl (by decide +kernel)
set_option maxRecDepth 20000 in
theorem gX9_stageTold_X9_fails : GoodIn wsX9_stageTold (wsV RX9 273 RX9 yX9_fails wsX9_fails) := goodIn_app (goodIn_of _ (by decide +kernel)) ggX9_stageTold_X9_fails
set_option maxRecDepth 20000 in
theorem ggX9_stageTold_X9_number : GoodIn wsX9_stageTold wsX9_number := goodIn_r _ [36, 1, 17, 6, 18, 19, 7, 9, 37, 38, 39, 15, 40, 22, 23, 24, 25, 26, 27, 28, 29, 30, 31, 32, 91, 92, 93, 94, 95, 96, 97, 98, 99, 100, 101, 102, 103, 104, 105, 106, 107, 108] rfl (by decide +kernel)
set_option maxRecDepth 20000 in
theorem gX9_stageTold_X9_number : GoodIn wsX9_stageTold (wsV RX9 296 RX9 yX9_number wsX9_number) := goodIn_app (goodIn_of _ (by decide +kernel)) ggX9_stageTold_X9_number
set_option maxRecDepth 20000 in
theorem ggX9_stageTold_X9_isWord : GoodIn wsX9_stageTold wsX9_isWord := goodIn_r _ [44, 17, 12, 13, 14, 15, 16, 6, 18, 19, 20, 21, 22, 23, 24, 25, 26, 27, 28, 91, 92, 93, 94, 95, 96, 97, 98, 99, 100, 101, 102, 103, 104, 105, 106, 107, 108] rfl (by decide +kernel)
set_option maxRecDepth 20000 in
theorem gX9_stageTold_X9_isWord : GoodIn wsX9_stageTold (wsV RX9 301 RX9 yX9_isWord wsX9_isWord) := goodIn_app (goodIn_of _ (by decide +kernel)) ggX9_stageTold_X9_isWord
set_option maxRecDepth 20000 in
theorem ggX9_stageTold_X9_ends : GoodIn wsX9_stageTold wsX9_ends := goodIn_r _ [48, 1, 17, 22, 23, 24, 15, 25, 18, 19, 29, 30, 31, 32, 91, 92, 93, 94, 95, 96, 97, 98, 99, 100, 101, 102, 103, 104, 105, 106, 107, 108] rfl (by decide +kernel)
set_option maxRecDepth 20000 in
theorem gX9_stageTold_X9_ends : GoodIn wsX9_stageTold (wsV RX9 309 RX9 yX9_ends wsX9_ends) := goodIn_app (goodIn_of _ (by decide +kernel)) ggX9_stageTold_X9_ends
set_option maxRecDepth 20000 in
theorem ggX9_stageTold_X9_stages : GoodIn wsX9_stageTold wsX9_stages := goodIn_r _ [52, 53, 54, 55, 56, 15, 57, 26, 27, 28, 58, 59, 60, 61, 62, 63, 64, 65, 66, 67, 68, 69, 70, 71, 72, 73, 74, 75, 91, 92, 93, 94, 95, 96, 97, 98, 99, 100, 101, 102, 103, 104, 105, 106, 107, 108] rfl (by decide +kernel)
set_option maxRecDepth 20000 in
theorem gX9_stageTold_X9_stages : GoodIn wsX9_stageTold (wsV RX9 81 RX9 yX9_stages wsX9_stages) := goodIn_app (goodIn_of _ (by decide +kernel)) ggX9_stageTold_X9_stages
set_option maxRecDepth 20000 in
theorem ggX9_stageTold_X9_can : GoodIn wsX9_stageTold wsX9_can := goodIn_r _ [79, 29, 30, 31, 15, 32, 1, 91, 92, 93, 94, 95, 96, 97, 98, 99, 100, 101, 102, 103, 104, 105, 106, 107, 108] rfl (by decide +kernel)
set_option maxRecDepth 20000 in
theorem gX9_stageTold_X9_can : GoodIn wsX9_stageTold (wsV RX9 312 RX9 yX9_can wsX9_can) := goodIn_app (goodIn_of _ (by decide +kernel)) ggX9_stageTold_X9_can
set_option maxRecDepth 20000 in
theorem ggX9_stageTold_X9_marks : GoodIn wsX9_stageTold wsX9_marks := goodIn_r _ [83, 53, 84, 85, 86, 15, 87, 54, 55, 56, 57, 73, 74, 75, 26, 27, 28, 88, 89, 90, 91, 92, 93, 94, 95, 96, 97, 98, 99, 100, 101, 102, 103, 104, 105, 106, 107, 108] rfl (by decide +kernel)
set_option maxRecDepth 20000 in
theorem gX9_stageTold_X9_marks : GoodIn wsX9_stageTold (wsV RX9 89 RX9 yX9_marks wsX9_marks) := goodIn_app (goodIn_of _ (by decide +kernel)) ggX9_stageTold_X9_marks
theorem dX9_stageTold_0 : decode cX9_stageTold 0 = .ok (.aload_n 0, 1) := by decide +kernel
theorem dX9_stageTold_1 : decode cX9_stageTold 1 = .ok (.getfield 261, 3) := by decide +kernel
theorem dX9_stageTold_4 : decode cX9_stageTold 4 = .ok (.ifCond .ne 10, 3) := by decide +kernel
theorem dX9_stageTold_7 : decode cX9_stageTold 7 = .ok (.aload_n 0, 1) := by decide +kernel
theorem dX9_stageTold_8 : decode cX9_stageTold 8 = .ok (.invokevirtual 284, 3) := by decide +kernel
theorem dX9_stageTold_11 : decode cX9_stageTold 11 = .ok (.goto 4, 3) := by decide +kernel
theorem dX9_stageTold_14 : decode cX9_stageTold 14 = .ok (.lconst 0, 1) := by decide +kernel
theorem dX9_stageTold_15 : decode cX9_stageTold 15 = .ok (.lstore_n 2, 1) := by decide +kernel
theorem dX9_stageTold_16 : decode cX9_stageTold 16 = .ok (.lload_n 2, 1) := by decide +kernel
theorem dX9_stageTold_17 : decode cX9_stageTold 17 = .ok (.ldc2_w 288, 3) := by decide +kernel
theorem dX9_stageTold_20 : decode cX9_stageTold 20 = .ok (.lcmp, 1) := by decide +kernel
theorem dX9_stageTold_21 : decode cX9_stageTold 21 = .ok (.ifCond .ne 7, 3) := by decide +kernel
theorem dX9_stageTold_24 : decode cX9_stageTold 24 = .ok (.iconst 0, 1) := by decide +kernel
theorem dX9_stageTold_25 : decode cX9_stageTold 25 = .ok (.goto 40, 3) := by decide +kernel
theorem dX9_stageTold_28 : decode cX9_stageTold 28 = .ok (.lload_n 2, 1) := by decide +kernel
theorem dX9_stageTold_29 : decode cX9_stageTold 29 = .ok (.ldc2_w 290, 3) := by decide +kernel
theorem dX9_stageTold_32 : decode cX9_stageTold 32 = .ok (.lcmp, 1) := by decide +kernel
theorem dX9_stageTold_33 : decode cX9_stageTold 33 = .ok (.ifCond .ne 7, 3) := by decide +kernel
theorem dX9_stageTold_36 : decode cX9_stageTold 36 = .ok (.iconst 1, 1) := by decide +kernel
theorem dX9_stageTold_37 : decode cX9_stageTold 37 = .ok (.goto 28, 3) := by decide +kernel
theorem dX9_stageTold_40 : decode cX9_stageTold 40 = .ok (.lload_n 2, 1) := by decide +kernel
theorem dX9_stageTold_41 : decode cX9_stageTold 41 = .ok (.ldc2_w 292, 3) := by decide +kernel
theorem dX9_stageTold_44 : decode cX9_stageTold 44 = .ok (.lcmp, 1) := by decide +kernel
theorem dX9_stageTold_45 : decode cX9_stageTold 45 = .ok (.ifCond .ne 7, 3) := by decide +kernel
theorem dX9_stageTold_48 : decode cX9_stageTold 48 = .ok (.iconst 2, 1) := by decide +kernel
theorem dX9_stageTold_49 : decode cX9_stageTold 49 = .ok (.goto 16, 3) := by decide +kernel
theorem dX9_stageTold_52 : decode cX9_stageTold 52 = .ok (.lload_n 2, 1) := by decide +kernel
theorem dX9_stageTold_53 : decode cX9_stageTold 53 = .ok (.ldc2_w 294, 3) := by decide +kernel
theorem dX9_stageTold_56 : decode cX9_stageTold 56 = .ok (.lcmp, 1) := by decide +kernel
theorem dX9_stageTold_57 : decode cX9_stageTold 57 = .ok (.ifCond .ne 7, 3) := by decide +kernel
theorem dX9_stageTold_60 : decode cX9_stageTold 60 = .ok (.iconst 3, 1) := by decide +kernel
theorem dX9_stageTold_61 : decode cX9_stageTold 61 = .ok (.goto 4, 3) := by decide +kernel
theorem dX9_stageTold_64 : decode cX9_stageTold 64 = .ok (.iconst (-1), 1) := by decide +kernel
theorem dX9_stageTold_65 : decode cX9_stageTold 65 = .ok (.istore 4, 2) := by decide +kernel
theorem dX9_stageTold_67 : decode cX9_stageTold 67 = .ok (.iload 4, 2) := by decide +kernel
theorem dX9_stageTold_69 : decode cX9_stageTold 69 = .ok (.iconst (-1), 1) := by decide +kernel
theorem dX9_stageTold_70 : decode cX9_stageTold 70 = .ok (.if_icmp .ne 12, 3) := by decide +kernel
theorem dX9_stageTold_73 : decode cX9_stageTold 73 = .ok (.aload_n 0, 1) := by decide +kernel
theorem dX9_stageTold_74 : decode cX9_stageTold 74 = .ok (.iconst 1, 1) := by decide +kernel
theorem dX9_stageTold_75 : decode cX9_stageTold 75 = .ok (.aload_n 0, 1) := by decide +kernel
theorem dX9_stageTold_76 : decode cX9_stageTold 76 = .ok (.getfield 270, 3) := by decide +kernel
theorem dX9_stageTold_79 : decode cX9_stageTold 79 = .ok (.invokevirtual 273, 3) := by decide +kernel
theorem dX9_stageTold_82 : decode cX9_stageTold 82 = .ok (.aload_n 0, 1) := by decide +kernel
theorem dX9_stageTold_83 : decode cX9_stageTold 83 = .ok (.iconst 1, 1) := by decide +kernel
theorem dX9_stageTold_84 : decode cX9_stageTold 84 = .ok (.sipush 300, 3) := by decide +kernel
theorem dX9_stageTold_87 : decode cX9_stageTold 87 = .ok (.invokevirtual 296, 3) := by decide +kernel
theorem dX9_stageTold_90 : decode cX9_stageTold 90 = .ok (.aload_n 0, 1) := by decide +kernel
theorem dX9_stageTold_91 : decode cX9_stageTold 91 = .ok (.getfield 261, 3) := by decide +kernel
theorem dX9_stageTold_94 : decode cX9_stageTold 94 = .ok (.ifCond .ne 12, 3) := by decide +kernel
theorem dX9_stageTold_97 : decode cX9_stageTold 97 = .ok (.aload_n 0, 1) := by decide +kernel
theorem dX9_stageTold_98 : decode cX9_stageTold 98 = .ok (.getfield 36, 3) := by decide +kernel
theorem dX9_stageTold_101 : decode cX9_stageTold 101 = .ok (.iconst 0, 1) := by decide +kernel
theorem dX9_stageTold_102 : decode cX9_stageTold 102 = .ok (.iaload, 1) := by decide +kernel
theorem dX9_stageTold_103 : decode cX9_stageTold 103 = .ok (.goto 4, 3) := by decide +kernel
theorem dX9_stageTold_106 : decode cX9_stageTold 106 = .ok (.iconst 0, 1) := by decide +kernel
theorem dX9_stageTold_107 : decode cX9_stageTold 107 = .ok (.istore 5, 2) := by decide +kernel
theorem dX9_stageTold_109 : decode cX9_stageTold 109 = .ok (.iconst 0, 1) := by decide +kernel
theorem dX9_stageTold_110 : decode cX9_stageTold 110 = .ok (.istore 6, 2) := by decide +kernel
theorem dX9_stageTold_112 : decode cX9_stageTold 112 = .ok (.aload_n 0, 1) := by decide +kernel
theorem dX9_stageTold_113 : decode cX9_stageTold 113 = .ok (.getfield 261, 3) := by decide +kernel
theorem dX9_stageTold_116 : decode cX9_stageTold 116 = .ok (.ifCond .ne 130, 3) := by decide +kernel
theorem dX9_stageTold_119 : decode cX9_stageTold 119 = .ok (.aload_n 0, 1) := by decide +kernel
theorem dX9_stageTold_120 : decode cX9_stageTold 120 = .ok (.ldc2_w 299, 3) := by decide +kernel
theorem dX9_stageTold_123 : decode cX9_stageTold 123 = .ok (.invokevirtual 301, 3) := by decide +kernel
theorem dX9_stageTold_126 : decode cX9_stageTold 126 = .ok (.ifCond .eq 120, 3) := by decide +kernel
theorem dX9_stageTold_129 : decode cX9_stageTold 129 = .ok (.aload_n 0, 1) := by decide +kernel
theorem dX9_stageTold_130 : decode cX9_stageTold 130 = .ok (.invokevirtual 284, 3) := by decide +kernel
theorem dX9_stageTold_133 : decode cX9_stageTold 133 = .ok (.lstore_n 2, 1) := by decide +kernel
theorem dX9_stageTold_134 : decode cX9_stageTold 134 = .ok (.aload_n 0, 1) := by decide +kernel
theorem dX9_stageTold_135 : decode cX9_stageTold 135 = .ok (.iload 6, 2) := by decide +kernel
theorem dX9_stageTold_137 : decode cX9_stageTold 137 = .ok (.iconst 1, 1) := by decide +kernel
theorem dX9_stageTold_138 : decode cX9_stageTold 138 = .ok (.iadd, 1) := by decide +kernel
theorem dX9_stageTold_139 : decode cX9_stageTold 139 = .ok (.iload 5, 2) := by decide +kernel
theorem dX9_stageTold_141 : decode cX9_stageTold 141 = .ok (.iconst 1, 1) := by decide +kernel
theorem dX9_stageTold_142 : decode cX9_stageTold 142 = .ok (.isub, 1) := by decide +kernel
theorem dX9_stageTold_143 : decode cX9_stageTold 143 = .ok (.invokevirtual 296, 3) := by decide +kernel
theorem dX9_stageTold_146 : decode cX9_stageTold 146 = .ok (.aload_n 0, 1) := by decide +kernel
theorem dX9_stageTold_147 : decode cX9_stageTold 147 = .ok (.getfield 261, 3) := by decide +kernel
theorem dX9_stageTold_150 : decode cX9_stageTold 150 = .ok (.ifCond .ne 17, 3) := by decide +kernel
theorem dX9_stageTold_153 : decode cX9_stageTold 153 = .ok (.aload_n 0, 1) := by decide +kernel
theorem dX9_stageTold_154 : decode cX9_stageTold 154 = .ok (.getfield 36, 3) := by decide +kernel
theorem dX9_stageTold_157 : decode cX9_stageTold 157 = .ok (.aload_n 0, 1) := by decide +kernel
theorem dX9_stageTold_158 : decode cX9_stageTold 158 = .ok (.getfield 277, 3) := by decide +kernel
theorem dX9_stageTold_161 : decode cX9_stageTold 161 = .ok (.iconst 1, 1) := by decide +kernel
theorem dX9_stageTold_162 : decode cX9_stageTold 162 = .ok (.isub, 1) := by decide +kernel
theorem dX9_stageTold_163 : decode cX9_stageTold 163 = .ok (.iaload, 1) := by decide +kernel
theorem dX9_stageTold_164 : decode cX9_stageTold 164 = .ok (.goto 4, 3) := by decide +kernel
theorem dX9_stageTold_167 : decode cX9_stageTold 167 = .ok (.iconst 0, 1) := by decide +kernel
theorem dX9_stageTold_168 : decode cX9_stageTold 168 = .ok (.istore 6, 2) := by decide +kernel
theorem dX9_stageTold_170 : decode cX9_stageTold 170 = .ok (.aload_n 0, 1) := by decide +kernel
theorem dX9_stageTold_171 : decode cX9_stageTold 171 = .ok (.getfield 261, 3) := by decide +kernel
theorem dX9_stageTold_174 : decode cX9_stageTold 174 = .ok (.ifCond .ne 10, 3) := by decide +kernel
theorem dX9_stageTold_177 : decode cX9_stageTold 177 = .ok (.aload_n 0, 1) := by decide +kernel
theorem dX9_stageTold_178 : decode cX9_stageTold 178 = .ok (.invokevirtual 284, 3) := by decide +kernel
theorem dX9_stageTold_181 : decode cX9_stageTold 181 = .ok (.goto 4, 3) := by decide +kernel
theorem dX9_stageTold_184 : decode cX9_stageTold 184 = .ok (.lconst 0, 1) := by decide +kernel
theorem dX9_stageTold_185 : decode cX9_stageTold 185 = .ok (.lstore_n 2, 1) := by decide +kernel
theorem dX9_stageTold_186 : decode cX9_stageTold 186 = .ok (.lload_n 2, 1) := by decide +kernel
theorem dX9_stageTold_187 : decode cX9_stageTold 187 = .ok (.ldc2_w 305, 3) := by decide +kernel
theorem dX9_stageTold_190 : decode cX9_stageTold 190 = .ok (.lcmp, 1) := by decide +kernel
theorem dX9_stageTold_191 : decode cX9_stageTold 191 = .ok (.ifCond .ne 12, 3) := by decide +kernel
theorem dX9_stageTold_194 : decode cX9_stageTold 194 = .ok (.aload_n 0, 1) := by decide +kernel
theorem dX9_stageTold_195 : decode cX9_stageTold 195 = .ok (.iconst 1, 1) := by decide +kernel
theorem dX9_stageTold_196 : decode cX9_stageTold 196 = .ok (.iconst 4, 1) := by decide +kernel
theorem dX9_stageTold_197 : decode cX9_stageTold 197 = .ok (.invokevirtual 296, 3) := by decide +kernel
theorem dX9_stageTold_200 : decode cX9_stageTold 200 = .ok (.goto (-88), 3) := by decide +kernel
theorem dX9_stageTold_203 : decode cX9_stageTold 203 = .ok (.lload_n 2, 1) := by decide +kernel
theorem dX9_stageTold_204 : decode cX9_stageTold 204 = .ok (.ldc2_w 307, 3) := by decide +kernel
theorem dX9_stageTold_207 : decode cX9_stageTold 207 = .ok (.lcmp, 1) := by decide +kernel
theorem dX9_stageTold_208 : decode cX9_stageTold 208 = .ok (.ifCond .ne 26, 3) := by decide +kernel
theorem dX9_stageTold_211 : decode cX9_stageTold 211 = .ok (.aload_n 0, 1) := by decide +kernel
theorem dX9_stageTold_212 : decode cX9_stageTold 212 = .ok (.getfield 36, 3) := by decide +kernel
theorem dX9_stageTold_215 : decode cX9_stageTold 215 = .ok (.aload_n 0, 1) := by decide +kernel
theorem dX9_stageTold_216 : decode cX9_stageTold 216 = .ok (.getfield 277, 3) := by decide +kernel
theorem dX9_stageTold_219 : decode cX9_stageTold 219 = .ok (.iconst 0, 1) := by decide +kernel
theorem dX9_stageTold_220 : decode cX9_stageTold 220 = .ok (.iastore, 1) := by decide +kernel
theorem dX9_stageTold_221 : decode cX9_stageTold 221 = .ok (.aload_n 0, 1) := by decide +kernel
theorem dX9_stageTold_222 : decode cX9_stageTold 222 = .ok (.dup, 1) := by decide +kernel
theorem dX9_stageTold_223 : decode cX9_stageTold 223 = .ok (.getfield 277, 3) := by decide +kernel
theorem dX9_stageTold_226 : decode cX9_stageTold 226 = .ok (.iconst 1, 1) := by decide +kernel
theorem dX9_stageTold_227 : decode cX9_stageTold 227 = .ok (.iadd, 1) := by decide +kernel
theorem dX9_stageTold_228 : decode cX9_stageTold 228 = .ok (.putfield 277, 3) := by decide +kernel
theorem dX9_stageTold_231 : decode cX9_stageTold 231 = .ok (.goto (-119), 3) := by decide +kernel
theorem dX9_stageTold_234 : decode cX9_stageTold 234 = .ok (.aload_n 0, 1) := by decide +kernel
theorem dX9_stageTold_235 : decode cX9_stageTold 235 = .ok (.iconst 1, 1) := by decide +kernel
theorem dX9_stageTold_236 : decode cX9_stageTold 236 = .ok (.aload_n 0, 1) := by decide +kernel
theorem dX9_stageTold_237 : decode cX9_stageTold 237 = .ok (.getfield 270, 3) := by decide +kernel
theorem dX9_stageTold_240 : decode cX9_stageTold 240 = .ok (.invokevirtual 273, 3) := by decide +kernel
theorem dX9_stageTold_243 : decode cX9_stageTold 243 = .ok (.goto (-131), 3) := by decide +kernel
theorem dX9_stageTold_246 : decode cX9_stageTold 246 = .ok (.aload_n 0, 1) := by decide +kernel
theorem dX9_stageTold_247 : decode cX9_stageTold 247 = .ok (.invokevirtual 309, 3) := by decide +kernel
theorem dX9_stageTold_250 : decode cX9_stageTold 250 = .ok (.ifCond .ne 4, 3) := by decide +kernel
theorem dX9_stageTold_253 : decode cX9_stageTold 253 = .ok (.return_, 1) := by decide +kernel
theorem dX9_stageTold_254 : decode cX9_stageTold 254 = .ok (.aload_n 0, 1) := by decide +kernel
theorem dX9_stageTold_255 : decode cX9_stageTold 255 = .ok (.aload_n 0, 1) := by decide +kernel
theorem dX9_stageTold_256 : decode cX9_stageTold 256 = .ok (.iload 4, 2) := by decide +kernel
theorem dX9_stageTold_258 : decode cX9_stageTold 258 = .ok (.aload_n 0, 1) := by decide +kernel
theorem dX9_stageTold_259 : decode cX9_stageTold 259 = .ok (.getfield 36, 3) := by decide +kernel
theorem dX9_stageTold_262 : decode cX9_stageTold 262 = .ok (.iconst 0, 1) := by decide +kernel
theorem dX9_stageTold_263 : decode cX9_stageTold 263 = .ok (.iaload, 1) := by decide +kernel
theorem dX9_stageTold_264 : decode cX9_stageTold 264 = .ok (.invokevirtual 81, 3) := by decide +kernel
theorem dX9_stageTold_267 : decode cX9_stageTold 267 = .ok (.iconst (-1), 1) := by decide +kernel
theorem dX9_stageTold_268 : decode cX9_stageTold 268 = .ok (.if_icmp .eq 7, 3) := by decide +kernel
theorem dX9_stageTold_271 : decode cX9_stageTold 271 = .ok (.iconst 1, 1) := by decide +kernel
theorem dX9_stageTold_272 : decode cX9_stageTold 272 = .ok (.goto 4, 3) := by decide +kernel
theorem dX9_stageTold_275 : decode cX9_stageTold 275 = .ok (.iconst 0, 1) := by decide +kernel
theorem dX9_stageTold_276 : decode cX9_stageTold 276 = .ok (.iload_n 1, 1) := by decide +kernel
theorem dX9_stageTold_277 : decode cX9_stageTold 277 = .ok (.invokevirtual 312, 3) := by decide +kernel
theorem dX9_stageTold_280 : decode cX9_stageTold 280 = .ok (.iconst 1, 1) := by decide +kernel
theorem dX9_stageTold_281 : decode cX9_stageTold 281 = .ok (.istore 7, 2) := by decide +kernel
theorem dX9_stageTold_283 : decode cX9_stageTold 283 = .ok (.iload 7, 2) := by decide +kernel
theorem dX9_stageTold_285 : decode cX9_stageTold 285 = .ok (.aload_n 0, 1) := by decide +kernel
theorem dX9_stageTold_286 : decode cX9_stageTold 286 = .ok (.getfield 277, 3) := by decide +kernel
theorem dX9_stageTold_289 : decode cX9_stageTold 289 = .ok (.if_icmp .ge 50, 3) := by decide +kernel
theorem dX9_stageTold_292 : decode cX9_stageTold 292 = .ok (.aload_n 0, 1) := by decide +kernel
theorem dX9_stageTold_293 : decode cX9_stageTold 293 = .ok (.getfield 261, 3) := by decide +kernel
theorem dX9_stageTold_296 : decode cX9_stageTold 296 = .ok (.ifCond .ne 43, 3) := by decide +kernel
theorem dX9_stageTold_299 : decode cX9_stageTold 299 = .ok (.aload_n 0, 1) := by decide +kernel
theorem dX9_stageTold_300 : decode cX9_stageTold 300 = .ok (.aload_n 0, 1) := by decide +kernel
theorem dX9_stageTold_301 : decode cX9_stageTold 301 = .ok (.aload_n 0, 1) := by decide +kernel
theorem dX9_stageTold_302 : decode cX9_stageTold 302 = .ok (.getfield 36, 3) := by decide +kernel
theorem dX9_stageTold_305 : decode cX9_stageTold 305 = .ok (.iload 7, 2) := by decide +kernel
theorem dX9_stageTold_307 : decode cX9_stageTold 307 = .ok (.iaload, 1) := by decide +kernel
theorem dX9_stageTold_308 : decode cX9_stageTold 308 = .ok (.aload_n 0, 1) := by decide +kernel
theorem dX9_stageTold_309 : decode cX9_stageTold 309 = .ok (.getfield 36, 3) := by decide +kernel
theorem dX9_stageTold_312 : decode cX9_stageTold 312 = .ok (.iload 7, 2) := by decide +kernel
theorem dX9_stageTold_314 : decode cX9_stageTold 314 = .ok (.iconst 1, 1) := by decide +kernel
theorem dX9_stageTold_315 : decode cX9_stageTold 315 = .ok (.iadd, 1) := by decide +kernel
theorem dX9_stageTold_316 : decode cX9_stageTold 316 = .ok (.iaload, 1) := by decide +kernel
theorem dX9_stageTold_317 : decode cX9_stageTold 317 = .ok (.invokevirtual 89, 3) := by decide +kernel
theorem dX9_stageTold_320 : decode cX9_stageTold 320 = .ok (.iconst (-1), 1) := by decide +kernel
theorem dX9_stageTold_321 : decode cX9_stageTold 321 = .ok (.if_icmp .eq 7, 3) := by decide +kernel
theorem dX9_stageTold_324 : decode cX9_stageTold 324 = .ok (.iconst 1, 1) := by decide +kernel
theorem dX9_stageTold_325 : decode cX9_stageTold 325 = .ok (.goto 4, 3) := by decide +kernel
theorem dX9_stageTold_328 : decode cX9_stageTold 328 = .ok (.iconst 0, 1) := by decide +kernel
theorem dX9_stageTold_329 : decode cX9_stageTold 329 = .ok (.iload_n 1, 1) := by decide +kernel
theorem dX9_stageTold_330 : decode cX9_stageTold 330 = .ok (.invokevirtual 312, 3) := by decide +kernel
theorem dX9_stageTold_333 : decode cX9_stageTold 333 = .ok (.iinc 7 2, 3) := by decide +kernel
theorem dX9_stageTold_336 : decode cX9_stageTold 336 = .ok (.goto (-53), 3) := by decide +kernel
theorem dX9_stageTold_339 : decode cX9_stageTold 339 = .ok (.return_, 1) := by decide +kernel
set_option maxRecDepth 20000 in
theorem ggX9_comeTold_X9_isDigit : GoodIn wsX9_comeTold wsX9_isDigit := goodIn_r _ [9, 10, 11, 12, 8, 13, 14, 15, 16, 17, 18, 19, 69, 70, 71, 72, 73, 74, 75, 76, 77, 78, 79, 80, 81, 82, 83, 84, 85, 86] rfl (by decide +kernel)
set_option maxRecDepth 20000 in
theorem gX9_comeTold_X9_isDigit : GoodIn wsX9_comeTold (wsV RX9 267 RX9 yX9_isDigit wsX9_isDigit) := goodIn_app (goodIn_of _ (by decide +kernel)) ggX9_comeTold_X9_isDigit
set_option maxRecDepth 20000 in
theorem ggX9_comeTold_X9_lastRider : GoodIn wsX9_comeTold wsX9_lastRider := goodIn_r _ [23, 24, 69, 70, 71, 72, 73, 74, 75, 76, 77, 78, 79, 80, 81, 82, 83, 84, 85, 86] rfl (by decide +kernel)
set_option maxRecDepth 20000 in
theorem gX9_comeTold_X9_lastRider : GoodIn wsX9_comeTold (wsV RX9 316 RX9 yX9_lastRider wsX9_lastRider) := goodIn_app (goodIn_of _ (by decide +kernel)) ggX9_comeTold_X9_lastRider
set_option maxRecDepth 20000 in
theorem ggX9_comeTold_X9_number : GoodIn wsX9_comeTold wsX9_number := goodIn_r _ [28, 1, 14, 29, 15, 16, 4, 3, 5, 6, 7, 8, 9, 10, 11, 12, 13, 17, 18, 19, 30, 31, 32, 33, 69, 70, 71, 72, 73, 74, 75, 76, 77, 78, 79, 80, 81, 82, 83, 84, 85, 86] rfl (by decide +kernel)
set_option maxRecDepth 20000 in
theorem gX9_comeTold_X9_number : GoodIn wsX9_comeTold (wsV RX9 296 RX9 yX9_number wsX9_number) := goodIn_app (goodIn_of _ (by decide +kernel)) ggX9_comeTold_X9_number
set_option maxRecDepth 20000 in
theorem ggX9_comeTold_X9_ends : GoodIn wsX9_comeTold wsX9_ends := goodIn_r _ [37, 1, 14, 10, 11, 12, 8, 13, 15, 16, 30, 31, 32, 33, 69, 70, 71, 72, 73, 74, 75, 76, 77, 78, 79, 80, 81, 82, 83, 84, 85, 86] rfl (by decide +kernel)
set_option maxRecDepth 20000 in
theorem gX9_comeTold_X9_ends : GoodIn wsX9_comeTold (wsV RX9 309 RX9 yX9_ends wsX9_ends) := goodIn_app (goodIn_of _ (by decide +kernel)) ggX9_comeTold_X9_ends
set_option maxRecDepth 20000 in
theorem ggX9_comeTold_X9_finishes_ : GoodIn wsX9_comeTold wsX9_finishes_ := goodIn_r _ [41, 2, 24, 42, 43, 44, 8, 45, 46, 47, 48, 49, 50, 51, 52, 53, 17, 18, 19, 54, 55, 56, 57, 58, 59, 60, 61, 62, 63, 64, 69, 70, 71, 72, 73, 74, 75, 76, 77, 78, 79, 80, 81, 82, 83, 84, 85, 86] rfl (by decide +kernel)
set_option maxRecDepth 20000 in
theorem gX9_comeTold_X9_finishes_ : GoodIn wsX9_comeTold (wsV RX9 95 RX9 yX9_finishes_ wsX9_finishes_) := goodIn_app (goodIn_of _ (by decide +kernel)) ggX9_comeTold_X9_finishes_
set_option maxRecDepth 20000 in
theorem ggX9_comeTold_X9_can : GoodIn wsX9_comeTold wsX9_can := goodIn_r _ [68, 30, 31, 32, 8, 33, 1, 69, 70, 71, 72, 73, 74, 75, 76, 77, 78, 79, 80, 81, 82, 83, 84, 85, 86] rfl (by decide +kernel)
set_option maxRecDepth 20000 in
theorem gX9_comeTold_X9_can : GoodIn wsX9_comeTold (wsV RX9 312 RX9 yX9_can wsX9_can) := goodIn_app (goodIn_of _ (by decide +kernel)) ggX9_comeTold_X9_can
theorem dX9_comeTold_0 : decode cX9_comeTold 0 = .ok (.aload_n 0, 1) := by decide +kernel
theorem dX9_comeTold_1 : decode cX9_comeTold 1 = .ok (.getfield 261, 3) := by decide +kernel
theorem dX9_comeTold_4 : decode cX9_comeTold 4 = .ok (.ifCond .ne 29, 3) := by decide +kernel
theorem dX9_comeTold_7 : decode cX9_comeTold 7 = .ok (.aload_n 0, 1) := by decide +kernel
theorem dX9_comeTold_8 : decode cX9_comeTold 8 = .ok (.invokevirtual 267, 3) := by decide +kernel
theorem dX9_comeTold_11 : decode cX9_comeTold 11 = .ok (.ifCond .eq 22, 3) := by decide +kernel
theorem dX9_comeTold_14 : decode cX9_comeTold 14 = .ok (.aload_n 0, 1) := by decide +kernel
theorem dX9_comeTold_15 : decode cX9_comeTold 15 = .ok (.iconst 0, 1) := by decide +kernel
theorem dX9_comeTold_16 : decode cX9_comeTold 16 = .ok (.aload_n 0, 1) := by decide +kernel
theorem dX9_comeTold_17 : decode cX9_comeTold 17 = .ok (.invokevirtual 316, 3) := by decide +kernel
theorem dX9_comeTold_20 : decode cX9_comeTold 20 = .ok (.invokevirtual 296, 3) := by decide +kernel
theorem dX9_comeTold_23 : decode cX9_comeTold 23 = .ok (.aload_n 0, 1) := by decide +kernel
theorem dX9_comeTold_24 : decode cX9_comeTold 24 = .ok (.iconst 1, 1) := by decide +kernel
theorem dX9_comeTold_25 : decode cX9_comeTold 25 = .ok (.ldc 97, 2) := by decide +kernel
theorem dX9_comeTold_27 : decode cX9_comeTold 27 = .ok (.invokevirtual 296, 3) := by decide +kernel
theorem dX9_comeTold_30 : decode cX9_comeTold 30 = .ok (.goto (-30), 3) := by decide +kernel
theorem dX9_comeTold_33 : decode cX9_comeTold 33 = .ok (.aload_n 0, 1) := by decide +kernel
theorem dX9_comeTold_34 : decode cX9_comeTold 34 = .ok (.invokevirtual 309, 3) := by decide +kernel
theorem dX9_comeTold_37 : decode cX9_comeTold 37 = .ok (.ifCond .ne 4, 3) := by decide +kernel
theorem dX9_comeTold_40 : decode cX9_comeTold 40 = .ok (.return_, 1) := by decide +kernel
theorem dX9_comeTold_41 : decode cX9_comeTold 41 = .ok (.iconst 0, 1) := by decide +kernel
theorem dX9_comeTold_42 : decode cX9_comeTold 42 = .ok (.istore_n 2, 1) := by decide +kernel
theorem dX9_comeTold_43 : decode cX9_comeTold 43 = .ok (.iload_n 2, 1) := by decide +kernel
theorem dX9_comeTold_44 : decode cX9_comeTold 44 = .ok (.aload_n 0, 1) := by decide +kernel
theorem dX9_comeTold_45 : decode cX9_comeTold 45 = .ok (.getfield 277, 3) := by decide +kernel
theorem dX9_comeTold_48 : decode cX9_comeTold 48 = .ok (.if_icmp .ge 39, 3) := by decide +kernel
theorem dX9_comeTold_51 : decode cX9_comeTold 51 = .ok (.aload_n 0, 1) := by decide +kernel
theorem dX9_comeTold_52 : decode cX9_comeTold 52 = .ok (.getfield 261, 3) := by decide +kernel
theorem dX9_comeTold_55 : decode cX9_comeTold 55 = .ok (.ifCond .ne 32, 3) := by decide +kernel
theorem dX9_comeTold_58 : decode cX9_comeTold 58 = .ok (.aload_n 0, 1) := by decide +kernel
theorem dX9_comeTold_59 : decode cX9_comeTold 59 = .ok (.aload_n 0, 1) := by decide +kernel
theorem dX9_comeTold_60 : decode cX9_comeTold 60 = .ok (.aload_n 0, 1) := by decide +kernel
theorem dX9_comeTold_61 : decode cX9_comeTold 61 = .ok (.getfield 36, 3) := by decide +kernel
theorem dX9_comeTold_64 : decode cX9_comeTold 64 = .ok (.iload_n 2, 1) := by decide +kernel
theorem dX9_comeTold_65 : decode cX9_comeTold 65 = .ok (.iaload, 1) := by decide +kernel
theorem dX9_comeTold_66 : decode cX9_comeTold 66 = .ok (.aload_n 0, 1) := by decide +kernel
theorem dX9_comeTold_67 : decode cX9_comeTold 67 = .ok (.getfield 36, 3) := by decide +kernel
theorem dX9_comeTold_70 : decode cX9_comeTold 70 = .ok (.iload_n 2, 1) := by decide +kernel
theorem dX9_comeTold_71 : decode cX9_comeTold 71 = .ok (.iconst 1, 1) := by decide +kernel
theorem dX9_comeTold_72 : decode cX9_comeTold 72 = .ok (.iadd, 1) := by decide +kernel
theorem dX9_comeTold_73 : decode cX9_comeTold 73 = .ok (.iaload, 1) := by decide +kernel
theorem dX9_comeTold_74 : decode cX9_comeTold 74 = .ok (.invokevirtual 95, 3) := by decide +kernel
theorem dX9_comeTold_77 : decode cX9_comeTold 77 = .ok (.iload_n 1, 1) := by decide +kernel
theorem dX9_comeTold_78 : decode cX9_comeTold 78 = .ok (.invokevirtual 312, 3) := by decide +kernel
theorem dX9_comeTold_81 : decode cX9_comeTold 81 = .ok (.iinc 2 2, 3) := by decide +kernel
theorem dX9_comeTold_84 : decode cX9_comeTold 84 = .ok (.goto (-41), 3) := by decide +kernel
theorem dX9_comeTold_87 : decode cX9_comeTold 87 = .ok (.return_, 1) := by decide +kernel
set_option maxRecDepth 20000 in
theorem ggX9_overTold_X9_latest : GoodIn wsX9_overTold wsX9_latest := goodIn_r _ [9, 1, 67, 68, 69, 70, 71, 72, 73, 74, 75, 76, 77, 78, 79, 80, 81, 82, 83, 84] rfl (by decide +kernel)
set_option maxRecDepth 20000 in
theorem gX9_overTold_X9_latest : GoodIn wsX9_overTold (wsV RX9 74 RX9 yX9_latest wsX9_latest) := goodIn_app (goodIn_of _ (by decide +kernel)) ggX9_overTold_X9_latest
set_option maxRecDepth 20000 in
theorem ggX9_overTold_X9_at : GoodIn wsX9_overTold wsX9_at := goodIn_r _ [12] rfl (by decide +kernel)
set_option maxRecDepth 20000 in
theorem gX9_overTold_X9_at : GoodIn wsX9_overTold (va_wsS RX9 87 yX9_at wsX9_at) := goodIn_app (goodIn_of _ (by decide +kernel)) ggX9_overTold_X9_at
set_option maxRecDepth 20000 in
theorem ggX9_overTold_X9_number : GoodIn wsX9_overTold wsX9_number := goodIn_r _ [16, 2, 17, 18, 19, 20, 4, 3, 21, 22, 23, 8, 24, 25, 26, 27, 28, 29, 30, 31, 32, 33, 34, 35, 67, 68, 69, 70, 71, 72, 73, 74, 75, 76, 77, 78, 79, 80, 81, 82, 83, 84] rfl (by decide +kernel)
set_option maxRecDepth 20000 in
theorem gX9_overTold_X9_number : GoodIn wsX9_overTold (wsV RX9 296 RX9 yX9_number wsX9_number) := goodIn_app (goodIn_of _ (by decide +kernel)) ggX9_overTold_X9_number
set_option maxRecDepth 20000 in
theorem ggX9_overTold_X9_isDigit : GoodIn wsX9_overTold wsX9_isDigit := goodIn_r _ [24, 25, 26, 27, 8, 28, 17, 19, 20, 29, 30, 31, 67, 68, 69, 70, 71, 72, 73, 74, 75, 76, 77, 78, 79, 80, 81, 82, 83, 84] rfl (by decide +kernel)
set_option maxRecDepth 20000 in
theorem gX9_overTold_X9_isDigit : GoodIn wsX9_overTold (wsV RX9 267 RX9 yX9_isDigit wsX9_isDigit) := goodIn_app (goodIn_of _ (by decide +kernel)) ggX9_overTold_X9_isDigit
set_option maxRecDepth 20000 in
theorem ggX9_overTold_X9_lastRider : GoodIn wsX9_overTold wsX9_lastRider := goodIn_r _ [39, 1, 67, 68, 69, 70, 71, 72, 73, 74, 75, 76, 77, 78, 79, 80, 81, 82, 83, 84] rfl (by decide +kernel)
set_option maxRecDepth 20000 in
theorem gX9_overTold_X9_lastRider : GoodIn wsX9_overTold (wsV RX9 316 RX9 yX9_lastRider wsX9_lastRider) := goodIn_app (goodIn_of _ (by decide +kernel)) ggX9_overTold_X9_lastRider
set_option maxRecDepth 20000 in
theorem ggX9_overTold_X9_ends : GoodIn wsX9_overTold wsX9_ends := goodIn_r _ [43, 2, 17, 25, 26, 27, 8, 28, 19, 20, 32, 33, 34, 35, 67, 68, 69, 70, 71, 72, 73, 74, 75, 76, 77, 78, 79, 80, 81, 82, 83, 84] rfl (by decide +kernel)
set_option maxRecDepth 20000 in
theorem gX9_overTold_X9_ends : GoodIn wsX9_overTold (wsV RX9 309 RX9 yX9_ends wsX9_ends) := goodIn_app (goodIn_of _ (by decide +kernel)) ggX9_overTold_X9_ends
set_option maxRecDepth 20000 in
theorem ggX9_overTold_X9_overs : GoodIn wsX9_overTold wsX9_overs := goodIn_r _ [47, 1, 5, 6, 7, 8, 9, 48, 49, 50, 51, 10, 11, 12, 29, 30, 31, 52, 53, 54, 55, 56, 57, 58, 59, 60, 61, 62, 67, 68, 69, 70, 71, 72, 73, 74, 75, 76, 77, 78, 79, 80, 81, 82, 83, 84] rfl (by decide +kernel)
set_option maxRecDepth 20000 in
theorem gX9_overTold_X9_overs : GoodIn wsX9_overTold (wsV RX9 98 RX9 yX9_overs wsX9_overs) := goodIn_app (goodIn_of _ (by decide +kernel)) ggX9_overTold_X9_overs
set_option maxRecDepth 20000 in
theorem ggX9_overTold_X9_can : GoodIn wsX9_overTold wsX9_can := goodIn_r _ [66, 32, 33, 34, 8, 35, 2, 67, 68, 69, 70, 71, 72, 73, 74, 75, 76, 77, 78, 79, 80, 81, 82, 83, 84] rfl (by decide +kernel)
set_option maxRecDepth 20000 in
theorem gX9_overTold_X9_can : GoodIn wsX9_overTold (wsV RX9 312 RX9 yX9_can wsX9_can) := goodIn_app (goodIn_of _ (by decide +kernel)) ggX9_overTold_X9_can
theorem dX9_overTold_0 : decode cX9_overTold 0 = .ok (.aload_n 0, 1) := by decide +kernel
theorem dX9_overTold_1 : decode cX9_overTold 1 = .ok (.iconst 0, 1) := by decide +kernel
theorem dX9_overTold_2 : decode cX9_overTold 2 = .ok (.aload_n 0, 1) := by decide +kernel
theorem dX9_overTold_3 : decode cX9_overTold 3 = .ok (.invokevirtual 74, 3) := by decide +kernel
theorem dX9_overTold_6 : decode cX9_overTold 6 = .ok (.ifCond .ge 7, 3) := by decide +kernel
theorem dX9_overTold_9 : decode cX9_overTold 9 = .ok (.iconst (-1), 1) := by decide +kernel
theorem dX9_overTold_10 : decode cX9_overTold 10 = .ok (.goto 18, 3) := by decide +kernel
theorem dX9_overTold_13 : decode cX9_overTold 13 = .ok (.aload_n 0, 1) := by decide +kernel
theorem dX9_overTold_14 : decode cX9_overTold 14 = .ok (.getfield 7, 3) := by decide +kernel
theorem dX9_overTold_17 : decode cX9_overTold 17 = .ok (.aload_n 0, 1) := by decide +kernel
theorem dX9_overTold_18 : decode cX9_overTold 18 = .ok (.invokevirtual 74, 3) := by decide +kernel
theorem dX9_overTold_21 : decode cX9_overTold 21 = .ok (.iconst 2, 1) := by decide +kernel
theorem dX9_overTold_22 : decode cX9_overTold 22 = .ok (.invokestatic 87, 3) := by decide +kernel
theorem dX9_overTold_25 : decode cX9_overTold 25 = .ok (.iaload, 1) := by decide +kernel
theorem dX9_overTold_26 : decode cX9_overTold 26 = .ok (.iconst 1, 1) := by decide +kernel
theorem dX9_overTold_27 : decode cX9_overTold 27 = .ok (.isub, 1) := by decide +kernel
theorem dX9_overTold_28 : decode cX9_overTold 28 = .ok (.invokevirtual 296, 3) := by decide +kernel
theorem dX9_overTold_31 : decode cX9_overTold 31 = .ok (.aload_n 0, 1) := by decide +kernel
theorem dX9_overTold_32 : decode cX9_overTold 32 = .ok (.getfield 261, 3) := by decide +kernel
theorem dX9_overTold_35 : decode cX9_overTold 35 = .ok (.ifCond .ne 22, 3) := by decide +kernel
theorem dX9_overTold_38 : decode cX9_overTold 38 = .ok (.aload_n 0, 1) := by decide +kernel
theorem dX9_overTold_39 : decode cX9_overTold 39 = .ok (.invokevirtual 267, 3) := by decide +kernel
theorem dX9_overTold_42 : decode cX9_overTold 42 = .ok (.ifCond .eq 15, 3) := by decide +kernel
theorem dX9_overTold_45 : decode cX9_overTold 45 = .ok (.aload_n 0, 1) := by decide +kernel
theorem dX9_overTold_46 : decode cX9_overTold 46 = .ok (.iconst 0, 1) := by decide +kernel
theorem dX9_overTold_47 : decode cX9_overTold 47 = .ok (.aload_n 0, 1) := by decide +kernel
theorem dX9_overTold_48 : decode cX9_overTold 48 = .ok (.invokevirtual 316, 3) := by decide +kernel
theorem dX9_overTold_51 : decode cX9_overTold 51 = .ok (.invokevirtual 296, 3) := by decide +kernel
theorem dX9_overTold_54 : decode cX9_overTold 54 = .ok (.goto (-23), 3) := by decide +kernel
theorem dX9_overTold_57 : decode cX9_overTold 57 = .ok (.aload_n 0, 1) := by decide +kernel
theorem dX9_overTold_58 : decode cX9_overTold 58 = .ok (.invokevirtual 309, 3) := by decide +kernel
theorem dX9_overTold_61 : decode cX9_overTold 61 = .ok (.ifCond .ne 4, 3) := by decide +kernel
theorem dX9_overTold_64 : decode cX9_overTold 64 = .ok (.return_, 1) := by decide +kernel
theorem dX9_overTold_65 : decode cX9_overTold 65 = .ok (.iconst 1, 1) := by decide +kernel
theorem dX9_overTold_66 : decode cX9_overTold 66 = .ok (.istore_n 2, 1) := by decide +kernel
theorem dX9_overTold_67 : decode cX9_overTold 67 = .ok (.iload_n 2, 1) := by decide +kernel
theorem dX9_overTold_68 : decode cX9_overTold 68 = .ok (.aload_n 0, 1) := by decide +kernel
theorem dX9_overTold_69 : decode cX9_overTold 69 = .ok (.getfield 277, 3) := by decide +kernel
theorem dX9_overTold_72 : decode cX9_overTold 72 = .ok (.if_icmp .ge 46, 3) := by decide +kernel
theorem dX9_overTold_75 : decode cX9_overTold 75 = .ok (.aload_n 0, 1) := by decide +kernel
theorem dX9_overTold_76 : decode cX9_overTold 76 = .ok (.getfield 261, 3) := by decide +kernel
theorem dX9_overTold_79 : decode cX9_overTold 79 = .ok (.ifCond .ne 39, 3) := by decide +kernel
theorem dX9_overTold_82 : decode cX9_overTold 82 = .ok (.aload_n 0, 1) := by decide +kernel
theorem dX9_overTold_83 : decode cX9_overTold 83 = .ok (.aload_n 0, 1) := by decide +kernel
theorem dX9_overTold_84 : decode cX9_overTold 84 = .ok (.aload_n 0, 1) := by decide +kernel
theorem dX9_overTold_85 : decode cX9_overTold 85 = .ok (.getfield 36, 3) := by decide +kernel
theorem dX9_overTold_88 : decode cX9_overTold 88 = .ok (.iconst 0, 1) := by decide +kernel
theorem dX9_overTold_89 : decode cX9_overTold 89 = .ok (.iaload, 1) := by decide +kernel
theorem dX9_overTold_90 : decode cX9_overTold 90 = .ok (.aload_n 0, 1) := by decide +kernel
theorem dX9_overTold_91 : decode cX9_overTold 91 = .ok (.getfield 36, 3) := by decide +kernel
theorem dX9_overTold_94 : decode cX9_overTold 94 = .ok (.iload_n 2, 1) := by decide +kernel
theorem dX9_overTold_95 : decode cX9_overTold 95 = .ok (.iaload, 1) := by decide +kernel
theorem dX9_overTold_96 : decode cX9_overTold 96 = .ok (.invokevirtual 98, 3) := by decide +kernel
theorem dX9_overTold_99 : decode cX9_overTold 99 = .ok (.iconst (-1), 1) := by decide +kernel
theorem dX9_overTold_100 : decode cX9_overTold 100 = .ok (.if_icmp .eq 7, 3) := by decide +kernel
theorem dX9_overTold_103 : decode cX9_overTold 103 = .ok (.iconst 1, 1) := by decide +kernel
theorem dX9_overTold_104 : decode cX9_overTold 104 = .ok (.goto 4, 3) := by decide +kernel
theorem dX9_overTold_107 : decode cX9_overTold 107 = .ok (.iconst 0, 1) := by decide +kernel
theorem dX9_overTold_108 : decode cX9_overTold 108 = .ok (.iload_n 1, 1) := by decide +kernel
theorem dX9_overTold_109 : decode cX9_overTold 109 = .ok (.invokevirtual 312, 3) := by decide +kernel
theorem dX9_overTold_112 : decode cX9_overTold 112 = .ok (.iinc 2 1, 3) := by decide +kernel
theorem dX9_overTold_115 : decode cX9_overTold 115 = .ok (.goto (-48), 3) := by decide +kernel
theorem dX9_overTold_118 : decode cX9_overTold 118 = .ok (.return_, 1) := by decide +kernel
set_option maxRecDepth 20000 in
theorem ggX9_fallTold_X9_lastRider : GoodIn wsX9_fallTold wsX9_lastRider := goodIn_r _ [9, 1, 78, 79, 80, 81, 82, 83, 84, 85, 86, 87, 88, 89, 90, 91, 92, 93, 94, 95] rfl (by decide +kernel)
set_option maxRecDepth 20000 in
theorem gX9_fallTold_X9_lastRider : GoodIn wsX9_fallTold (wsV RX9 316 RX9 yX9_lastRider wsX9_lastRider) := goodIn_app (goodIn_of _ (by decide +kernel)) ggX9_fallTold_X9_lastRider
set_option maxRecDepth 20000 in
theorem ggX9_fallTold_X9_number : GoodIn wsX9_fallTold wsX9_number := goodIn_r _ [13, 2, 14, 15, 16, 17, 4, 18, 19, 20, 21, 8, 22, 23, 24, 25, 26, 27, 28, 29, 30, 31, 32, 33, 78, 79, 80, 81, 82, 83, 84, 85, 86, 87, 88, 89, 90, 91, 92, 93, 94, 95] rfl (by decide +kernel)
set_option maxRecDepth 20000 in
theorem gX9_fallTold_X9_number : GoodIn wsX9_fallTold (wsV RX9 296 RX9 yX9_number wsX9_number) := goodIn_app (goodIn_of _ (by decide +kernel)) ggX9_fallTold_X9_number
set_option maxRecDepth 20000 in
theorem ggX9_fallTold_X9_latest : GoodIn wsX9_fallTold wsX9_latest := goodIn_r _ [37, 1, 78, 79, 80, 81, 82, 83, 84, 85, 86, 87, 88, 89, 90, 91, 92, 93, 94, 95] rfl (by decide +kernel)
set_option maxRecDepth 20000 in
theorem gX9_fallTold_X9_latest : GoodIn wsX9_fallTold (wsV RX9 74 RX9 yX9_latest wsX9_latest) := goodIn_app (goodIn_of _ (by decide +kernel)) ggX9_fallTold_X9_latest
set_option maxRecDepth 20000 in
theorem ggX9_fallTold_X9_at : GoodIn wsX9_fallTold wsX9_at := goodIn_r _ [40] rfl (by decide +kernel)
set_option maxRecDepth 20000 in
theorem gX9_fallTold_X9_at : GoodIn wsX9_fallTold (va_wsS RX9 87 yX9_at wsX9_at) := goodIn_app (goodIn_of _ (by decide +kernel)) ggX9_fallTold_X9_at
set_option maxRecDepth 20000 in
theorem ggX9_fallTold_X9_isWord : GoodIn wsX9_fallTold wsX9_isWord := goodIn_r _ [44, 14, 45, 46, 47, 8, 48, 15, 16, 17, 49, 50, 23, 24, 25, 26, 27, 28, 29, 78, 79, 80, 81, 82, 83, 84, 85, 86, 87, 88, 89, 90, 91, 92, 93, 94, 95] rfl (by decide +kernel)
set_option maxRecDepth 20000 in
theorem gX9_fallTold_X9_isWord : GoodIn wsX9_fallTold (wsV RX9 301 RX9 yX9_isWord wsX9_isWord) := goodIn_app (goodIn_of _ (by decide +kernel)) ggX9_fallTold_X9_isWord
set_option maxRecDepth 20000 in
theorem ggX9_fallTold_X9_word : GoodIn wsX9_fallTold wsX9_word := goodIn_r _ [48, 14, 15, 16, 17, 49, 50, 23, 24, 25, 8, 26, 27, 28, 29, 78, 79, 80, 81, 82, 83, 84, 85, 86, 87, 88, 89, 90, 91, 92, 93, 94, 95] rfl (by decide +kernel)
set_option maxRecDepth 20000 in
theorem gX9_fallTold_X9_word : GoodIn wsX9_fallTold (wsV RX9 284 RX9 yX9_word wsX9_word) := goodIn_app (goodIn_of _ (by decide +kernel)) ggX9_fallTold_X9_word
set_option maxRecDepth 20000 in
theorem ggX9_fallTold_X9_ends : GoodIn wsX9_fallTold wsX9_ends := goodIn_r _ [54, 2, 14, 23, 24, 25, 8, 26, 16, 17, 30, 31, 32, 33, 78, 79, 80, 81, 82, 83, 84, 85, 86, 87, 88, 89, 90, 91, 92, 93, 94, 95] rfl (by decide +kernel)
set_option maxRecDepth 20000 in
theorem gX9_fallTold_X9_ends : GoodIn wsX9_fallTold (wsV RX9 309 RX9 yX9_ends wsX9_ends) := goodIn_app (goodIn_of _ (by decide +kernel)) ggX9_fallTold_X9_ends
set_option maxRecDepth 20000 in
theorem ggX9_fallTold_X9_falls : GoodIn wsX9_fallTold wsX9_falls := goodIn_r _ [58, 1, 34, 35, 36, 8, 37, 59, 60, 61, 62, 63, 64, 65, 66, 67, 68, 69, 70, 27, 28, 29, 38, 39, 40, 71, 72, 73, 78, 79, 80, 81, 82, 83, 84, 85, 86, 87, 88, 89, 90, 91, 92, 93, 94, 95] rfl (by decide +kernel)
set_option maxRecDepth 20000 in
theorem gX9_fallTold_X9_falls : GoodIn wsX9_fallTold (wsV RX9 101 RX9 yX9_falls wsX9_falls) := goodIn_app (goodIn_of _ (by decide +kernel)) ggX9_fallTold_X9_falls
set_option maxRecDepth 20000 in
theorem ggX9_fallTold_X9_can : GoodIn wsX9_fallTold wsX9_can := goodIn_r _ [77, 30, 31, 32, 8, 33, 2, 78, 79, 80, 81, 82, 83, 84, 85, 86, 87, 88, 89, 90, 91, 92, 93, 94, 95] rfl (by decide +kernel)
set_option maxRecDepth 20000 in
theorem gX9_fallTold_X9_can : GoodIn wsX9_fallTold (wsV RX9 312 RX9 yX9_can wsX9_can) := goodIn_app (goodIn_of _ (by decide +kernel)) ggX9_fallTold_X9_can
theorem dX9_fallTold_0 : decode cX9_fallTold 0 = .ok (.aload_n 0, 1) := by decide +kernel
theorem dX9_fallTold_1 : decode cX9_fallTold 1 = .ok (.iconst 0, 1) := by decide +kernel
theorem dX9_fallTold_2 : decode cX9_fallTold 2 = .ok (.aload_n 0, 1) := by decide +kernel
theorem dX9_fallTold_3 : decode cX9_fallTold 3 = .ok (.invokevirtual 316, 3) := by decide +kernel
theorem dX9_fallTold_6 : decode cX9_fallTold 6 = .ok (.invokevirtual 296, 3) := by decide +kernel
theorem dX9_fallTold_9 : decode cX9_fallTold 9 = .ok (.aload_n 0, 1) := by decide +kernel
theorem dX9_fallTold_10 : decode cX9_fallTold 10 = .ok (.iconst 0, 1) := by decide +kernel
theorem dX9_fallTold_11 : decode cX9_fallTold 11 = .ok (.aload_n 0, 1) := by decide +kernel
theorem dX9_fallTold_12 : decode cX9_fallTold 12 = .ok (.invokevirtual 74, 3) := by decide +kernel
theorem dX9_fallTold_15 : decode cX9_fallTold 15 = .ok (.ifCond .ge 7, 3) := by decide +kernel
theorem dX9_fallTold_18 : decode cX9_fallTold 18 = .ok (.iconst 0, 1) := by decide +kernel
theorem dX9_fallTold_19 : decode cX9_fallTold 19 = .ok (.goto 16, 3) := by decide +kernel
theorem dX9_fallTold_22 : decode cX9_fallTold 22 = .ok (.aload_n 0, 1) := by decide +kernel
theorem dX9_fallTold_23 : decode cX9_fallTold 23 = .ok (.getfield 7, 3) := by decide +kernel
theorem dX9_fallTold_26 : decode cX9_fallTold 26 = .ok (.aload_n 0, 1) := by decide +kernel
theorem dX9_fallTold_27 : decode cX9_fallTold 27 = .ok (.invokevirtual 74, 3) := by decide +kernel
theorem dX9_fallTold_30 : decode cX9_fallTold 30 = .ok (.iconst 1, 1) := by decide +kernel
theorem dX9_fallTold_31 : decode cX9_fallTold 31 = .ok (.invokestatic 87, 3) := by decide +kernel
theorem dX9_fallTold_34 : decode cX9_fallTold 34 = .ok (.iaload, 1) := by decide +kernel
theorem dX9_fallTold_35 : decode cX9_fallTold 35 = .ok (.invokevirtual 296, 3) := by decide +kernel
theorem dX9_fallTold_38 : decode cX9_fallTold 38 = .ok (.aload_n 0, 1) := by decide +kernel
theorem dX9_fallTold_39 : decode cX9_fallTold 39 = .ok (.getfield 261, 3) := by decide +kernel
theorem dX9_fallTold_42 : decode cX9_fallTold 42 = .ok (.ifCond .ne 17, 3) := by decide +kernel
theorem dX9_fallTold_45 : decode cX9_fallTold 45 = .ok (.aload_n 0, 1) := by decide +kernel
theorem dX9_fallTold_46 : decode cX9_fallTold 46 = .ok (.ldc2_w 319, 3) := by decide +kernel
theorem dX9_fallTold_49 : decode cX9_fallTold 49 = .ok (.invokevirtual 301, 3) := by decide +kernel
theorem dX9_fallTold_52 : decode cX9_fallTold 52 = .ok (.ifCond .eq 7, 3) := by decide +kernel
theorem dX9_fallTold_55 : decode cX9_fallTold 55 = .ok (.iconst 1, 1) := by decide +kernel
theorem dX9_fallTold_56 : decode cX9_fallTold 56 = .ok (.goto 4, 3) := by decide +kernel
theorem dX9_fallTold_59 : decode cX9_fallTold 59 = .ok (.iconst 0, 1) := by decide +kernel
theorem dX9_fallTold_60 : decode cX9_fallTold 60 = .ok (.istore_n 2, 1) := by decide +kernel
theorem dX9_fallTold_61 : decode cX9_fallTold 61 = .ok (.iload_n 2, 1) := by decide +kernel
theorem dX9_fallTold_62 : decode cX9_fallTold 62 = .ok (.ifCond .eq 17, 3) := by decide +kernel
theorem dX9_fallTold_65 : decode cX9_fallTold 65 = .ok (.aload_n 0, 1) := by decide +kernel
theorem dX9_fallTold_66 : decode cX9_fallTold 66 = .ok (.invokevirtual 284, 3) := by decide +kernel
theorem dX9_fallTold_69 : decode cX9_fallTold 69 = .ok (.lstore_n 3, 1) := by decide +kernel
theorem dX9_fallTold_70 : decode cX9_fallTold 70 = .ok (.aload_n 0, 1) := by decide +kernel
theorem dX9_fallTold_71 : decode cX9_fallTold 71 = .ok (.iconst 0, 1) := by decide +kernel
theorem dX9_fallTold_72 : decode cX9_fallTold 72 = .ok (.aload_n 0, 1) := by decide +kernel
theorem dX9_fallTold_73 : decode cX9_fallTold 73 = .ok (.invokevirtual 316, 3) := by decide +kernel
theorem dX9_fallTold_76 : decode cX9_fallTold 76 = .ok (.invokevirtual 296, 3) := by decide +kernel
theorem dX9_fallTold_79 : decode cX9_fallTold 79 = .ok (.aload_n 0, 1) := by decide +kernel
theorem dX9_fallTold_80 : decode cX9_fallTold 80 = .ok (.invokevirtual 309, 3) := by decide +kernel
theorem dX9_fallTold_83 : decode cX9_fallTold 83 = .ok (.ifCond .eq 38, 3) := by decide +kernel
theorem dX9_fallTold_86 : decode cX9_fallTold 86 = .ok (.aload_n 0, 1) := by decide +kernel
theorem dX9_fallTold_87 : decode cX9_fallTold 87 = .ok (.aload_n 0, 1) := by decide +kernel
theorem dX9_fallTold_88 : decode cX9_fallTold 88 = .ok (.aload_n 0, 1) := by decide +kernel
theorem dX9_fallTold_89 : decode cX9_fallTold 89 = .ok (.getfield 36, 3) := by decide +kernel
theorem dX9_fallTold_92 : decode cX9_fallTold 92 = .ok (.iconst 0, 1) := by decide +kernel
theorem dX9_fallTold_93 : decode cX9_fallTold 93 = .ok (.iaload, 1) := by decide +kernel
theorem dX9_fallTold_94 : decode cX9_fallTold 94 = .ok (.aload_n 0, 1) := by decide +kernel
theorem dX9_fallTold_95 : decode cX9_fallTold 95 = .ok (.getfield 36, 3) := by decide +kernel
theorem dX9_fallTold_98 : decode cX9_fallTold 98 = .ok (.iconst 1, 1) := by decide +kernel
theorem dX9_fallTold_99 : decode cX9_fallTold 99 = .ok (.iaload, 1) := by decide +kernel
theorem dX9_fallTold_100 : decode cX9_fallTold 100 = .ok (.iload_n 2, 1) := by decide +kernel
theorem dX9_fallTold_101 : decode cX9_fallTold 101 = .ok (.ifCond .eq 12, 3) := by decide +kernel
theorem dX9_fallTold_104 : decode cX9_fallTold 104 = .ok (.aload_n 0, 1) := by decide +kernel
theorem dX9_fallTold_105 : decode cX9_fallTold 105 = .ok (.getfield 36, 3) := by decide +kernel
theorem dX9_fallTold_108 : decode cX9_fallTold 108 = .ok (.iconst 2, 1) := by decide +kernel
theorem dX9_fallTold_109 : decode cX9_fallTold 109 = .ok (.iaload, 1) := by decide +kernel
theorem dX9_fallTold_110 : decode cX9_fallTold 110 = .ok (.goto 4, 3) := by decide +kernel
theorem dX9_fallTold_113 : decode cX9_fallTold 113 = .ok (.iconst (-1), 1) := by decide +kernel
theorem dX9_fallTold_114 : decode cX9_fallTold 114 = .ok (.invokevirtual 101, 3) := by decide +kernel
theorem dX9_fallTold_117 : decode cX9_fallTold 117 = .ok (.iload_n 1, 1) := by decide +kernel
theorem dX9_fallTold_118 : decode cX9_fallTold 118 = .ok (.invokevirtual 312, 3) := by decide +kernel
theorem dX9_fallTold_121 : decode cX9_fallTold 121 = .ok (.return_, 1) := by decide +kernel
set_option maxRecDepth 20000 in
theorem ggX9_riderTold_X9_number : GoodIn wsX9_riderTold wsX9_number := goodIn_r _ [7, 8, 9, 10, 11, 12, 2, 13, 14, 15, 16, 6, 17, 18, 19, 20, 21, 22, 23, 24, 25, 26, 27, 28, 60, 61, 62, 63, 64, 65, 66, 67, 68, 69, 70, 71, 72, 73, 74, 75, 76, 77] rfl (by decide +kernel)
set_option maxRecDepth 20000 in
theorem gX9_riderTold_X9_number : GoodIn wsX9_riderTold (wsV RX9 296 RX9 yX9_number wsX9_number) := goodIn_app (goodIn_of _ (by decide +kernel)) ggX9_riderTold_X9_number
set_option maxRecDepth 20000 in
theorem ggX9_riderTold_X9_ends : GoodIn wsX9_riderTold wsX9_ends := goodIn_r _ [32, 8, 9, 18, 19, 20, 6, 21, 11, 12, 25, 26, 27, 28, 60, 61, 62, 63, 64, 65, 66, 67, 68, 69, 70, 71, 72, 73, 74, 75, 76, 77] rfl (by decide +kernel)
set_option maxRecDepth 20000 in
theorem gX9_riderTold_X9_ends : GoodIn wsX9_riderTold (wsV RX9 309 RX9 yX9_ends wsX9_ends) := goodIn_app (goodIn_of _ (by decide +kernel)) ggX9_riderTold_X9_ends
set_option maxRecDepth 20000 in
theorem ggX9_riderTold_X9_comes : GoodIn wsX9_riderTold wsX9_comes := goodIn_r _ [36, 1, 22, 23, 6, 24, 37, 38, 39, 40, 41, 42, 43, 44, 45, 46, 47, 48, 49, 50, 51, 52, 53, 54, 55, 60, 61, 62, 63, 64, 65, 66, 67, 68, 69, 70, 71, 72, 73, 74, 75, 76, 77] rfl (by decide +kernel)
set_option maxRecDepth 20000 in
theorem gX9_riderTold_X9_comes : GoodIn wsX9_riderTold (wsV RX9 66 RX9 yX9_comes wsX9_comes) := goodIn_app (goodIn_of _ (by decide +kernel)) ggX9_riderTold_X9_comes
set_option maxRecDepth 20000 in
theorem ggX9_riderTold_X9_can : GoodIn wsX9_riderTold wsX9_can := goodIn_r _ [59, 25, 26, 27, 6, 28, 8, 60, 61, 62, 63, 64, 65, 66, 67, 68, 69, 70, 71, 72, 73, 74, 75, 76, 77] rfl (by decide +kernel)
set_option maxRecDepth 20000 in
theorem gX9_riderTold_X9_can : GoodIn wsX9_riderTold (wsV RX9 312 RX9 yX9_can wsX9_can) := goodIn_app (goodIn_of _ (by decide +kernel)) ggX9_riderTold_X9_can
theorem dX9_riderTold_0 : decode cX9_riderTold 0 = .ok (.aload_n 0, 1) := by decide +kernel
theorem dX9_riderTold_1 : decode cX9_riderTold 1 = .ok (.iconst 0, 1) := by decide +kernel
theorem dX9_riderTold_2 : decode cX9_riderTold 2 = .ok (.aload_n 0, 1) := by decide +kernel
theorem dX9_riderTold_3 : decode cX9_riderTold 3 = .ok (.getfield 7, 3) := by decide +kernel
theorem dX9_riderTold_6 : decode cX9_riderTold 6 = .ok (.iconst 0, 1) := by decide +kernel
theorem dX9_riderTold_7 : decode cX9_riderTold 7 = .ok (.iaload, 1) := by decide +kernel
theorem dX9_riderTold_8 : decode cX9_riderTold 8 = .ok (.iconst 1, 1) := by decide +kernel
theorem dX9_riderTold_9 : decode cX9_riderTold 9 = .ok (.isub, 1) := by decide +kernel
theorem dX9_riderTold_10 : decode cX9_riderTold 10 = .ok (.invokevirtual 296, 3) := by decide +kernel
theorem dX9_riderTold_13 : decode cX9_riderTold 13 = .ok (.aload_n 0, 1) := by decide +kernel
theorem dX9_riderTold_14 : decode cX9_riderTold 14 = .ok (.bipush 16, 2) := by decide +kernel
theorem dX9_riderTold_16 : decode cX9_riderTold 16 = .ok (.bipush 50, 2) := by decide +kernel
theorem dX9_riderTold_18 : decode cX9_riderTold 18 = .ok (.invokevirtual 296, 3) := by decide +kernel
theorem dX9_riderTold_21 : decode cX9_riderTold 21 = .ok (.aload_n 0, 1) := by decide +kernel
theorem dX9_riderTold_22 : decode cX9_riderTold 22 = .ok (.invokevirtual 309, 3) := by decide +kernel
theorem dX9_riderTold_25 : decode cX9_riderTold 25 = .ok (.ifCond .eq 33, 3) := by decide +kernel
theorem dX9_riderTold_28 : decode cX9_riderTold 28 = .ok (.aload_n 0, 1) := by decide +kernel
theorem dX9_riderTold_29 : decode cX9_riderTold 29 = .ok (.aload_n 0, 1) := by decide +kernel
theorem dX9_riderTold_30 : decode cX9_riderTold 30 = .ok (.aload_n 0, 1) := by decide +kernel
theorem dX9_riderTold_31 : decode cX9_riderTold 31 = .ok (.getfield 36, 3) := by decide +kernel
theorem dX9_riderTold_34 : decode cX9_riderTold 34 = .ok (.iconst 0, 1) := by decide +kernel
theorem dX9_riderTold_35 : decode cX9_riderTold 35 = .ok (.iaload, 1) := by decide +kernel
theorem dX9_riderTold_36 : decode cX9_riderTold 36 = .ok (.aload_n 0, 1) := by decide +kernel
theorem dX9_riderTold_37 : decode cX9_riderTold 37 = .ok (.getfield 36, 3) := by decide +kernel
theorem dX9_riderTold_40 : decode cX9_riderTold 40 = .ok (.iconst 1, 1) := by decide +kernel
theorem dX9_riderTold_41 : decode cX9_riderTold 41 = .ok (.iaload, 1) := by decide +kernel
theorem dX9_riderTold_42 : decode cX9_riderTold 42 = .ok (.invokevirtual 66, 3) := by decide +kernel
theorem dX9_riderTold_45 : decode cX9_riderTold 45 = .ok (.iconst (-1), 1) := by decide +kernel
theorem dX9_riderTold_46 : decode cX9_riderTold 46 = .ok (.if_icmp .eq 7, 3) := by decide +kernel
theorem dX9_riderTold_49 : decode cX9_riderTold 49 = .ok (.iconst 1, 1) := by decide +kernel
theorem dX9_riderTold_50 : decode cX9_riderTold 50 = .ok (.goto 4, 3) := by decide +kernel
theorem dX9_riderTold_53 : decode cX9_riderTold 53 = .ok (.iconst 0, 1) := by decide +kernel
theorem dX9_riderTold_54 : decode cX9_riderTold 54 = .ok (.iload_n 1, 1) := by decide +kernel
theorem dX9_riderTold_55 : decode cX9_riderTold 55 = .ok (.invokevirtual 312, 3) := by decide +kernel
theorem dX9_riderTold_58 : decode cX9_riderTold 58 = .ok (.return_, 1) := by decide +kernel
set_option maxRecDepth 20000 in
theorem ggX9_juryTold_X9_lastRider : GoodIn wsX9_juryTold wsX9_lastRider := goodIn_r _ [6, 7, 65, 66, 67, 68, 69, 70, 71, 72, 73, 74, 75, 76, 77, 78, 79, 80, 81, 82] rfl (by decide +kernel)
set_option maxRecDepth 20000 in
theorem gX9_juryTold_X9_lastRider : GoodIn wsX9_juryTold (wsV RX9 316 RX9 yX9_lastRider wsX9_lastRider) := goodIn_app (goodIn_of _ (by decide +kernel)) ggX9_juryTold_X9_lastRider
set_option maxRecDepth 20000 in
theorem ggX9_juryTold_X9_number : GoodIn wsX9_juryTold wsX9_number := goodIn_r _ [11, 12, 13, 14, 15, 16, 1, 17, 18, 19, 20, 5, 21, 22, 23, 24, 25, 26, 27, 28, 29, 30, 31, 32, 65, 66, 67, 68, 69, 70, 71, 72, 73, 74, 75, 76, 77, 78, 79, 80, 81, 82] rfl (by decide +kernel)
set_option maxRecDepth 20000 in
theorem gX9_juryTold_X9_number : GoodIn wsX9_juryTold (wsV RX9 296 RX9 yX9_number wsX9_number) := goodIn_app (goodIn_of _ (by decide +kernel)) ggX9_juryTold_X9_number
set_option maxRecDepth 20000 in
theorem ggX9_juryTold_X9_ends : GoodIn wsX9_juryTold wsX9_ends := goodIn_r _ [36, 12, 13, 22, 23, 24, 5, 25, 15, 16, 29, 30, 31, 32, 65, 66, 67, 68, 69, 70, 71, 72, 73, 74, 75, 76, 77, 78, 79, 80, 81, 82] rfl (by decide +kernel)
set_option maxRecDepth 20000 in
theorem gX9_juryTold_X9_ends : GoodIn wsX9_juryTold (wsV RX9 309 RX9 yX9_ends wsX9_ends) := goodIn_app (goodIn_of _ (by decide +kernel)) ggX9_juryTold_X9_ends
set_option maxRecDepth 20000 in
theorem ggX9_juryTold_X9_juries : GoodIn wsX9_juryTold wsX9_juries := goodIn_r _ [40, 7, 41, 42, 43, 44, 5, 45, 46, 47, 48, 49, 50, 51, 52, 53, 26, 27, 28, 54, 55, 56, 57, 58, 59, 60, 65, 66, 67, 68, 69, 70, 71, 72, 73, 74, 75, 76, 77, 78, 79, 80, 81, 82] rfl (by decide +kernel)
set_option maxRecDepth 20000 in
theorem gX9_juryTold_X9_juries : GoodIn wsX9_juryTold (wsV RX9 104 RX9 yX9_juries wsX9_juries) := goodIn_app (goodIn_of _ (by decide +kernel)) ggX9_juryTold_X9_juries
set_option maxRecDepth 20000 in
theorem ggX9_juryTold_X9_can : GoodIn wsX9_juryTold wsX9_can := goodIn_r _ [64, 29, 30, 31, 5, 32, 12, 65, 66, 67, 68, 69, 70, 71, 72, 73, 74, 75, 76, 77, 78, 79, 80, 81, 82] rfl (by decide +kernel)
set_option maxRecDepth 20000 in
theorem gX9_juryTold_X9_can : GoodIn wsX9_juryTold (wsV RX9 312 RX9 yX9_can wsX9_can) := goodIn_app (goodIn_of _ (by decide +kernel)) ggX9_juryTold_X9_can
theorem dX9_juryTold_0 : decode cX9_juryTold 0 = .ok (.aload_n 0, 1) := by decide +kernel
theorem dX9_juryTold_1 : decode cX9_juryTold 1 = .ok (.iconst 0, 1) := by decide +kernel
theorem dX9_juryTold_2 : decode cX9_juryTold 2 = .ok (.aload_n 0, 1) := by decide +kernel
theorem dX9_juryTold_3 : decode cX9_juryTold 3 = .ok (.invokevirtual 316, 3) := by decide +kernel
theorem dX9_juryTold_6 : decode cX9_juryTold 6 = .ok (.invokevirtual 296, 3) := by decide +kernel
theorem dX9_juryTold_9 : decode cX9_juryTold 9 = .ok (.aload_n 0, 1) := by decide +kernel
theorem dX9_juryTold_10 : decode cX9_juryTold 10 = .ok (.iconst 1, 1) := by decide +kernel
theorem dX9_juryTold_11 : decode cX9_juryTold 11 = .ok (.sipush 3600, 3) := by decide +kernel
theorem dX9_juryTold_14 : decode cX9_juryTold 14 = .ok (.invokevirtual 296, 3) := by decide +kernel
theorem dX9_juryTold_17 : decode cX9_juryTold 17 = .ok (.aload_n 0, 1) := by decide +kernel
theorem dX9_juryTold_18 : decode cX9_juryTold 18 = .ok (.invokevirtual 309, 3) := by decide +kernel
theorem dX9_juryTold_21 : decode cX9_juryTold 21 = .ok (.ifCond .eq 33, 3) := by decide +kernel
theorem dX9_juryTold_24 : decode cX9_juryTold 24 = .ok (.aload_n 0, 1) := by decide +kernel
theorem dX9_juryTold_25 : decode cX9_juryTold 25 = .ok (.aload_n 0, 1) := by decide +kernel
theorem dX9_juryTold_26 : decode cX9_juryTold 26 = .ok (.aload_n 0, 1) := by decide +kernel
theorem dX9_juryTold_27 : decode cX9_juryTold 27 = .ok (.getfield 36, 3) := by decide +kernel
theorem dX9_juryTold_30 : decode cX9_juryTold 30 = .ok (.iconst 0, 1) := by decide +kernel
theorem dX9_juryTold_31 : decode cX9_juryTold 31 = .ok (.iaload, 1) := by decide +kernel
theorem dX9_juryTold_32 : decode cX9_juryTold 32 = .ok (.aload_n 0, 1) := by decide +kernel
theorem dX9_juryTold_33 : decode cX9_juryTold 33 = .ok (.getfield 36, 3) := by decide +kernel
theorem dX9_juryTold_36 : decode cX9_juryTold 36 = .ok (.iconst 1, 1) := by decide +kernel
theorem dX9_juryTold_37 : decode cX9_juryTold 37 = .ok (.iaload, 1) := by decide +kernel
theorem dX9_juryTold_38 : decode cX9_juryTold 38 = .ok (.invokevirtual 104, 3) := by decide +kernel
theorem dX9_juryTold_41 : decode cX9_juryTold 41 = .ok (.iconst (-1), 1) := by decide +kernel
theorem dX9_juryTold_42 : decode cX9_juryTold 42 = .ok (.if_icmp .eq 7, 3) := by decide +kernel
theorem dX9_juryTold_45 : decode cX9_juryTold 45 = .ok (.iconst 1, 1) := by decide +kernel
theorem dX9_juryTold_46 : decode cX9_juryTold 46 = .ok (.goto 4, 3) := by decide +kernel
theorem dX9_juryTold_49 : decode cX9_juryTold 49 = .ok (.iconst 0, 1) := by decide +kernel
theorem dX9_juryTold_50 : decode cX9_juryTold 50 = .ok (.iload_n 1, 1) := by decide +kernel
theorem dX9_juryTold_51 : decode cX9_juryTold 51 = .ok (.invokevirtual 312, 3) := by decide +kernel
theorem dX9_juryTold_54 : decode cX9_juryTold 54 = .ok (.return_, 1) := by decide +kernel
set_option maxRecDepth 20000 in
theorem ggX9_oneTold_X9_lastRider : GoodIn wsX9_oneTold wsX9_lastRider := goodIn_r _ [6, 7, 74, 75, 76, 77, 78, 79, 80, 81, 82, 83, 84, 85, 86, 87, 88, 89, 90, 91] rfl (by decide +kernel)
set_option maxRecDepth 20000 in
theorem gX9_oneTold_X9_lastRider : GoodIn wsX9_oneTold (wsV RX9 316 RX9 yX9_lastRider wsX9_lastRider) := goodIn_app (goodIn_of _ (by decide +kernel)) ggX9_oneTold_X9_lastRider
set_option maxRecDepth 20000 in
theorem ggX9_oneTold_X9_number : GoodIn wsX9_oneTold wsX9_number := goodIn_r _ [11, 12, 13, 14, 15, 16, 1, 17, 18, 19, 20, 5, 21, 22, 23, 24, 25, 26, 27, 28, 29, 30, 31, 32, 74, 75, 76, 77, 78, 79, 80, 81, 82, 83, 84, 85, 86, 87, 88, 89, 90, 91] rfl (by decide +kernel)
set_option maxRecDepth 20000 in
theorem gX9_oneTold_X9_number : GoodIn wsX9_oneTold (wsV RX9 296 RX9 yX9_number wsX9_number) := goodIn_app (goodIn_of _ (by decide +kernel)) ggX9_oneTold_X9_number
set_option maxRecDepth 20000 in
theorem ggX9_oneTold_X9_ends : GoodIn wsX9_oneTold wsX9_ends := goodIn_r _ [36, 12, 13, 22, 23, 24, 5, 25, 15, 16, 29, 30, 31, 32, 74, 75, 76, 77, 78, 79, 80, 81, 82, 83, 84, 85, 86, 87, 88, 89, 90, 91] rfl (by decide +kernel)
set_option maxRecDepth 20000 in
theorem gX9_oneTold_X9_ends : GoodIn wsX9_oneTold (wsV RX9 309 RX9 yX9_ends wsX9_ends) := goodIn_app (goodIn_of _ (by decide +kernel)) ggX9_oneTold_X9_ends
set_option maxRecDepth 20000 in
theorem ggX9_oneTold_X9_graces : GoodIn wsX9_oneTold wsX9_graces := goodIn_r _ [40, 7, 41, 42, 43, 5, 44, 45, 46, 47, 48, 49, 50, 51, 52, 26, 27, 28, 53, 54, 55, 56, 57, 58, 59, 74, 75, 76, 77, 78, 79, 80, 81, 82, 83, 84, 85, 86, 87, 88, 89, 90, 91] rfl (by decide +kernel)
set_option maxRecDepth 20000 in
theorem gX9_oneTold_X9_graces : GoodIn wsX9_oneTold (wsV RX9 108 RX9 yX9_graces wsX9_graces) := goodIn_app (goodIn_of _ (by decide +kernel)) ggX9_oneTold_X9_graces
set_option maxRecDepth 20000 in
theorem ggX9_oneTold_X9_quits : GoodIn wsX9_oneTold wsX9_quits := goodIn_r _ [63, 7, 41, 42, 43, 5, 44, 45, 46, 47, 48, 49, 50, 51, 52, 26, 27, 28, 53, 54, 55, 56, 57, 58, 59, 64, 65, 66, 67, 68, 69, 74, 75, 76, 77, 78, 79, 80, 81, 82, 83, 84, 85, 86, 87, 88, 89, 90, 91] rfl (by decide +kernel)
set_option maxRecDepth 20000 in
theorem gX9_oneTold_X9_quits : GoodIn wsX9_oneTold (wsV RX9 111 RX9 yX9_quits wsX9_quits) := goodIn_app (goodIn_of _ (by decide +kernel)) ggX9_oneTold_X9_quits
set_option maxRecDepth 20000 in
theorem ggX9_oneTold_X9_can : GoodIn wsX9_oneTold wsX9_can := goodIn_r _ [73, 29, 30, 31, 5, 32, 12, 74, 75, 76, 77, 78, 79, 80, 81, 82, 83, 84, 85, 86, 87, 88, 89, 90, 91] rfl (by decide +kernel)
set_option maxRecDepth 20000 in
theorem gX9_oneTold_X9_can : GoodIn wsX9_oneTold (wsV RX9 312 RX9 yX9_can wsX9_can) := goodIn_app (goodIn_of _ (by decide +kernel)) ggX9_oneTold_X9_can
theorem dX9_oneTold_0 : decode cX9_oneTold 0 = .ok (.aload_n 0, 1) := by decide +kernel
theorem dX9_oneTold_1 : decode cX9_oneTold 1 = .ok (.iconst 0, 1) := by decide +kernel
theorem dX9_oneTold_2 : decode cX9_oneTold 2 = .ok (.aload_n 0, 1) := by decide +kernel
theorem dX9_oneTold_3 : decode cX9_oneTold 3 = .ok (.invokevirtual 316, 3) := by decide +kernel
theorem dX9_oneTold_6 : decode cX9_oneTold 6 = .ok (.invokevirtual 296, 3) := by decide +kernel
theorem dX9_oneTold_9 : decode cX9_oneTold 9 = .ok (.aload_n 0, 1) := by decide +kernel
theorem dX9_oneTold_10 : decode cX9_oneTold 10 = .ok (.invokevirtual 309, 3) := by decide +kernel
theorem dX9_oneTold_13 : decode cX9_oneTold 13 = .ok (.ifCond .eq 35, 3) := by decide +kernel
theorem dX9_oneTold_16 : decode cX9_oneTold 16 = .ok (.aload_n 0, 1) := by decide +kernel
theorem dX9_oneTold_17 : decode cX9_oneTold 17 = .ok (.iload_n 2, 1) := by decide +kernel
theorem dX9_oneTold_18 : decode cX9_oneTold 18 = .ok (.ifCond .eq 16, 3) := by decide +kernel
theorem dX9_oneTold_21 : decode cX9_oneTold 21 = .ok (.aload_n 0, 1) := by decide +kernel
theorem dX9_oneTold_22 : decode cX9_oneTold 22 = .ok (.aload_n 0, 1) := by decide +kernel
theorem dX9_oneTold_23 : decode cX9_oneTold 23 = .ok (.getfield 36, 3) := by decide +kernel
theorem dX9_oneTold_26 : decode cX9_oneTold 26 = .ok (.iconst 0, 1) := by decide +kernel
theorem dX9_oneTold_27 : decode cX9_oneTold 27 = .ok (.iaload, 1) := by decide +kernel
theorem dX9_oneTold_28 : decode cX9_oneTold 28 = .ok (.invokevirtual 108, 3) := by decide +kernel
theorem dX9_oneTold_31 : decode cX9_oneTold 31 = .ok (.goto 13, 3) := by decide +kernel
theorem dX9_oneTold_34 : decode cX9_oneTold 34 = .ok (.aload_n 0, 1) := by decide +kernel
theorem dX9_oneTold_35 : decode cX9_oneTold 35 = .ok (.aload_n 0, 1) := by decide +kernel
theorem dX9_oneTold_36 : decode cX9_oneTold 36 = .ok (.getfield 36, 3) := by decide +kernel
theorem dX9_oneTold_39 : decode cX9_oneTold 39 = .ok (.iconst 0, 1) := by decide +kernel
theorem dX9_oneTold_40 : decode cX9_oneTold 40 = .ok (.iaload, 1) := by decide +kernel
theorem dX9_oneTold_41 : decode cX9_oneTold 41 = .ok (.invokevirtual 111, 3) := by decide +kernel
theorem dX9_oneTold_44 : decode cX9_oneTold 44 = .ok (.iload_n 1, 1) := by decide +kernel
theorem dX9_oneTold_45 : decode cX9_oneTold 45 = .ok (.invokevirtual 312, 3) := by decide +kernel
theorem dX9_oneTold_48 : decode cX9_oneTold 48 = .ok (.return_, 1) := by decide +kernel
set_option maxRecDepth 20000 in
theorem ggX9_ruleTold_X9_number : GoodIn wsX9_ruleTold wsX9_number := goodIn_r _ [7, 8, 9, 10, 11, 12, 2, 13, 14, 15, 16, 6, 17, 18, 19, 20, 21, 22, 23, 24, 25, 26, 27, 28, 33, 34, 35, 36, 37, 38, 39, 40, 41, 42, 43, 44, 45, 46, 47, 48, 49, 50] rfl (by decide +kernel)
set_option maxRecDepth 20000 in
theorem gX9_ruleTold_X9_number : GoodIn wsX9_ruleTold (wsV RX9 296 RX9 yX9_number wsX9_number) := goodIn_app (goodIn_of _ (by decide +kernel)) ggX9_ruleTold_X9_number
set_option maxRecDepth 20000 in
theorem ggX9_ruleTold_X9_ends : GoodIn wsX9_ruleTold wsX9_ends := goodIn_r _ [32, 8, 9, 18, 19, 20, 6, 21, 11, 12, 25, 26, 27, 28, 33, 34, 35, 36, 37, 38, 39, 40, 41, 42, 43, 44, 45, 46, 47, 48, 49, 50] rfl (by decide +kernel)
set_option maxRecDepth 20000 in
theorem gX9_ruleTold_X9_ends : GoodIn wsX9_ruleTold (wsV RX9 309 RX9 yX9_ends wsX9_ends) := goodIn_app (goodIn_of _ (by decide +kernel)) ggX9_ruleTold_X9_ends
theorem dX9_ruleTold_0 : decode cX9_ruleTold 0 = .ok (.aload_n 0, 1) := by decide +kernel
theorem dX9_ruleTold_1 : decode cX9_ruleTold 1 = .ok (.iload_n 2, 1) := by decide +kernel
theorem dX9_ruleTold_2 : decode cX9_ruleTold 2 = .ok (.iload_n 3, 1) := by decide +kernel
theorem dX9_ruleTold_3 : decode cX9_ruleTold 3 = .ok (.invokevirtual 296, 3) := by decide +kernel
theorem dX9_ruleTold_6 : decode cX9_ruleTold 6 = .ok (.aload_n 0, 1) := by decide +kernel
theorem dX9_ruleTold_7 : decode cX9_ruleTold 7 = .ok (.invokevirtual 309, 3) := by decide +kernel
theorem dX9_ruleTold_10 : decode cX9_ruleTold 10 = .ok (.ifCond .eq 17, 3) := by decide +kernel
theorem dX9_ruleTold_13 : decode cX9_ruleTold 13 = .ok (.aload_n 0, 1) := by decide +kernel
theorem dX9_ruleTold_14 : decode cX9_ruleTold 14 = .ok (.getfield 7, 3) := by decide +kernel
theorem dX9_ruleTold_17 : decode cX9_ruleTold 17 = .ok (.iconst 4, 1) := by decide +kernel
theorem dX9_ruleTold_18 : decode cX9_ruleTold 18 = .ok (.iload_n 1, 1) := by decide +kernel
theorem dX9_ruleTold_19 : decode cX9_ruleTold 19 = .ok (.iadd, 1) := by decide +kernel
theorem dX9_ruleTold_20 : decode cX9_ruleTold 20 = .ok (.aload_n 0, 1) := by decide +kernel
theorem dX9_ruleTold_21 : decode cX9_ruleTold 21 = .ok (.getfield 36, 3) := by decide +kernel
theorem dX9_ruleTold_24 : decode cX9_ruleTold 24 = .ok (.iconst 0, 1) := by decide +kernel
theorem dX9_ruleTold_25 : decode cX9_ruleTold 25 = .ok (.iaload, 1) := by decide +kernel
theorem dX9_ruleTold_26 : decode cX9_ruleTold 26 = .ok (.iastore, 1) := by decide +kernel
theorem dX9_ruleTold_27 : decode cX9_ruleTold 27 = .ok (.return_, 1) := by decide +kernel
set_option maxRecDepth 20000 in
theorem ggX9_statement_X9_word : GoodIn wsX9_statement wsX9_word := goodIn_r _ [19, 20, 2, 21, 22, 23, 24, 25, 26, 27, 18, 28, 29, 30, 31, 240, 241, 242, 243, 244, 245, 246, 247, 248, 249, 250, 251, 252, 253, 254, 255, 256, 257] rfl (by decide +kernel)
set_option maxRecDepth 20000 in
theorem gX9_statement_X9_word : GoodIn wsX9_statement (wsV RX9 284 RX9 yX9_word wsX9_word) := goodIn_app (goodIn_of _ (by decide +kernel)) ggX9_statement_X9_word
set_option maxRecDepth 20000 in
theorem ggX9_statement_X9_ends : GoodIn wsX9_statement wsX9_ends := goodIn_r _ [35, 36, 20, 25, 26, 27, 18, 28, 21, 22, 37, 38, 39, 40, 240, 241, 242, 243, 244, 245, 246, 247, 248, 249, 250, 251, 252, 253, 254, 255, 256, 257] rfl (by decide +kernel)
set_option maxRecDepth 20000 in
theorem gX9_statement_X9_ends : GoodIn wsX9_statement (wsV RX9 309 RX9 yX9_ends wsX9_ends) := goodIn_app (goodIn_of _ (by decide +kernel)) ggX9_statement_X9_ends
set_option maxRecDepth 20000 in
theorem ggX9_statement_X9_teams : GoodIn wsX9_statement wsX9_teams := goodIn_r _ [44, 45, 240, 241, 242, 243, 244, 245, 246, 247, 248, 249, 250, 251, 252, 253, 254, 255, 256, 257] rfl (by decide +kernel)
set_option maxRecDepth 20000 in
theorem gX9_statement_X9_teams : GoodIn wsX9_statement (wsV RX9 62 RX9 yX9_teams wsX9_teams) := goodIn_app (goodIn_of _ (by decide +kernel)) ggX9_statement_X9_teams
set_option maxRecDepth 20000 in
theorem ggX9_statement_X9_can : GoodIn wsX9_statement wsX9_can := goodIn_r _ [49, 37, 38, 39, 18, 40, 36, 240, 241, 242, 243, 244, 245, 246, 247, 248, 249, 250, 251, 252, 253, 254, 255, 256, 257] rfl (by decide +kernel)
set_option maxRecDepth 20000 in
theorem gX9_statement_X9_can : GoodIn wsX9_statement (wsV RX9 312 RX9 yX9_can wsX9_can) := goodIn_app (goodIn_of _ (by decide +kernel)) ggX9_statement_X9_can
set_option maxRecDepth 20000 in
theorem ggX9_statement_X9_riderTold : GoodIn wsX9_statement wsX9_riderTold := goodIn_r _ [53, 45, 54, 55, 56, 57, 18, 58, 36, 20, 2, 21, 22, 1, 59, 60, 61, 62, 25, 26, 27, 28, 29, 30, 31, 37, 38, 39, 40, 32, 33, 34, 35, 63, 64, 65, 66, 67, 68, 69, 70, 71, 72, 73, 74, 75, 76, 77, 78, 79, 80, 81, 82, 83, 84, 85, 46, 47, 48, 49, 240, 241, 242, 243, 244, 245, 246, 247, 248, 249, 250, 251, 252, 253, 254, 255, 256, 257] rfl (by decide +kernel)
set_option maxRecDepth 20000 in
theorem gX9_statement_X9_riderTold : GoodIn wsX9_statement (wsV RX9 325 RX9 yX9_riderTold wsX9_riderTold) := goodIn_app (goodIn_of _ (by decide +kernel)) ggX9_statement_X9_riderTold
set_option maxRecDepth 20000 in
theorem ggX9_statement_X9_stageTold : GoodIn wsX9_statement wsX9_stageTold := goodIn_r _ [89, 36, 90, 91, 92, 93, 2, 54, 94, 1, 95, 96, 15, 16, 17, 18, 19, 20, 21, 22, 23, 24, 25, 26, 27, 28, 29, 30, 31, 37, 38, 39, 40, 55, 56, 57, 58, 59, 60, 61, 62, 97, 98, 99, 100, 32, 33, 34, 35, 101, 102, 103, 104, 45, 67, 68, 69, 70, 105, 106, 107, 108, 109, 110, 111, 112, 113, 114, 115, 116, 83, 84, 85, 117, 118, 119, 46, 47, 48, 49, 120, 121, 122, 123, 71, 72, 73, 74, 124, 125, 126, 240, 241, 242, 243, 244, 245, 246, 247, 248, 249, 250, 251, 252, 253, 254, 255, 256, 257] rfl (by decide +kernel)
set_option maxRecDepth 20000 in
theorem gX9_statement_X9_stageTold : GoodIn wsX9_statement (wsV RX9 330 RX9 yX9_stageTold wsX9_stageTold) := goodIn_app (goodIn_of _ (by decide +kernel)) ggX9_statement_X9_stageTold
set_option maxRecDepth 20000 in
theorem ggX9_statement_X9_comeTold : GoodIn wsX9_statement wsX9_comeTold := goodIn_r _ [130, 36, 131, 1, 54, 59, 60, 61, 18, 62, 25, 26, 27, 28, 20, 21, 22, 29, 30, 31, 132, 133, 134, 135, 45, 55, 56, 57, 58, 2, 37, 38, 39, 40, 32, 33, 34, 35, 136, 137, 138, 139, 67, 68, 69, 70, 109, 110, 111, 112, 113, 114, 115, 116, 71, 72, 73, 74, 79, 80, 81, 82, 83, 84, 85, 46, 47, 48, 49, 240, 241, 242, 243, 244, 245, 246, 247, 248, 249, 250, 251, 252, 253, 254, 255, 256, 257] rfl (by decide +kernel)
set_option maxRecDepth 20000 in
theorem gX9_statement_X9_comeTold : GoodIn wsX9_statement (wsV RX9 335 RX9 yX9_comeTold wsX9_comeTold) := goodIn_app (goodIn_of _ (by decide +kernel)) ggX9_statement_X9_comeTold
set_option maxRecDepth 20000 in
theorem ggX9_statement_X9_overTold : GoodIn wsX9_statement wsX9_overTold := goodIn_r _ [143, 45, 36, 1, 54, 71, 72, 73, 18, 74, 117, 118, 119, 55, 56, 57, 58, 20, 2, 21, 22, 59, 60, 61, 62, 25, 26, 27, 28, 29, 30, 31, 37, 38, 39, 40, 132, 133, 134, 135, 32, 33, 34, 35, 144, 145, 146, 147, 67, 68, 69, 70, 109, 110, 111, 112, 113, 114, 115, 116, 124, 125, 126, 46, 47, 48, 49, 240, 241, 242, 243, 244, 245, 246, 247, 248, 249, 250, 251, 252, 253, 254, 255, 256, 257] rfl (by decide +kernel)
set_option maxRecDepth 20000 in
theorem gX9_statement_X9_overTold : GoodIn wsX9_statement (wsV RX9 340 RX9 yX9_overTold wsX9_overTold) := goodIn_app (goodIn_of _ (by decide +kernel)) ggX9_statement_X9_overTold
set_option maxRecDepth 20000 in
theorem ggX9_statement_X9_fallTold : GoodIn wsX9_statement wsX9_fallTold := goodIn_r _ [151, 45, 36, 152, 54, 132, 133, 134, 18, 135, 55, 56, 57, 58, 20, 2, 21, 22, 1, 59, 60, 61, 62, 25, 26, 27, 28, 29, 30, 31, 37, 38, 39, 40, 71, 72, 73, 74, 117, 118, 119, 97, 98, 99, 100, 15, 16, 17, 19, 23, 24, 32, 33, 34, 35, 153, 154, 155, 156, 67, 68, 69, 70, 109, 110, 111, 112, 113, 114, 115, 116, 83, 84, 85, 46, 47, 48, 49, 240, 241, 242, 243, 244, 245, 246, 247, 248, 249, 250, 251, 252, 253, 254, 255, 256, 257] rfl (by decide +kernel)
set_option maxRecDepth 20000 in
theorem gX9_statement_X9_fallTold : GoodIn wsX9_statement (wsV RX9 345 RX9 yX9_fallTold wsX9_fallTold) := goodIn_app (goodIn_of _ (by decide +kernel)) ggX9_statement_X9_fallTold
set_option maxRecDepth 20000 in
theorem ggX9_statement_X9_juryTold : GoodIn wsX9_statement wsX9_juryTold := goodIn_r _ [160, 54, 132, 133, 134, 18, 135, 45, 55, 56, 57, 58, 36, 20, 2, 21, 22, 1, 59, 60, 61, 62, 25, 26, 27, 28, 29, 30, 31, 37, 38, 39, 40, 32, 33, 34, 35, 161, 162, 163, 164, 165, 67, 68, 69, 70, 109, 110, 111, 112, 113, 114, 115, 116, 71, 72, 73, 74, 83, 84, 85, 46, 47, 48, 49, 240, 241, 242, 243, 244, 245, 246, 247, 248, 249, 250, 251, 252, 253, 254, 255, 256, 257] rfl (by decide +kernel)
set_option maxRecDepth 20000 in
theorem gX9_statement_X9_juryTold : GoodIn wsX9_statement (wsV RX9 350 RX9 yX9_juryTold wsX9_juryTold) := goodIn_app (goodIn_of _ (by decide +kernel)) ggX9_statement_X9_juryTold
set_option maxRecDepth 20000 in
theorem ggX9_statement_X9_oneTold : GoodIn wsX9_statement wsX9_oneTold := goodIn_r _ [169, 54, 132, 133, 134, 18, 135, 45, 55, 56, 57, 58, 36, 20, 2, 21, 22, 1, 59, 60, 61, 62, 25, 26, 27, 28, 29, 30, 31, 37, 38, 39, 40, 32, 33, 34, 35, 170, 171, 172, 173, 67, 68, 69, 70, 109, 110, 111, 112, 113, 114, 115, 116, 71, 72, 73, 74, 83, 84, 85, 174, 175, 176, 177, 117, 118, 119, 124, 125, 126, 46, 47, 48, 49, 240, 241, 242, 243, 244, 245, 246, 247, 248, 249, 250, 251, 252, 253, 254, 255, 256, 257] rfl (by decide +kernel)
set_option maxRecDepth 20000 in
theorem gX9_statement_X9_oneTold : GoodIn wsX9_statement (wsV RX9 355 RX9 yX9_oneTold wsX9_oneTold) := goodIn_app (goodIn_of _ (by decide +kernel)) ggX9_statement_X9_oneTold
set_option maxRecDepth 20000 in
theorem ggX9_statement_X9_ruleTold : GoodIn wsX9_statement wsX9_ruleTold := goodIn_r _ [181, 45, 54, 55, 56, 57, 18, 58, 36, 20, 2, 21, 22, 1, 59, 60, 61, 62, 25, 26, 27, 28, 29, 30, 31, 37, 38, 39, 40, 32, 33, 34, 35, 240, 241, 242, 243, 244, 245, 246, 247, 248, 249, 250, 251, 252, 253, 254, 255, 256, 257] rfl (by decide +kernel)
set_option maxRecDepth 20000 in
theorem gX9_statement_X9_ruleTold : GoodIn wsX9_statement (wsV RX9 363 RX9 yX9_ruleTold wsX9_ruleTold) := goodIn_app (goodIn_of _ (by decide +kernel)) ggX9_statement_X9_ruleTold
set_option maxRecDepth 20000 in
theorem ggX9_statement_X9_closes : GoodIn wsX9_statement wsX9_closes := goodIn_r _ [185, 45, 186, 187, 71, 72, 73, 18, 74, 67, 68, 69, 70, 75, 76, 77, 78, 79, 80, 81, 82, 83, 84, 85, 117, 118, 119, 188, 189, 190, 191, 192, 193, 194, 195, 196, 197, 198, 199, 200, 201, 202, 203, 204, 205, 206, 207, 208, 209, 210, 211, 212, 213, 214, 215, 216, 217, 218, 219, 220, 221, 222, 223, 224, 225, 226, 227, 228, 229, 230, 231, 232, 233, 234, 124, 125, 126, 235, 236, 237, 238, 239, 109, 110, 111, 112, 113, 114, 115, 116, 29, 30, 31, 240, 241, 242, 243, 244, 245, 246, 247, 248, 249, 250, 251, 252, 253, 254, 255, 256, 257] rfl (by decide +kernel)
set_option maxRecDepth 20000 in
theorem gX9_statement_X9_closes : GoodIn wsX9_statement (wsV RX9 157 RX9 yX9_closes wsX9_closes) := goodIn_app (goodIn_of _ (by decide +kernel)) ggX9_statement_X9_closes
set_option maxRecDepth 20000 in
theorem ggX9_statement_X9_fails : GoodIn wsX9_statement wsX9_fails := goodIn_r _ [40, 36, 240, 241, 242, 243, 244, 245, 246, 247, 248, 249, 250, 251, 252, 253, 254, 255, 256, 257] rfl (by decide +kernel)
set_option maxRecDepth 20000 in
theorem gX9_statement_X9_fails : GoodIn wsX9_statement (wsV RX9 273 RX9 yX9_fails wsX9_fails) := goodIn_app (goodIn_of _ (by decide +kernel)) ggX9_statement_X9_fails
theorem dX9_statement_0 : decode cX9_statement 0 = .ok (.aload_n 0, 1) := by decide +kernel
theorem dX9_statement_1 : decode cX9_statement 1 = .ok (.iconst 0, 1) := by decide +kernel
theorem dX9_statement_2 : decode cX9_statement 2 = .ok (.putfield 277, 3) := by decide +kernel
theorem dX9_statement_5 : decode cX9_statement 5 = .ok (.aload_n 0, 1) := by decide +kernel
theorem dX9_statement_6 : decode cX9_statement 6 = .ok (.invokevirtual 284, 3) := by decide +kernel
theorem dX9_statement_9 : decode cX9_statement 9 = .ok (.lstore_n 1, 1) := by decide +kernel
theorem dX9_statement_10 : decode cX9_statement 10 = .ok (.aload_n 0, 1) := by decide +kernel
theorem dX9_statement_11 : decode cX9_statement 11 = .ok (.getfield 270, 3) := by decide +kernel
theorem dX9_statement_14 : decode cX9_statement 14 = .ok (.istore_n 3, 1) := by decide +kernel
theorem dX9_statement_15 : decode cX9_statement 15 = .ok (.lload_n 1, 1) := by decide +kernel
theorem dX9_statement_16 : decode cX9_statement 16 = .ok (.ldc2_w 321, 3) := by decide +kernel
theorem dX9_statement_19 : decode cX9_statement 19 = .ok (.lcmp, 1) := by decide +kernel
theorem dX9_statement_20 : decode cX9_statement 20 = .ok (.ifCond .ne 31, 3) := by decide +kernel
theorem dX9_statement_23 : decode cX9_statement 23 = .ok (.aload_n 0, 1) := by decide +kernel
theorem dX9_statement_24 : decode cX9_statement 24 = .ok (.invokevirtual 309, 3) := by decide +kernel
theorem dX9_statement_27 : decode cX9_statement 27 = .ok (.ifCond .eq 234, 3) := by decide +kernel
theorem dX9_statement_30 : decode cX9_statement 30 = .ok (.aload_n 0, 1) := by decide +kernel
theorem dX9_statement_31 : decode cX9_statement 31 = .ok (.aload_n 0, 1) := by decide +kernel
theorem dX9_statement_32 : decode cX9_statement 32 = .ok (.invokevirtual 62, 3) := by decide +kernel
theorem dX9_statement_35 : decode cX9_statement 35 = .ok (.iconst (-1), 1) := by decide +kernel
theorem dX9_statement_36 : decode cX9_statement 36 = .ok (.if_icmp .eq 7, 3) := by decide +kernel
theorem dX9_statement_39 : decode cX9_statement 39 = .ok (.iconst 1, 1) := by decide +kernel
theorem dX9_statement_40 : decode cX9_statement 40 = .ok (.goto 4, 3) := by decide +kernel
theorem dX9_statement_43 : decode cX9_statement 43 = .ok (.iconst 0, 1) := by decide +kernel
theorem dX9_statement_44 : decode cX9_statement 44 = .ok (.iload_n 3, 1) := by decide +kernel
theorem dX9_statement_45 : decode cX9_statement 45 = .ok (.invokevirtual 312, 3) := by decide +kernel
theorem dX9_statement_48 : decode cX9_statement 48 = .ok (.goto 213, 3) := by decide +kernel
theorem dX9_statement_51 : decode cX9_statement 51 = .ok (.lload_n 1, 1) := by decide +kernel
theorem dX9_statement_52 : decode cX9_statement 52 = .ok (.ldc2_w 323, 3) := by decide +kernel
theorem dX9_statement_55 : decode cX9_statement 55 = .ok (.lcmp, 1) := by decide +kernel
theorem dX9_statement_56 : decode cX9_statement 56 = .ok (.ifCond .ne 11, 3) := by decide +kernel
theorem dX9_statement_59 : decode cX9_statement 59 = .ok (.aload_n 0, 1) := by decide +kernel
theorem dX9_statement_60 : decode cX9_statement 60 = .ok (.iload_n 3, 1) := by decide +kernel
theorem dX9_statement_61 : decode cX9_statement 61 = .ok (.invokevirtual 325, 3) := by decide +kernel
theorem dX9_statement_64 : decode cX9_statement 64 = .ok (.goto 197, 3) := by decide +kernel
theorem dX9_statement_67 : decode cX9_statement 67 = .ok (.lload_n 1, 1) := by decide +kernel
theorem dX9_statement_68 : decode cX9_statement 68 = .ok (.ldc2_w 328, 3) := by decide +kernel
theorem dX9_statement_71 : decode cX9_statement 71 = .ok (.lcmp, 1) := by decide +kernel
theorem dX9_statement_72 : decode cX9_statement 72 = .ok (.ifCond .ne 11, 3) := by decide +kernel
theorem dX9_statement_75 : decode cX9_statement 75 = .ok (.aload_n 0, 1) := by decide +kernel
theorem dX9_statement_76 : decode cX9_statement 76 = .ok (.iload_n 3, 1) := by decide +kernel
theorem dX9_statement_77 : decode cX9_statement 77 = .ok (.invokevirtual 330, 3) := by decide +kernel
theorem dX9_statement_80 : decode cX9_statement 80 = .ok (.goto 181, 3) := by decide +kernel
theorem dX9_statement_83 : decode cX9_statement 83 = .ok (.lload_n 1, 1) := by decide +kernel
theorem dX9_statement_84 : decode cX9_statement 84 = .ok (.ldc2_w 333, 3) := by decide +kernel
theorem dX9_statement_87 : decode cX9_statement 87 = .ok (.lcmp, 1) := by decide +kernel
theorem dX9_statement_88 : decode cX9_statement 88 = .ok (.ifCond .ne 11, 3) := by decide +kernel
theorem dX9_statement_91 : decode cX9_statement 91 = .ok (.aload_n 0, 1) := by decide +kernel
theorem dX9_statement_92 : decode cX9_statement 92 = .ok (.iload_n 3, 1) := by decide +kernel
theorem dX9_statement_93 : decode cX9_statement 93 = .ok (.invokevirtual 335, 3) := by decide +kernel
theorem dX9_statement_96 : decode cX9_statement 96 = .ok (.goto 165, 3) := by decide +kernel
theorem dX9_statement_99 : decode cX9_statement 99 = .ok (.lload_n 1, 1) := by decide +kernel
theorem dX9_statement_100 : decode cX9_statement 100 = .ok (.ldc2_w 338, 3) := by decide +kernel
theorem dX9_statement_103 : decode cX9_statement 103 = .ok (.lcmp, 1) := by decide +kernel
theorem dX9_statement_104 : decode cX9_statement 104 = .ok (.ifCond .ne 11, 3) := by decide +kernel
theorem dX9_statement_107 : decode cX9_statement 107 = .ok (.aload_n 0, 1) := by decide +kernel
theorem dX9_statement_108 : decode cX9_statement 108 = .ok (.iload_n 3, 1) := by decide +kernel
theorem dX9_statement_109 : decode cX9_statement 109 = .ok (.invokevirtual 340, 3) := by decide +kernel
theorem dX9_statement_112 : decode cX9_statement 112 = .ok (.goto 149, 3) := by decide +kernel
theorem dX9_statement_115 : decode cX9_statement 115 = .ok (.lload_n 1, 1) := by decide +kernel
theorem dX9_statement_116 : decode cX9_statement 116 = .ok (.ldc2_w 343, 3) := by decide +kernel
theorem dX9_statement_119 : decode cX9_statement 119 = .ok (.lcmp, 1) := by decide +kernel
theorem dX9_statement_120 : decode cX9_statement 120 = .ok (.ifCond .ne 11, 3) := by decide +kernel
theorem dX9_statement_123 : decode cX9_statement 123 = .ok (.aload_n 0, 1) := by decide +kernel
theorem dX9_statement_124 : decode cX9_statement 124 = .ok (.iload_n 3, 1) := by decide +kernel
theorem dX9_statement_125 : decode cX9_statement 125 = .ok (.invokevirtual 345, 3) := by decide +kernel
theorem dX9_statement_128 : decode cX9_statement 128 = .ok (.goto 133, 3) := by decide +kernel
theorem dX9_statement_131 : decode cX9_statement 131 = .ok (.lload_n 1, 1) := by decide +kernel
theorem dX9_statement_132 : decode cX9_statement 132 = .ok (.ldc2_w 348, 3) := by decide +kernel
theorem dX9_statement_135 : decode cX9_statement 135 = .ok (.lcmp, 1) := by decide +kernel
theorem dX9_statement_136 : decode cX9_statement 136 = .ok (.ifCond .ne 11, 3) := by decide +kernel
theorem dX9_statement_139 : decode cX9_statement 139 = .ok (.aload_n 0, 1) := by decide +kernel
theorem dX9_statement_140 : decode cX9_statement 140 = .ok (.iload_n 3, 1) := by decide +kernel
theorem dX9_statement_141 : decode cX9_statement 141 = .ok (.invokevirtual 350, 3) := by decide +kernel
theorem dX9_statement_144 : decode cX9_statement 144 = .ok (.goto 117, 3) := by decide +kernel
theorem dX9_statement_147 : decode cX9_statement 147 = .ok (.lload_n 1, 1) := by decide +kernel
theorem dX9_statement_148 : decode cX9_statement 148 = .ok (.ldc2_w 353, 3) := by decide +kernel
theorem dX9_statement_151 : decode cX9_statement 151 = .ok (.lcmp, 1) := by decide +kernel
theorem dX9_statement_152 : decode cX9_statement 152 = .ok (.ifCond .ne 12, 3) := by decide +kernel
theorem dX9_statement_155 : decode cX9_statement 155 = .ok (.aload_n 0, 1) := by decide +kernel
theorem dX9_statement_156 : decode cX9_statement 156 = .ok (.iload_n 3, 1) := by decide +kernel
theorem dX9_statement_157 : decode cX9_statement 157 = .ok (.iconst 1, 1) := by decide +kernel
theorem dX9_statement_158 : decode cX9_statement 158 = .ok (.invokevirtual 355, 3) := by decide +kernel
theorem dX9_statement_161 : decode cX9_statement 161 = .ok (.goto 100, 3) := by decide +kernel
theorem dX9_statement_164 : decode cX9_statement 164 = .ok (.lload_n 1, 1) := by decide +kernel
theorem dX9_statement_165 : decode cX9_statement 165 = .ok (.ldc2_w 359, 3) := by decide +kernel
theorem dX9_statement_168 : decode cX9_statement 168 = .ok (.lcmp, 1) := by decide +kernel
theorem dX9_statement_169 : decode cX9_statement 169 = .ok (.ifCond .ne 12, 3) := by decide +kernel
theorem dX9_statement_172 : decode cX9_statement 172 = .ok (.aload_n 0, 1) := by decide +kernel
theorem dX9_statement_173 : decode cX9_statement 173 = .ok (.iload_n 3, 1) := by decide +kernel
theorem dX9_statement_174 : decode cX9_statement 174 = .ok (.iconst 0, 1) := by decide +kernel
theorem dX9_statement_175 : decode cX9_statement 175 = .ok (.invokevirtual 355, 3) := by decide +kernel
theorem dX9_statement_178 : decode cX9_statement 178 = .ok (.goto 83, 3) := by decide +kernel
theorem dX9_statement_181 : decode cX9_statement 181 = .ok (.lload_n 1, 1) := by decide +kernel
theorem dX9_statement_182 : decode cX9_statement 182 = .ok (.ldc2_w 361, 3) := by decide +kernel
theorem dX9_statement_185 : decode cX9_statement 185 = .ok (.lcmp, 1) := by decide +kernel
theorem dX9_statement_186 : decode cX9_statement 186 = .ok (.ifCond .ne 14, 3) := by decide +kernel
theorem dX9_statement_189 : decode cX9_statement 189 = .ok (.aload_n 0, 1) := by decide +kernel
theorem dX9_statement_190 : decode cX9_statement 190 = .ok (.iconst 0, 1) := by decide +kernel
theorem dX9_statement_191 : decode cX9_statement 191 = .ok (.iconst 1, 1) := by decide +kernel
theorem dX9_statement_192 : decode cX9_statement 192 = .ok (.bipush 99, 2) := by decide +kernel
theorem dX9_statement_194 : decode cX9_statement 194 = .ok (.invokevirtual 363, 3) := by decide +kernel
theorem dX9_statement_197 : decode cX9_statement 197 = .ok (.goto 64, 3) := by decide +kernel
theorem dX9_statement_200 : decode cX9_statement 200 = .ok (.lload_n 1, 1) := by decide +kernel
theorem dX9_statement_201 : decode cX9_statement 201 = .ok (.ldc2_w 367, 3) := by decide +kernel
theorem dX9_statement_204 : decode cX9_statement 204 = .ok (.lcmp, 1) := by decide +kernel
theorem dX9_statement_205 : decode cX9_statement 205 = .ok (.ifCond .ne 14, 3) := by decide +kernel
theorem dX9_statement_208 : decode cX9_statement 208 = .ok (.aload_n 0, 1) := by decide +kernel
theorem dX9_statement_209 : decode cX9_statement 209 = .ok (.iconst 1, 1) := by decide +kernel
theorem dX9_statement_210 : decode cX9_statement 210 = .ok (.iconst 0, 1) := by decide +kernel
theorem dX9_statement_211 : decode cX9_statement 211 = .ok (.bipush 9, 2) := by decide +kernel
theorem dX9_statement_213 : decode cX9_statement 213 = .ok (.invokevirtual 363, 3) := by decide +kernel
theorem dX9_statement_216 : decode cX9_statement 216 = .ok (.goto 45, 3) := by decide +kernel
theorem dX9_statement_219 : decode cX9_statement 219 = .ok (.lload_n 1, 1) := by decide +kernel
theorem dX9_statement_220 : decode cX9_statement 220 = .ok (.ldc2_w 369, 3) := by decide +kernel
theorem dX9_statement_223 : decode cX9_statement 223 = .ok (.lcmp, 1) := by decide +kernel
theorem dX9_statement_224 : decode cX9_statement 224 = .ok (.ifCond .ne 31, 3) := by decide +kernel
theorem dX9_statement_227 : decode cX9_statement 227 = .ok (.aload_n 0, 1) := by decide +kernel
theorem dX9_statement_228 : decode cX9_statement 228 = .ok (.invokevirtual 309, 3) := by decide +kernel
theorem dX9_statement_231 : decode cX9_statement 231 = .ok (.ifCond .eq 30, 3) := by decide +kernel
theorem dX9_statement_234 : decode cX9_statement 234 = .ok (.aload_n 0, 1) := by decide +kernel
theorem dX9_statement_235 : decode cX9_statement 235 = .ok (.aload_n 0, 1) := by decide +kernel
theorem dX9_statement_236 : decode cX9_statement 236 = .ok (.invokevirtual 157, 3) := by decide +kernel
theorem dX9_statement_239 : decode cX9_statement 239 = .ok (.iconst (-1), 1) := by decide +kernel
theorem dX9_statement_240 : decode cX9_statement 240 = .ok (.if_icmp .eq 7, 3) := by decide +kernel
theorem dX9_statement_243 : decode cX9_statement 243 = .ok (.iconst 1, 1) := by decide +kernel
theorem dX9_statement_244 : decode cX9_statement 244 = .ok (.goto 4, 3) := by decide +kernel
theorem dX9_statement_247 : decode cX9_statement 247 = .ok (.iconst 0, 1) := by decide +kernel
theorem dX9_statement_248 : decode cX9_statement 248 = .ok (.iload_n 3, 1) := by decide +kernel
theorem dX9_statement_249 : decode cX9_statement 249 = .ok (.invokevirtual 312, 3) := by decide +kernel
theorem dX9_statement_252 : decode cX9_statement 252 = .ok (.goto 9, 3) := by decide +kernel
theorem dX9_statement_255 : decode cX9_statement 255 = .ok (.aload_n 0, 1) := by decide +kernel
theorem dX9_statement_256 : decode cX9_statement 256 = .ok (.iconst 1, 1) := by decide +kernel
theorem dX9_statement_257 : decode cX9_statement 257 = .ok (.iload_n 3, 1) := by decide +kernel
theorem dX9_statement_258 : decode cX9_statement 258 = .ok (.invokevirtual 273, 3) := by decide +kernel
theorem dX9_statement_261 : decode cX9_statement 261 = .ok (.return_, 1) := by decide +kernel
set_option maxRecDepth 20000 in
theorem ggX9_tell_X9_here : GoodIn wsX9_tell wsX9_here := goodIn_r _ [12, 4, 3, 13, 247, 248, 249, 250, 251, 252, 253, 254, 255, 256, 257, 258, 259, 260, 261, 262, 263, 264] rfl (by decide +kernel)
set_option maxRecDepth 20000 in
theorem gX9_tell_X9_here : GoodIn wsX9_tell (wsV RX9 264 RX9 yX9_here wsX9_here) := goodIn_app (goodIn_of _ (by decide +kernel)) ggX9_tell_X9_here
theorem goodIn_cons {big a : List Cond} {c : Cond} (hc : GoodIn big [c]) (ha : GoodIn big a) : GoodIn big (c :: a) := fun w h => (List.mem_cons.mp h).elim (fun e => hc w (List.mem_singleton.mpr e)) (ha w)
set_option maxRecDepth 20000 in
theorem ggX9_tell_X9_statement_c : GoodIn wsX9_tell [.code yX9_statement cX9_statement 4 none] := goodIn_r _ [17] rfl (by decide +kernel)
set_option maxRecDepth 20000 in
theorem ggX9_tell_X9_statement_0 : GoodIn wsX9_tell wsX9_statement_r1 := goodIn_r _ [18, 19, 20, 21, 22, 23, 24, 25, 26, 27, 28, 29, 30, 31, 32, 33, 34, 11, 35, 4, 3, 13, 36, 37] rfl (by decide +kernel)
set_option maxRecDepth 20000 in
theorem ggX9_tell_X9_statement_1 : GoodIn wsX9_tell wsX9_statement_r2 := goodIn_r _ [8, 9, 10, 12, 38, 39, 40, 41, 42, 43, 44, 5, 45, 46, 47, 48, 49, 50, 51, 52, 7, 53, 54, 55] rfl (by decide +kernel)
set_option maxRecDepth 20000 in
theorem ggX9_tell_X9_statement_2 : GoodIn wsX9_tell wsX9_statement_r3 := goodIn_r _ [56, 57, 58, 59, 60, 61, 62, 63, 64, 65, 66, 67, 68, 69, 70, 71, 72, 73, 74, 75, 76, 77, 78, 79] rfl (by decide +kernel)
set_option maxRecDepth 20000 in
theorem ggX9_tell_X9_statement_3 : GoodIn wsX9_tell wsX9_statement_r4 := goodIn_r _ [80, 81, 82, 83, 84, 85, 86, 87, 88, 89, 90, 91, 92, 93, 94, 95, 96, 97, 98, 99, 100, 101, 102, 103] rfl (by decide +kernel)
set_option maxRecDepth 20000 in
theorem ggX9_tell_X9_statement_4 : GoodIn wsX9_tell wsX9_statement_r5 := goodIn_r _ [104, 105, 106, 107, 108, 109, 110, 111, 112, 113, 114, 115, 116, 117, 118, 119, 120, 121, 122, 123, 124, 125, 126, 127] rfl (by decide +kernel)
set_option maxRecDepth 20000 in
theorem ggX9_tell_X9_statement_5 : GoodIn wsX9_tell wsX9_statement_r6 := goodIn_r _ [128, 129, 130, 131, 132, 133, 134, 135, 136, 137, 138, 139, 140, 141, 142, 143, 144, 145, 146, 147, 148, 149, 150, 151] rfl (by decide +kernel)
set_option maxRecDepth 20000 in
theorem ggX9_tell_X9_statement_6 : GoodIn wsX9_tell wsX9_statement_r7 := goodIn_r _ [152, 153, 154, 155, 156, 157, 158, 159, 160, 161, 162, 163, 164, 165, 166, 167, 168, 169, 170, 171, 172, 173, 174, 175] rfl (by decide +kernel)
set_option maxRecDepth 20000 in
theorem ggX9_tell_X9_statement_7 : GoodIn wsX9_tell wsX9_statement_r8 := goodIn_r _ [176, 177, 178, 179, 180, 181, 182, 183, 184, 185, 186, 187, 188, 189, 190, 191, 192, 193, 194, 195, 196, 197, 198, 199] rfl (by decide +kernel)
set_option maxRecDepth 20000 in
theorem ggX9_tell_X9_statement_8 : GoodIn wsX9_tell wsX9_statement_r9 := goodIn_r _ [200, 201, 202, 203, 204, 205, 206, 207, 208, 209, 210, 211, 212, 213, 214, 215, 216, 217, 218, 219, 220, 221, 222, 223] rfl (by decide +kernel)
set_option maxRecDepth 20000 in
theorem ggX9_tell_X9_statement_9 : GoodIn wsX9_tell wsX9_statement_r10 := goodIn_r _ [224, 225, 226, 227, 228, 229, 230, 231, 232, 233, 234, 235, 236, 237, 238, 239, 240, 241, 242, 243, 244, 245, 246] rfl (by decide +kernel)
set_option maxRecDepth 20000 in
theorem ggX9_tell_X9_statement_t0 : GoodIn wsX9_tell wsX90 := goodIn_r _ [247, 248, 249, 250, 251, 252, 253, 254, 255, 256, 257, 258, 259, 260, 261, 262, 263, 264] rfl (by decide +kernel)
set_option maxRecDepth 20000 in
theorem ggX9_tell_X9_statement : GoodIn wsX9_tell wsX9_statement := goodIn_cons ggX9_tell_X9_statement_c (goodIn_app (goodIn_app ggX9_tell_X9_statement_0 (goodIn_app ggX9_tell_X9_statement_1 (goodIn_app ggX9_tell_X9_statement_2 (goodIn_app ggX9_tell_X9_statement_3 (goodIn_app ggX9_tell_X9_statement_4 (goodIn_app ggX9_tell_X9_statement_5 (goodIn_app ggX9_tell_X9_statement_6 (goodIn_app ggX9_tell_X9_statement_7 (goodIn_app ggX9_tell_X9_statement_8 ggX9_tell_X9_statement_9))))))))) ggX9_tell_X9_statement_t0)
set_option maxRecDepth 20000 in
theorem gX9_tell_X9_statement : GoodIn wsX9_tell (wsV RX9 371 RX9 yX9_statement wsX9_statement) := goodIn_app (goodIn_of _ (by decide +kernel)) ggX9_tell_X9_statement
theorem dX9_tell_0 : decode cX9_tell 0 = .ok (.aload_n 0, 1) := by decide +kernel
theorem dX9_tell_1 : decode cX9_tell 1 = .ok (.iconst 0, 1) := by decide +kernel
theorem dX9_tell_2 : decode cX9_tell 2 = .ok (.putfield 39, 3) := by decide +kernel
theorem dX9_tell_5 : decode cX9_tell 5 = .ok (.aload_n 0, 1) := by decide +kernel
theorem dX9_tell_6 : decode cX9_tell 6 = .ok (.aload_n 0, 1) := by decide +kernel
theorem dX9_tell_7 : decode cX9_tell 7 = .ok (.getfield 179, 3) := by decide +kernel
theorem dX9_tell_10 : decode cX9_tell 10 = .ok (.putfield 258, 3) := by decide +kernel
theorem dX9_tell_13 : decode cX9_tell 13 = .ok (.aload_n 0, 1) := by decide +kernel
theorem dX9_tell_14 : decode cX9_tell 14 = .ok (.iconst 0, 1) := by decide +kernel
theorem dX9_tell_15 : decode cX9_tell 15 = .ok (.putfield 179, 3) := by decide +kernel
theorem dX9_tell_18 : decode cX9_tell 18 = .ok (.aload_n 0, 1) := by decide +kernel
theorem dX9_tell_19 : decode cX9_tell 19 = .ok (.iconst 0, 1) := by decide +kernel
theorem dX9_tell_20 : decode cX9_tell 20 = .ok (.putfield 255, 3) := by decide +kernel
theorem dX9_tell_23 : decode cX9_tell 23 = .ok (.aload_n 0, 1) := by decide +kernel
theorem dX9_tell_24 : decode cX9_tell 24 = .ok (.iconst 0, 1) := by decide +kernel
theorem dX9_tell_25 : decode cX9_tell 25 = .ok (.putfield 261, 3) := by decide +kernel
theorem dX9_tell_28 : decode cX9_tell 28 = .ok (.iconst 0, 1) := by decide +kernel
theorem dX9_tell_29 : decode cX9_tell 29 = .ok (.istore_n 1, 1) := by decide +kernel
theorem dX9_tell_30 : decode cX9_tell 30 = .ok (.iload_n 1, 1) := by decide +kernel
theorem dX9_tell_31 : decode cX9_tell 31 = .ok (.sipush 2656, 3) := by decide +kernel
theorem dX9_tell_34 : decode cX9_tell 34 = .ok (.if_icmp .ge 21, 3) := by decide +kernel
theorem dX9_tell_37 : decode cX9_tell 37 = .ok (.aload_n 0, 1) := by decide +kernel
theorem dX9_tell_38 : decode cX9_tell 38 = .ok (.getfield 16, 3) := by decide +kernel
theorem dX9_tell_41 : decode cX9_tell 41 = .ok (.iload_n 1, 1) := by decide +kernel
theorem dX9_tell_42 : decode cX9_tell 42 = .ok (.aload_n 0, 1) := by decide +kernel
theorem dX9_tell_43 : decode cX9_tell 43 = .ok (.getfield 7, 3) := by decide +kernel
theorem dX9_tell_46 : decode cX9_tell 46 = .ok (.iload_n 1, 1) := by decide +kernel
theorem dX9_tell_47 : decode cX9_tell 47 = .ok (.iaload, 1) := by decide +kernel
theorem dX9_tell_48 : decode cX9_tell 48 = .ok (.iastore, 1) := by decide +kernel
theorem dX9_tell_49 : decode cX9_tell 49 = .ok (.iinc 1 1, 3) := by decide +kernel
theorem dX9_tell_52 : decode cX9_tell 52 = .ok (.goto (-22), 3) := by decide +kernel
theorem dX9_tell_55 : decode cX9_tell 55 = .ok (.iconst 0, 1) := by decide +kernel
theorem dX9_tell_56 : decode cX9_tell 56 = .ok (.istore_n 1, 1) := by decide +kernel
theorem dX9_tell_57 : decode cX9_tell 57 = .ok (.aload_n 0, 1) := by decide +kernel
theorem dX9_tell_58 : decode cX9_tell 58 = .ok (.getfield 261, 3) := by decide +kernel
theorem dX9_tell_61 : decode cX9_tell 61 = .ok (.ifCond .ne 21, 3) := by decide +kernel
theorem dX9_tell_64 : decode cX9_tell 64 = .ok (.aload_n 0, 1) := by decide +kernel
theorem dX9_tell_65 : decode cX9_tell 65 = .ok (.invokevirtual 264, 3) := by decide +kernel
theorem dX9_tell_68 : decode cX9_tell 68 = .ok (.iconst (-1), 1) := by decide +kernel
theorem dX9_tell_69 : decode cX9_tell 69 = .ok (.if_icmp .eq 13, 3) := by decide +kernel
theorem dX9_tell_72 : decode cX9_tell 72 = .ok (.aload_n 0, 1) := by decide +kernel
theorem dX9_tell_73 : decode cX9_tell 73 = .ok (.invokevirtual 371, 3) := by decide +kernel
theorem dX9_tell_76 : decode cX9_tell 76 = .ok (.iinc 1 1, 3) := by decide +kernel
theorem dX9_tell_79 : decode cX9_tell 79 = .ok (.goto (-22), 3) := by decide +kernel
theorem dX9_tell_82 : decode cX9_tell 82 = .ok (.aload_n 0, 1) := by decide +kernel
theorem dX9_tell_83 : decode cX9_tell 83 = .ok (.getfield 261, 3) := by decide +kernel
theorem dX9_tell_86 : decode cX9_tell 86 = .ok (.ifCond .ne 5, 3) := by decide +kernel
theorem dX9_tell_89 : decode cX9_tell 89 = .ok (.iload_n 1, 1) := by decide +kernel
theorem dX9_tell_90 : decode cX9_tell 90 = .ok (.ireturn, 1) := by decide +kernel
theorem dX9_tell_91 : decode cX9_tell 91 = .ok (.iconst 0, 1) := by decide +kernel
theorem dX9_tell_92 : decode cX9_tell 92 = .ok (.istore_n 2, 1) := by decide +kernel
theorem dX9_tell_93 : decode cX9_tell 93 = .ok (.iload_n 2, 1) := by decide +kernel
theorem dX9_tell_94 : decode cX9_tell 94 = .ok (.sipush 2656, 3) := by decide +kernel
theorem dX9_tell_97 : decode cX9_tell 97 = .ok (.if_icmp .ge 21, 3) := by decide +kernel
theorem dX9_tell_100 : decode cX9_tell 100 = .ok (.aload_n 0, 1) := by decide +kernel
theorem dX9_tell_101 : decode cX9_tell 101 = .ok (.getfield 7, 3) := by decide +kernel
theorem dX9_tell_104 : decode cX9_tell 104 = .ok (.iload_n 2, 1) := by decide +kernel
theorem dX9_tell_105 : decode cX9_tell 105 = .ok (.aload_n 0, 1) := by decide +kernel
theorem dX9_tell_106 : decode cX9_tell 106 = .ok (.getfield 16, 3) := by decide +kernel
theorem dX9_tell_109 : decode cX9_tell 109 = .ok (.iload_n 2, 1) := by decide +kernel
theorem dX9_tell_110 : decode cX9_tell 110 = .ok (.iaload, 1) := by decide +kernel
theorem dX9_tell_111 : decode cX9_tell 111 = .ok (.iastore, 1) := by decide +kernel
theorem dX9_tell_112 : decode cX9_tell 112 = .ok (.iinc 2 1, 3) := by decide +kernel
theorem dX9_tell_115 : decode cX9_tell 115 = .ok (.goto (-22), 3) := by decide +kernel
theorem dX9_tell_118 : decode cX9_tell 118 = .ok (.iconst (-1), 1) := by decide +kernel
theorem dX9_tell_119 : decode cX9_tell 119 = .ok (.ireturn, 1) := by decide +kernel
theorem dX9_fault_0 : decode cX9_fault 0 = .ok (.aload_n 0, 1) := by decide +kernel
theorem dX9_fault_1 : decode cX9_fault 1 = .ok (.iconst 0, 1) := by decide +kernel
theorem dX9_fault_2 : decode cX9_fault 2 = .ok (.putfield 39, 3) := by decide +kernel
theorem dX9_fault_5 : decode cX9_fault 5 = .ok (.aload_n 0, 1) := by decide +kernel
theorem dX9_fault_6 : decode cX9_fault 6 = .ok (.getfield 261, 3) := by decide +kernel
theorem dX9_fault_9 : decode cX9_fault 9 = .ok (.ireturn, 1) := by decide +kernel
theorem dJ9_max_7cf53_0 : decode cJ9_max_7cf53 0 = .ok (.iload_n 0, 1) := by decide +kernel
theorem dJ9_max_7cf53_1 : decode cJ9_max_7cf53 1 = .ok (.iload_n 1, 1) := by decide +kernel
theorem dJ9_max_7cf53_2 : decode cJ9_max_7cf53 2 = .ok (.if_icmp .lt 7, 3) := by decide +kernel
theorem dJ9_max_7cf53_5 : decode cJ9_max_7cf53 5 = .ok (.iload_n 0, 1) := by decide +kernel
theorem dJ9_max_7cf53_6 : decode cJ9_max_7cf53 6 = .ok (.goto 4, 3) := by decide +kernel
theorem dJ9_max_7cf53_9 : decode cJ9_max_7cf53 9 = .ok (.iload_n 1, 1) := by decide +kernel
theorem dJ9_max_7cf53_10 : decode cJ9_max_7cf53 10 = .ok (.ireturn, 1) := by decide +kernel
theorem dJ9_min_7cf53_0 : decode cJ9_min_7cf53 0 = .ok (.iload_n 0, 1) := by decide +kernel
theorem dJ9_min_7cf53_1 : decode cJ9_min_7cf53 1 = .ok (.iload_n 1, 1) := by decide +kernel
theorem dJ9_min_7cf53_2 : decode cJ9_min_7cf53 2 = .ok (.if_icmp .gt 7, 3) := by decide +kernel
theorem dJ9_min_7cf53_5 : decode cJ9_min_7cf53 5 = .ok (.iload_n 0, 1) := by decide +kernel
theorem dJ9_min_7cf53_6 : decode cJ9_min_7cf53 6 = .ok (.goto 4, 3) := by decide +kernel
theorem dJ9_min_7cf53_9 : decode cJ9_min_7cf53 9 = .ok (.iload_n 1, 1) := by decide +kernel
theorem dJ9_min_7cf53_10 : decode cJ9_min_7cf53 10 = .ok (.ireturn, 1) := by decide +kernel
set_option maxRecDepth 20000 in
theorem ggJ0_length_8abf5_J0_coder_7d493 : GoodIn wsJ0_length_8abf5 wsJ0_coder_7d493 := goodIn_r _ [6, 7, 8] rfl (by decide +kernel)
set_option maxRecDepth 20000 in
theorem gJ0_length_8abf5_J0_coder_7d493 : GoodIn wsJ0_length_8abf5 (wsV RJ0 335 RJ0 yJ0_coder_7d493 wsJ0_coder_7d493) := goodIn_app (goodIn_of _ (by decide +kernel)) ggJ0_length_8abf5_J0_coder_7d493
theorem dJ0_length_8abf5_0 : decode cJ0_length_8abf5 0 = .ok (.aload_n 0, 1) := by decide +kernel
theorem dJ0_length_8abf5_1 : decode cJ0_length_8abf5 1 = .ok (.getfield 9, 3) := by decide +kernel
theorem dJ0_length_8abf5_4 : decode cJ0_length_8abf5 4 = .ok (.arraylength, 1) := by decide +kernel
theorem dJ0_length_8abf5_5 : decode cJ0_length_8abf5 5 = .ok (.aload_n 0, 1) := by decide +kernel
theorem dJ0_length_8abf5_6 : decode cJ0_length_8abf5 6 = .ok (.invokevirtual 335, 3) := by decide +kernel
theorem dJ0_length_8abf5_9 : decode cJ0_length_8abf5 9 = .ok (.ishr, 1) := by decide +kernel
theorem dJ0_length_8abf5_10 : decode cJ0_length_8abf5 10 = .ok (.ireturn, 1) := by decide +kernel
set_option maxRecDepth 20000 in
theorem ggJ0_charAt_5068e_J0_isLatin1_aae02 : GoodIn wsJ0_charAt_5068e wsJ0_isLatin1_aae02 := goodIn_r _ [6, 7, 8] rfl (by decide +kernel)
set_option maxRecDepth 20000 in
theorem gJ0_charAt_5068e_J0_isLatin1_aae02 : GoodIn wsJ0_charAt_5068e (wsV RJ0 492 RJ0 yJ0_isLatin1_aae02 wsJ0_isLatin1_aae02) := goodIn_app (goodIn_of _ (by decide +kernel)) ggJ0_charAt_5068e_J0_isLatin1_aae02
set_option maxRecDepth 20000 in
theorem ggJ0_charAt_5068e_J1_charAt_3b067 : GoodIn wsJ0_charAt_5068e wsJ1_charAt_3b067 := goodIn_r _ [12, 13, 14, 5, 15, 16, 17, 18, 19, 20] rfl (by decide +kernel)
set_option maxRecDepth 20000 in
theorem gJ0_charAt_5068e_J1_charAt_3b067 : GoodIn wsJ0_charAt_5068e (va_wsS RJ0 495 yJ1_charAt_3b067 wsJ1_charAt_3b067) := goodIn_app (goodIn_of _ (by decide +kernel)) ggJ0_charAt_5068e_J1_charAt_3b067
set_option maxRecDepth 20000 in
theorem ggJ0_charAt_5068e_J2_charAt_3b067 : GoodIn wsJ0_charAt_5068e wsJ2_charAt_3b067 := goodIn_r _ [24, 25, 26, 23, 27, 28, 29, 30, 31, 14, 5, 15, 16, 17, 18, 19, 20, 32, 33, 34, 35, 36, 37] rfl (by decide +kernel)
set_option maxRecDepth 20000 in
theorem gJ0_charAt_5068e_J2_charAt_3b067 : GoodIn wsJ0_charAt_5068e (va_wsS RJ0 498 yJ2_charAt_3b067 wsJ2_charAt_3b067) := goodIn_app (goodIn_of _ (by decide +kernel)) ggJ0_charAt_5068e_J2_charAt_3b067
theorem dJ0_charAt_5068e_0 : decode cJ0_charAt_5068e 0 = .ok (.aload_n 0, 1) := by decide +kernel
theorem dJ0_charAt_5068e_1 : decode cJ0_charAt_5068e 1 = .ok (.invokevirtual 492, 3) := by decide +kernel
theorem dJ0_charAt_5068e_4 : decode cJ0_charAt_5068e 4 = .ok (.ifCond .eq 12, 3) := by decide +kernel
theorem dJ0_charAt_5068e_7 : decode cJ0_charAt_5068e 7 = .ok (.aload_n 0, 1) := by decide +kernel
theorem dJ0_charAt_5068e_8 : decode cJ0_charAt_5068e 8 = .ok (.getfield 9, 3) := by decide +kernel
theorem dJ0_charAt_5068e_11 : decode cJ0_charAt_5068e 11 = .ok (.iload_n 1, 1) := by decide +kernel
theorem dJ0_charAt_5068e_12 : decode cJ0_charAt_5068e 12 = .ok (.invokestatic 495, 3) := by decide +kernel
theorem dJ0_charAt_5068e_15 : decode cJ0_charAt_5068e 15 = .ok (.ireturn, 1) := by decide +kernel
theorem dJ0_charAt_5068e_16 : decode cJ0_charAt_5068e 16 = .ok (.aload_n 0, 1) := by decide +kernel
theorem dJ0_charAt_5068e_17 : decode cJ0_charAt_5068e 17 = .ok (.getfield 9, 3) := by decide +kernel
theorem dJ0_charAt_5068e_20 : decode cJ0_charAt_5068e 20 = .ok (.iload_n 1, 1) := by decide +kernel
theorem dJ0_charAt_5068e_21 : decode cJ0_charAt_5068e 21 = .ok (.invokestatic 498, 3) := by decide +kernel
theorem dJ0_charAt_5068e_24 : decode cJ0_charAt_5068e 24 = .ok (.ireturn, 1) := by decide +kernel
theorem dJ0_coder_7d493_0 : decode cJ0_coder_7d493 0 = .ok (.getstatic 38, 3) := by decide +kernel
theorem dJ0_coder_7d493_3 : decode cJ0_coder_7d493 3 = .ok (.ifCond .eq 10, 3) := by decide +kernel
theorem dJ0_coder_7d493_6 : decode cJ0_coder_7d493 6 = .ok (.aload_n 0, 1) := by decide +kernel
theorem dJ0_coder_7d493_7 : decode cJ0_coder_7d493 7 = .ok (.getfield 15, 3) := by decide +kernel
theorem dJ0_coder_7d493_10 : decode cJ0_coder_7d493 10 = .ok (.goto 4, 3) := by decide +kernel
theorem dJ0_coder_7d493_13 : decode cJ0_coder_7d493 13 = .ok (.iconst 1, 1) := by decide +kernel
theorem dJ0_coder_7d493_14 : decode cJ0_coder_7d493 14 = .ok (.ireturn, 1) := by decide +kernel
theorem dJ0_isLatin1_aae02_0 : decode cJ0_isLatin1_aae02 0 = .ok (.getstatic 38, 3) := by decide +kernel
theorem dJ0_isLatin1_aae02_3 : decode cJ0_isLatin1_aae02 3 = .ok (.ifCond .eq 14, 3) := by decide +kernel
theorem dJ0_isLatin1_aae02_6 : decode cJ0_isLatin1_aae02 6 = .ok (.aload_n 0, 1) := by decide +kernel
theorem dJ0_isLatin1_aae02_7 : decode cJ0_isLatin1_aae02 7 = .ok (.getfield 15, 3) := by decide +kernel
theorem dJ0_isLatin1_aae02_10 : decode cJ0_isLatin1_aae02 10 = .ok (.ifCond .ne 7, 3) := by decide +kernel
theorem dJ0_isLatin1_aae02_13 : decode cJ0_isLatin1_aae02 13 = .ok (.iconst 1, 1) := by decide +kernel
theorem dJ0_isLatin1_aae02_14 : decode cJ0_isLatin1_aae02 14 = .ok (.goto 4, 3) := by decide +kernel
theorem dJ0_isLatin1_aae02_17 : decode cJ0_isLatin1_aae02 17 = .ok (.iconst 0, 1) := by decide +kernel
theorem dJ0_isLatin1_aae02_18 : decode cJ0_isLatin1_aae02 18 = .ok (.ireturn, 1) := by decide +kernel
set_option maxRecDepth 20000 in
theorem ggJ0_checkIndex_df160_J3_checkIndex_8e157 : GoodIn wsJ0_checkIndex_df160 wsJ3_checkIndex_8e157 := goodIn_r _ [5] rfl (by decide +kernel)
set_option maxRecDepth 20000 in
theorem gJ0_checkIndex_df160_J3_checkIndex_8e157 : GoodIn wsJ0_checkIndex_df160 (va_wsS RJ0 1059 yJ3_checkIndex_8e157 wsJ3_checkIndex_8e157) := goodIn_app (goodIn_of _ (by decide +kernel)) ggJ0_checkIndex_df160_J3_checkIndex_8e157
theorem dJ0_checkIndex_df160_0 : decode cJ0_checkIndex_df160 0 = .ok (.iload_n 0, 1) := by decide +kernel
theorem dJ0_checkIndex_df160_1 : decode cJ0_checkIndex_df160 1 = .ok (.iload_n 1, 1) := by decide +kernel
theorem dJ0_checkIndex_df160_2 : decode cJ0_checkIndex_df160 2 = .ok (.getstatic 1053, 3) := by decide +kernel
theorem dJ0_checkIndex_df160_5 : decode cJ0_checkIndex_df160 5 = .ok (.invokestatic 1059, 3) := by decide +kernel
theorem dJ0_checkIndex_df160_8 : decode cJ0_checkIndex_df160 8 = .ok (.pop, 1) := by decide +kernel
theorem dJ0_checkIndex_df160_9 : decode cJ0_checkIndex_df160 9 = .ok (.return_, 1) := by decide +kernel
set_option maxRecDepth 20000 in
theorem ggJ1_charAt_3b067_J0_checkIndex_df160 : GoodIn wsJ1_charAt_3b067 wsJ0_checkIndex_df160 := goodIn_r _ [4, 5, 6, 7, 8, 9] rfl (by decide +kernel)
set_option maxRecDepth 20000 in
theorem gJ1_charAt_3b067_J0_checkIndex_df160 : GoodIn wsJ1_charAt_3b067 (va_wsS RJ1 9 yJ0_checkIndex_df160 wsJ0_checkIndex_df160) := goodIn_app (goodIn_of _ (by decide +kernel)) ggJ1_charAt_3b067_J0_checkIndex_df160
theorem dJ1_charAt_3b067_0 : decode cJ1_charAt_3b067 0 = .ok (.iload_n 1, 1) := by decide +kernel
theorem dJ1_charAt_3b067_1 : decode cJ1_charAt_3b067 1 = .ok (.aload_n 0, 1) := by decide +kernel
theorem dJ1_charAt_3b067_2 : decode cJ1_charAt_3b067 2 = .ok (.arraylength, 1) := by decide +kernel
theorem dJ1_charAt_3b067_3 : decode cJ1_charAt_3b067 3 = .ok (.invokestatic 9, 3) := by decide +kernel
theorem dJ1_charAt_3b067_6 : decode cJ1_charAt_3b067 6 = .ok (.aload_n 0, 1) := by decide +kernel
theorem dJ1_charAt_3b067_7 : decode cJ1_charAt_3b067 7 = .ok (.iload_n 1, 1) := by decide +kernel
theorem dJ1_charAt_3b067_8 : decode cJ1_charAt_3b067 8 = .ok (.baload, 1) := by decide +kernel
theorem dJ1_charAt_3b067_9 : decode cJ1_charAt_3b067 9 = .ok (.sipush 255, 3) := by decide +kernel
theorem dJ1_charAt_3b067_12 : decode cJ1_charAt_3b067 12 = .ok (.iand, 1) := by decide +kernel
theorem dJ1_charAt_3b067_13 : decode cJ1_charAt_3b067 13 = .ok (.i2c, 1) := by decide +kernel
theorem dJ1_charAt_3b067_14 : decode cJ1_charAt_3b067 14 = .ok (.ireturn, 1) := by decide +kernel
set_option maxRecDepth 20000 in
theorem ggJ2_getChar_3b067_J2_length_9d52b : GoodIn wsJ2_getChar_3b067 wsJ2_length_9d52b := goodIn_r _ [7] rfl (by decide +kernel)
set_option maxRecDepth 20000 in
theorem gJ2_getChar_3b067_J2_length_9d52b : GoodIn wsJ2_getChar_3b067 (va_wsS RJ2 48 yJ2_length_9d52b wsJ2_length_9d52b) := goodIn_app (goodIn_of _ (by decide +kernel)) ggJ2_getChar_3b067_J2_length_9d52b
theorem dJ2_getChar_3b067_0 : decode cJ2_getChar_3b067 0 = .ok (.getstatic 44, 3) := by decide +kernel
theorem dJ2_getChar_3b067_3 : decode cJ2_getChar_3b067 3 = .ok (.ifCond .ne 25, 3) := by decide +kernel
theorem dJ2_getChar_3b067_6 : decode cJ2_getChar_3b067 6 = .ok (.iload_n 1, 1) := by decide +kernel
theorem dJ2_getChar_3b067_7 : decode cJ2_getChar_3b067 7 = .ok (.ifCond .lt 11, 3) := by decide +kernel
theorem dJ2_getChar_3b067_10 : decode cJ2_getChar_3b067 10 = .ok (.iload_n 1, 1) := by decide +kernel
theorem dJ2_getChar_3b067_11 : decode cJ2_getChar_3b067 11 = .ok (.aload_n 0, 1) := by decide +kernel
theorem dJ2_getChar_3b067_12 : decode cJ2_getChar_3b067 12 = .ok (.invokestatic 48, 3) := by decide +kernel
theorem dJ2_getChar_3b067_15 : decode cJ2_getChar_3b067 15 = .ok (.if_icmp .lt 13, 3) := by decide +kernel
theorem dJ2_getChar_3b067_18 : decode cJ2_getChar_3b067 18 = .ok (.new 52, 3) := by decide +kernel
theorem dJ2_getChar_3b067_21 : decode cJ2_getChar_3b067 21 = .ok (.dup, 1) := by decide +kernel
theorem dJ2_getChar_3b067_22 : decode cJ2_getChar_3b067 22 = .ok (.ldc 54, 2) := by decide +kernel
theorem dJ2_getChar_3b067_24 : decode cJ2_getChar_3b067 24 = .ok (.invokespecial 56, 3) := by decide +kernel
theorem dJ2_getChar_3b067_27 : decode cJ2_getChar_3b067 27 = .ok (.athrow, 1) := by decide +kernel
theorem dJ2_getChar_3b067_28 : decode cJ2_getChar_3b067 28 = .ok (.iload_n 1, 1) := by decide +kernel
theorem dJ2_getChar_3b067_29 : decode cJ2_getChar_3b067 29 = .ok (.iconst 1, 1) := by decide +kernel
theorem dJ2_getChar_3b067_30 : decode cJ2_getChar_3b067 30 = .ok (.ishl, 1) := by decide +kernel
theorem dJ2_getChar_3b067_31 : decode cJ2_getChar_3b067 31 = .ok (.istore_n 1, 1) := by decide +kernel
theorem dJ2_getChar_3b067_32 : decode cJ2_getChar_3b067 32 = .ok (.aload_n 0, 1) := by decide +kernel
theorem dJ2_getChar_3b067_33 : decode cJ2_getChar_3b067 33 = .ok (.iload_n 1, 1) := by decide +kernel
theorem dJ2_getChar_3b067_34 : decode cJ2_getChar_3b067 34 = .ok (.iinc 1 1, 3) := by decide +kernel
theorem dJ2_getChar_3b067_37 : decode cJ2_getChar_3b067 37 = .ok (.baload, 1) := by decide +kernel
theorem dJ2_getChar_3b067_38 : decode cJ2_getChar_3b067 38 = .ok (.sipush 255, 3) := by decide +kernel
theorem dJ2_getChar_3b067_41 : decode cJ2_getChar_3b067 41 = .ok (.iand, 1) := by decide +kernel
theorem dJ2_getChar_3b067_42 : decode cJ2_getChar_3b067 42 = .ok (.getstatic 59, 3) := by decide +kernel
theorem dJ2_getChar_3b067_45 : decode cJ2_getChar_3b067 45 = .ok (.ishl, 1) := by decide +kernel
theorem dJ2_getChar_3b067_46 : decode cJ2_getChar_3b067 46 = .ok (.aload_n 0, 1) := by decide +kernel
theorem dJ2_getChar_3b067_47 : decode cJ2_getChar_3b067 47 = .ok (.iload_n 1, 1) := by decide +kernel
theorem dJ2_getChar_3b067_48 : decode cJ2_getChar_3b067 48 = .ok (.baload, 1) := by decide +kernel
theorem dJ2_getChar_3b067_49 : decode cJ2_getChar_3b067 49 = .ok (.sipush 255, 3) := by decide +kernel
theorem dJ2_getChar_3b067_52 : decode cJ2_getChar_3b067 52 = .ok (.iand, 1) := by decide +kernel
theorem dJ2_getChar_3b067_53 : decode cJ2_getChar_3b067 53 = .ok (.getstatic 63, 3) := by decide +kernel
theorem dJ2_getChar_3b067_56 : decode cJ2_getChar_3b067 56 = .ok (.ishl, 1) := by decide +kernel
theorem dJ2_getChar_3b067_57 : decode cJ2_getChar_3b067 57 = .ok (.ior, 1) := by decide +kernel
theorem dJ2_getChar_3b067_58 : decode cJ2_getChar_3b067 58 = .ok (.i2c, 1) := by decide +kernel
theorem dJ2_getChar_3b067_59 : decode cJ2_getChar_3b067 59 = .ok (.ireturn, 1) := by decide +kernel
theorem dJ2_length_9d52b_0 : decode cJ2_length_9d52b 0 = .ok (.aload_n 0, 1) := by decide +kernel
theorem dJ2_length_9d52b_1 : decode cJ2_length_9d52b 1 = .ok (.arraylength, 1) := by decide +kernel
theorem dJ2_length_9d52b_2 : decode cJ2_length_9d52b 2 = .ok (.iconst 1, 1) := by decide +kernel
theorem dJ2_length_9d52b_3 : decode cJ2_length_9d52b 3 = .ok (.ishr, 1) := by decide +kernel
theorem dJ2_length_9d52b_4 : decode cJ2_length_9d52b 4 = .ok (.ireturn, 1) := by decide +kernel
set_option maxRecDepth 20000 in
theorem ggJ2_charAt_3b067_J2_checkIndex_2214a : GoodIn wsJ2_charAt_3b067 wsJ2_checkIndex_2214a := goodIn_r _ [4, 5, 6, 3, 7, 8, 9, 10, 11, 12, 13, 14, 15, 16] rfl (by decide +kernel)
set_option maxRecDepth 20000 in
theorem gJ2_charAt_3b067_J2_checkIndex_2214a : GoodIn wsJ2_charAt_3b067 (va_wsS RJ2 67 yJ2_checkIndex_2214a wsJ2_checkIndex_2214a) := goodIn_app (goodIn_of _ (by decide +kernel)) ggJ2_charAt_3b067_J2_checkIndex_2214a
set_option maxRecDepth 20000 in
theorem ggJ2_charAt_3b067_J2_getChar_3b067 : GoodIn wsJ2_charAt_3b067 wsJ2_getChar_3b067 := goodIn_r _ [19, 20, 21, 22, 5, 6, 3, 7] rfl (by decide +kernel)
set_option maxRecDepth 20000 in
theorem gJ2_charAt_3b067_J2_getChar_3b067 : GoodIn wsJ2_charAt_3b067 (va_wsS RJ2 71 yJ2_getChar_3b067 wsJ2_getChar_3b067) := goodIn_app (goodIn_of _ (by decide +kernel)) ggJ2_charAt_3b067_J2_getChar_3b067
theorem dJ2_charAt_3b067_0 : decode cJ2_charAt_3b067 0 = .ok (.iload_n 1, 1) := by decide +kernel
theorem dJ2_charAt_3b067_1 : decode cJ2_charAt_3b067 1 = .ok (.aload_n 0, 1) := by decide +kernel
theorem dJ2_charAt_3b067_2 : decode cJ2_charAt_3b067 2 = .ok (.invokestatic 67, 3) := by decide +kernel
theorem dJ2_charAt_3b067_5 : decode cJ2_charAt_3b067 5 = .ok (.aload_n 0, 1) := by decide +kernel
theorem dJ2_charAt_3b067_6 : decode cJ2_charAt_3b067 6 = .ok (.iload_n 1, 1) := by decide +kernel
theorem dJ2_charAt_3b067_7 : decode cJ2_charAt_3b067 7 = .ok (.invokestatic 71, 3) := by decide +kernel
theorem dJ2_charAt_3b067_10 : decode cJ2_charAt_3b067 10 = .ok (.ireturn, 1) := by decide +kernel
set_option maxRecDepth 20000 in
theorem ggJ2_checkIndex_2214a_J2_length_9d52b : GoodIn wsJ2_checkIndex_2214a wsJ2_length_9d52b := goodIn_r _ [4] rfl (by decide +kernel)
set_option maxRecDepth 20000 in
theorem gJ2_checkIndex_2214a_J2_length_9d52b : GoodIn wsJ2_checkIndex_2214a (va_wsS RJ2 48 yJ2_length_9d52b wsJ2_length_9d52b) := goodIn_app (goodIn_of _ (by decide +kernel)) ggJ2_checkIndex_2214a_J2_length_9d52b
set_option maxRecDepth 20000 in
theorem ggJ2_checkIndex_2214a_J0_checkIndex_df160 : GoodIn wsJ2_checkIndex_2214a wsJ0_checkIndex_df160 := goodIn_r _ [8, 9, 10, 11, 12, 13] rfl (by decide +kernel)
set_option maxRecDepth 20000 in
theorem gJ2_checkIndex_2214a_J0_checkIndex_df160 : GoodIn wsJ2_checkIndex_2214a (va_wsS RJ2 414 yJ0_checkIndex_df160 wsJ0_checkIndex_df160) := goodIn_app (goodIn_of _ (by decide +kernel)) ggJ2_checkIndex_2214a_J0_checkIndex_df160
theorem dJ2_checkIndex_2214a_0 : decode cJ2_checkIndex_2214a 0 = .ok (.iload_n 0, 1) := by decide +kernel
theorem dJ2_checkIndex_2214a_1 : decode cJ2_checkIndex_2214a 1 = .ok (.aload_n 1, 1) := by decide +kernel
theorem dJ2_checkIndex_2214a_2 : decode cJ2_checkIndex_2214a 2 = .ok (.invokestatic 48, 3) := by decide +kernel
theorem dJ2_checkIndex_2214a_5 : decode cJ2_checkIndex_2214a 5 = .ok (.invokestatic 414, 3) := by decide +kernel
theorem dJ2_checkIndex_2214a_8 : decode cJ2_checkIndex_2214a 8 = .ok (.return_, 1) := by decide +kernel
theorem dJ3_checkIndex_8e157_0 : decode cJ3_checkIndex_8e157 0 = .ok (.iload_n 0, 1) := by decide +kernel
theorem dJ3_checkIndex_8e157_1 : decode cJ3_checkIndex_8e157 1 = .ok (.ifCond .lt 8, 3) := by decide +kernel
theorem dJ3_checkIndex_8e157_4 : decode cJ3_checkIndex_8e157 4 = .ok (.iload_n 0, 1) := by decide +kernel
theorem dJ3_checkIndex_8e157_5 : decode cJ3_checkIndex_8e157 5 = .ok (.iload_n 1, 1) := by decide +kernel
theorem dJ3_checkIndex_8e157_6 : decode cJ3_checkIndex_8e157 6 = .ok (.if_icmp .lt 10, 3) := by decide +kernel
theorem dJ3_checkIndex_8e157_9 : decode cJ3_checkIndex_8e157 9 = .ok (.aload_n 2, 1) := by decide +kernel
theorem dJ3_checkIndex_8e157_10 : decode cJ3_checkIndex_8e157 10 = .ok (.iload_n 0, 1) := by decide +kernel
theorem dJ3_checkIndex_8e157_11 : decode cJ3_checkIndex_8e157 11 = .ok (.iload_n 1, 1) := by decide +kernel
theorem dJ3_checkIndex_8e157_12 : decode cJ3_checkIndex_8e157 12 = .ok (.invokestatic 95, 3) := by decide +kernel
theorem dJ3_checkIndex_8e157_15 : decode cJ3_checkIndex_8e157 15 = .ok (.athrow, 1) := by decide +kernel
theorem dJ3_checkIndex_8e157_16 : decode cJ3_checkIndex_8e157 16 = .ok (.iload_n 0, 1) := by decide +kernel
theorem dJ3_checkIndex_8e157_17 : decode cJ3_checkIndex_8e157 17 = .ok (.ireturn, 1) := by decide +kernel
set_option maxRecDepth 20000 in
theorem ggL_of_X8_of : GoodIn wsL_of wsX8_of := goodIn_ca (goodIn_r _ [6, 7, 8, 9, 10, 11, 12, 13, 14, 15, 5, 16, 17, 18, 19, 20, 21, 22, 23, 24, 25, 26, 27, 28, 29, 30, 31, 32, 33, 34, 35, 36, 37, 38, 39, 40, 41, 42, 43, 44, 45, 46, 47, 48, 49, 50, 51, 52, 53, 54, 55, 56, 57, 58, 59, 60, 61, 62, 63, 64, 65, 66, 67, 68, 69, 70, 71] rfl (by decide +kernel)) (goodIn_sub (fun _ h => List.mem_cons_of_mem _ (List.mem_append_right _ h)) (by decide +kernel))
set_option maxRecDepth 20000 in
theorem gL_of_X8_of : GoodIn wsL_of (wsV RL 7 RX8 yX8_of wsX8_of) := goodIn_app (goodIn_of _ (by decide +kernel)) ggL_of_X8_of
