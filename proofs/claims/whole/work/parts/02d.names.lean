theorem dX9_init_0 : decode cX9_init 0 = .ok (.aload_n 0, 1) := by decide +kernel
theorem dX9_init_1 : decode cX9_init 1 = .ok (.invokespecial 1, 3) := by decide +kernel
theorem dX9_init_4 : decode cX9_init 4 = .ok (.aload_n 0, 1) := by decide +kernel
theorem dX9_init_5 : decode cX9_init 5 = .ok (.sipush 2656, 3) := by decide +kernel
theorem dX9_init_8 : decode cX9_init 8 = .ok (.newarray .int, 2) := by decide +kernel
theorem dX9_init_10 : decode cX9_init 10 = .ok (.putfield 7, 3) := by decide +kernel
theorem dX9_init_13 : decode cX9_init 13 = .ok (.aload_n 0, 1) := by decide +kernel
theorem dX9_init_14 : decode cX9_init 14 = .ok (.sipush 5312, 3) := by decide +kernel
theorem dX9_init_17 : decode cX9_init 17 = .ok (.newarray .int, 2) := by decide +kernel
theorem dX9_init_19 : decode cX9_init 19 = .ok (.putfield 13, 3) := by decide +kernel
theorem dX9_init_22 : decode cX9_init 22 = .ok (.aload_n 0, 1) := by decide +kernel
theorem dX9_init_23 : decode cX9_init 23 = .ok (.sipush 2656, 3) := by decide +kernel
theorem dX9_init_26 : decode cX9_init 26 = .ok (.newarray .int, 2) := by decide +kernel
theorem dX9_init_28 : decode cX9_init 28 = .ok (.putfield 16, 3) := by decide +kernel
theorem dX9_init_31 : decode cX9_init 31 = .ok (.aload_n 0, 1) := by decide +kernel
theorem dX9_init_32 : decode cX9_init 32 = .ok (.iconst 2, 1) := by decide +kernel
theorem dX9_init_33 : decode cX9_init 33 = .ok (.newarray .boolean, 2) := by decide +kernel
theorem dX9_init_35 : decode cX9_init 35 = .ok (.putfield 19, 3) := by decide +kernel
theorem dX9_init_38 : decode cX9_init 38 = .ok (.aload_n 0, 1) := by decide +kernel
theorem dX9_init_39 : decode cX9_init 39 = .ok (.bipush 16, 2) := by decide +kernel
theorem dX9_init_41 : decode cX9_init 41 = .ok (.newarray .int, 2) := by decide +kernel
theorem dX9_init_43 : decode cX9_init 43 = .ok (.putfield 23, 3) := by decide +kernel
theorem dX9_init_46 : decode cX9_init 46 = .ok (.aload_n 0, 1) := by decide +kernel
theorem dX9_init_47 : decode cX9_init 47 = .ok (.bipush 16, 2) := by decide +kernel
theorem dX9_init_49 : decode cX9_init 49 = .ok (.newarray .int, 2) := by decide +kernel
theorem dX9_init_51 : decode cX9_init 51 = .ok (.putfield 26, 3) := by decide +kernel
theorem dX9_init_54 : decode cX9_init 54 = .ok (.aload_n 0, 1) := by decide +kernel
theorem dX9_init_55 : decode cX9_init 55 = .ok (.iconst 3, 1) := by decide +kernel
theorem dX9_init_56 : decode cX9_init 56 = .ok (.newarray .int, 2) := by decide +kernel
theorem dX9_init_58 : decode cX9_init 58 = .ok (.putfield 29, 3) := by decide +kernel
theorem dX9_init_61 : decode cX9_init 61 = .ok (.aload_n 0, 1) := by decide +kernel
theorem dX9_init_62 : decode cX9_init 62 = .ok (.sipush 600, 3) := by decide +kernel
theorem dX9_init_65 : decode cX9_init 65 = .ok (.newarray .byte, 2) := by decide +kernel
theorem dX9_init_67 : decode cX9_init 67 = .ok (.putfield 32, 3) := by decide +kernel
theorem dX9_init_70 : decode cX9_init 70 = .ok (.aload_n 0, 1) := by decide +kernel
theorem dX9_init_71 : decode cX9_init 71 = .ok (.sipush 600, 3) := by decide +kernel
theorem dX9_init_74 : decode cX9_init 74 = .ok (.newarray .int, 2) := by decide +kernel
theorem dX9_init_76 : decode cX9_init 76 = .ok (.putfield 36, 3) := by decide +kernel
theorem dX9_init_79 : decode cX9_init 79 = .ok (.aload_n 0, 1) := by decide +kernel
theorem dX9_init_80 : decode cX9_init 80 = .ok (.getfield 7, 3) := by decide +kernel
theorem dX9_init_83 : decode cX9_init 83 = .ok (.iconst 4, 1) := by decide +kernel
theorem dX9_init_84 : decode cX9_init 84 = .ok (.bipush 10, 2) := by decide +kernel
theorem dX9_init_86 : decode cX9_init 86 = .ok (.iastore, 1) := by decide +kernel
theorem dX9_init_87 : decode cX9_init 87 = .ok (.aload_n 0, 1) := by decide +kernel
theorem dX9_init_88 : decode cX9_init 88 = .ok (.getfield 7, 3) := by decide +kernel
theorem dX9_init_91 : decode cX9_init 91 = .ok (.iconst 5, 1) := by decide +kernel
theorem dX9_init_92 : decode cX9_init 92 = .ok (.iconst 3, 1) := by decide +kernel
theorem dX9_init_93 : decode cX9_init 93 = .ok (.iastore, 1) := by decide +kernel
theorem dX9_init_94 : decode cX9_init 94 = .ok (.return_, 1) := by decide +kernel
theorem dX9_thrown_0 : decode cX9_thrown 0 = .ok (.aload_n 0, 1) := by decide +kernel
theorem dX9_thrown_1 : decode cX9_thrown 1 = .ok (.getfield 39, 3) := by decide +kernel
theorem dX9_thrown_4 : decode cX9_thrown 4 = .ok (.ireturn, 1) := by decide +kernel
theorem dX9_isIn_0 : decode cX9_isIn 0 = .ok (.iload_n 0, 1) := by decide +kernel
theorem dX9_isIn_1 : decode cX9_isIn 1 = .ok (.iload_n 1, 1) := by decide +kernel
theorem dX9_isIn_2 : decode cX9_isIn 2 = .ok (.if_icmp .lt 12, 3) := by decide +kernel
theorem dX9_isIn_5 : decode cX9_isIn 5 = .ok (.iload_n 0, 1) := by decide +kernel
theorem dX9_isIn_6 : decode cX9_isIn 6 = .ok (.iload_n 2, 1) := by decide +kernel
theorem dX9_isIn_7 : decode cX9_isIn 7 = .ok (.if_icmp .gt 7, 3) := by decide +kernel
theorem dX9_isIn_10 : decode cX9_isIn 10 = .ok (.iconst 1, 1) := by decide +kernel
theorem dX9_isIn_11 : decode cX9_isIn 11 = .ok (.goto 4, 3) := by decide +kernel
theorem dX9_isIn_14 : decode cX9_isIn 14 = .ok (.iconst 0, 1) := by decide +kernel
theorem dX9_isIn_15 : decode cX9_isIn 15 = .ok (.ireturn, 1) := by decide +kernel
set_option maxRecDepth 20000 in
theorem ggX9_isRider_X9_isIn : GoodIn wsX9_isRider wsX9_isIn := goodIn_r _ [5] rfl (by decide +kernel)
set_option maxRecDepth 20000 in
theorem gX9_isRider_X9_isIn : GoodIn wsX9_isRider (va_wsS RX9 43 yX9_isIn wsX9_isIn) := goodIn_app (goodIn_of _ (by decide +kernel)) ggX9_isRider_X9_isIn
theorem dX9_isRider_0 : decode cX9_isRider 0 = .ok (.iload_n 1, 1) := by decide +kernel
theorem dX9_isRider_1 : decode cX9_isRider 1 = .ok (.iconst 0, 1) := by decide +kernel
theorem dX9_isRider_2 : decode cX9_isRider 2 = .ok (.aload_n 0, 1) := by decide +kernel
theorem dX9_isRider_3 : decode cX9_isRider 3 = .ok (.getfield 7, 3) := by decide +kernel
theorem dX9_isRider_6 : decode cX9_isRider 6 = .ok (.iconst 1, 1) := by decide +kernel
theorem dX9_isRider_7 : decode cX9_isRider 7 = .ok (.iaload, 1) := by decide +kernel
theorem dX9_isRider_8 : decode cX9_isRider 8 = .ok (.iconst 1, 1) := by decide +kernel
theorem dX9_isRider_9 : decode cX9_isRider 9 = .ok (.isub, 1) := by decide +kernel
theorem dX9_isRider_10 : decode cX9_isRider 10 = .ok (.invokestatic 43, 3) := by decide +kernel
theorem dX9_isRider_13 : decode cX9_isRider 13 = .ok (.ireturn, 1) := by decide +kernel
set_option maxRecDepth 20000 in
theorem ggX9_isThere_X9_isRider : GoodIn wsX9_isThere wsX9_isRider := goodIn_r _ [6, 1, 7, 8, 5, 9, 10, 11, 12, 13, 14, 15, 16, 17, 18, 19, 20, 21, 22, 23, 24, 25, 26, 27] rfl (by decide +kernel)
set_option maxRecDepth 20000 in
theorem gX9_isThere_X9_isRider : GoodIn wsX9_isThere (wsV RX9 47 RX9 yX9_isRider wsX9_isRider) := goodIn_app (goodIn_of _ (by decide +kernel)) ggX9_isThere_X9_isRider
theorem dX9_isThere_0 : decode cX9_isThere 0 = .ok (.aload_n 0, 1) := by decide +kernel
theorem dX9_isThere_1 : decode cX9_isThere 1 = .ok (.iload_n 1, 1) := by decide +kernel
theorem dX9_isThere_2 : decode cX9_isThere 2 = .ok (.invokevirtual 47, 3) := by decide +kernel
theorem dX9_isThere_5 : decode cX9_isThere 5 = .ok (.ifCond .eq 24, 3) := by decide +kernel
theorem dX9_isThere_8 : decode cX9_isThere 8 = .ok (.aload_n 0, 1) := by decide +kernel
theorem dX9_isThere_9 : decode cX9_isThere 9 = .ok (.getfield 7, 3) := by decide +kernel
theorem dX9_isThere_12 : decode cX9_isThere 12 = .ok (.bipush 8, 2) := by decide +kernel
theorem dX9_isThere_14 : decode cX9_isThere 14 = .ok (.iconst 3, 1) := by decide +kernel
theorem dX9_isThere_15 : decode cX9_isThere 15 = .ok (.iload_n 1, 1) := by decide +kernel
theorem dX9_isThere_16 : decode cX9_isThere 16 = .ok (.imul, 1) := by decide +kernel
theorem dX9_isThere_17 : decode cX9_isThere 17 = .ok (.iadd, 1) := by decide +kernel
theorem dX9_isThere_18 : decode cX9_isThere 18 = .ok (.iconst 2, 1) := by decide +kernel
theorem dX9_isThere_19 : decode cX9_isThere 19 = .ok (.iadd, 1) := by decide +kernel
theorem dX9_isThere_20 : decode cX9_isThere 20 = .ok (.iaload, 1) := by decide +kernel
theorem dX9_isThere_21 : decode cX9_isThere 21 = .ok (.iconst 1, 1) := by decide +kernel
theorem dX9_isThere_22 : decode cX9_isThere 22 = .ok (.if_icmp .ne 7, 3) := by decide +kernel
theorem dX9_isThere_25 : decode cX9_isThere 25 = .ok (.iconst 1, 1) := by decide +kernel
theorem dX9_isThere_26 : decode cX9_isThere 26 = .ok (.goto 4, 3) := by decide +kernel
theorem dX9_isThere_29 : decode cX9_isThere 29 = .ok (.iconst 0, 1) := by decide +kernel
theorem dX9_isThere_30 : decode cX9_isThere 30 = .ok (.ireturn, 1) := by decide +kernel
theorem dX9_isOpen_0 : decode cX9_isOpen 0 = .ok (.aload_n 0, 1) := by decide +kernel
theorem dX9_isOpen_1 : decode cX9_isOpen 1 = .ok (.getfield 7, 3) := by decide +kernel
theorem dX9_isOpen_4 : decode cX9_isOpen 4 = .ok (.iconst 3, 1) := by decide +kernel
theorem dX9_isOpen_5 : decode cX9_isOpen 5 = .ok (.iaload, 1) := by decide +kernel
theorem dX9_isOpen_6 : decode cX9_isOpen 6 = .ok (.iconst 1, 1) := by decide +kernel
theorem dX9_isOpen_7 : decode cX9_isOpen 7 = .ok (.if_icmp .ne 7, 3) := by decide +kernel
theorem dX9_isOpen_10 : decode cX9_isOpen 10 = .ok (.iconst 1, 1) := by decide +kernel
theorem dX9_isOpen_11 : decode cX9_isOpen 11 = .ok (.goto 4, 3) := by decide +kernel
theorem dX9_isOpen_14 : decode cX9_isOpen 14 = .ok (.iconst 0, 1) := by decide +kernel
theorem dX9_isOpen_15 : decode cX9_isOpen 15 = .ok (.ireturn, 1) := by decide +kernel
theorem dX9_closedMany_0 : decode cX9_closedMany 0 = .ok (.aload_n 0, 1) := by decide +kernel
theorem dX9_closedMany_1 : decode cX9_closedMany 1 = .ok (.getfield 7, 3) := by decide +kernel
theorem dX9_closedMany_4 : decode cX9_closedMany 4 = .ok (.iconst 2, 1) := by decide +kernel
theorem dX9_closedMany_5 : decode cX9_closedMany 5 = .ok (.iaload, 1) := by decide +kernel
theorem dX9_closedMany_6 : decode cX9_closedMany 6 = .ok (.aload_n 0, 1) := by decide +kernel
theorem dX9_closedMany_7 : decode cX9_closedMany 7 = .ok (.getfield 7, 3) := by decide +kernel
theorem dX9_closedMany_10 : decode cX9_closedMany 10 = .ok (.iconst 3, 1) := by decide +kernel
theorem dX9_closedMany_11 : decode cX9_closedMany 11 = .ok (.iaload, 1) := by decide +kernel
theorem dX9_closedMany_12 : decode cX9_closedMany 12 = .ok (.isub, 1) := by decide +kernel
theorem dX9_closedMany_13 : decode cX9_closedMany 13 = .ok (.ireturn, 1) := by decide +kernel
theorem dX9_latest_0 : decode cX9_latest 0 = .ok (.aload_n 0, 1) := by decide +kernel
theorem dX9_latest_1 : decode cX9_latest 1 = .ok (.getfield 7, 3) := by decide +kernel
theorem dX9_latest_4 : decode cX9_latest 4 = .ok (.iconst 2, 1) := by decide +kernel
theorem dX9_latest_5 : decode cX9_latest 5 = .ok (.iaload, 1) := by decide +kernel
theorem dX9_latest_6 : decode cX9_latest 6 = .ok (.iconst 1, 1) := by decide +kernel
theorem dX9_latest_7 : decode cX9_latest 7 = .ok (.isub, 1) := by decide +kernel
theorem dX9_latest_8 : decode cX9_latest 8 = .ok (.ireturn, 1) := by decide +kernel
theorem dX9_at_0 : decode cX9_at 0 = .ok (.bipush 56, 2) := by decide +kernel
theorem dX9_at_2 : decode cX9_at 2 = .ok (.sipush 325, 3) := by decide +kernel
theorem dX9_at_5 : decode cX9_at 5 = .ok (.iload_n 0, 1) := by decide +kernel
theorem dX9_at_6 : decode cX9_at 6 = .ok (.imul, 1) := by decide +kernel
theorem dX9_at_7 : decode cX9_at 7 = .ok (.iadd, 1) := by decide +kernel
theorem dX9_at_8 : decode cX9_at 8 = .ok (.iload_n 1, 1) := by decide +kernel
theorem dX9_at_9 : decode cX9_at 9 = .ok (.iadd, 1) := by decide +kernel
theorem dX9_at_10 : decode cX9_at 10 = .ok (.ireturn, 1) := by decide +kernel
theorem dX9_at__0 : decode cX9_at_ 0 = .ok (.bipush 56, 2) := by decide +kernel
theorem dX9_at__2 : decode cX9_at_ 2 = .ok (.sipush 325, 3) := by decide +kernel
theorem dX9_at__5 : decode cX9_at_ 5 = .ok (.iload_n 0, 1) := by decide +kernel
theorem dX9_at__6 : decode cX9_at_ 6 = .ok (.imul, 1) := by decide +kernel
theorem dX9_at__7 : decode cX9_at_ 7 = .ok (.iadd, 1) := by decide +kernel
theorem dX9_at__8 : decode cX9_at_ 8 = .ok (.bipush 127, 2) := by decide +kernel
theorem dX9_at__10 : decode cX9_at_ 10 = .ok (.iadd, 1) := by decide +kernel
theorem dX9_at__11 : decode cX9_at_ 11 = .ok (.bipush 12, 2) := by decide +kernel
theorem dX9_at__13 : decode cX9_at_ 13 = .ok (.iload_n 1, 1) := by decide +kernel
theorem dX9_at__14 : decode cX9_at_ 14 = .ok (.imul, 1) := by decide +kernel
theorem dX9_at__15 : decode cX9_at_ 15 = .ok (.iadd, 1) := by decide +kernel
theorem dX9_at__16 : decode cX9_at_ 16 = .ok (.iload_n 2, 1) := by decide +kernel
theorem dX9_at__17 : decode cX9_at_ 17 = .ok (.iadd, 1) := by decide +kernel
theorem dX9_at__18 : decode cX9_at_ 18 = .ok (.ireturn, 1) := by decide +kernel
theorem dX9_mark_0 : decode cX9_mark 0 = .ok (.bipush 56, 2) := by decide +kernel
theorem dX9_mark_2 : decode cX9_mark 2 = .ok (.sipush 325, 3) := by decide +kernel
theorem dX9_mark_5 : decode cX9_mark 5 = .ok (.iload_n 0, 1) := by decide +kernel
theorem dX9_mark_6 : decode cX9_mark 6 = .ok (.imul, 1) := by decide +kernel
theorem dX9_mark_7 : decode cX9_mark 7 = .ok (.iadd, 1) := by decide +kernel
theorem dX9_mark_8 : decode cX9_mark 8 = .ok (.bipush 13, 2) := by decide +kernel
theorem dX9_mark_10 : decode cX9_mark 10 = .ok (.iadd, 1) := by decide +kernel
theorem dX9_mark_11 : decode cX9_mark 11 = .ok (.bipush 19, 2) := by decide +kernel
theorem dX9_mark_13 : decode cX9_mark 13 = .ok (.iload_n 1, 1) := by decide +kernel
theorem dX9_mark_14 : decode cX9_mark 14 = .ok (.imul, 1) := by decide +kernel
theorem dX9_mark_15 : decode cX9_mark 15 = .ok (.iadd, 1) := by decide +kernel
theorem dX9_mark_16 : decode cX9_mark 16 = .ok (.iload_n 2, 1) := by decide +kernel
theorem dX9_mark_17 : decode cX9_mark 17 = .ok (.iadd, 1) := by decide +kernel
theorem dX9_mark_18 : decode cX9_mark 18 = .ok (.ireturn, 1) := by decide +kernel
set_option maxRecDepth 20000 in
theorem ggX9_hasFinish_X9_at_ : GoodIn wsX9_hasFinish wsX9_at_ := goodIn_r _ [5] rfl (by decide +kernel)
set_option maxRecDepth 20000 in
theorem gX9_hasFinish_X9_at_ : GoodIn wsX9_hasFinish (va_wsS RX9 51 yX9_at_ wsX9_at_) := goodIn_app (goodIn_of _ (by decide +kernel)) ggX9_hasFinish_X9_at_
theorem dX9_hasFinish_0 : decode cX9_hasFinish 0 = .ok (.aload_n 0, 1) := by decide +kernel
theorem dX9_hasFinish_1 : decode cX9_hasFinish 1 = .ok (.getfield 7, 3) := by decide +kernel
theorem dX9_hasFinish_4 : decode cX9_hasFinish 4 = .ok (.iload_n 1, 1) := by decide +kernel
theorem dX9_hasFinish_5 : decode cX9_hasFinish 5 = .ok (.iload_n 2, 1) := by decide +kernel
theorem dX9_hasFinish_6 : decode cX9_hasFinish 6 = .ok (.iconst 0, 1) := by decide +kernel
theorem dX9_hasFinish_7 : decode cX9_hasFinish 7 = .ok (.invokestatic 51, 3) := by decide +kernel
theorem dX9_hasFinish_10 : decode cX9_hasFinish 10 = .ok (.iaload, 1) := by decide +kernel
theorem dX9_hasFinish_11 : decode cX9_hasFinish 11 = .ok (.ifCond .le 7, 3) := by decide +kernel
theorem dX9_hasFinish_14 : decode cX9_hasFinish 14 = .ok (.iconst 1, 1) := by decide +kernel
theorem dX9_hasFinish_15 : decode cX9_hasFinish 15 = .ok (.goto 4, 3) := by decide +kernel
theorem dX9_hasFinish_18 : decode cX9_hasFinish 18 = .ok (.iconst 0, 1) := by decide +kernel
theorem dX9_hasFinish_19 : decode cX9_hasFinish 19 = .ok (.ireturn, 1) := by decide +kernel
set_option maxRecDepth 20000 in
theorem ggX9_finishes_X9_hasFinish : GoodIn wsX9_finishes wsX9_hasFinish := goodIn_r _ [6, 1, 7, 8, 5, 9, 10, 11, 12, 13, 14, 15, 16, 17, 18, 19, 20, 21, 22, 23, 24, 25, 26, 27] rfl (by decide +kernel)
set_option maxRecDepth 20000 in
theorem gX9_finishes_X9_hasFinish : GoodIn wsX9_finishes (wsV RX9 55 RX9 yX9_hasFinish wsX9_hasFinish) := goodIn_app (goodIn_of _ (by decide +kernel)) ggX9_finishes_X9_hasFinish
theorem dX9_finishes_0 : decode cX9_finishes 0 = .ok (.iconst 0, 1) := by decide +kernel
theorem dX9_finishes_1 : decode cX9_finishes 1 = .ok (.istore_n 2, 1) := by decide +kernel
theorem dX9_finishes_2 : decode cX9_finishes 2 = .ok (.iconst 0, 1) := by decide +kernel
theorem dX9_finishes_3 : decode cX9_finishes 3 = .ok (.istore_n 3, 1) := by decide +kernel
theorem dX9_finishes_4 : decode cX9_finishes 4 = .ok (.iload_n 3, 1) := by decide +kernel
theorem dX9_finishes_5 : decode cX9_finishes 5 = .ok (.aload_n 0, 1) := by decide +kernel
theorem dX9_finishes_6 : decode cX9_finishes 6 = .ok (.getfield 7, 3) := by decide +kernel
theorem dX9_finishes_9 : decode cX9_finishes 9 = .ok (.iconst 1, 1) := by decide +kernel
theorem dX9_finishes_10 : decode cX9_finishes 10 = .ok (.iaload, 1) := by decide +kernel
theorem dX9_finishes_11 : decode cX9_finishes 11 = .ok (.if_icmp .ge 26, 3) := by decide +kernel
theorem dX9_finishes_14 : decode cX9_finishes 14 = .ok (.iload_n 2, 1) := by decide +kernel
theorem dX9_finishes_15 : decode cX9_finishes 15 = .ok (.aload_n 0, 1) := by decide +kernel
theorem dX9_finishes_16 : decode cX9_finishes 16 = .ok (.iload_n 1, 1) := by decide +kernel
theorem dX9_finishes_17 : decode cX9_finishes 17 = .ok (.iload_n 3, 1) := by decide +kernel
theorem dX9_finishes_18 : decode cX9_finishes 18 = .ok (.invokevirtual 55, 3) := by decide +kernel
theorem dX9_finishes_21 : decode cX9_finishes 21 = .ok (.ifCond .eq 7, 3) := by decide +kernel
theorem dX9_finishes_24 : decode cX9_finishes 24 = .ok (.iconst 1, 1) := by decide +kernel
theorem dX9_finishes_25 : decode cX9_finishes 25 = .ok (.goto 4, 3) := by decide +kernel
theorem dX9_finishes_28 : decode cX9_finishes 28 = .ok (.iconst 0, 1) := by decide +kernel
theorem dX9_finishes_29 : decode cX9_finishes 29 = .ok (.iadd, 1) := by decide +kernel
theorem dX9_finishes_30 : decode cX9_finishes 30 = .ok (.istore_n 2, 1) := by decide +kernel
theorem dX9_finishes_31 : decode cX9_finishes 31 = .ok (.iinc 3 1, 3) := by decide +kernel
theorem dX9_finishes_34 : decode cX9_finishes 34 = .ok (.goto (-30), 3) := by decide +kernel
theorem dX9_finishes_37 : decode cX9_finishes 37 = .ok (.iload_n 2, 1) := by decide +kernel
theorem dX9_finishes_38 : decode cX9_finishes 38 = .ok (.ireturn, 1) := by decide +kernel
set_option maxRecDepth 20000 in
theorem ggX9_there_X9_isThere : GoodIn wsX9_there wsX9_isThere := goodIn_r _ [6, 1, 7, 8, 9, 5, 10, 11, 12, 13, 14, 15, 16, 17, 18, 19, 20, 21, 22, 23, 24, 25, 26, 27, 28, 29, 30, 31] rfl (by decide +kernel)
set_option maxRecDepth 20000 in
theorem gX9_there_X9_isThere : GoodIn wsX9_there (wsV RX9 59 RX9 yX9_isThere wsX9_isThere) := goodIn_app (goodIn_of _ (by decide +kernel)) ggX9_there_X9_isThere
theorem dX9_there_0 : decode cX9_there 0 = .ok (.iconst 0, 1) := by decide +kernel
theorem dX9_there_1 : decode cX9_there 1 = .ok (.istore_n 1, 1) := by decide +kernel
theorem dX9_there_2 : decode cX9_there 2 = .ok (.iconst 0, 1) := by decide +kernel
theorem dX9_there_3 : decode cX9_there 3 = .ok (.istore_n 2, 1) := by decide +kernel
theorem dX9_there_4 : decode cX9_there 4 = .ok (.iload_n 2, 1) := by decide +kernel
theorem dX9_there_5 : decode cX9_there 5 = .ok (.aload_n 0, 1) := by decide +kernel
theorem dX9_there_6 : decode cX9_there 6 = .ok (.getfield 7, 3) := by decide +kernel
theorem dX9_there_9 : decode cX9_there 9 = .ok (.iconst 1, 1) := by decide +kernel
theorem dX9_there_10 : decode cX9_there 10 = .ok (.iaload, 1) := by decide +kernel
theorem dX9_there_11 : decode cX9_there 11 = .ok (.if_icmp .ge 25, 3) := by decide +kernel
theorem dX9_there_14 : decode cX9_there 14 = .ok (.iload_n 1, 1) := by decide +kernel
theorem dX9_there_15 : decode cX9_there 15 = .ok (.aload_n 0, 1) := by decide +kernel
theorem dX9_there_16 : decode cX9_there 16 = .ok (.iload_n 2, 1) := by decide +kernel
theorem dX9_there_17 : decode cX9_there 17 = .ok (.invokevirtual 59, 3) := by decide +kernel
theorem dX9_there_20 : decode cX9_there 20 = .ok (.ifCond .eq 7, 3) := by decide +kernel
theorem dX9_there_23 : decode cX9_there 23 = .ok (.iconst 1, 1) := by decide +kernel
theorem dX9_there_24 : decode cX9_there 24 = .ok (.goto 4, 3) := by decide +kernel
theorem dX9_there_27 : decode cX9_there 27 = .ok (.iconst 0, 1) := by decide +kernel
theorem dX9_there_28 : decode cX9_there 28 = .ok (.iadd, 1) := by decide +kernel
theorem dX9_there_29 : decode cX9_there 29 = .ok (.istore_n 1, 1) := by decide +kernel
theorem dX9_there_30 : decode cX9_there 30 = .ok (.iinc 2 1, 3) := by decide +kernel
theorem dX9_there_33 : decode cX9_there 33 = .ok (.goto (-29), 3) := by decide +kernel
theorem dX9_there_36 : decode cX9_there 36 = .ok (.iload_n 1, 1) := by decide +kernel
theorem dX9_there_37 : decode cX9_there 37 = .ok (.ireturn, 1) := by decide +kernel
set_option maxRecDepth 20000 in
theorem ggX9_team_X9_teams : GoodIn wsX9_team wsX9_teams := goodIn_r _ [6, 7, 8, 9, 10, 11, 12, 13, 14, 15, 16, 17, 18, 19, 20, 21, 22, 23, 24, 25] rfl (by decide +kernel)
set_option maxRecDepth 20000 in
theorem gX9_team_X9_teams : GoodIn wsX9_team (wsV RX9 62 RX9 yX9_teams wsX9_teams) := goodIn_app (goodIn_of _ (by decide +kernel)) ggX9_team_X9_teams
theorem dX9_team_0 : decode cX9_team 0 = .ok (.aload_n 0, 1) := by decide +kernel
theorem dX9_team_1 : decode cX9_team 1 = .ok (.iconst 0, 1) := by decide +kernel
theorem dX9_team_2 : decode cX9_team 2 = .ok (.putfield 39, 3) := by decide +kernel
theorem dX9_team_5 : decode cX9_team 5 = .ok (.aload_n 0, 1) := by decide +kernel
theorem dX9_team_6 : decode cX9_team 6 = .ok (.invokevirtual 62, 3) := by decide +kernel
theorem dX9_team_9 : decode cX9_team 9 = .ok (.ireturn, 1) := by decide +kernel
theorem dX9_teams_0 : decode cX9_teams 0 = .ok (.aload_n 0, 1) := by decide +kernel
theorem dX9_teams_1 : decode cX9_teams 1 = .ok (.getfield 7, 3) := by decide +kernel
theorem dX9_teams_4 : decode cX9_teams 4 = .ok (.iconst 0, 1) := by decide +kernel
theorem dX9_teams_5 : decode cX9_teams 5 = .ok (.iaload, 1) := by decide +kernel
theorem dX9_teams_6 : decode cX9_teams 6 = .ok (.bipush 6, 2) := by decide +kernel
theorem dX9_teams_8 : decode cX9_teams 8 = .ok (.if_icmp .ne 5, 3) := by decide +kernel
theorem dX9_teams_11 : decode cX9_teams 11 = .ok (.iconst (-1), 1) := by decide +kernel
theorem dX9_teams_12 : decode cX9_teams 12 = .ok (.ireturn, 1) := by decide +kernel
theorem dX9_teams_13 : decode cX9_teams 13 = .ok (.aload_n 0, 1) := by decide +kernel
theorem dX9_teams_14 : decode cX9_teams 14 = .ok (.getfield 7, 3) := by decide +kernel
theorem dX9_teams_17 : decode cX9_teams 17 = .ok (.iconst 0, 1) := by decide +kernel
theorem dX9_teams_18 : decode cX9_teams 18 = .ok (.dup2, 1) := by decide +kernel
theorem dX9_teams_19 : decode cX9_teams 19 = .ok (.iaload, 1) := by decide +kernel
theorem dX9_teams_20 : decode cX9_teams 20 = .ok (.iconst 1, 1) := by decide +kernel
theorem dX9_teams_21 : decode cX9_teams 21 = .ok (.iadd, 1) := by decide +kernel
theorem dX9_teams_22 : decode cX9_teams 22 = .ok (.iastore, 1) := by decide +kernel
theorem dX9_teams_23 : decode cX9_teams 23 = .ok (.aload_n 0, 1) := by decide +kernel
theorem dX9_teams_24 : decode cX9_teams 24 = .ok (.getfield 7, 3) := by decide +kernel
theorem dX9_teams_27 : decode cX9_teams 27 = .ok (.iconst 0, 1) := by decide +kernel
theorem dX9_teams_28 : decode cX9_teams 28 = .ok (.iaload, 1) := by decide +kernel
theorem dX9_teams_29 : decode cX9_teams 29 = .ok (.iconst 1, 1) := by decide +kernel
theorem dX9_teams_30 : decode cX9_teams 30 = .ok (.isub, 1) := by decide +kernel
theorem dX9_teams_31 : decode cX9_teams 31 = .ok (.ireturn, 1) := by decide +kernel
set_option maxRecDepth 20000 in
theorem ggX9_rider_X9_comes : GoodIn wsX9_rider wsX9_comes := goodIn_r _ [6, 7, 8, 9, 5, 10, 11, 12, 13, 14, 15, 16, 17, 18, 19, 20, 21, 22, 23, 24, 25, 26, 27, 28, 29, 30, 31, 32, 33, 34, 35, 36, 37, 38, 39, 40, 41, 42, 43, 44, 45, 46, 47] rfl (by decide +kernel)
set_option maxRecDepth 20000 in
theorem gX9_rider_X9_comes : GoodIn wsX9_rider (wsV RX9 66 RX9 yX9_comes wsX9_comes) := goodIn_app (goodIn_of _ (by decide +kernel)) ggX9_rider_X9_comes
theorem dX9_rider_0 : decode cX9_rider 0 = .ok (.aload_n 0, 1) := by decide +kernel
theorem dX9_rider_1 : decode cX9_rider 1 = .ok (.iconst 0, 1) := by decide +kernel
theorem dX9_rider_2 : decode cX9_rider 2 = .ok (.putfield 39, 3) := by decide +kernel
theorem dX9_rider_5 : decode cX9_rider 5 = .ok (.aload_n 0, 1) := by decide +kernel
theorem dX9_rider_6 : decode cX9_rider 6 = .ok (.iload_n 1, 1) := by decide +kernel
theorem dX9_rider_7 : decode cX9_rider 7 = .ok (.iload_n 2, 1) := by decide +kernel
theorem dX9_rider_8 : decode cX9_rider 8 = .ok (.invokevirtual 66, 3) := by decide +kernel
theorem dX9_rider_11 : decode cX9_rider 11 = .ok (.ireturn, 1) := by decide +kernel
set_option maxRecDepth 20000 in
theorem ggX9_comes_X9_isIn : GoodIn wsX9_comes wsX9_isIn := goodIn_r _ [5] rfl (by decide +kernel)
set_option maxRecDepth 20000 in
theorem gX9_comes_X9_isIn : GoodIn wsX9_comes (va_wsS RX9 43 yX9_isIn wsX9_isIn) := goodIn_app (goodIn_of _ (by decide +kernel)) ggX9_comes_X9_isIn
set_option maxRecDepth 20000 in
theorem ggX9_comes_X9_isOpen : GoodIn wsX9_comes wsX9_isOpen := goodIn_r _ [9, 1, 25, 26, 27, 28, 29, 30, 31, 32, 33, 34, 35, 36, 37, 38, 39, 40, 41, 42] rfl (by decide +kernel)
set_option maxRecDepth 20000 in
theorem gX9_comes_X9_isOpen : GoodIn wsX9_comes (wsV RX9 70 RX9 yX9_isOpen wsX9_isOpen) := goodIn_app (goodIn_of _ (by decide +kernel)) ggX9_comes_X9_isOpen
set_option maxRecDepth 20000 in
theorem ggX9_comes_X9_latest : GoodIn wsX9_comes wsX9_latest := goodIn_r _ [13, 1, 25, 26, 27, 28, 29, 30, 31, 32, 33, 34, 35, 36, 37, 38, 39, 40, 41, 42] rfl (by decide +kernel)
set_option maxRecDepth 20000 in
theorem gX9_comes_X9_latest : GoodIn wsX9_comes (wsV RX9 74 RX9 yX9_latest wsX9_latest) := goodIn_app (goodIn_of _ (by decide +kernel)) ggX9_comes_X9_latest
set_option maxRecDepth 20000 in
theorem ggX9_comes_X9_finishes : GoodIn wsX9_comes wsX9_finishes := goodIn_r _ [17, 1, 18, 19, 20, 4, 21, 22, 23, 24, 25, 26, 27, 28, 29, 30, 31, 32, 33, 34, 35, 36, 37, 38, 39, 40, 41, 42] rfl (by decide +kernel)
set_option maxRecDepth 20000 in
theorem gX9_comes_X9_finishes : GoodIn wsX9_comes (wsV RX9 77 RX9 yX9_finishes wsX9_finishes) := goodIn_app (goodIn_of _ (by decide +kernel)) ggX9_comes_X9_finishes
theorem dX9_comes_0 : decode cX9_comes 0 = .ok (.aload_n 0, 1) := by decide +kernel
theorem dX9_comes_1 : decode cX9_comes 1 = .ok (.getfield 7, 3) := by decide +kernel
theorem dX9_comes_4 : decode cX9_comes 4 = .ok (.iconst 1, 1) := by decide +kernel
theorem dX9_comes_5 : decode cX9_comes 5 = .ok (.iaload, 1) := by decide +kernel
theorem dX9_comes_6 : decode cX9_comes 6 = .ok (.istore_n 3, 1) := by decide +kernel
theorem dX9_comes_7 : decode cX9_comes 7 = .ok (.iload_n 3, 1) := by decide +kernel
theorem dX9_comes_8 : decode cX9_comes 8 = .ok (.bipush 16, 2) := by decide +kernel
theorem dX9_comes_10 : decode cX9_comes 10 = .ok (.if_icmp .eq 48, 3) := by decide +kernel
theorem dX9_comes_13 : decode cX9_comes 13 = .ok (.iload_n 1, 1) := by decide +kernel
theorem dX9_comes_14 : decode cX9_comes 14 = .ok (.iconst 0, 1) := by decide +kernel
theorem dX9_comes_15 : decode cX9_comes 15 = .ok (.aload_n 0, 1) := by decide +kernel
theorem dX9_comes_16 : decode cX9_comes 16 = .ok (.getfield 7, 3) := by decide +kernel
theorem dX9_comes_19 : decode cX9_comes 19 = .ok (.iconst 0, 1) := by decide +kernel
theorem dX9_comes_20 : decode cX9_comes 20 = .ok (.iaload, 1) := by decide +kernel
theorem dX9_comes_21 : decode cX9_comes 21 = .ok (.iconst 1, 1) := by decide +kernel
theorem dX9_comes_22 : decode cX9_comes 22 = .ok (.isub, 1) := by decide +kernel
theorem dX9_comes_23 : decode cX9_comes 23 = .ok (.invokestatic 43, 3) := by decide +kernel
theorem dX9_comes_26 : decode cX9_comes 26 = .ok (.ifCond .eq 32, 3) := by decide +kernel
theorem dX9_comes_29 : decode cX9_comes 29 = .ok (.iload_n 2, 1) := by decide +kernel
theorem dX9_comes_30 : decode cX9_comes 30 = .ok (.bipush 16, 2) := by decide +kernel
theorem dX9_comes_32 : decode cX9_comes 32 = .ok (.bipush 50, 2) := by decide +kernel
theorem dX9_comes_34 : decode cX9_comes 34 = .ok (.invokestatic 43, 3) := by decide +kernel
theorem dX9_comes_37 : decode cX9_comes 37 = .ok (.ifCond .eq 21, 3) := by decide +kernel
theorem dX9_comes_40 : decode cX9_comes 40 = .ok (.aload_n 0, 1) := by decide +kernel
theorem dX9_comes_41 : decode cX9_comes 41 = .ok (.invokevirtual 70, 3) := by decide +kernel
theorem dX9_comes_44 : decode cX9_comes 44 = .ok (.ifCond .eq 16, 3) := by decide +kernel
theorem dX9_comes_47 : decode cX9_comes 47 = .ok (.aload_n 0, 1) := by decide +kernel
theorem dX9_comes_48 : decode cX9_comes 48 = .ok (.aload_n 0, 1) := by decide +kernel
theorem dX9_comes_49 : decode cX9_comes 49 = .ok (.invokevirtual 74, 3) := by decide +kernel
theorem dX9_comes_52 : decode cX9_comes 52 = .ok (.invokevirtual 77, 3) := by decide +kernel
theorem dX9_comes_55 : decode cX9_comes 55 = .ok (.ifCond .le 5, 3) := by decide +kernel
theorem dX9_comes_58 : decode cX9_comes 58 = .ok (.iconst (-1), 1) := by decide +kernel
theorem dX9_comes_59 : decode cX9_comes 59 = .ok (.ireturn, 1) := by decide +kernel
theorem dX9_comes_60 : decode cX9_comes 60 = .ok (.aload_n 0, 1) := by decide +kernel
theorem dX9_comes_61 : decode cX9_comes 61 = .ok (.getfield 7, 3) := by decide +kernel
theorem dX9_comes_64 : decode cX9_comes 64 = .ok (.bipush 8, 2) := by decide +kernel
theorem dX9_comes_66 : decode cX9_comes 66 = .ok (.iconst 3, 1) := by decide +kernel
theorem dX9_comes_67 : decode cX9_comes 67 = .ok (.iload_n 3, 1) := by decide +kernel
theorem dX9_comes_68 : decode cX9_comes 68 = .ok (.imul, 1) := by decide +kernel
theorem dX9_comes_69 : decode cX9_comes 69 = .ok (.iadd, 1) := by decide +kernel
theorem dX9_comes_70 : decode cX9_comes 70 = .ok (.iload_n 1, 1) := by decide +kernel
theorem dX9_comes_71 : decode cX9_comes 71 = .ok (.iastore, 1) := by decide +kernel
theorem dX9_comes_72 : decode cX9_comes 72 = .ok (.aload_n 0, 1) := by decide +kernel
theorem dX9_comes_73 : decode cX9_comes 73 = .ok (.getfield 7, 3) := by decide +kernel
theorem dX9_comes_76 : decode cX9_comes 76 = .ok (.bipush 8, 2) := by decide +kernel
theorem dX9_comes_78 : decode cX9_comes 78 = .ok (.iconst 3, 1) := by decide +kernel
theorem dX9_comes_79 : decode cX9_comes 79 = .ok (.iload_n 3, 1) := by decide +kernel
theorem dX9_comes_80 : decode cX9_comes 80 = .ok (.imul, 1) := by decide +kernel
theorem dX9_comes_81 : decode cX9_comes 81 = .ok (.iadd, 1) := by decide +kernel
theorem dX9_comes_82 : decode cX9_comes 82 = .ok (.iconst 1, 1) := by decide +kernel
theorem dX9_comes_83 : decode cX9_comes 83 = .ok (.iadd, 1) := by decide +kernel
theorem dX9_comes_84 : decode cX9_comes 84 = .ok (.iload_n 2, 1) := by decide +kernel
theorem dX9_comes_85 : decode cX9_comes 85 = .ok (.iastore, 1) := by decide +kernel
theorem dX9_comes_86 : decode cX9_comes 86 = .ok (.aload_n 0, 1) := by decide +kernel
theorem dX9_comes_87 : decode cX9_comes 87 = .ok (.getfield 7, 3) := by decide +kernel
theorem dX9_comes_90 : decode cX9_comes 90 = .ok (.bipush 8, 2) := by decide +kernel
theorem dX9_comes_92 : decode cX9_comes 92 = .ok (.iconst 3, 1) := by decide +kernel
theorem dX9_comes_93 : decode cX9_comes 93 = .ok (.iload_n 3, 1) := by decide +kernel
theorem dX9_comes_94 : decode cX9_comes 94 = .ok (.imul, 1) := by decide +kernel
theorem dX9_comes_95 : decode cX9_comes 95 = .ok (.iadd, 1) := by decide +kernel
theorem dX9_comes_96 : decode cX9_comes 96 = .ok (.iconst 2, 1) := by decide +kernel
theorem dX9_comes_97 : decode cX9_comes 97 = .ok (.iadd, 1) := by decide +kernel
theorem dX9_comes_98 : decode cX9_comes 98 = .ok (.iconst 1, 1) := by decide +kernel
theorem dX9_comes_99 : decode cX9_comes 99 = .ok (.iastore, 1) := by decide +kernel
theorem dX9_comes_100 : decode cX9_comes 100 = .ok (.aload_n 0, 1) := by decide +kernel
theorem dX9_comes_101 : decode cX9_comes 101 = .ok (.getfield 7, 3) := by decide +kernel
theorem dX9_comes_104 : decode cX9_comes 104 = .ok (.iconst 1, 1) := by decide +kernel
theorem dX9_comes_105 : decode cX9_comes 105 = .ok (.dup2, 1) := by decide +kernel
theorem dX9_comes_106 : decode cX9_comes 106 = .ok (.iaload, 1) := by decide +kernel
theorem dX9_comes_107 : decode cX9_comes 107 = .ok (.iconst 1, 1) := by decide +kernel
theorem dX9_comes_108 : decode cX9_comes 108 = .ok (.iadd, 1) := by decide +kernel
theorem dX9_comes_109 : decode cX9_comes 109 = .ok (.iastore, 1) := by decide +kernel
theorem dX9_comes_110 : decode cX9_comes 110 = .ok (.iload_n 3, 1) := by decide +kernel
theorem dX9_comes_111 : decode cX9_comes 111 = .ok (.ireturn, 1) := by decide +kernel
set_option maxRecDepth 20000 in
theorem ggX9_stage_X9_stages : GoodIn wsX9_stage wsX9_stages := goodIn_r _ [6, 7, 8, 9, 10, 5, 11, 12, 13, 14, 15, 16, 17, 18, 19, 20, 21, 22, 23, 24, 25, 26, 27, 28, 29, 30, 31, 32, 33, 34, 35, 36, 37, 38, 39, 40, 41, 42, 43, 44, 45, 46, 47, 48, 49, 50] rfl (by decide +kernel)
set_option maxRecDepth 20000 in
theorem gX9_stage_X9_stages : GoodIn wsX9_stage (wsV RX9 81 RX9 yX9_stages wsX9_stages) := goodIn_app (goodIn_of _ (by decide +kernel)) ggX9_stage_X9_stages
theorem dX9_stage_0 : decode cX9_stage 0 = .ok (.aload_n 0, 1) := by decide +kernel
theorem dX9_stage_1 : decode cX9_stage 1 = .ok (.iconst 0, 1) := by decide +kernel
theorem dX9_stage_2 : decode cX9_stage 2 = .ok (.putfield 39, 3) := by decide +kernel
theorem dX9_stage_5 : decode cX9_stage 5 = .ok (.aload_n 0, 1) := by decide +kernel
theorem dX9_stage_6 : decode cX9_stage 6 = .ok (.iload_n 1, 1) := by decide +kernel
theorem dX9_stage_7 : decode cX9_stage 7 = .ok (.iload_n 2, 1) := by decide +kernel
theorem dX9_stage_8 : decode cX9_stage 8 = .ok (.invokevirtual 81, 3) := by decide +kernel
theorem dX9_stage_11 : decode cX9_stage 11 = .ok (.ireturn, 1) := by decide +kernel
set_option maxRecDepth 20000 in
theorem ggX9_stages_X9_isOpen : GoodIn wsX9_stages wsX9_isOpen := goodIn_r _ [6, 1, 28, 29, 30, 31, 32, 33, 34, 35, 36, 37, 38, 39, 40, 41, 42, 43, 44, 45] rfl (by decide +kernel)
set_option maxRecDepth 20000 in
theorem gX9_stages_X9_isOpen : GoodIn wsX9_stages (wsV RX9 70 RX9 yX9_isOpen wsX9_isOpen) := goodIn_app (goodIn_of _ (by decide +kernel)) ggX9_stages_X9_isOpen
set_option maxRecDepth 20000 in
theorem ggX9_stages_X9_isIn : GoodIn wsX9_stages wsX9_isIn := goodIn_r _ [9] rfl (by decide +kernel)
set_option maxRecDepth 20000 in
theorem gX9_stages_X9_isIn : GoodIn wsX9_stages (va_wsS RX9 43 yX9_isIn wsX9_isIn) := goodIn_app (goodIn_of _ (by decide +kernel)) ggX9_stages_X9_isIn
set_option maxRecDepth 20000 in
theorem ggX9_stages_X9_there : GoodIn wsX9_stages wsX9_there := goodIn_r _ [13, 1, 14, 15, 16, 5, 17, 18, 19, 20, 21, 7, 8, 9, 28, 29, 30, 31, 32, 33, 34, 35, 36, 37, 38, 39, 40, 41, 42, 43, 44, 45] rfl (by decide +kernel)
set_option maxRecDepth 20000 in
theorem gX9_stages_X9_there : GoodIn wsX9_stages (wsV RX9 84 RX9 yX9_there wsX9_there) := goodIn_app (goodIn_of _ (by decide +kernel)) ggX9_stages_X9_there
set_option maxRecDepth 20000 in
theorem ggX9_stages_X9_at_ : GoodIn wsX9_stages wsX9_at_ := goodIn_r _ [24] rfl (by decide +kernel)
set_option maxRecDepth 20000 in
theorem gX9_stages_X9_at_ : GoodIn wsX9_stages (va_wsS RX9 51 yX9_at_ wsX9_at_) := goodIn_app (goodIn_of _ (by decide +kernel)) ggX9_stages_X9_at_
set_option maxRecDepth 20000 in
theorem ggX9_stages_X9_at : GoodIn wsX9_stages wsX9_at := goodIn_r _ [27] rfl (by decide +kernel)
set_option maxRecDepth 20000 in
theorem gX9_stages_X9_at : GoodIn wsX9_stages (va_wsS RX9 87 yX9_at wsX9_at) := goodIn_app (goodIn_of _ (by decide +kernel)) ggX9_stages_X9_at
theorem dX9_stages_0 : decode cX9_stages 0 = .ok (.aload_n 0, 1) := by decide +kernel
theorem dX9_stages_1 : decode cX9_stages 1 = .ok (.getfield 7, 3) := by decide +kernel
theorem dX9_stages_4 : decode cX9_stages 4 = .ok (.iconst 2, 1) := by decide +kernel
theorem dX9_stages_5 : decode cX9_stages 5 = .ok (.iaload, 1) := by decide +kernel
theorem dX9_stages_6 : decode cX9_stages 6 = .ok (.istore_n 3, 1) := by decide +kernel
theorem dX9_stages_7 : decode cX9_stages 7 = .ok (.iload_n 3, 1) := by decide +kernel
theorem dX9_stages_8 : decode cX9_stages 8 = .ok (.bipush 8, 2) := by decide +kernel
theorem dX9_stages_10 : decode cX9_stages 10 = .ok (.if_icmp .eq 37, 3) := by decide +kernel
theorem dX9_stages_13 : decode cX9_stages 13 = .ok (.aload_n 0, 1) := by decide +kernel
theorem dX9_stages_14 : decode cX9_stages 14 = .ok (.invokevirtual 70, 3) := by decide +kernel
theorem dX9_stages_17 : decode cX9_stages 17 = .ok (.ifCond .ne 30, 3) := by decide +kernel
theorem dX9_stages_20 : decode cX9_stages 20 = .ok (.iload_n 1, 1) := by decide +kernel
theorem dX9_stages_21 : decode cX9_stages 21 = .ok (.iconst 0, 1) := by decide +kernel
theorem dX9_stages_22 : decode cX9_stages 22 = .ok (.iconst 3, 1) := by decide +kernel
theorem dX9_stages_23 : decode cX9_stages 23 = .ok (.invokestatic 43, 3) := by decide +kernel
theorem dX9_stages_26 : decode cX9_stages 26 = .ok (.ifCond .eq 21, 3) := by decide +kernel
theorem dX9_stages_29 : decode cX9_stages 29 = .ok (.iload_n 2, 1) := by decide +kernel
theorem dX9_stages_30 : decode cX9_stages 30 = .ok (.iconst 1, 1) := by decide +kernel
theorem dX9_stages_31 : decode cX9_stages 31 = .ok (.sipush 300, 3) := by decide +kernel
theorem dX9_stages_34 : decode cX9_stages 34 = .ok (.invokestatic 43, 3) := by decide +kernel
theorem dX9_stages_37 : decode cX9_stages 37 = .ok (.ifCond .eq 10, 3) := by decide +kernel
theorem dX9_stages_40 : decode cX9_stages 40 = .ok (.aload_n 0, 1) := by decide +kernel
theorem dX9_stages_41 : decode cX9_stages 41 = .ok (.invokevirtual 84, 3) := by decide +kernel
theorem dX9_stages_44 : decode cX9_stages 44 = .ok (.ifCond .ne 5, 3) := by decide +kernel
theorem dX9_stages_47 : decode cX9_stages 47 = .ok (.iconst (-1), 1) := by decide +kernel
theorem dX9_stages_48 : decode cX9_stages 48 = .ok (.ireturn, 1) := by decide +kernel
theorem dX9_stages_49 : decode cX9_stages 49 = .ok (.iconst 0, 1) := by decide +kernel
theorem dX9_stages_50 : decode cX9_stages 50 = .ok (.istore 4, 2) := by decide +kernel
theorem dX9_stages_52 : decode cX9_stages 52 = .ok (.iload 4, 2) := by decide +kernel
theorem dX9_stages_54 : decode cX9_stages 54 = .ok (.sipush 325, 3) := by decide +kernel
theorem dX9_stages_57 : decode cX9_stages 57 = .ok (.if_icmp .ge 26, 3) := by decide +kernel
theorem dX9_stages_60 : decode cX9_stages 60 = .ok (.aload_n 0, 1) := by decide +kernel
theorem dX9_stages_61 : decode cX9_stages 61 = .ok (.getfield 7, 3) := by decide +kernel
theorem dX9_stages_64 : decode cX9_stages 64 = .ok (.bipush 56, 2) := by decide +kernel
theorem dX9_stages_66 : decode cX9_stages 66 = .ok (.sipush 325, 3) := by decide +kernel
theorem dX9_stages_69 : decode cX9_stages 69 = .ok (.iload_n 3, 1) := by decide +kernel
theorem dX9_stages_70 : decode cX9_stages 70 = .ok (.imul, 1) := by decide +kernel
theorem dX9_stages_71 : decode cX9_stages 71 = .ok (.iadd, 1) := by decide +kernel
theorem dX9_stages_72 : decode cX9_stages 72 = .ok (.iload 4, 2) := by decide +kernel
theorem dX9_stages_74 : decode cX9_stages 74 = .ok (.iadd, 1) := by decide +kernel
theorem dX9_stages_75 : decode cX9_stages 75 = .ok (.iconst 0, 1) := by decide +kernel
theorem dX9_stages_76 : decode cX9_stages 76 = .ok (.iastore, 1) := by decide +kernel
theorem dX9_stages_77 : decode cX9_stages 77 = .ok (.iinc 4 1, 3) := by decide +kernel
theorem dX9_stages_80 : decode cX9_stages 80 = .ok (.goto (-28), 3) := by decide +kernel
theorem dX9_stages_83 : decode cX9_stages 83 = .ok (.iconst 0, 1) := by decide +kernel
theorem dX9_stages_84 : decode cX9_stages 84 = .ok (.istore 4, 2) := by decide +kernel
theorem dX9_stages_86 : decode cX9_stages 86 = .ok (.iload 4, 2) := by decide +kernel
theorem dX9_stages_88 : decode cX9_stages 88 = .ok (.bipush 16, 2) := by decide +kernel
theorem dX9_stages_90 : decode cX9_stages 90 = .ok (.if_icmp .ge 22, 3) := by decide +kernel
theorem dX9_stages_93 : decode cX9_stages 93 = .ok (.aload_n 0, 1) := by decide +kernel
theorem dX9_stages_94 : decode cX9_stages 94 = .ok (.getfield 7, 3) := by decide +kernel
theorem dX9_stages_97 : decode cX9_stages 97 = .ok (.iload_n 3, 1) := by decide +kernel
theorem dX9_stages_98 : decode cX9_stages 98 = .ok (.iload 4, 2) := by decide +kernel
theorem dX9_stages_100 : decode cX9_stages 100 = .ok (.iconst 1, 1) := by decide +kernel
theorem dX9_stages_101 : decode cX9_stages 101 = .ok (.invokestatic 51, 3) := by decide +kernel
theorem dX9_stages_104 : decode cX9_stages 104 = .ok (.iconst (-1), 1) := by decide +kernel
theorem dX9_stages_105 : decode cX9_stages 105 = .ok (.iastore, 1) := by decide +kernel
theorem dX9_stages_106 : decode cX9_stages 106 = .ok (.iinc 4 1, 3) := by decide +kernel
theorem dX9_stages_109 : decode cX9_stages 109 = .ok (.goto (-23), 3) := by decide +kernel
theorem dX9_stages_112 : decode cX9_stages 112 = .ok (.aload_n 0, 1) := by decide +kernel
theorem dX9_stages_113 : decode cX9_stages 113 = .ok (.getfield 7, 3) := by decide +kernel
theorem dX9_stages_116 : decode cX9_stages 116 = .ok (.iload_n 3, 1) := by decide +kernel
theorem dX9_stages_117 : decode cX9_stages 117 = .ok (.iconst 0, 1) := by decide +kernel
theorem dX9_stages_118 : decode cX9_stages 118 = .ok (.invokestatic 87, 3) := by decide +kernel
theorem dX9_stages_121 : decode cX9_stages 121 = .ok (.iload_n 1, 1) := by decide +kernel
theorem dX9_stages_122 : decode cX9_stages 122 = .ok (.iastore, 1) := by decide +kernel
theorem dX9_stages_123 : decode cX9_stages 123 = .ok (.aload_n 0, 1) := by decide +kernel
theorem dX9_stages_124 : decode cX9_stages 124 = .ok (.getfield 7, 3) := by decide +kernel
theorem dX9_stages_127 : decode cX9_stages 127 = .ok (.iload_n 3, 1) := by decide +kernel
theorem dX9_stages_128 : decode cX9_stages 128 = .ok (.iconst 1, 1) := by decide +kernel
theorem dX9_stages_129 : decode cX9_stages 129 = .ok (.invokestatic 87, 3) := by decide +kernel
theorem dX9_stages_132 : decode cX9_stages 132 = .ok (.iload_n 2, 1) := by decide +kernel
theorem dX9_stages_133 : decode cX9_stages 133 = .ok (.iastore, 1) := by decide +kernel
theorem dX9_stages_134 : decode cX9_stages 134 = .ok (.aload_n 0, 1) := by decide +kernel
theorem dX9_stages_135 : decode cX9_stages 135 = .ok (.getfield 7, 3) := by decide +kernel
theorem dX9_stages_138 : decode cX9_stages 138 = .ok (.iconst 2, 1) := by decide +kernel
theorem dX9_stages_139 : decode cX9_stages 139 = .ok (.dup2, 1) := by decide +kernel
theorem dX9_stages_140 : decode cX9_stages 140 = .ok (.iaload, 1) := by decide +kernel
theorem dX9_stages_141 : decode cX9_stages 141 = .ok (.iconst 1, 1) := by decide +kernel
theorem dX9_stages_142 : decode cX9_stages 142 = .ok (.iadd, 1) := by decide +kernel
theorem dX9_stages_143 : decode cX9_stages 143 = .ok (.iastore, 1) := by decide +kernel
theorem dX9_stages_144 : decode cX9_stages 144 = .ok (.aload_n 0, 1) := by decide +kernel
theorem dX9_stages_145 : decode cX9_stages 145 = .ok (.getfield 7, 3) := by decide +kernel
theorem dX9_stages_148 : decode cX9_stages 148 = .ok (.iconst 3, 1) := by decide +kernel
theorem dX9_stages_149 : decode cX9_stages 149 = .ok (.iconst 1, 1) := by decide +kernel
theorem dX9_stages_150 : decode cX9_stages 150 = .ok (.iastore, 1) := by decide +kernel
theorem dX9_stages_151 : decode cX9_stages 151 = .ok (.iload_n 3, 1) := by decide +kernel
theorem dX9_stages_152 : decode cX9_stages 152 = .ok (.ireturn, 1) := by decide +kernel
set_option maxRecDepth 20000 in
theorem ggX9_mark__X9_marks : GoodIn wsX9_mark_ wsX9_marks := goodIn_r _ [6, 7, 8, 9, 10, 5, 11, 12, 13, 14, 15, 16, 17, 18, 19, 20, 21, 22, 23, 24, 25, 26, 27, 28, 29, 30, 31, 32, 33, 34, 35, 36, 37, 38, 39, 40, 41, 42] rfl (by decide +kernel)
set_option maxRecDepth 20000 in
theorem gX9_mark__X9_marks : GoodIn wsX9_mark_ (wsV RX9 89 RX9 yX9_marks wsX9_marks) := goodIn_app (goodIn_of _ (by decide +kernel)) ggX9_mark__X9_marks
theorem dX9_mark__0 : decode cX9_mark_ 0 = .ok (.aload_n 0, 1) := by decide +kernel
theorem dX9_mark__1 : decode cX9_mark_ 1 = .ok (.iconst 0, 1) := by decide +kernel
theorem dX9_mark__2 : decode cX9_mark_ 2 = .ok (.putfield 39, 3) := by decide +kernel
theorem dX9_mark__5 : decode cX9_mark_ 5 = .ok (.aload_n 0, 1) := by decide +kernel
theorem dX9_mark__6 : decode cX9_mark_ 6 = .ok (.iload_n 1, 1) := by decide +kernel
theorem dX9_mark__7 : decode cX9_mark_ 7 = .ok (.iload_n 2, 1) := by decide +kernel
theorem dX9_mark__8 : decode cX9_mark_ 8 = .ok (.invokevirtual 89, 3) := by decide +kernel
theorem dX9_mark__11 : decode cX9_mark_ 11 = .ok (.ireturn, 1) := by decide +kernel
set_option maxRecDepth 20000 in
theorem ggX9_marks_X9_latest : GoodIn wsX9_marks wsX9_latest := goodIn_r _ [6, 1, 20, 21, 22, 23, 24, 25, 26, 27, 28, 29, 30, 31, 32, 33, 34, 35, 36, 37] rfl (by decide +kernel)
set_option maxRecDepth 20000 in
theorem gX9_marks_X9_latest : GoodIn wsX9_marks (wsV RX9 74 RX9 yX9_latest wsX9_latest) := goodIn_app (goodIn_of _ (by decide +kernel)) ggX9_marks_X9_latest
set_option maxRecDepth 20000 in
theorem ggX9_marks_X9_isOpen : GoodIn wsX9_marks wsX9_isOpen := goodIn_r _ [10, 1, 20, 21, 22, 23, 24, 25, 26, 27, 28, 29, 30, 31, 32, 33, 34, 35, 36, 37] rfl (by decide +kernel)
set_option maxRecDepth 20000 in
theorem gX9_marks_X9_isOpen : GoodIn wsX9_marks (wsV RX9 70 RX9 yX9_isOpen wsX9_isOpen) := goodIn_app (goodIn_of _ (by decide +kernel)) ggX9_marks_X9_isOpen
set_option maxRecDepth 20000 in
theorem ggX9_marks_X9_at : GoodIn wsX9_marks wsX9_at := goodIn_r _ [13] rfl (by decide +kernel)
set_option maxRecDepth 20000 in
theorem gX9_marks_X9_at : GoodIn wsX9_marks (va_wsS RX9 87 yX9_at wsX9_at) := goodIn_app (goodIn_of _ (by decide +kernel)) ggX9_marks_X9_at
set_option maxRecDepth 20000 in
theorem ggX9_marks_X9_isIn : GoodIn wsX9_marks wsX9_isIn := goodIn_r _ [16] rfl (by decide +kernel)
set_option maxRecDepth 20000 in
theorem gX9_marks_X9_isIn : GoodIn wsX9_marks (va_wsS RX9 43 yX9_isIn wsX9_isIn) := goodIn_app (goodIn_of _ (by decide +kernel)) ggX9_marks_X9_isIn
set_option maxRecDepth 20000 in
theorem ggX9_marks_X9_mark : GoodIn wsX9_marks wsX9_mark := goodIn_r _ [19] rfl (by decide +kernel)
set_option maxRecDepth 20000 in
theorem gX9_marks_X9_mark : GoodIn wsX9_marks (va_wsS RX9 92 yX9_mark wsX9_mark) := goodIn_app (goodIn_of _ (by decide +kernel)) ggX9_marks_X9_mark
theorem dX9_marks_0 : decode cX9_marks 0 = .ok (.aload_n 0, 1) := by decide +kernel
theorem dX9_marks_1 : decode cX9_marks 1 = .ok (.invokevirtual 74, 3) := by decide +kernel
theorem dX9_marks_4 : decode cX9_marks 4 = .ok (.istore_n 3, 1) := by decide +kernel
theorem dX9_marks_5 : decode cX9_marks 5 = .ok (.aload_n 0, 1) := by decide +kernel
theorem dX9_marks_6 : decode cX9_marks 6 = .ok (.invokevirtual 70, 3) := by decide +kernel
theorem dX9_marks_9 : decode cX9_marks 9 = .ok (.ifCond .eq 27, 3) := by decide +kernel
theorem dX9_marks_12 : decode cX9_marks 12 = .ok (.aload_n 0, 1) := by decide +kernel
theorem dX9_marks_13 : decode cX9_marks 13 = .ok (.getfield 7, 3) := by decide +kernel
theorem dX9_marks_16 : decode cX9_marks 16 = .ok (.iload_n 3, 1) := by decide +kernel
theorem dX9_marks_17 : decode cX9_marks 17 = .ok (.iconst 2, 1) := by decide +kernel
theorem dX9_marks_18 : decode cX9_marks 18 = .ok (.invokestatic 87, 3) := by decide +kernel
theorem dX9_marks_21 : decode cX9_marks 21 = .ok (.iaload, 1) := by decide +kernel
theorem dX9_marks_22 : decode cX9_marks 22 = .ok (.bipush 6, 2) := by decide +kernel
theorem dX9_marks_24 : decode cX9_marks 24 = .ok (.if_icmp .eq 12, 3) := by decide +kernel
theorem dX9_marks_27 : decode cX9_marks 27 = .ok (.iload_n 2, 1) := by decide +kernel
theorem dX9_marks_28 : decode cX9_marks 28 = .ok (.iconst 0, 1) := by decide +kernel
theorem dX9_marks_29 : decode cX9_marks 29 = .ok (.iconst 4, 1) := by decide +kernel
theorem dX9_marks_30 : decode cX9_marks 30 = .ok (.invokestatic 43, 3) := by decide +kernel
theorem dX9_marks_33 : decode cX9_marks 33 = .ok (.ifCond .ne 5, 3) := by decide +kernel
theorem dX9_marks_36 : decode cX9_marks 36 = .ok (.iconst (-1), 1) := by decide +kernel
theorem dX9_marks_37 : decode cX9_marks 37 = .ok (.ireturn, 1) := by decide +kernel
theorem dX9_marks_38 : decode cX9_marks 38 = .ok (.aload_n 0, 1) := by decide +kernel
theorem dX9_marks_39 : decode cX9_marks 39 = .ok (.getfield 7, 3) := by decide +kernel
theorem dX9_marks_42 : decode cX9_marks 42 = .ok (.iload_n 3, 1) := by decide +kernel
theorem dX9_marks_43 : decode cX9_marks 43 = .ok (.iconst 2, 1) := by decide +kernel
theorem dX9_marks_44 : decode cX9_marks 44 = .ok (.invokestatic 87, 3) := by decide +kernel
theorem dX9_marks_47 : decode cX9_marks 47 = .ok (.iaload, 1) := by decide +kernel
theorem dX9_marks_48 : decode cX9_marks 48 = .ok (.istore 4, 2) := by decide +kernel
theorem dX9_marks_50 : decode cX9_marks 50 = .ok (.iload_n 1, 1) := by decide +kernel
theorem dX9_marks_51 : decode cX9_marks 51 = .ok (.iload 4, 2) := by decide +kernel
theorem dX9_marks_53 : decode cX9_marks 53 = .ok (.ifCond .ne 7, 3) := by decide +kernel
theorem dX9_marks_56 : decode cX9_marks 56 = .ok (.iconst 1, 1) := by decide +kernel
theorem dX9_marks_57 : decode cX9_marks 57 = .ok (.goto 19, 3) := by decide +kernel
theorem dX9_marks_60 : decode cX9_marks 60 = .ok (.aload_n 0, 1) := by decide +kernel
theorem dX9_marks_61 : decode cX9_marks 61 = .ok (.getfield 7, 3) := by decide +kernel
theorem dX9_marks_64 : decode cX9_marks 64 = .ok (.iload_n 3, 1) := by decide +kernel
theorem dX9_marks_65 : decode cX9_marks 65 = .ok (.iload 4, 2) := by decide +kernel
theorem dX9_marks_67 : decode cX9_marks 67 = .ok (.iconst 1, 1) := by decide +kernel
theorem dX9_marks_68 : decode cX9_marks 68 = .ok (.isub, 1) := by decide +kernel
theorem dX9_marks_69 : decode cX9_marks 69 = .ok (.iconst 0, 1) := by decide +kernel
theorem dX9_marks_70 : decode cX9_marks 70 = .ok (.invokestatic 92, 3) := by decide +kernel
theorem dX9_marks_73 : decode cX9_marks 73 = .ok (.iaload, 1) := by decide +kernel
theorem dX9_marks_74 : decode cX9_marks 74 = .ok (.iconst 1, 1) := by decide +kernel
theorem dX9_marks_75 : decode cX9_marks 75 = .ok (.iadd, 1) := by decide +kernel
theorem dX9_marks_76 : decode cX9_marks 76 = .ok (.aload_n 0, 1) := by decide +kernel
theorem dX9_marks_77 : decode cX9_marks 77 = .ok (.getfield 7, 3) := by decide +kernel
theorem dX9_marks_80 : decode cX9_marks 80 = .ok (.iload_n 3, 1) := by decide +kernel
theorem dX9_marks_81 : decode cX9_marks 81 = .ok (.iconst 1, 1) := by decide +kernel
theorem dX9_marks_82 : decode cX9_marks 82 = .ok (.invokestatic 87, 3) := by decide +kernel
theorem dX9_marks_85 : decode cX9_marks 85 = .ok (.iaload, 1) := by decide +kernel
theorem dX9_marks_86 : decode cX9_marks 86 = .ok (.iconst 1, 1) := by decide +kernel
theorem dX9_marks_87 : decode cX9_marks 87 = .ok (.isub, 1) := by decide +kernel
theorem dX9_marks_88 : decode cX9_marks 88 = .ok (.invokestatic 43, 3) := by decide +kernel
theorem dX9_marks_91 : decode cX9_marks 91 = .ok (.ifCond .ne 5, 3) := by decide +kernel
theorem dX9_marks_94 : decode cX9_marks 94 = .ok (.iconst (-1), 1) := by decide +kernel
theorem dX9_marks_95 : decode cX9_marks 95 = .ok (.ireturn, 1) := by decide +kernel
theorem dX9_marks_96 : decode cX9_marks 96 = .ok (.aload_n 0, 1) := by decide +kernel
theorem dX9_marks_97 : decode cX9_marks 97 = .ok (.getfield 7, 3) := by decide +kernel
theorem dX9_marks_100 : decode cX9_marks 100 = .ok (.iload_n 3, 1) := by decide +kernel
theorem dX9_marks_101 : decode cX9_marks 101 = .ok (.iload 4, 2) := by decide +kernel
theorem dX9_marks_103 : decode cX9_marks 103 = .ok (.iconst 0, 1) := by decide +kernel
theorem dX9_marks_104 : decode cX9_marks 104 = .ok (.invokestatic 92, 3) := by decide +kernel
theorem dX9_marks_107 : decode cX9_marks 107 = .ok (.iload_n 1, 1) := by decide +kernel
theorem dX9_marks_108 : decode cX9_marks 108 = .ok (.iastore, 1) := by decide +kernel
theorem dX9_marks_109 : decode cX9_marks 109 = .ok (.aload_n 0, 1) := by decide +kernel
theorem dX9_marks_110 : decode cX9_marks 110 = .ok (.getfield 7, 3) := by decide +kernel
theorem dX9_marks_113 : decode cX9_marks 113 = .ok (.iload_n 3, 1) := by decide +kernel
theorem dX9_marks_114 : decode cX9_marks 114 = .ok (.iload 4, 2) := by decide +kernel
theorem dX9_marks_116 : decode cX9_marks 116 = .ok (.iconst 1, 1) := by decide +kernel
theorem dX9_marks_117 : decode cX9_marks 117 = .ok (.invokestatic 92, 3) := by decide +kernel
theorem dX9_marks_120 : decode cX9_marks 120 = .ok (.iload_n 2, 1) := by decide +kernel
theorem dX9_marks_121 : decode cX9_marks 121 = .ok (.iastore, 1) := by decide +kernel
theorem dX9_marks_122 : decode cX9_marks 122 = .ok (.aload_n 0, 1) := by decide +kernel
theorem dX9_marks_123 : decode cX9_marks 123 = .ok (.getfield 7, 3) := by decide +kernel
theorem dX9_marks_126 : decode cX9_marks 126 = .ok (.iload_n 3, 1) := by decide +kernel
theorem dX9_marks_127 : decode cX9_marks 127 = .ok (.iload 4, 2) := by decide +kernel
theorem dX9_marks_129 : decode cX9_marks 129 = .ok (.iconst 2, 1) := by decide +kernel
theorem dX9_marks_130 : decode cX9_marks 130 = .ok (.invokestatic 92, 3) := by decide +kernel
theorem dX9_marks_133 : decode cX9_marks 133 = .ok (.iconst 0, 1) := by decide +kernel
theorem dX9_marks_134 : decode cX9_marks 134 = .ok (.iastore, 1) := by decide +kernel
theorem dX9_marks_135 : decode cX9_marks 135 = .ok (.aload_n 0, 1) := by decide +kernel
theorem dX9_marks_136 : decode cX9_marks 136 = .ok (.getfield 7, 3) := by decide +kernel
theorem dX9_marks_139 : decode cX9_marks 139 = .ok (.iload_n 3, 1) := by decide +kernel
theorem dX9_marks_140 : decode cX9_marks 140 = .ok (.iconst 2, 1) := by decide +kernel
theorem dX9_marks_141 : decode cX9_marks 141 = .ok (.invokestatic 87, 3) := by decide +kernel
theorem dX9_marks_144 : decode cX9_marks 144 = .ok (.dup2, 1) := by decide +kernel
theorem dX9_marks_145 : decode cX9_marks 145 = .ok (.iaload, 1) := by decide +kernel
theorem dX9_marks_146 : decode cX9_marks 146 = .ok (.iconst 1, 1) := by decide +kernel
theorem dX9_marks_147 : decode cX9_marks 147 = .ok (.iadd, 1) := by decide +kernel
theorem dX9_marks_148 : decode cX9_marks 148 = .ok (.iastore, 1) := by decide +kernel
theorem dX9_marks_149 : decode cX9_marks 149 = .ok (.iload 4, 2) := by decide +kernel
theorem dX9_marks_151 : decode cX9_marks 151 = .ok (.ireturn, 1) := by decide +kernel
set_option maxRecDepth 20000 in
theorem ggX9_finish_X9_finishes_ : GoodIn wsX9_finish wsX9_finishes_ := goodIn_r _ [6, 7, 8, 9, 10, 11, 5, 12, 13, 14, 15, 16, 17, 18, 19, 20, 21, 22, 23, 24, 25, 26, 27, 28, 29, 30, 31, 32, 33, 34, 35, 36, 37, 38, 39, 40, 41, 42, 43, 44, 45, 46, 47, 48, 49, 50, 51, 52] rfl (by decide +kernel)
set_option maxRecDepth 20000 in
theorem gX9_finish_X9_finishes_ : GoodIn wsX9_finish (wsV RX9 95 RX9 yX9_finishes_ wsX9_finishes_) := goodIn_app (goodIn_of _ (by decide +kernel)) ggX9_finish_X9_finishes_
theorem dX9_finish_0 : decode cX9_finish 0 = .ok (.aload_n 0, 1) := by decide +kernel
theorem dX9_finish_1 : decode cX9_finish 1 = .ok (.iconst 0, 1) := by decide +kernel
theorem dX9_finish_2 : decode cX9_finish 2 = .ok (.putfield 39, 3) := by decide +kernel
theorem dX9_finish_5 : decode cX9_finish 5 = .ok (.aload_n 0, 1) := by decide +kernel
theorem dX9_finish_6 : decode cX9_finish 6 = .ok (.iload_n 1, 1) := by decide +kernel
theorem dX9_finish_7 : decode cX9_finish 7 = .ok (.iload_n 2, 1) := by decide +kernel
theorem dX9_finish_8 : decode cX9_finish 8 = .ok (.invokevirtual 95, 3) := by decide +kernel
theorem dX9_finish_11 : decode cX9_finish 11 = .ok (.ireturn, 1) := by decide +kernel
set_option maxRecDepth 20000 in
theorem ggX9_finishes__X9_isOpen : GoodIn wsX9_finishes_ wsX9_isOpen := goodIn_r _ [7, 2, 30, 31, 32, 33, 34, 35, 36, 37, 38, 39, 40, 41, 42, 43, 44, 45, 46, 47] rfl (by decide +kernel)
set_option maxRecDepth 20000 in
theorem gX9_finishes__X9_isOpen : GoodIn wsX9_finishes_ (wsV RX9 70 RX9 yX9_isOpen wsX9_isOpen) := goodIn_app (goodIn_of _ (by decide +kernel)) ggX9_finishes__X9_isOpen
set_option maxRecDepth 20000 in
theorem ggX9_finishes__X9_isThere : GoodIn wsX9_finishes_ wsX9_isThere := goodIn_r _ [11, 2, 12, 13, 14, 6, 15, 16, 17, 18, 30, 31, 32, 33, 34, 35, 36, 37, 38, 39, 40, 41, 42, 43, 44, 45, 46, 47] rfl (by decide +kernel)
set_option maxRecDepth 20000 in
theorem gX9_finishes__X9_isThere : GoodIn wsX9_finishes_ (wsV RX9 59 RX9 yX9_isThere wsX9_isThere) := goodIn_app (goodIn_of _ (by decide +kernel)) ggX9_finishes__X9_isThere
set_option maxRecDepth 20000 in
theorem ggX9_finishes__X9_isIn : GoodIn wsX9_finishes_ wsX9_isIn := goodIn_r _ [18] rfl (by decide +kernel)
set_option maxRecDepth 20000 in
theorem gX9_finishes__X9_isIn : GoodIn wsX9_finishes_ (va_wsS RX9 43 yX9_isIn wsX9_isIn) := goodIn_app (goodIn_of _ (by decide +kernel)) ggX9_finishes__X9_isIn
set_option maxRecDepth 20000 in
theorem ggX9_finishes__X9_latest : GoodIn wsX9_finishes_ wsX9_latest := goodIn_r _ [22, 2, 30, 31, 32, 33, 34, 35, 36, 37, 38, 39, 40, 41, 42, 43, 44, 45, 46, 47] rfl (by decide +kernel)
set_option maxRecDepth 20000 in
theorem gX9_finishes__X9_latest : GoodIn wsX9_finishes_ (wsV RX9 74 RX9 yX9_latest wsX9_latest) := goodIn_app (goodIn_of _ (by decide +kernel)) ggX9_finishes__X9_latest
set_option maxRecDepth 20000 in
theorem ggX9_finishes__X9_hasFinish : GoodIn wsX9_finishes_ wsX9_hasFinish := goodIn_r _ [26, 2, 27, 28, 6, 29, 30, 31, 32, 33, 34, 35, 36, 37, 38, 39, 40, 41, 42, 43, 44, 45, 46, 47] rfl (by decide +kernel)
set_option maxRecDepth 20000 in
theorem gX9_finishes__X9_hasFinish : GoodIn wsX9_finishes_ (wsV RX9 55 RX9 yX9_hasFinish wsX9_hasFinish) := goodIn_app (goodIn_of _ (by decide +kernel)) ggX9_finishes__X9_hasFinish
set_option maxRecDepth 20000 in
theorem ggX9_finishes__X9_at_ : GoodIn wsX9_finishes_ wsX9_at_ := goodIn_r _ [29] rfl (by decide +kernel)
set_option maxRecDepth 20000 in
theorem gX9_finishes__X9_at_ : GoodIn wsX9_finishes_ (va_wsS RX9 51 yX9_at_ wsX9_at_) := goodIn_app (goodIn_of _ (by decide +kernel)) ggX9_finishes__X9_at_
theorem dX9_finishes__0 : decode cX9_finishes_ 0 = .ok (.aload_n 0, 1) := by decide +kernel
theorem dX9_finishes__1 : decode cX9_finishes_ 1 = .ok (.invokevirtual 70, 3) := by decide +kernel
theorem dX9_finishes__4 : decode cX9_finishes_ 4 = .ok (.ifCond .eq 33, 3) := by decide +kernel
theorem dX9_finishes__7 : decode cX9_finishes_ 7 = .ok (.aload_n 0, 1) := by decide +kernel
theorem dX9_finishes__8 : decode cX9_finishes_ 8 = .ok (.iload_n 1, 1) := by decide +kernel
theorem dX9_finishes__9 : decode cX9_finishes_ 9 = .ok (.invokevirtual 59, 3) := by decide +kernel
theorem dX9_finishes__12 : decode cX9_finishes_ 12 = .ok (.ifCond .eq 25, 3) := by decide +kernel
theorem dX9_finishes__15 : decode cX9_finishes_ 15 = .ok (.iload_n 2, 1) := by decide +kernel
theorem dX9_finishes__16 : decode cX9_finishes_ 16 = .ok (.iconst 1, 1) := by decide +kernel
theorem dX9_finishes__17 : decode cX9_finishes_ 17 = .ok (.ldc 97, 2) := by decide +kernel
theorem dX9_finishes__19 : decode cX9_finishes_ 19 = .ok (.invokestatic 43, 3) := by decide +kernel
theorem dX9_finishes__22 : decode cX9_finishes_ 22 = .ok (.ifCond .eq 15, 3) := by decide +kernel
theorem dX9_finishes__25 : decode cX9_finishes_ 25 = .ok (.aload_n 0, 1) := by decide +kernel
theorem dX9_finishes__26 : decode cX9_finishes_ 26 = .ok (.aload_n 0, 1) := by decide +kernel
theorem dX9_finishes__27 : decode cX9_finishes_ 27 = .ok (.invokevirtual 74, 3) := by decide +kernel
theorem dX9_finishes__30 : decode cX9_finishes_ 30 = .ok (.iload_n 1, 1) := by decide +kernel
theorem dX9_finishes__31 : decode cX9_finishes_ 31 = .ok (.invokevirtual 55, 3) := by decide +kernel
theorem dX9_finishes__34 : decode cX9_finishes_ 34 = .ok (.ifCond .eq 5, 3) := by decide +kernel
theorem dX9_finishes__37 : decode cX9_finishes_ 37 = .ok (.iconst 0, 1) := by decide +kernel
theorem dX9_finishes__38 : decode cX9_finishes_ 38 = .ok (.ireturn, 1) := by decide +kernel
theorem dX9_finishes__39 : decode cX9_finishes_ 39 = .ok (.aload_n 0, 1) := by decide +kernel
theorem dX9_finishes__40 : decode cX9_finishes_ 40 = .ok (.getfield 7, 3) := by decide +kernel
theorem dX9_finishes__43 : decode cX9_finishes_ 43 = .ok (.aload_n 0, 1) := by decide +kernel
theorem dX9_finishes__44 : decode cX9_finishes_ 44 = .ok (.invokevirtual 74, 3) := by decide +kernel
theorem dX9_finishes__47 : decode cX9_finishes_ 47 = .ok (.iload_n 1, 1) := by decide +kernel
theorem dX9_finishes__48 : decode cX9_finishes_ 48 = .ok (.iconst 0, 1) := by decide +kernel
theorem dX9_finishes__49 : decode cX9_finishes_ 49 = .ok (.invokestatic 51, 3) := by decide +kernel
theorem dX9_finishes__52 : decode cX9_finishes_ 52 = .ok (.iload_n 2, 1) := by decide +kernel
theorem dX9_finishes__53 : decode cX9_finishes_ 53 = .ok (.iastore, 1) := by decide +kernel
theorem dX9_finishes__54 : decode cX9_finishes_ 54 = .ok (.iconst 1, 1) := by decide +kernel
theorem dX9_finishes__55 : decode cX9_finishes_ 55 = .ok (.ireturn, 1) := by decide +kernel
set_option maxRecDepth 20000 in
theorem ggX9_over_X9_overs : GoodIn wsX9_over wsX9_overs := goodIn_r _ [6, 7, 8, 9, 10, 5, 11, 12, 13, 14, 15, 16, 17, 18, 19, 20, 21, 22, 23, 24, 25, 26, 27, 28, 29, 30, 31, 32, 33, 34, 35, 36, 37, 38, 39, 40, 41, 42, 43, 44, 45, 46, 47, 48, 49, 50] rfl (by decide +kernel)
set_option maxRecDepth 20000 in
theorem gX9_over_X9_overs : GoodIn wsX9_over (wsV RX9 98 RX9 yX9_overs wsX9_overs) := goodIn_app (goodIn_of _ (by decide +kernel)) ggX9_over_X9_overs
theorem dX9_over_0 : decode cX9_over 0 = .ok (.aload_n 0, 1) := by decide +kernel
theorem dX9_over_1 : decode cX9_over 1 = .ok (.iconst 0, 1) := by decide +kernel
theorem dX9_over_2 : decode cX9_over 2 = .ok (.putfield 39, 3) := by decide +kernel
theorem dX9_over_5 : decode cX9_over 5 = .ok (.aload_n 0, 1) := by decide +kernel
theorem dX9_over_6 : decode cX9_over 6 = .ok (.iload_n 1, 1) := by decide +kernel
theorem dX9_over_7 : decode cX9_over 7 = .ok (.iload_n 2, 1) := by decide +kernel
theorem dX9_over_8 : decode cX9_over 8 = .ok (.invokevirtual 98, 3) := by decide +kernel
theorem dX9_over_11 : decode cX9_over 11 = .ok (.ireturn, 1) := by decide +kernel
set_option maxRecDepth 20000 in
theorem ggX9_overs_X9_latest : GoodIn wsX9_overs wsX9_latest := goodIn_r _ [6, 1, 28, 29, 30, 31, 32, 33, 34, 35, 36, 37, 38, 39, 40, 41, 42, 43, 44, 45] rfl (by decide +kernel)
set_option maxRecDepth 20000 in
theorem gX9_overs_X9_latest : GoodIn wsX9_overs (wsV RX9 74 RX9 yX9_latest wsX9_latest) := goodIn_app (goodIn_of _ (by decide +kernel)) ggX9_overs_X9_latest
set_option maxRecDepth 20000 in
theorem ggX9_overs_X9_isOpen : GoodIn wsX9_overs wsX9_isOpen := goodIn_r _ [10, 1, 28, 29, 30, 31, 32, 33, 34, 35, 36, 37, 38, 39, 40, 41, 42, 43, 44, 45] rfl (by decide +kernel)
set_option maxRecDepth 20000 in
theorem gX9_overs_X9_isOpen : GoodIn wsX9_overs (wsV RX9 70 RX9 yX9_isOpen wsX9_isOpen) := goodIn_app (goodIn_of _ (by decide +kernel)) ggX9_overs_X9_isOpen
set_option maxRecDepth 20000 in
theorem ggX9_overs_X9_at : GoodIn wsX9_overs wsX9_at := goodIn_r _ [13] rfl (by decide +kernel)
set_option maxRecDepth 20000 in
theorem gX9_overs_X9_at : GoodIn wsX9_overs (va_wsS RX9 87 yX9_at wsX9_at) := goodIn_app (goodIn_of _ (by decide +kernel)) ggX9_overs_X9_at
set_option maxRecDepth 20000 in
theorem ggX9_overs_X9_isIn : GoodIn wsX9_overs wsX9_isIn := goodIn_r _ [16] rfl (by decide +kernel)
set_option maxRecDepth 20000 in
theorem gX9_overs_X9_isIn : GoodIn wsX9_overs (va_wsS RX9 43 yX9_isIn wsX9_isIn) := goodIn_app (goodIn_of _ (by decide +kernel)) ggX9_overs_X9_isIn
set_option maxRecDepth 20000 in
theorem ggX9_overs_X9_isThere : GoodIn wsX9_overs wsX9_isThere := goodIn_r _ [20, 1, 21, 22, 23, 5, 24, 14, 15, 16, 28, 29, 30, 31, 32, 33, 34, 35, 36, 37, 38, 39, 40, 41, 42, 43, 44, 45] rfl (by decide +kernel)
set_option maxRecDepth 20000 in
theorem gX9_overs_X9_isThere : GoodIn wsX9_overs (wsV RX9 59 RX9 yX9_isThere wsX9_isThere) := goodIn_app (goodIn_of _ (by decide +kernel)) ggX9_overs_X9_isThere
set_option maxRecDepth 20000 in
theorem ggX9_overs_X9_mark : GoodIn wsX9_overs wsX9_mark := goodIn_r _ [27] rfl (by decide +kernel)
set_option maxRecDepth 20000 in
theorem gX9_overs_X9_mark : GoodIn wsX9_overs (va_wsS RX9 92 yX9_mark wsX9_mark) := goodIn_app (goodIn_of _ (by decide +kernel)) ggX9_overs_X9_mark
theorem dX9_overs_0 : decode cX9_overs 0 = .ok (.aload_n 0, 1) := by decide +kernel
theorem dX9_overs_1 : decode cX9_overs 1 = .ok (.invokevirtual 74, 3) := by decide +kernel
theorem dX9_overs_4 : decode cX9_overs 4 = .ok (.istore_n 3, 1) := by decide +kernel
theorem dX9_overs_5 : decode cX9_overs 5 = .ok (.aload_n 0, 1) := by decide +kernel
theorem dX9_overs_6 : decode cX9_overs 6 = .ok (.invokevirtual 70, 3) := by decide +kernel
theorem dX9_overs_9 : decode cX9_overs 9 = .ok (.ifCond .eq 31, 3) := by decide +kernel
theorem dX9_overs_12 : decode cX9_overs 12 = .ok (.iload_n 1, 1) := by decide +kernel
theorem dX9_overs_13 : decode cX9_overs 13 = .ok (.iconst 0, 1) := by decide +kernel
theorem dX9_overs_14 : decode cX9_overs 14 = .ok (.aload_n 0, 1) := by decide +kernel
theorem dX9_overs_15 : decode cX9_overs 15 = .ok (.getfield 7, 3) := by decide +kernel
theorem dX9_overs_18 : decode cX9_overs 18 = .ok (.iload_n 3, 1) := by decide +kernel
theorem dX9_overs_19 : decode cX9_overs 19 = .ok (.iconst 2, 1) := by decide +kernel
theorem dX9_overs_20 : decode cX9_overs 20 = .ok (.invokestatic 87, 3) := by decide +kernel
theorem dX9_overs_23 : decode cX9_overs 23 = .ok (.iaload, 1) := by decide +kernel
theorem dX9_overs_24 : decode cX9_overs 24 = .ok (.iconst 1, 1) := by decide +kernel
theorem dX9_overs_25 : decode cX9_overs 25 = .ok (.isub, 1) := by decide +kernel
theorem dX9_overs_26 : decode cX9_overs 26 = .ok (.invokestatic 43, 3) := by decide +kernel
theorem dX9_overs_29 : decode cX9_overs 29 = .ok (.ifCond .eq 11, 3) := by decide +kernel
theorem dX9_overs_32 : decode cX9_overs 32 = .ok (.aload_n 0, 1) := by decide +kernel
theorem dX9_overs_33 : decode cX9_overs 33 = .ok (.iload_n 2, 1) := by decide +kernel
theorem dX9_overs_34 : decode cX9_overs 34 = .ok (.invokevirtual 59, 3) := by decide +kernel
theorem dX9_overs_37 : decode cX9_overs 37 = .ok (.ifCond .ne 5, 3) := by decide +kernel
theorem dX9_overs_40 : decode cX9_overs 40 = .ok (.iconst (-1), 1) := by decide +kernel
theorem dX9_overs_41 : decode cX9_overs 41 = .ok (.ireturn, 1) := by decide +kernel
theorem dX9_overs_42 : decode cX9_overs 42 = .ok (.aload_n 0, 1) := by decide +kernel
theorem dX9_overs_43 : decode cX9_overs 43 = .ok (.getfield 7, 3) := by decide +kernel
theorem dX9_overs_46 : decode cX9_overs 46 = .ok (.iload_n 3, 1) := by decide +kernel
theorem dX9_overs_47 : decode cX9_overs 47 = .ok (.iload_n 1, 1) := by decide +kernel
theorem dX9_overs_48 : decode cX9_overs 48 = .ok (.iconst 2, 1) := by decide +kernel
theorem dX9_overs_49 : decode cX9_overs 49 = .ok (.invokestatic 92, 3) := by decide +kernel
theorem dX9_overs_52 : decode cX9_overs 52 = .ok (.iaload, 1) := by decide +kernel
theorem dX9_overs_53 : decode cX9_overs 53 = .ok (.istore 4, 2) := by decide +kernel
theorem dX9_overs_55 : decode cX9_overs 55 = .ok (.iconst 0, 1) := by decide +kernel
theorem dX9_overs_56 : decode cX9_overs 56 = .ok (.istore 5, 2) := by decide +kernel
theorem dX9_overs_58 : decode cX9_overs 58 = .ok (.iload 5, 2) := by decide +kernel
theorem dX9_overs_60 : decode cX9_overs 60 = .ok (.iload 4, 2) := by decide +kernel
theorem dX9_overs_62 : decode cX9_overs 62 = .ok (.if_icmp .ge 29, 3) := by decide +kernel
theorem dX9_overs_65 : decode cX9_overs 65 = .ok (.aload_n 0, 1) := by decide +kernel
theorem dX9_overs_66 : decode cX9_overs 66 = .ok (.getfield 7, 3) := by decide +kernel
theorem dX9_overs_69 : decode cX9_overs 69 = .ok (.iload_n 3, 1) := by decide +kernel
theorem dX9_overs_70 : decode cX9_overs 70 = .ok (.iload_n 1, 1) := by decide +kernel
theorem dX9_overs_71 : decode cX9_overs 71 = .ok (.iconst 3, 1) := by decide +kernel
theorem dX9_overs_72 : decode cX9_overs 72 = .ok (.iload 5, 2) := by decide +kernel
theorem dX9_overs_74 : decode cX9_overs 74 = .ok (.iadd, 1) := by decide +kernel
theorem dX9_overs_75 : decode cX9_overs 75 = .ok (.invokestatic 92, 3) := by decide +kernel
theorem dX9_overs_78 : decode cX9_overs 78 = .ok (.iaload, 1) := by decide +kernel
theorem dX9_overs_79 : decode cX9_overs 79 = .ok (.iload_n 2, 1) := by decide +kernel
theorem dX9_overs_80 : decode cX9_overs 80 = .ok (.if_icmp .ne 5, 3) := by decide +kernel
theorem dX9_overs_83 : decode cX9_overs 83 = .ok (.iconst (-1), 1) := by decide +kernel
theorem dX9_overs_84 : decode cX9_overs 84 = .ok (.ireturn, 1) := by decide +kernel
theorem dX9_overs_85 : decode cX9_overs 85 = .ok (.iinc 5 1, 3) := by decide +kernel
theorem dX9_overs_88 : decode cX9_overs 88 = .ok (.goto (-30), 3) := by decide +kernel
theorem dX9_overs_91 : decode cX9_overs 91 = .ok (.aload_n 0, 1) := by decide +kernel
theorem dX9_overs_92 : decode cX9_overs 92 = .ok (.getfield 7, 3) := by decide +kernel
theorem dX9_overs_95 : decode cX9_overs 95 = .ok (.iload_n 3, 1) := by decide +kernel
theorem dX9_overs_96 : decode cX9_overs 96 = .ok (.iload_n 1, 1) := by decide +kernel
theorem dX9_overs_97 : decode cX9_overs 97 = .ok (.iconst 3, 1) := by decide +kernel
theorem dX9_overs_98 : decode cX9_overs 98 = .ok (.iload 4, 2) := by decide +kernel
theorem dX9_overs_100 : decode cX9_overs 100 = .ok (.iadd, 1) := by decide +kernel
theorem dX9_overs_101 : decode cX9_overs 101 = .ok (.invokestatic 92, 3) := by decide +kernel
theorem dX9_overs_104 : decode cX9_overs 104 = .ok (.iload_n 2, 1) := by decide +kernel
theorem dX9_overs_105 : decode cX9_overs 105 = .ok (.iastore, 1) := by decide +kernel
theorem dX9_overs_106 : decode cX9_overs 106 = .ok (.aload_n 0, 1) := by decide +kernel
theorem dX9_overs_107 : decode cX9_overs 107 = .ok (.getfield 7, 3) := by decide +kernel
theorem dX9_overs_110 : decode cX9_overs 110 = .ok (.iload_n 3, 1) := by decide +kernel
theorem dX9_overs_111 : decode cX9_overs 111 = .ok (.iload_n 1, 1) := by decide +kernel
theorem dX9_overs_112 : decode cX9_overs 112 = .ok (.iconst 2, 1) := by decide +kernel
theorem dX9_overs_113 : decode cX9_overs 113 = .ok (.invokestatic 92, 3) := by decide +kernel
theorem dX9_overs_116 : decode cX9_overs 116 = .ok (.dup2, 1) := by decide +kernel
theorem dX9_overs_117 : decode cX9_overs 117 = .ok (.iaload, 1) := by decide +kernel
theorem dX9_overs_118 : decode cX9_overs 118 = .ok (.iconst 1, 1) := by decide +kernel
theorem dX9_overs_119 : decode cX9_overs 119 = .ok (.iadd, 1) := by decide +kernel
theorem dX9_overs_120 : decode cX9_overs 120 = .ok (.iastore, 1) := by decide +kernel
theorem dX9_overs_121 : decode cX9_overs 121 = .ok (.iload 4, 2) := by decide +kernel
theorem dX9_overs_123 : decode cX9_overs 123 = .ok (.iconst 1, 1) := by decide +kernel
theorem dX9_overs_124 : decode cX9_overs 124 = .ok (.iadd, 1) := by decide +kernel
theorem dX9_overs_125 : decode cX9_overs 125 = .ok (.ireturn, 1) := by decide +kernel
set_option maxRecDepth 20000 in
theorem ggX9_fall_X9_falls : GoodIn wsX9_fall wsX9_falls := goodIn_r _ [6, 7, 8, 9, 10, 5, 11, 12, 13, 14, 15, 16, 17, 18, 19, 20, 21, 22, 23, 24, 25, 26, 27, 28, 29, 30, 31, 32, 33, 34, 35, 36, 37, 38, 39, 40, 41, 42, 43, 44, 45, 46, 47, 48, 49, 50] rfl (by decide +kernel)
set_option maxRecDepth 20000 in
theorem gX9_fall_X9_falls : GoodIn wsX9_fall (wsV RX9 101 RX9 yX9_falls wsX9_falls) := goodIn_app (goodIn_of _ (by decide +kernel)) ggX9_fall_X9_falls
theorem dX9_fall_0 : decode cX9_fall 0 = .ok (.aload_n 0, 1) := by decide +kernel
theorem dX9_fall_1 : decode cX9_fall 1 = .ok (.iconst 0, 1) := by decide +kernel
theorem dX9_fall_2 : decode cX9_fall 2 = .ok (.putfield 39, 3) := by decide +kernel
theorem dX9_fall_5 : decode cX9_fall 5 = .ok (.aload_n 0, 1) := by decide +kernel
theorem dX9_fall_6 : decode cX9_fall 6 = .ok (.iload_n 1, 1) := by decide +kernel
theorem dX9_fall_7 : decode cX9_fall 7 = .ok (.iload_n 2, 1) := by decide +kernel
theorem dX9_fall_8 : decode cX9_fall 8 = .ok (.iload_n 3, 1) := by decide +kernel
theorem dX9_fall_9 : decode cX9_fall 9 = .ok (.invokevirtual 101, 3) := by decide +kernel
theorem dX9_fall_12 : decode cX9_fall 12 = .ok (.ireturn, 1) := by decide +kernel
set_option maxRecDepth 20000 in
theorem ggX9_falls_X9_latest : GoodIn wsX9_falls wsX9_latest := goodIn_r _ [6, 1, 28, 29, 30, 31, 32, 33, 34, 35, 36, 37, 38, 39, 40, 41, 42, 43, 44, 45] rfl (by decide +kernel)
set_option maxRecDepth 20000 in
theorem gX9_falls_X9_latest : GoodIn wsX9_falls (wsV RX9 74 RX9 yX9_latest wsX9_latest) := goodIn_app (goodIn_of _ (by decide +kernel)) ggX9_falls_X9_latest
set_option maxRecDepth 20000 in
theorem ggX9_falls_X9_isOpen : GoodIn wsX9_falls wsX9_isOpen := goodIn_r _ [10, 1, 28, 29, 30, 31, 32, 33, 34, 35, 36, 37, 38, 39, 40, 41, 42, 43, 44, 45] rfl (by decide +kernel)
set_option maxRecDepth 20000 in
theorem gX9_falls_X9_isOpen : GoodIn wsX9_falls (wsV RX9 70 RX9 yX9_isOpen wsX9_isOpen) := goodIn_app (goodIn_of _ (by decide +kernel)) ggX9_falls_X9_isOpen
set_option maxRecDepth 20000 in
theorem ggX9_falls_X9_isThere : GoodIn wsX9_falls wsX9_isThere := goodIn_r _ [14, 1, 15, 16, 17, 5, 18, 19, 20, 21, 28, 29, 30, 31, 32, 33, 34, 35, 36, 37, 38, 39, 40, 41, 42, 43, 44, 45] rfl (by decide +kernel)
set_option maxRecDepth 20000 in
theorem gX9_falls_X9_isThere : GoodIn wsX9_falls (wsV RX9 59 RX9 yX9_isThere wsX9_isThere) := goodIn_app (goodIn_of _ (by decide +kernel)) ggX9_falls_X9_isThere
set_option maxRecDepth 20000 in
theorem ggX9_falls_X9_at : GoodIn wsX9_falls wsX9_at := goodIn_r _ [24] rfl (by decide +kernel)
set_option maxRecDepth 20000 in
theorem gX9_falls_X9_at : GoodIn wsX9_falls (va_wsS RX9 87 yX9_at wsX9_at) := goodIn_app (goodIn_of _ (by decide +kernel)) ggX9_falls_X9_at
set_option maxRecDepth 20000 in
theorem ggX9_falls_X9_isIn : GoodIn wsX9_falls wsX9_isIn := goodIn_r _ [21] rfl (by decide +kernel)
set_option maxRecDepth 20000 in
theorem gX9_falls_X9_isIn : GoodIn wsX9_falls (va_wsS RX9 43 yX9_isIn wsX9_isIn) := goodIn_app (goodIn_of _ (by decide +kernel)) ggX9_falls_X9_isIn
set_option maxRecDepth 20000 in
theorem ggX9_falls_X9_at_ : GoodIn wsX9_falls wsX9_at_ := goodIn_r _ [27] rfl (by decide +kernel)
set_option maxRecDepth 20000 in
theorem gX9_falls_X9_at_ : GoodIn wsX9_falls (va_wsS RX9 51 yX9_at_ wsX9_at_) := goodIn_app (goodIn_of _ (by decide +kernel)) ggX9_falls_X9_at_
theorem dX9_falls_0 : decode cX9_falls 0 = .ok (.aload_n 0, 1) := by decide +kernel
theorem dX9_falls_1 : decode cX9_falls 1 = .ok (.invokevirtual 74, 3) := by decide +kernel
theorem dX9_falls_4 : decode cX9_falls 4 = .ok (.istore 4, 2) := by decide +kernel
theorem dX9_falls_6 : decode cX9_falls 6 = .ok (.aload_n 0, 1) := by decide +kernel
theorem dX9_falls_7 : decode cX9_falls 7 = .ok (.invokevirtual 70, 3) := by decide +kernel
theorem dX9_falls_10 : decode cX9_falls 10 = .ok (.ifCond .eq 64, 3) := by decide +kernel
theorem dX9_falls_13 : decode cX9_falls 13 = .ok (.aload_n 0, 1) := by decide +kernel
theorem dX9_falls_14 : decode cX9_falls 14 = .ok (.iload_n 1, 1) := by decide +kernel
theorem dX9_falls_15 : decode cX9_falls 15 = .ok (.invokevirtual 59, 3) := by decide +kernel
theorem dX9_falls_18 : decode cX9_falls 18 = .ok (.ifCond .eq 56, 3) := by decide +kernel
theorem dX9_falls_21 : decode cX9_falls 21 = .ok (.iload_n 2, 1) := by decide +kernel
theorem dX9_falls_22 : decode cX9_falls 22 = .ok (.iconst 0, 1) := by decide +kernel
theorem dX9_falls_23 : decode cX9_falls 23 = .ok (.aload_n 0, 1) := by decide +kernel
theorem dX9_falls_24 : decode cX9_falls 24 = .ok (.getfield 7, 3) := by decide +kernel
theorem dX9_falls_27 : decode cX9_falls 27 = .ok (.iload 4, 2) := by decide +kernel
theorem dX9_falls_29 : decode cX9_falls 29 = .ok (.iconst 1, 1) := by decide +kernel
theorem dX9_falls_30 : decode cX9_falls 30 = .ok (.invokestatic 87, 3) := by decide +kernel
theorem dX9_falls_33 : decode cX9_falls 33 = .ok (.iaload, 1) := by decide +kernel
theorem dX9_falls_34 : decode cX9_falls 34 = .ok (.invokestatic 43, 3) := by decide +kernel
theorem dX9_falls_37 : decode cX9_falls 37 = .ok (.ifCond .eq 37, 3) := by decide +kernel
theorem dX9_falls_40 : decode cX9_falls 40 = .ok (.iload_n 3, 1) := by decide +kernel
theorem dX9_falls_41 : decode cX9_falls 41 = .ok (.iload_n 1, 1) := by decide +kernel
theorem dX9_falls_42 : decode cX9_falls 42 = .ok (.if_icmp .eq 32, 3) := by decide +kernel
theorem dX9_falls_45 : decode cX9_falls 45 = .ok (.iload_n 3, 1) := by decide +kernel
theorem dX9_falls_46 : decode cX9_falls 46 = .ok (.iconst (-1), 1) := by decide +kernel
theorem dX9_falls_47 : decode cX9_falls 47 = .ok (.if_icmp .eq 11, 3) := by decide +kernel
theorem dX9_falls_50 : decode cX9_falls 50 = .ok (.aload_n 0, 1) := by decide +kernel
theorem dX9_falls_51 : decode cX9_falls 51 = .ok (.iload_n 3, 1) := by decide +kernel
theorem dX9_falls_52 : decode cX9_falls 52 = .ok (.invokevirtual 59, 3) := by decide +kernel
theorem dX9_falls_55 : decode cX9_falls 55 = .ok (.ifCond .eq 19, 3) := by decide +kernel
theorem dX9_falls_58 : decode cX9_falls 58 = .ok (.aload_n 0, 1) := by decide +kernel
theorem dX9_falls_59 : decode cX9_falls 59 = .ok (.getfield 7, 3) := by decide +kernel
theorem dX9_falls_62 : decode cX9_falls 62 = .ok (.iload 4, 2) := by decide +kernel
theorem dX9_falls_64 : decode cX9_falls 64 = .ok (.iload_n 1, 1) := by decide +kernel
theorem dX9_falls_65 : decode cX9_falls 65 = .ok (.iconst 1, 1) := by decide +kernel
theorem dX9_falls_66 : decode cX9_falls 66 = .ok (.invokestatic 51, 3) := by decide +kernel
theorem dX9_falls_69 : decode cX9_falls 69 = .ok (.iaload, 1) := by decide +kernel
theorem dX9_falls_70 : decode cX9_falls 70 = .ok (.iconst (-1), 1) := by decide +kernel
theorem dX9_falls_71 : decode cX9_falls 71 = .ok (.if_icmp .eq 5, 3) := by decide +kernel
theorem dX9_falls_74 : decode cX9_falls 74 = .ok (.iconst 0, 1) := by decide +kernel
theorem dX9_falls_75 : decode cX9_falls 75 = .ok (.ireturn, 1) := by decide +kernel
theorem dX9_falls_76 : decode cX9_falls 76 = .ok (.aload_n 0, 1) := by decide +kernel
theorem dX9_falls_77 : decode cX9_falls 77 = .ok (.getfield 7, 3) := by decide +kernel
theorem dX9_falls_80 : decode cX9_falls 80 = .ok (.iload 4, 2) := by decide +kernel
theorem dX9_falls_82 : decode cX9_falls 82 = .ok (.iload_n 1, 1) := by decide +kernel
theorem dX9_falls_83 : decode cX9_falls 83 = .ok (.iconst 1, 1) := by decide +kernel
theorem dX9_falls_84 : decode cX9_falls 84 = .ok (.invokestatic 51, 3) := by decide +kernel
theorem dX9_falls_87 : decode cX9_falls 87 = .ok (.iload_n 2, 1) := by decide +kernel
theorem dX9_falls_88 : decode cX9_falls 88 = .ok (.iastore, 1) := by decide +kernel
theorem dX9_falls_89 : decode cX9_falls 89 = .ok (.aload_n 0, 1) := by decide +kernel
theorem dX9_falls_90 : decode cX9_falls 90 = .ok (.getfield 7, 3) := by decide +kernel
theorem dX9_falls_93 : decode cX9_falls 93 = .ok (.iload 4, 2) := by decide +kernel
theorem dX9_falls_95 : decode cX9_falls 95 = .ok (.iload_n 1, 1) := by decide +kernel
theorem dX9_falls_96 : decode cX9_falls 96 = .ok (.iconst 2, 1) := by decide +kernel
theorem dX9_falls_97 : decode cX9_falls 97 = .ok (.invokestatic 51, 3) := by decide +kernel
theorem dX9_falls_100 : decode cX9_falls 100 = .ok (.iload_n 3, 1) := by decide +kernel
theorem dX9_falls_101 : decode cX9_falls 101 = .ok (.iastore, 1) := by decide +kernel
theorem dX9_falls_102 : decode cX9_falls 102 = .ok (.iconst 1, 1) := by decide +kernel
theorem dX9_falls_103 : decode cX9_falls 103 = .ok (.ireturn, 1) := by decide +kernel
set_option maxRecDepth 20000 in
theorem ggX9_jury_X9_juries : GoodIn wsX9_jury wsX9_juries := goodIn_r _ [6, 7, 8, 9, 10, 11, 5, 12, 13, 14, 15, 16, 17, 18, 19, 20, 21, 22, 23, 24, 25, 26, 27, 28, 29, 30, 31, 32, 33, 34, 35, 36, 37, 38, 39, 40, 41, 42, 43, 44, 45, 46, 47, 48] rfl (by decide +kernel)
set_option maxRecDepth 20000 in
theorem gX9_jury_X9_juries : GoodIn wsX9_jury (wsV RX9 104 RX9 yX9_juries wsX9_juries) := goodIn_app (goodIn_of _ (by decide +kernel)) ggX9_jury_X9_juries
theorem dX9_jury_0 : decode cX9_jury 0 = .ok (.aload_n 0, 1) := by decide +kernel
theorem dX9_jury_1 : decode cX9_jury 1 = .ok (.iconst 0, 1) := by decide +kernel
theorem dX9_jury_2 : decode cX9_jury 2 = .ok (.putfield 39, 3) := by decide +kernel
theorem dX9_jury_5 : decode cX9_jury 5 = .ok (.aload_n 0, 1) := by decide +kernel
theorem dX9_jury_6 : decode cX9_jury 6 = .ok (.iload_n 1, 1) := by decide +kernel
theorem dX9_jury_7 : decode cX9_jury 7 = .ok (.iload_n 2, 1) := by decide +kernel
theorem dX9_jury_8 : decode cX9_jury 8 = .ok (.invokevirtual 104, 3) := by decide +kernel
theorem dX9_jury_11 : decode cX9_jury 11 = .ok (.ireturn, 1) := by decide +kernel
set_option maxRecDepth 20000 in
theorem ggX9_juries_X9_isOpen : GoodIn wsX9_juries wsX9_isOpen := goodIn_r _ [7, 1, 26, 27, 28, 29, 30, 31, 32, 33, 34, 35, 36, 37, 38, 39, 40, 41, 42, 43] rfl (by decide +kernel)
set_option maxRecDepth 20000 in
theorem gX9_juries_X9_isOpen : GoodIn wsX9_juries (wsV RX9 70 RX9 yX9_isOpen wsX9_isOpen) := goodIn_app (goodIn_of _ (by decide +kernel)) ggX9_juries_X9_isOpen
set_option maxRecDepth 20000 in
theorem ggX9_juries_X9_isThere : GoodIn wsX9_juries wsX9_isThere := goodIn_r _ [11, 1, 12, 13, 14, 6, 15, 16, 17, 18, 26, 27, 28, 29, 30, 31, 32, 33, 34, 35, 36, 37, 38, 39, 40, 41, 42, 43] rfl (by decide +kernel)
set_option maxRecDepth 20000 in
theorem gX9_juries_X9_isThere : GoodIn wsX9_juries (wsV RX9 59 RX9 yX9_isThere wsX9_isThere) := goodIn_app (goodIn_of _ (by decide +kernel)) ggX9_juries_X9_isThere
set_option maxRecDepth 20000 in
theorem ggX9_juries_X9_isIn : GoodIn wsX9_juries wsX9_isIn := goodIn_r _ [18] rfl (by decide +kernel)
set_option maxRecDepth 20000 in
theorem gX9_juries_X9_isIn : GoodIn wsX9_juries (va_wsS RX9 43 yX9_isIn wsX9_isIn) := goodIn_app (goodIn_of _ (by decide +kernel)) ggX9_juries_X9_isIn
set_option maxRecDepth 20000 in
theorem ggX9_juries_X9_latest : GoodIn wsX9_juries wsX9_latest := goodIn_r _ [22, 1, 26, 27, 28, 29, 30, 31, 32, 33, 34, 35, 36, 37, 38, 39, 40, 41, 42, 43] rfl (by decide +kernel)
set_option maxRecDepth 20000 in
theorem gX9_juries_X9_latest : GoodIn wsX9_juries (wsV RX9 74 RX9 yX9_latest wsX9_latest) := goodIn_app (goodIn_of _ (by decide +kernel)) ggX9_juries_X9_latest
set_option maxRecDepth 20000 in
theorem ggX9_juries_X9_at_ : GoodIn wsX9_juries wsX9_at_ := goodIn_r _ [25] rfl (by decide +kernel)
set_option maxRecDepth 20000 in
theorem gX9_juries_X9_at_ : GoodIn wsX9_juries (va_wsS RX9 51 yX9_at_ wsX9_at_) := goodIn_app (goodIn_of _ (by decide +kernel)) ggX9_juries_X9_at_
theorem dX9_juries_0 : decode cX9_juries 0 = .ok (.aload_n 0, 1) := by decide +kernel
theorem dX9_juries_1 : decode cX9_juries 1 = .ok (.invokevirtual 70, 3) := by decide +kernel
theorem dX9_juries_4 : decode cX9_juries 4 = .ok (.ifCond .eq 22, 3) := by decide +kernel
theorem dX9_juries_7 : decode cX9_juries 7 = .ok (.aload_n 0, 1) := by decide +kernel
theorem dX9_juries_8 : decode cX9_juries 8 = .ok (.iload_n 1, 1) := by decide +kernel
theorem dX9_juries_9 : decode cX9_juries 9 = .ok (.invokevirtual 59, 3) := by decide +kernel
theorem dX9_juries_12 : decode cX9_juries 12 = .ok (.ifCond .eq 14, 3) := by decide +kernel
theorem dX9_juries_15 : decode cX9_juries 15 = .ok (.iload_n 2, 1) := by decide +kernel
theorem dX9_juries_16 : decode cX9_juries 16 = .ok (.iconst 1, 1) := by decide +kernel
theorem dX9_juries_17 : decode cX9_juries 17 = .ok (.sipush 3600, 3) := by decide +kernel
theorem dX9_juries_20 : decode cX9_juries 20 = .ok (.invokestatic 43, 3) := by decide +kernel
theorem dX9_juries_23 : decode cX9_juries 23 = .ok (.ifCond .ne 5, 3) := by decide +kernel
theorem dX9_juries_26 : decode cX9_juries 26 = .ok (.iconst (-1), 1) := by decide +kernel
theorem dX9_juries_27 : decode cX9_juries 27 = .ok (.ireturn, 1) := by decide +kernel
theorem dX9_juries_28 : decode cX9_juries 28 = .ok (.aload_n 0, 1) := by decide +kernel
theorem dX9_juries_29 : decode cX9_juries 29 = .ok (.invokevirtual 74, 3) := by decide +kernel
theorem dX9_juries_32 : decode cX9_juries 32 = .ok (.iload_n 1, 1) := by decide +kernel
theorem dX9_juries_33 : decode cX9_juries 33 = .ok (.iconst 3, 1) := by decide +kernel
theorem dX9_juries_34 : decode cX9_juries 34 = .ok (.invokestatic 51, 3) := by decide +kernel
theorem dX9_juries_37 : decode cX9_juries 37 = .ok (.istore_n 3, 1) := by decide +kernel
theorem dX9_juries_38 : decode cX9_juries 38 = .ok (.aload_n 0, 1) := by decide +kernel
theorem dX9_juries_39 : decode cX9_juries 39 = .ok (.getfield 7, 3) := by decide +kernel
theorem dX9_juries_42 : decode cX9_juries 42 = .ok (.iload_n 3, 1) := by decide +kernel
theorem dX9_juries_43 : decode cX9_juries 43 = .ok (.iaload, 1) := by decide +kernel
theorem dX9_juries_44 : decode cX9_juries 44 = .ok (.iload_n 2, 1) := by decide +kernel
theorem dX9_juries_45 : decode cX9_juries 45 = .ok (.iadd, 1) := by decide +kernel
theorem dX9_juries_46 : decode cX9_juries 46 = .ok (.ldc 107, 2) := by decide +kernel
theorem dX9_juries_48 : decode cX9_juries 48 = .ok (.if_icmp .le 5, 3) := by decide +kernel
theorem dX9_juries_51 : decode cX9_juries 51 = .ok (.iconst (-1), 1) := by decide +kernel
theorem dX9_juries_52 : decode cX9_juries 52 = .ok (.ireturn, 1) := by decide +kernel
theorem dX9_juries_53 : decode cX9_juries 53 = .ok (.aload_n 0, 1) := by decide +kernel
theorem dX9_juries_54 : decode cX9_juries 54 = .ok (.getfield 7, 3) := by decide +kernel
theorem dX9_juries_57 : decode cX9_juries 57 = .ok (.iload_n 3, 1) := by decide +kernel
theorem dX9_juries_58 : decode cX9_juries 58 = .ok (.dup2, 1) := by decide +kernel
theorem dX9_juries_59 : decode cX9_juries 59 = .ok (.iaload, 1) := by decide +kernel
theorem dX9_juries_60 : decode cX9_juries 60 = .ok (.iload_n 2, 1) := by decide +kernel
theorem dX9_juries_61 : decode cX9_juries 61 = .ok (.iadd, 1) := by decide +kernel
theorem dX9_juries_62 : decode cX9_juries 62 = .ok (.iastore, 1) := by decide +kernel
theorem dX9_juries_63 : decode cX9_juries 63 = .ok (.aload_n 0, 1) := by decide +kernel
theorem dX9_juries_64 : decode cX9_juries 64 = .ok (.getfield 7, 3) := by decide +kernel
theorem dX9_juries_67 : decode cX9_juries 67 = .ok (.iload_n 3, 1) := by decide +kernel
theorem dX9_juries_68 : decode cX9_juries 68 = .ok (.iaload, 1) := by decide +kernel
theorem dX9_juries_69 : decode cX9_juries 69 = .ok (.ireturn, 1) := by decide +kernel
set_option maxRecDepth 20000 in
theorem ggX9_grace_X9_graces : GoodIn wsX9_grace wsX9_graces := goodIn_r _ [6, 7, 8, 9, 10, 5, 11, 12, 13, 14, 15, 16, 17, 18, 19, 20, 21, 22, 23, 24, 25, 26, 27, 28, 29, 30, 31, 32, 33, 34, 35, 36, 37, 38, 39, 40, 41, 42, 43, 44, 45, 46, 47] rfl (by decide +kernel)
set_option maxRecDepth 20000 in
theorem gX9_grace_X9_graces : GoodIn wsX9_grace (wsV RX9 108 RX9 yX9_graces wsX9_graces) := goodIn_app (goodIn_of _ (by decide +kernel)) ggX9_grace_X9_graces
theorem dX9_grace_0 : decode cX9_grace 0 = .ok (.aload_n 0, 1) := by decide +kernel
theorem dX9_grace_1 : decode cX9_grace 1 = .ok (.iconst 0, 1) := by decide +kernel
theorem dX9_grace_2 : decode cX9_grace 2 = .ok (.putfield 39, 3) := by decide +kernel
theorem dX9_grace_5 : decode cX9_grace 5 = .ok (.aload_n 0, 1) := by decide +kernel
theorem dX9_grace_6 : decode cX9_grace 6 = .ok (.iload_n 1, 1) := by decide +kernel
theorem dX9_grace_7 : decode cX9_grace 7 = .ok (.invokevirtual 108, 3) := by decide +kernel
theorem dX9_grace_10 : decode cX9_grace 10 = .ok (.ireturn, 1) := by decide +kernel
set_option maxRecDepth 20000 in
theorem ggX9_graces_X9_isOpen : GoodIn wsX9_graces wsX9_isOpen := goodIn_r _ [6, 1, 25, 26, 27, 28, 29, 30, 31, 32, 33, 34, 35, 36, 37, 38, 39, 40, 41, 42] rfl (by decide +kernel)
set_option maxRecDepth 20000 in
theorem gX9_graces_X9_isOpen : GoodIn wsX9_graces (wsV RX9 70 RX9 yX9_isOpen wsX9_isOpen) := goodIn_app (goodIn_of _ (by decide +kernel)) ggX9_graces_X9_isOpen
set_option maxRecDepth 20000 in
theorem ggX9_graces_X9_isThere : GoodIn wsX9_graces wsX9_isThere := goodIn_r _ [10, 1, 11, 12, 13, 5, 14, 15, 16, 17, 25, 26, 27, 28, 29, 30, 31, 32, 33, 34, 35, 36, 37, 38, 39, 40, 41, 42] rfl (by decide +kernel)
set_option maxRecDepth 20000 in
theorem gX9_graces_X9_isThere : GoodIn wsX9_graces (wsV RX9 59 RX9 yX9_isThere wsX9_isThere) := goodIn_app (goodIn_of _ (by decide +kernel)) ggX9_graces_X9_isThere
set_option maxRecDepth 20000 in
theorem ggX9_graces_X9_latest : GoodIn wsX9_graces wsX9_latest := goodIn_r _ [21, 1, 25, 26, 27, 28, 29, 30, 31, 32, 33, 34, 35, 36, 37, 38, 39, 40, 41, 42] rfl (by decide +kernel)
set_option maxRecDepth 20000 in
theorem gX9_graces_X9_latest : GoodIn wsX9_graces (wsV RX9 74 RX9 yX9_latest wsX9_latest) := goodIn_app (goodIn_of _ (by decide +kernel)) ggX9_graces_X9_latest
set_option maxRecDepth 20000 in
theorem ggX9_graces_X9_at_ : GoodIn wsX9_graces wsX9_at_ := goodIn_r _ [24] rfl (by decide +kernel)
set_option maxRecDepth 20000 in
theorem gX9_graces_X9_at_ : GoodIn wsX9_graces (va_wsS RX9 51 yX9_at_ wsX9_at_) := goodIn_app (goodIn_of _ (by decide +kernel)) ggX9_graces_X9_at_
theorem dX9_graces_0 : decode cX9_graces 0 = .ok (.aload_n 0, 1) := by decide +kernel
theorem dX9_graces_1 : decode cX9_graces 1 = .ok (.invokevirtual 70, 3) := by decide +kernel
theorem dX9_graces_4 : decode cX9_graces 4 = .ok (.ifCond .eq 29, 3) := by decide +kernel
theorem dX9_graces_7 : decode cX9_graces 7 = .ok (.aload_n 0, 1) := by decide +kernel
theorem dX9_graces_8 : decode cX9_graces 8 = .ok (.iload_n 1, 1) := by decide +kernel
theorem dX9_graces_9 : decode cX9_graces 9 = .ok (.invokevirtual 59, 3) := by decide +kernel
theorem dX9_graces_12 : decode cX9_graces 12 = .ok (.ifCond .eq 21, 3) := by decide +kernel
theorem dX9_graces_15 : decode cX9_graces 15 = .ok (.aload_n 0, 1) := by decide +kernel
theorem dX9_graces_16 : decode cX9_graces 16 = .ok (.getfield 7, 3) := by decide +kernel
theorem dX9_graces_19 : decode cX9_graces 19 = .ok (.aload_n 0, 1) := by decide +kernel
theorem dX9_graces_20 : decode cX9_graces 20 = .ok (.invokevirtual 74, 3) := by decide +kernel
theorem dX9_graces_23 : decode cX9_graces 23 = .ok (.iload_n 1, 1) := by decide +kernel
theorem dX9_graces_24 : decode cX9_graces 24 = .ok (.iconst 4, 1) := by decide +kernel
theorem dX9_graces_25 : decode cX9_graces 25 = .ok (.invokestatic 51, 3) := by decide +kernel
theorem dX9_graces_28 : decode cX9_graces 28 = .ok (.iaload, 1) := by decide +kernel
theorem dX9_graces_29 : decode cX9_graces 29 = .ok (.iconst 1, 1) := by decide +kernel
theorem dX9_graces_30 : decode cX9_graces 30 = .ok (.if_icmp .ne 5, 3) := by decide +kernel
theorem dX9_graces_33 : decode cX9_graces 33 = .ok (.iconst 0, 1) := by decide +kernel
theorem dX9_graces_34 : decode cX9_graces 34 = .ok (.ireturn, 1) := by decide +kernel
theorem dX9_graces_35 : decode cX9_graces 35 = .ok (.aload_n 0, 1) := by decide +kernel
theorem dX9_graces_36 : decode cX9_graces 36 = .ok (.getfield 7, 3) := by decide +kernel
theorem dX9_graces_39 : decode cX9_graces 39 = .ok (.aload_n 0, 1) := by decide +kernel
theorem dX9_graces_40 : decode cX9_graces 40 = .ok (.invokevirtual 74, 3) := by decide +kernel
theorem dX9_graces_43 : decode cX9_graces 43 = .ok (.iload_n 1, 1) := by decide +kernel
theorem dX9_graces_44 : decode cX9_graces 44 = .ok (.iconst 4, 1) := by decide +kernel
theorem dX9_graces_45 : decode cX9_graces 45 = .ok (.invokestatic 51, 3) := by decide +kernel
theorem dX9_graces_48 : decode cX9_graces 48 = .ok (.iconst 1, 1) := by decide +kernel
theorem dX9_graces_49 : decode cX9_graces 49 = .ok (.iastore, 1) := by decide +kernel
theorem dX9_graces_50 : decode cX9_graces 50 = .ok (.iconst 1, 1) := by decide +kernel
theorem dX9_graces_51 : decode cX9_graces 51 = .ok (.ireturn, 1) := by decide +kernel
set_option maxRecDepth 20000 in
theorem ggX9_quit_X9_quits : GoodIn wsX9_quit wsX9_quits := goodIn_r _ [6, 7, 8, 9, 10, 5, 11, 12, 13, 14, 15, 16, 17, 18, 19, 20, 21, 22, 23, 24, 25, 26, 27, 28, 29, 30, 31, 32, 33, 34, 35, 36, 37, 38, 39, 40, 41, 42, 43, 44, 45, 46, 47, 48, 49, 50, 51, 52, 53] rfl (by decide +kernel)
set_option maxRecDepth 20000 in
theorem gX9_quit_X9_quits : GoodIn wsX9_quit (wsV RX9 111 RX9 yX9_quits wsX9_quits) := goodIn_app (goodIn_of _ (by decide +kernel)) ggX9_quit_X9_quits
theorem dX9_quit_0 : decode cX9_quit 0 = .ok (.aload_n 0, 1) := by decide +kernel
theorem dX9_quit_1 : decode cX9_quit 1 = .ok (.iconst 0, 1) := by decide +kernel
theorem dX9_quit_2 : decode cX9_quit 2 = .ok (.putfield 39, 3) := by decide +kernel
theorem dX9_quit_5 : decode cX9_quit 5 = .ok (.aload_n 0, 1) := by decide +kernel
theorem dX9_quit_6 : decode cX9_quit 6 = .ok (.iload_n 1, 1) := by decide +kernel
theorem dX9_quit_7 : decode cX9_quit 7 = .ok (.invokevirtual 111, 3) := by decide +kernel
theorem dX9_quit_10 : decode cX9_quit 10 = .ok (.ireturn, 1) := by decide +kernel
set_option maxRecDepth 20000 in
theorem ggX9_quits_X9_isOpen : GoodIn wsX9_quits wsX9_isOpen := goodIn_r _ [6, 1, 31, 32, 33, 34, 35, 36, 37, 38, 39, 40, 41, 42, 43, 44, 45, 46, 47, 48] rfl (by decide +kernel)
set_option maxRecDepth 20000 in
theorem gX9_quits_X9_isOpen : GoodIn wsX9_quits (wsV RX9 70 RX9 yX9_isOpen wsX9_isOpen) := goodIn_app (goodIn_of _ (by decide +kernel)) ggX9_quits_X9_isOpen
set_option maxRecDepth 20000 in
theorem ggX9_quits_X9_isThere : GoodIn wsX9_quits wsX9_isThere := goodIn_r _ [10, 1, 11, 12, 13, 5, 14, 15, 16, 17, 31, 32, 33, 34, 35, 36, 37, 38, 39, 40, 41, 42, 43, 44, 45, 46, 47, 48] rfl (by decide +kernel)
set_option maxRecDepth 20000 in
theorem gX9_quits_X9_isThere : GoodIn wsX9_quits (wsV RX9 59 RX9 yX9_isThere wsX9_isThere) := goodIn_app (goodIn_of _ (by decide +kernel)) ggX9_quits_X9_isThere
set_option maxRecDepth 20000 in
theorem ggX9_quits_X9_latest : GoodIn wsX9_quits wsX9_latest := goodIn_r _ [21, 1, 31, 32, 33, 34, 35, 36, 37, 38, 39, 40, 41, 42, 43, 44, 45, 46, 47, 48] rfl (by decide +kernel)
set_option maxRecDepth 20000 in
theorem gX9_quits_X9_latest : GoodIn wsX9_quits (wsV RX9 74 RX9 yX9_latest wsX9_latest) := goodIn_app (goodIn_of _ (by decide +kernel)) ggX9_quits_X9_latest
set_option maxRecDepth 20000 in
theorem ggX9_quits_X9_at_ : GoodIn wsX9_quits wsX9_at_ := goodIn_r _ [24] rfl (by decide +kernel)
set_option maxRecDepth 20000 in
theorem gX9_quits_X9_at_ : GoodIn wsX9_quits (va_wsS RX9 51 yX9_at_ wsX9_at_) := goodIn_app (goodIn_of _ (by decide +kernel)) ggX9_quits_X9_at_
set_option maxRecDepth 20000 in
theorem ggX9_quits_X9_at : GoodIn wsX9_quits wsX9_at := goodIn_r _ [27] rfl (by decide +kernel)
set_option maxRecDepth 20000 in
theorem gX9_quits_X9_at : GoodIn wsX9_quits (va_wsS RX9 87 yX9_at wsX9_at) := goodIn_app (goodIn_of _ (by decide +kernel)) ggX9_quits_X9_at
set_option maxRecDepth 20000 in
theorem ggX9_quits_X9_mark : GoodIn wsX9_quits wsX9_mark := goodIn_r _ [30] rfl (by decide +kernel)
set_option maxRecDepth 20000 in
theorem gX9_quits_X9_mark : GoodIn wsX9_quits (va_wsS RX9 92 yX9_mark wsX9_mark) := goodIn_app (goodIn_of _ (by decide +kernel)) ggX9_quits_X9_mark
theorem dX9_quits_0 : decode cX9_quits 0 = .ok (.aload_n 0, 1) := by decide +kernel
theorem dX9_quits_1 : decode cX9_quits 1 = .ok (.invokevirtual 70, 3) := by decide +kernel
theorem dX9_quits_4 : decode cX9_quits 4 = .ok (.ifCond .eq 11, 3) := by decide +kernel
theorem dX9_quits_7 : decode cX9_quits 7 = .ok (.aload_n 0, 1) := by decide +kernel
theorem dX9_quits_8 : decode cX9_quits 8 = .ok (.iload_n 1, 1) := by decide +kernel
theorem dX9_quits_9 : decode cX9_quits 9 = .ok (.invokevirtual 59, 3) := by decide +kernel
theorem dX9_quits_12 : decode cX9_quits 12 = .ok (.ifCond .ne 5, 3) := by decide +kernel
theorem dX9_quits_15 : decode cX9_quits 15 = .ok (.iconst 0, 1) := by decide +kernel
theorem dX9_quits_16 : decode cX9_quits 16 = .ok (.ireturn, 1) := by decide +kernel
theorem dX9_quits_17 : decode cX9_quits 17 = .ok (.aload_n 0, 1) := by decide +kernel
theorem dX9_quits_18 : decode cX9_quits 18 = .ok (.invokevirtual 74, 3) := by decide +kernel
theorem dX9_quits_21 : decode cX9_quits 21 = .ok (.istore_n 2, 1) := by decide +kernel
theorem dX9_quits_22 : decode cX9_quits 22 = .ok (.aload_n 0, 1) := by decide +kernel
theorem dX9_quits_23 : decode cX9_quits 23 = .ok (.getfield 7, 3) := by decide +kernel
theorem dX9_quits_26 : decode cX9_quits 26 = .ok (.bipush 8, 2) := by decide +kernel
theorem dX9_quits_28 : decode cX9_quits 28 = .ok (.iconst 3, 1) := by decide +kernel
theorem dX9_quits_29 : decode cX9_quits 29 = .ok (.iload_n 1, 1) := by decide +kernel
theorem dX9_quits_30 : decode cX9_quits 30 = .ok (.imul, 1) := by decide +kernel
theorem dX9_quits_31 : decode cX9_quits 31 = .ok (.iadd, 1) := by decide +kernel
theorem dX9_quits_32 : decode cX9_quits 32 = .ok (.iconst 2, 1) := by decide +kernel
theorem dX9_quits_33 : decode cX9_quits 33 = .ok (.iadd, 1) := by decide +kernel
theorem dX9_quits_34 : decode cX9_quits 34 = .ok (.iconst 0, 1) := by decide +kernel
theorem dX9_quits_35 : decode cX9_quits 35 = .ok (.iastore, 1) := by decide +kernel
theorem dX9_quits_36 : decode cX9_quits 36 = .ok (.iconst 0, 1) := by decide +kernel
theorem dX9_quits_37 : decode cX9_quits 37 = .ok (.istore_n 3, 1) := by decide +kernel
theorem dX9_quits_38 : decode cX9_quits 38 = .ok (.iload_n 3, 1) := by decide +kernel
theorem dX9_quits_39 : decode cX9_quits 39 = .ok (.bipush 12, 2) := by decide +kernel
theorem dX9_quits_41 : decode cX9_quits 41 = .ok (.if_icmp .ge 21, 3) := by decide +kernel
theorem dX9_quits_44 : decode cX9_quits 44 = .ok (.aload_n 0, 1) := by decide +kernel
theorem dX9_quits_45 : decode cX9_quits 45 = .ok (.getfield 7, 3) := by decide +kernel
theorem dX9_quits_48 : decode cX9_quits 48 = .ok (.iload_n 2, 1) := by decide +kernel
theorem dX9_quits_49 : decode cX9_quits 49 = .ok (.iload_n 1, 1) := by decide +kernel
theorem dX9_quits_50 : decode cX9_quits 50 = .ok (.iload_n 3, 1) := by decide +kernel
theorem dX9_quits_51 : decode cX9_quits 51 = .ok (.invokestatic 51, 3) := by decide +kernel
theorem dX9_quits_54 : decode cX9_quits 54 = .ok (.iconst 0, 1) := by decide +kernel
theorem dX9_quits_55 : decode cX9_quits 55 = .ok (.iastore, 1) := by decide +kernel
theorem dX9_quits_56 : decode cX9_quits 56 = .ok (.iinc 3 1, 3) := by decide +kernel
theorem dX9_quits_59 : decode cX9_quits 59 = .ok (.goto (-21), 3) := by decide +kernel
theorem dX9_quits_62 : decode cX9_quits 62 = .ok (.aload_n 0, 1) := by decide +kernel
theorem dX9_quits_63 : decode cX9_quits 63 = .ok (.getfield 7, 3) := by decide +kernel
theorem dX9_quits_66 : decode cX9_quits 66 = .ok (.iload_n 2, 1) := by decide +kernel
theorem dX9_quits_67 : decode cX9_quits 67 = .ok (.iload_n 1, 1) := by decide +kernel
theorem dX9_quits_68 : decode cX9_quits 68 = .ok (.iconst 1, 1) := by decide +kernel
theorem dX9_quits_69 : decode cX9_quits 69 = .ok (.invokestatic 51, 3) := by decide +kernel
theorem dX9_quits_72 : decode cX9_quits 72 = .ok (.iconst (-1), 1) := by decide +kernel
theorem dX9_quits_73 : decode cX9_quits 73 = .ok (.iastore, 1) := by decide +kernel
theorem dX9_quits_74 : decode cX9_quits 74 = .ok (.iconst 0, 1) := by decide +kernel
theorem dX9_quits_75 : decode cX9_quits 75 = .ok (.istore_n 3, 1) := by decide +kernel
theorem dX9_quits_76 : decode cX9_quits 76 = .ok (.iload_n 3, 1) := by decide +kernel
theorem dX9_quits_77 : decode cX9_quits 77 = .ok (.aload_n 0, 1) := by decide +kernel
theorem dX9_quits_78 : decode cX9_quits 78 = .ok (.getfield 7, 3) := by decide +kernel
theorem dX9_quits_81 : decode cX9_quits 81 = .ok (.iload_n 2, 1) := by decide +kernel
theorem dX9_quits_82 : decode cX9_quits 82 = .ok (.iconst 2, 1) := by decide +kernel
theorem dX9_quits_83 : decode cX9_quits 83 = .ok (.invokestatic 87, 3) := by decide +kernel
theorem dX9_quits_86 : decode cX9_quits 86 = .ok (.iaload, 1) := by decide +kernel
theorem dX9_quits_87 : decode cX9_quits 87 = .ok (.if_icmp .ge 98, 3) := by decide +kernel
theorem dX9_quits_90 : decode cX9_quits 90 = .ok (.iconst 0, 1) := by decide +kernel
theorem dX9_quits_91 : decode cX9_quits 91 = .ok (.istore 4, 2) := by decide +kernel
theorem dX9_quits_93 : decode cX9_quits 93 = .ok (.iconst 0, 1) := by decide +kernel
theorem dX9_quits_94 : decode cX9_quits 94 = .ok (.istore 5, 2) := by decide +kernel
theorem dX9_quits_96 : decode cX9_quits 96 = .ok (.iload 5, 2) := by decide +kernel
theorem dX9_quits_98 : decode cX9_quits 98 = .ok (.aload_n 0, 1) := by decide +kernel
theorem dX9_quits_99 : decode cX9_quits 99 = .ok (.getfield 7, 3) := by decide +kernel
theorem dX9_quits_102 : decode cX9_quits 102 = .ok (.iload_n 2, 1) := by decide +kernel
theorem dX9_quits_103 : decode cX9_quits 103 = .ok (.iload_n 3, 1) := by decide +kernel
theorem dX9_quits_104 : decode cX9_quits 104 = .ok (.iconst 2, 1) := by decide +kernel
theorem dX9_quits_105 : decode cX9_quits 105 = .ok (.invokestatic 92, 3) := by decide +kernel
theorem dX9_quits_108 : decode cX9_quits 108 = .ok (.iaload, 1) := by decide +kernel
theorem dX9_quits_109 : decode cX9_quits 109 = .ok (.if_icmp .ge 57, 3) := by decide +kernel
theorem dX9_quits_112 : decode cX9_quits 112 = .ok (.aload_n 0, 1) := by decide +kernel
theorem dX9_quits_113 : decode cX9_quits 113 = .ok (.getfield 7, 3) := by decide +kernel
theorem dX9_quits_116 : decode cX9_quits 116 = .ok (.iload_n 2, 1) := by decide +kernel
theorem dX9_quits_117 : decode cX9_quits 117 = .ok (.iload_n 3, 1) := by decide +kernel
theorem dX9_quits_118 : decode cX9_quits 118 = .ok (.iconst 3, 1) := by decide +kernel
theorem dX9_quits_119 : decode cX9_quits 119 = .ok (.iload 5, 2) := by decide +kernel
theorem dX9_quits_121 : decode cX9_quits 121 = .ok (.iadd, 1) := by decide +kernel
theorem dX9_quits_122 : decode cX9_quits 122 = .ok (.invokestatic 92, 3) := by decide +kernel
theorem dX9_quits_125 : decode cX9_quits 125 = .ok (.iaload, 1) := by decide +kernel
theorem dX9_quits_126 : decode cX9_quits 126 = .ok (.istore 6, 2) := by decide +kernel
theorem dX9_quits_128 : decode cX9_quits 128 = .ok (.aload_n 0, 1) := by decide +kernel
theorem dX9_quits_129 : decode cX9_quits 129 = .ok (.getfield 7, 3) := by decide +kernel
theorem dX9_quits_132 : decode cX9_quits 132 = .ok (.iload_n 2, 1) := by decide +kernel
theorem dX9_quits_133 : decode cX9_quits 133 = .ok (.iload_n 3, 1) := by decide +kernel
theorem dX9_quits_134 : decode cX9_quits 134 = .ok (.iconst 3, 1) := by decide +kernel
theorem dX9_quits_135 : decode cX9_quits 135 = .ok (.iload 4, 2) := by decide +kernel
theorem dX9_quits_137 : decode cX9_quits 137 = .ok (.iadd, 1) := by decide +kernel
theorem dX9_quits_138 : decode cX9_quits 138 = .ok (.invokestatic 92, 3) := by decide +kernel
theorem dX9_quits_141 : decode cX9_quits 141 = .ok (.iload 6, 2) := by decide +kernel
theorem dX9_quits_143 : decode cX9_quits 143 = .ok (.iastore, 1) := by decide +kernel
theorem dX9_quits_144 : decode cX9_quits 144 = .ok (.iload 4, 2) := by decide +kernel
theorem dX9_quits_146 : decode cX9_quits 146 = .ok (.iload 6, 2) := by decide +kernel
theorem dX9_quits_148 : decode cX9_quits 148 = .ok (.iload_n 1, 1) := by decide +kernel
theorem dX9_quits_149 : decode cX9_quits 149 = .ok (.if_icmp .ne 7, 3) := by decide +kernel
theorem dX9_quits_152 : decode cX9_quits 152 = .ok (.iconst 0, 1) := by decide +kernel
theorem dX9_quits_153 : decode cX9_quits 153 = .ok (.goto 4, 3) := by decide +kernel
theorem dX9_quits_156 : decode cX9_quits 156 = .ok (.iconst 1, 1) := by decide +kernel
theorem dX9_quits_157 : decode cX9_quits 157 = .ok (.iadd, 1) := by decide +kernel
theorem dX9_quits_158 : decode cX9_quits 158 = .ok (.istore 4, 2) := by decide +kernel
theorem dX9_quits_160 : decode cX9_quits 160 = .ok (.iinc 5 1, 3) := by decide +kernel
theorem dX9_quits_163 : decode cX9_quits 163 = .ok (.goto (-67), 3) := by decide +kernel
theorem dX9_quits_166 : decode cX9_quits 166 = .ok (.aload_n 0, 1) := by decide +kernel
theorem dX9_quits_167 : decode cX9_quits 167 = .ok (.getfield 7, 3) := by decide +kernel
theorem dX9_quits_170 : decode cX9_quits 170 = .ok (.iload_n 2, 1) := by decide +kernel
theorem dX9_quits_171 : decode cX9_quits 171 = .ok (.iload_n 3, 1) := by decide +kernel
theorem dX9_quits_172 : decode cX9_quits 172 = .ok (.iconst 2, 1) := by decide +kernel
theorem dX9_quits_173 : decode cX9_quits 173 = .ok (.invokestatic 92, 3) := by decide +kernel
theorem dX9_quits_176 : decode cX9_quits 176 = .ok (.iload 4, 2) := by decide +kernel
theorem dX9_quits_178 : decode cX9_quits 178 = .ok (.iastore, 1) := by decide +kernel
theorem dX9_quits_179 : decode cX9_quits 179 = .ok (.iinc 3 1, 3) := by decide +kernel
theorem dX9_quits_182 : decode cX9_quits 182 = .ok (.goto (-106), 3) := by decide +kernel
theorem dX9_quits_185 : decode cX9_quits 185 = .ok (.iconst 1, 1) := by decide +kernel
theorem dX9_quits_186 : decode cX9_quits 186 = .ok (.ireturn, 1) := by decide +kernel
set_option maxRecDepth 20000 in
theorem ggX9_rule_X9_isIn : GoodIn wsX9_rule wsX9_isIn := goodIn_r _ [6] rfl (by decide +kernel)
set_option maxRecDepth 20000 in
theorem gX9_rule_X9_isIn : GoodIn wsX9_rule (va_wsS RX9 43 yX9_isIn wsX9_isIn) := goodIn_app (goodIn_of _ (by decide +kernel)) ggX9_rule_X9_isIn
theorem dX9_rule_0 : decode cX9_rule 0 = .ok (.aload_n 0, 1) := by decide +kernel
theorem dX9_rule_1 : decode cX9_rule 1 = .ok (.iconst 0, 1) := by decide +kernel
theorem dX9_rule_2 : decode cX9_rule 2 = .ok (.putfield 39, 3) := by decide +kernel
theorem dX9_rule_5 : decode cX9_rule 5 = .ok (.iload_n 1, 1) := by decide +kernel
theorem dX9_rule_6 : decode cX9_rule 6 = .ok (.ifCond .ne 16, 3) := by decide +kernel
theorem dX9_rule_9 : decode cX9_rule 9 = .ok (.iload_n 2, 1) := by decide +kernel
theorem dX9_rule_10 : decode cX9_rule 10 = .ok (.iconst 1, 1) := by decide +kernel
theorem dX9_rule_11 : decode cX9_rule 11 = .ok (.bipush 99, 2) := by decide +kernel
theorem dX9_rule_13 : decode cX9_rule 13 = .ok (.invokestatic 43, 3) := by decide +kernel
theorem dX9_rule_16 : decode cX9_rule 16 = .ok (.ifCond .ne 23, 3) := by decide +kernel
theorem dX9_rule_19 : decode cX9_rule 19 = .ok (.goto 18, 3) := by decide +kernel
theorem dX9_rule_22 : decode cX9_rule 22 = .ok (.iload_n 1, 1) := by decide +kernel
theorem dX9_rule_23 : decode cX9_rule 23 = .ok (.iconst 1, 1) := by decide +kernel
theorem dX9_rule_24 : decode cX9_rule 24 = .ok (.if_icmp .ne 13, 3) := by decide +kernel
theorem dX9_rule_27 : decode cX9_rule 27 = .ok (.iload_n 2, 1) := by decide +kernel
theorem dX9_rule_28 : decode cX9_rule 28 = .ok (.iconst 0, 1) := by decide +kernel
theorem dX9_rule_29 : decode cX9_rule 29 = .ok (.bipush 9, 2) := by decide +kernel
theorem dX9_rule_31 : decode cX9_rule 31 = .ok (.invokestatic 43, 3) := by decide +kernel
theorem dX9_rule_34 : decode cX9_rule 34 = .ok (.ifCond .ne 5, 3) := by decide +kernel
theorem dX9_rule_37 : decode cX9_rule 37 = .ok (.iconst 0, 1) := by decide +kernel
theorem dX9_rule_38 : decode cX9_rule 38 = .ok (.ireturn, 1) := by decide +kernel
theorem dX9_rule_39 : decode cX9_rule 39 = .ok (.aload_n 0, 1) := by decide +kernel
theorem dX9_rule_40 : decode cX9_rule 40 = .ok (.getfield 7, 3) := by decide +kernel
theorem dX9_rule_43 : decode cX9_rule 43 = .ok (.iconst 4, 1) := by decide +kernel
theorem dX9_rule_44 : decode cX9_rule 44 = .ok (.iload_n 1, 1) := by decide +kernel
theorem dX9_rule_45 : decode cX9_rule 45 = .ok (.iadd, 1) := by decide +kernel
theorem dX9_rule_46 : decode cX9_rule 46 = .ok (.iaload, 1) := by decide +kernel
theorem dX9_rule_47 : decode cX9_rule 47 = .ok (.iload_n 2, 1) := by decide +kernel
theorem dX9_rule_48 : decode cX9_rule 48 = .ok (.if_icmp .ne 5, 3) := by decide +kernel
theorem dX9_rule_51 : decode cX9_rule 51 = .ok (.iconst 0, 1) := by decide +kernel
theorem dX9_rule_52 : decode cX9_rule 52 = .ok (.ireturn, 1) := by decide +kernel
theorem dX9_rule_53 : decode cX9_rule 53 = .ok (.aload_n 0, 1) := by decide +kernel
theorem dX9_rule_54 : decode cX9_rule 54 = .ok (.getfield 7, 3) := by decide +kernel
theorem dX9_rule_57 : decode cX9_rule 57 = .ok (.iconst 4, 1) := by decide +kernel
theorem dX9_rule_58 : decode cX9_rule 58 = .ok (.iload_n 1, 1) := by decide +kernel
theorem dX9_rule_59 : decode cX9_rule 59 = .ok (.iadd, 1) := by decide +kernel
theorem dX9_rule_60 : decode cX9_rule 60 = .ok (.iload_n 2, 1) := by decide +kernel
theorem dX9_rule_61 : decode cX9_rule 61 = .ok (.iastore, 1) := by decide +kernel
theorem dX9_rule_62 : decode cX9_rule 62 = .ok (.iconst 1, 1) := by decide +kernel
theorem dX9_rule_63 : decode cX9_rule 63 = .ok (.ireturn, 1) := by decide +kernel
set_option maxRecDepth 20000 in
theorem ggX9_laysOrder_X9_hasFinish : GoodIn wsX9_laysOrder wsX9_hasFinish := goodIn_r _ [8, 2, 9, 10, 7, 11, 12, 13, 14, 15, 16, 17, 18, 19, 20, 21, 22, 23, 24, 25, 26, 27, 28, 29] rfl (by decide +kernel)
set_option maxRecDepth 20000 in
theorem gX9_laysOrder_X9_hasFinish : GoodIn wsX9_laysOrder (wsV RX9 55 RX9 yX9_hasFinish wsX9_hasFinish) := goodIn_app (goodIn_of _ (by decide +kernel)) ggX9_laysOrder_X9_hasFinish
set_option maxRecDepth 20000 in
theorem ggX9_laysOrder_X9_at_ : GoodIn wsX9_laysOrder wsX9_at_ := goodIn_r _ [11] rfl (by decide +kernel)
set_option maxRecDepth 20000 in
theorem gX9_laysOrder_X9_at_ : GoodIn wsX9_laysOrder (va_wsS RX9 51 yX9_at_ wsX9_at_) := goodIn_app (goodIn_of _ (by decide +kernel)) ggX9_laysOrder_X9_at_
theorem dX9_laysOrder_0 : decode cX9_laysOrder 0 = .ok (.aload_n 0, 1) := by decide +kernel
theorem dX9_laysOrder_1 : decode cX9_laysOrder 1 = .ok (.iconst 0, 1) := by decide +kernel
theorem dX9_laysOrder_2 : decode cX9_laysOrder 2 = .ok (.putfield 114, 3) := by decide +kernel
theorem dX9_laysOrder_5 : decode cX9_laysOrder 5 = .ok (.iconst 0, 1) := by decide +kernel
theorem dX9_laysOrder_6 : decode cX9_laysOrder 6 = .ok (.istore_n 2, 1) := by decide +kernel
theorem dX9_laysOrder_7 : decode cX9_laysOrder 7 = .ok (.iload_n 2, 1) := by decide +kernel
theorem dX9_laysOrder_8 : decode cX9_laysOrder 8 = .ok (.aload_n 0, 1) := by decide +kernel
theorem dX9_laysOrder_9 : decode cX9_laysOrder 9 = .ok (.getfield 7, 3) := by decide +kernel
theorem dX9_laysOrder_12 : decode cX9_laysOrder 12 = .ok (.iconst 1, 1) := by decide +kernel
theorem dX9_laysOrder_13 : decode cX9_laysOrder 13 = .ok (.iaload, 1) := by decide +kernel
theorem dX9_laysOrder_14 : decode cX9_laysOrder 14 = .ok (.if_icmp .ge 99, 3) := by decide +kernel
theorem dX9_laysOrder_17 : decode cX9_laysOrder 17 = .ok (.aload_n 0, 1) := by decide +kernel
theorem dX9_laysOrder_18 : decode cX9_laysOrder 18 = .ok (.iload_n 1, 1) := by decide +kernel
theorem dX9_laysOrder_19 : decode cX9_laysOrder 19 = .ok (.iload_n 2, 1) := by decide +kernel
theorem dX9_laysOrder_20 : decode cX9_laysOrder 20 = .ok (.invokevirtual 55, 3) := by decide +kernel
theorem dX9_laysOrder_23 : decode cX9_laysOrder 23 = .ok (.ifCond .ne 6, 3) := by decide +kernel
theorem dX9_laysOrder_26 : decode cX9_laysOrder 26 = .ok (.goto 81, 3) := by decide +kernel
theorem dX9_laysOrder_29 : decode cX9_laysOrder 29 = .ok (.aload_n 0, 1) := by decide +kernel
theorem dX9_laysOrder_30 : decode cX9_laysOrder 30 = .ok (.getfield 114, 3) := by decide +kernel
theorem dX9_laysOrder_33 : decode cX9_laysOrder 33 = .ok (.istore_n 3, 1) := by decide +kernel
theorem dX9_laysOrder_34 : decode cX9_laysOrder 34 = .ok (.iload_n 3, 1) := by decide +kernel
theorem dX9_laysOrder_35 : decode cX9_laysOrder 35 = .ok (.ifCond .le 55, 3) := by decide +kernel
theorem dX9_laysOrder_38 : decode cX9_laysOrder 38 = .ok (.aload_n 0, 1) := by decide +kernel
theorem dX9_laysOrder_39 : decode cX9_laysOrder 39 = .ok (.getfield 7, 3) := by decide +kernel
theorem dX9_laysOrder_42 : decode cX9_laysOrder 42 = .ok (.iload_n 1, 1) := by decide +kernel
theorem dX9_laysOrder_43 : decode cX9_laysOrder 43 = .ok (.aload_n 0, 1) := by decide +kernel
theorem dX9_laysOrder_44 : decode cX9_laysOrder 44 = .ok (.getfield 23, 3) := by decide +kernel
theorem dX9_laysOrder_47 : decode cX9_laysOrder 47 = .ok (.iload_n 3, 1) := by decide +kernel
theorem dX9_laysOrder_48 : decode cX9_laysOrder 48 = .ok (.iconst 1, 1) := by decide +kernel
theorem dX9_laysOrder_49 : decode cX9_laysOrder 49 = .ok (.isub, 1) := by decide +kernel
theorem dX9_laysOrder_50 : decode cX9_laysOrder 50 = .ok (.iaload, 1) := by decide +kernel
theorem dX9_laysOrder_51 : decode cX9_laysOrder 51 = .ok (.iconst 0, 1) := by decide +kernel
theorem dX9_laysOrder_52 : decode cX9_laysOrder 52 = .ok (.invokestatic 51, 3) := by decide +kernel
theorem dX9_laysOrder_55 : decode cX9_laysOrder 55 = .ok (.iaload, 1) := by decide +kernel
theorem dX9_laysOrder_56 : decode cX9_laysOrder 56 = .ok (.aload_n 0, 1) := by decide +kernel
theorem dX9_laysOrder_57 : decode cX9_laysOrder 57 = .ok (.getfield 7, 3) := by decide +kernel
theorem dX9_laysOrder_60 : decode cX9_laysOrder 60 = .ok (.iload_n 1, 1) := by decide +kernel
theorem dX9_laysOrder_61 : decode cX9_laysOrder 61 = .ok (.iload_n 2, 1) := by decide +kernel
theorem dX9_laysOrder_62 : decode cX9_laysOrder 62 = .ok (.iconst 0, 1) := by decide +kernel
theorem dX9_laysOrder_63 : decode cX9_laysOrder 63 = .ok (.invokestatic 51, 3) := by decide +kernel
theorem dX9_laysOrder_66 : decode cX9_laysOrder 66 = .ok (.iaload, 1) := by decide +kernel
theorem dX9_laysOrder_67 : decode cX9_laysOrder 67 = .ok (.if_icmp .le 23, 3) := by decide +kernel
theorem dX9_laysOrder_70 : decode cX9_laysOrder 70 = .ok (.aload_n 0, 1) := by decide +kernel
theorem dX9_laysOrder_71 : decode cX9_laysOrder 71 = .ok (.getfield 23, 3) := by decide +kernel
theorem dX9_laysOrder_74 : decode cX9_laysOrder 74 = .ok (.iload_n 3, 1) := by decide +kernel
theorem dX9_laysOrder_75 : decode cX9_laysOrder 75 = .ok (.aload_n 0, 1) := by decide +kernel
theorem dX9_laysOrder_76 : decode cX9_laysOrder 76 = .ok (.getfield 23, 3) := by decide +kernel
theorem dX9_laysOrder_79 : decode cX9_laysOrder 79 = .ok (.iload_n 3, 1) := by decide +kernel
theorem dX9_laysOrder_80 : decode cX9_laysOrder 80 = .ok (.iconst 1, 1) := by decide +kernel
theorem dX9_laysOrder_81 : decode cX9_laysOrder 81 = .ok (.isub, 1) := by decide +kernel
theorem dX9_laysOrder_82 : decode cX9_laysOrder 82 = .ok (.iaload, 1) := by decide +kernel
theorem dX9_laysOrder_83 : decode cX9_laysOrder 83 = .ok (.iastore, 1) := by decide +kernel
theorem dX9_laysOrder_84 : decode cX9_laysOrder 84 = .ok (.iinc 3 (-1), 3) := by decide +kernel
theorem dX9_laysOrder_87 : decode cX9_laysOrder 87 = .ok (.goto (-53), 3) := by decide +kernel
theorem dX9_laysOrder_90 : decode cX9_laysOrder 90 = .ok (.aload_n 0, 1) := by decide +kernel
theorem dX9_laysOrder_91 : decode cX9_laysOrder 91 = .ok (.getfield 23, 3) := by decide +kernel
theorem dX9_laysOrder_94 : decode cX9_laysOrder 94 = .ok (.iload_n 3, 1) := by decide +kernel
theorem dX9_laysOrder_95 : decode cX9_laysOrder 95 = .ok (.iload_n 2, 1) := by decide +kernel
theorem dX9_laysOrder_96 : decode cX9_laysOrder 96 = .ok (.iastore, 1) := by decide +kernel
theorem dX9_laysOrder_97 : decode cX9_laysOrder 97 = .ok (.aload_n 0, 1) := by decide +kernel
theorem dX9_laysOrder_98 : decode cX9_laysOrder 98 = .ok (.dup, 1) := by decide +kernel
theorem dX9_laysOrder_99 : decode cX9_laysOrder 99 = .ok (.getfield 114, 3) := by decide +kernel
theorem dX9_laysOrder_102 : decode cX9_laysOrder 102 = .ok (.iconst 1, 1) := by decide +kernel
theorem dX9_laysOrder_103 : decode cX9_laysOrder 103 = .ok (.iadd, 1) := by decide +kernel
theorem dX9_laysOrder_104 : decode cX9_laysOrder 104 = .ok (.putfield 114, 3) := by decide +kernel
theorem dX9_laysOrder_107 : decode cX9_laysOrder 107 = .ok (.iinc 2 1, 3) := by decide +kernel
theorem dX9_laysOrder_110 : decode cX9_laysOrder 110 = .ok (.goto (-103), 3) := by decide +kernel
theorem dX9_laysOrder_113 : decode cX9_laysOrder 113 = .ok (.return_, 1) := by decide +kernel
set_option maxRecDepth 20000 in
theorem ggX9_space_X9_at_ : GoodIn wsX9_space wsX9_at_ := goodIn_r _ [6] rfl (by decide +kernel)
set_option maxRecDepth 20000 in
theorem gX9_space_X9_at_ : GoodIn wsX9_space (va_wsS RX9 51 yX9_at_ wsX9_at_) := goodIn_app (goodIn_of _ (by decide +kernel)) ggX9_space_X9_at_
theorem dX9_space_0 : decode cX9_space 0 = .ok (.aload_n 0, 1) := by decide +kernel
theorem dX9_space_1 : decode cX9_space 1 = .ok (.getfield 7, 3) := by decide +kernel
theorem dX9_space_4 : decode cX9_space 4 = .ok (.iload_n 1, 1) := by decide +kernel
theorem dX9_space_5 : decode cX9_space 5 = .ok (.aload_n 0, 1) := by decide +kernel
theorem dX9_space_6 : decode cX9_space 6 = .ok (.getfield 23, 3) := by decide +kernel
theorem dX9_space_9 : decode cX9_space 9 = .ok (.iload_n 2, 1) := by decide +kernel
theorem dX9_space_10 : decode cX9_space 10 = .ok (.iaload, 1) := by decide +kernel
theorem dX9_space_11 : decode cX9_space 11 = .ok (.iconst 0, 1) := by decide +kernel
theorem dX9_space_12 : decode cX9_space 12 = .ok (.invokestatic 51, 3) := by decide +kernel
theorem dX9_space_15 : decode cX9_space 15 = .ok (.iaload, 1) := by decide +kernel
theorem dX9_space_16 : decode cX9_space 16 = .ok (.aload_n 0, 1) := by decide +kernel
theorem dX9_space_17 : decode cX9_space 17 = .ok (.getfield 7, 3) := by decide +kernel
theorem dX9_space_20 : decode cX9_space 20 = .ok (.iload_n 1, 1) := by decide +kernel
theorem dX9_space_21 : decode cX9_space 21 = .ok (.aload_n 0, 1) := by decide +kernel
theorem dX9_space_22 : decode cX9_space 22 = .ok (.getfield 23, 3) := by decide +kernel
theorem dX9_space_25 : decode cX9_space 25 = .ok (.iload_n 2, 1) := by decide +kernel
theorem dX9_space_26 : decode cX9_space 26 = .ok (.iconst 1, 1) := by decide +kernel
theorem dX9_space_27 : decode cX9_space 27 = .ok (.isub, 1) := by decide +kernel
theorem dX9_space_28 : decode cX9_space 28 = .ok (.iaload, 1) := by decide +kernel
theorem dX9_space_29 : decode cX9_space 29 = .ok (.iconst 0, 1) := by decide +kernel
theorem dX9_space_30 : decode cX9_space 30 = .ok (.invokestatic 51, 3) := by decide +kernel
theorem dX9_space_33 : decode cX9_space 33 = .ok (.iaload, 1) := by decide +kernel
theorem dX9_space_34 : decode cX9_space 34 = .ok (.isub, 1) := by decide +kernel
theorem dX9_space_35 : decode cX9_space 35 = .ok (.ireturn, 1) := by decide +kernel
set_option maxRecDepth 20000 in
theorem ggX9_bunches_X9_at : GoodIn wsX9_bunches wsX9_at := goodIn_r _ [6] rfl (by decide +kernel)
set_option maxRecDepth 20000 in
theorem gX9_bunches_X9_at : GoodIn wsX9_bunches (va_wsS RX9 87 yX9_at wsX9_at) := goodIn_app (goodIn_of _ (by decide +kernel)) ggX9_bunches_X9_at
set_option maxRecDepth 20000 in
theorem ggX9_bunches_X9_space : GoodIn wsX9_bunches wsX9_space := goodIn_r _ [10, 2, 11, 12, 13, 5, 14, 15, 16, 17, 18, 19, 20, 21, 22, 23, 24, 25, 26, 27, 28, 29, 30, 31, 32] rfl (by decide +kernel)
set_option maxRecDepth 20000 in
theorem gX9_bunches_X9_space : GoodIn wsX9_bunches (wsV RX9 117 RX9 yX9_space wsX9_space) := goodIn_app (goodIn_of _ (by decide +kernel)) ggX9_bunches_X9_space
theorem dX9_bunches_0 : decode cX9_bunches 0 = .ok (.aload_n 0, 1) := by decide +kernel
theorem dX9_bunches_1 : decode cX9_bunches 1 = .ok (.getfield 114, 3) := by decide +kernel
theorem dX9_bunches_4 : decode cX9_bunches 4 = .ok (.ifCond .ne 7, 3) := by decide +kernel
theorem dX9_bunches_7 : decode cX9_bunches 7 = .ok (.iconst 0, 1) := by decide +kernel
theorem dX9_bunches_8 : decode cX9_bunches 8 = .ok (.goto 4, 3) := by decide +kernel
theorem dX9_bunches_11 : decode cX9_bunches 11 = .ok (.iconst 1, 1) := by decide +kernel
theorem dX9_bunches_12 : decode cX9_bunches 12 = .ok (.istore_n 3, 1) := by decide +kernel
theorem dX9_bunches_13 : decode cX9_bunches 13 = .ok (.iconst 1, 1) := by decide +kernel
theorem dX9_bunches_14 : decode cX9_bunches 14 = .ok (.istore 4, 2) := by decide +kernel
theorem dX9_bunches_16 : decode cX9_bunches 16 = .ok (.iload 4, 2) := by decide +kernel
theorem dX9_bunches_18 : decode cX9_bunches 18 = .ok (.aload_n 0, 1) := by decide +kernel
theorem dX9_bunches_19 : decode cX9_bunches 19 = .ok (.getfield 114, 3) := by decide +kernel
theorem dX9_bunches_22 : decode cX9_bunches 22 = .ok (.if_icmp .ge 42, 3) := by decide +kernel
theorem dX9_bunches_25 : decode cX9_bunches 25 = .ok (.iload_n 3, 1) := by decide +kernel
theorem dX9_bunches_26 : decode cX9_bunches 26 = .ok (.aload_n 0, 1) := by decide +kernel
theorem dX9_bunches_27 : decode cX9_bunches 27 = .ok (.getfield 7, 3) := by decide +kernel
theorem dX9_bunches_30 : decode cX9_bunches 30 = .ok (.iload_n 1, 1) := by decide +kernel
theorem dX9_bunches_31 : decode cX9_bunches 31 = .ok (.iconst 0, 1) := by decide +kernel
theorem dX9_bunches_32 : decode cX9_bunches 32 = .ok (.invokestatic 87, 3) := by decide +kernel
theorem dX9_bunches_35 : decode cX9_bunches 35 = .ok (.iaload, 1) := by decide +kernel
theorem dX9_bunches_36 : decode cX9_bunches 36 = .ok (.iconst 3, 1) := by decide +kernel
theorem dX9_bunches_37 : decode cX9_bunches 37 = .ok (.if_icmp .eq 14, 3) := by decide +kernel
theorem dX9_bunches_40 : decode cX9_bunches 40 = .ok (.aload_n 0, 1) := by decide +kernel
theorem dX9_bunches_41 : decode cX9_bunches 41 = .ok (.iload_n 1, 1) := by decide +kernel
theorem dX9_bunches_42 : decode cX9_bunches 42 = .ok (.iload 4, 2) := by decide +kernel
theorem dX9_bunches_44 : decode cX9_bunches 44 = .ok (.invokevirtual 117, 3) := by decide +kernel
theorem dX9_bunches_47 : decode cX9_bunches 47 = .ok (.iload_n 2, 1) := by decide +kernel
theorem dX9_bunches_48 : decode cX9_bunches 48 = .ok (.if_icmp .lt 7, 3) := by decide +kernel
theorem dX9_bunches_51 : decode cX9_bunches 51 = .ok (.iconst 1, 1) := by decide +kernel
theorem dX9_bunches_52 : decode cX9_bunches 52 = .ok (.goto 4, 3) := by decide +kernel
theorem dX9_bunches_55 : decode cX9_bunches 55 = .ok (.iconst 0, 1) := by decide +kernel
theorem dX9_bunches_56 : decode cX9_bunches 56 = .ok (.iadd, 1) := by decide +kernel
theorem dX9_bunches_57 : decode cX9_bunches 57 = .ok (.istore_n 3, 1) := by decide +kernel
theorem dX9_bunches_58 : decode cX9_bunches 58 = .ok (.iinc 4 1, 3) := by decide +kernel
theorem dX9_bunches_61 : decode cX9_bunches 61 = .ok (.goto (-45), 3) := by decide +kernel
theorem dX9_bunches_64 : decode cX9_bunches 64 = .ok (.iload_n 3, 1) := by decide +kernel
theorem dX9_bunches_65 : decode cX9_bunches 65 = .ok (.ireturn, 1) := by decide +kernel
set_option maxRecDepth 20000 in
theorem ggX9_laysRaw_X9_at : GoodIn wsX9_laysRaw wsX9_at := goodIn_r _ [7] rfl (by decide +kernel)
set_option maxRecDepth 20000 in
theorem gX9_laysRaw_X9_at : GoodIn wsX9_laysRaw (va_wsS RX9 87 yX9_at wsX9_at) := goodIn_app (goodIn_of _ (by decide +kernel)) ggX9_laysRaw_X9_at
set_option maxRecDepth 20000 in
theorem ggX9_laysRaw_X9_space : GoodIn wsX9_laysRaw wsX9_space := goodIn_r _ [11, 2, 3, 12, 13, 6, 14, 15, 16, 17, 18, 19, 20, 21, 22, 23, 24, 25, 26, 27, 28, 29, 30, 31, 32] rfl (by decide +kernel)
set_option maxRecDepth 20000 in
theorem gX9_laysRaw_X9_space : GoodIn wsX9_laysRaw (wsV RX9 117 RX9 yX9_space wsX9_space) := goodIn_app (goodIn_of _ (by decide +kernel)) ggX9_laysRaw_X9_space
set_option maxRecDepth 20000 in
theorem ggX9_laysRaw_X9_at_ : GoodIn wsX9_laysRaw wsX9_at_ := goodIn_r _ [14] rfl (by decide +kernel)
set_option maxRecDepth 20000 in
theorem gX9_laysRaw_X9_at_ : GoodIn wsX9_laysRaw (va_wsS RX9 51 yX9_at_ wsX9_at_) := goodIn_app (goodIn_of _ (by decide +kernel)) ggX9_laysRaw_X9_at_
theorem dX9_laysRaw_0 : decode cX9_laysRaw 0 = .ok (.iconst (-1), 1) := by decide +kernel
theorem dX9_laysRaw_1 : decode cX9_laysRaw 1 = .ok (.istore_n 2, 1) := by decide +kernel
theorem dX9_laysRaw_2 : decode cX9_laysRaw 2 = .ok (.iconst 0, 1) := by decide +kernel
theorem dX9_laysRaw_3 : decode cX9_laysRaw 3 = .ok (.istore_n 3, 1) := by decide +kernel
theorem dX9_laysRaw_4 : decode cX9_laysRaw 4 = .ok (.iconst 0, 1) := by decide +kernel
theorem dX9_laysRaw_5 : decode cX9_laysRaw 5 = .ok (.istore 4, 2) := by decide +kernel
theorem dX9_laysRaw_7 : decode cX9_laysRaw 7 = .ok (.iload 4, 2) := by decide +kernel
theorem dX9_laysRaw_9 : decode cX9_laysRaw 9 = .ok (.aload_n 0, 1) := by decide +kernel
theorem dX9_laysRaw_10 : decode cX9_laysRaw 10 = .ok (.getfield 114, 3) := by decide +kernel
theorem dX9_laysRaw_13 : decode cX9_laysRaw 13 = .ok (.if_icmp .ge 157, 3) := by decide +kernel
theorem dX9_laysRaw_16 : decode cX9_laysRaw 16 = .ok (.iload 4, 2) := by decide +kernel
theorem dX9_laysRaw_18 : decode cX9_laysRaw 18 = .ok (.ifCond .eq 37, 3) := by decide +kernel
theorem dX9_laysRaw_21 : decode cX9_laysRaw 21 = .ok (.aload_n 0, 1) := by decide +kernel
theorem dX9_laysRaw_22 : decode cX9_laysRaw 22 = .ok (.getfield 7, 3) := by decide +kernel
theorem dX9_laysRaw_25 : decode cX9_laysRaw 25 = .ok (.iload_n 1, 1) := by decide +kernel
theorem dX9_laysRaw_26 : decode cX9_laysRaw 26 = .ok (.iconst 0, 1) := by decide +kernel
theorem dX9_laysRaw_27 : decode cX9_laysRaw 27 = .ok (.invokestatic 87, 3) := by decide +kernel
theorem dX9_laysRaw_30 : decode cX9_laysRaw 30 = .ok (.iaload, 1) := by decide +kernel
theorem dX9_laysRaw_31 : decode cX9_laysRaw 31 = .ok (.iconst 3, 1) := by decide +kernel
theorem dX9_laysRaw_32 : decode cX9_laysRaw 32 = .ok (.if_icmp .eq 23, 3) := by decide +kernel
theorem dX9_laysRaw_35 : decode cX9_laysRaw 35 = .ok (.aload_n 0, 1) := by decide +kernel
theorem dX9_laysRaw_36 : decode cX9_laysRaw 36 = .ok (.iload_n 1, 1) := by decide +kernel
theorem dX9_laysRaw_37 : decode cX9_laysRaw 37 = .ok (.iload 4, 2) := by decide +kernel
theorem dX9_laysRaw_39 : decode cX9_laysRaw 39 = .ok (.invokevirtual 117, 3) := by decide +kernel
theorem dX9_laysRaw_42 : decode cX9_laysRaw 42 = .ok (.aload_n 0, 1) := by decide +kernel
theorem dX9_laysRaw_43 : decode cX9_laysRaw 43 = .ok (.getfield 7, 3) := by decide +kernel
theorem dX9_laysRaw_46 : decode cX9_laysRaw 46 = .ok (.iload_n 1, 1) := by decide +kernel
theorem dX9_laysRaw_47 : decode cX9_laysRaw 47 = .ok (.iconst 3, 1) := by decide +kernel
theorem dX9_laysRaw_48 : decode cX9_laysRaw 48 = .ok (.invokestatic 87, 3) := by decide +kernel
theorem dX9_laysRaw_51 : decode cX9_laysRaw 51 = .ok (.iaload, 1) := by decide +kernel
theorem dX9_laysRaw_52 : decode cX9_laysRaw 52 = .ok (.if_icmp .lt 7, 3) := by decide +kernel
theorem dX9_laysRaw_55 : decode cX9_laysRaw 55 = .ok (.iconst 1, 1) := by decide +kernel
theorem dX9_laysRaw_56 : decode cX9_laysRaw 56 = .ok (.goto 4, 3) := by decide +kernel
theorem dX9_laysRaw_59 : decode cX9_laysRaw 59 = .ok (.iconst 0, 1) := by decide +kernel
theorem dX9_laysRaw_60 : decode cX9_laysRaw 60 = .ok (.istore 5, 2) := by decide +kernel
theorem dX9_laysRaw_62 : decode cX9_laysRaw 62 = .ok (.iload_n 2, 1) := by decide +kernel
theorem dX9_laysRaw_63 : decode cX9_laysRaw 63 = .ok (.iload 5, 2) := by decide +kernel
theorem dX9_laysRaw_65 : decode cX9_laysRaw 65 = .ok (.ifCond .eq 7, 3) := by decide +kernel
theorem dX9_laysRaw_68 : decode cX9_laysRaw 68 = .ok (.iconst 1, 1) := by decide +kernel
theorem dX9_laysRaw_69 : decode cX9_laysRaw 69 = .ok (.goto 4, 3) := by decide +kernel
theorem dX9_laysRaw_72 : decode cX9_laysRaw 72 = .ok (.iconst 0, 1) := by decide +kernel
theorem dX9_laysRaw_73 : decode cX9_laysRaw 73 = .ok (.iadd, 1) := by decide +kernel
theorem dX9_laysRaw_74 : decode cX9_laysRaw 74 = .ok (.istore_n 2, 1) := by decide +kernel
theorem dX9_laysRaw_75 : decode cX9_laysRaw 75 = .ok (.iload 5, 2) := by decide +kernel
theorem dX9_laysRaw_77 : decode cX9_laysRaw 77 = .ok (.ifCond .eq 26, 3) := by decide +kernel
theorem dX9_laysRaw_80 : decode cX9_laysRaw 80 = .ok (.aload_n 0, 1) := by decide +kernel
theorem dX9_laysRaw_81 : decode cX9_laysRaw 81 = .ok (.getfield 7, 3) := by decide +kernel
theorem dX9_laysRaw_84 : decode cX9_laysRaw 84 = .ok (.iload_n 1, 1) := by decide +kernel
theorem dX9_laysRaw_85 : decode cX9_laysRaw 85 = .ok (.aload_n 0, 1) := by decide +kernel
theorem dX9_laysRaw_86 : decode cX9_laysRaw 86 = .ok (.getfield 23, 3) := by decide +kernel
theorem dX9_laysRaw_89 : decode cX9_laysRaw 89 = .ok (.iload 4, 2) := by decide +kernel
theorem dX9_laysRaw_91 : decode cX9_laysRaw 91 = .ok (.iaload, 1) := by decide +kernel
theorem dX9_laysRaw_92 : decode cX9_laysRaw 92 = .ok (.iconst 0, 1) := by decide +kernel
theorem dX9_laysRaw_93 : decode cX9_laysRaw 93 = .ok (.invokestatic 51, 3) := by decide +kernel
theorem dX9_laysRaw_96 : decode cX9_laysRaw 96 = .ok (.iaload, 1) := by decide +kernel
theorem dX9_laysRaw_97 : decode cX9_laysRaw 97 = .ok (.bipush 10, 2) := by decide +kernel
theorem dX9_laysRaw_99 : decode cX9_laysRaw 99 = .ok (.idiv, 1) := by decide +kernel
theorem dX9_laysRaw_100 : decode cX9_laysRaw 100 = .ok (.goto 4, 3) := by decide +kernel
theorem dX9_laysRaw_103 : decode cX9_laysRaw 103 = .ok (.iload_n 3, 1) := by decide +kernel
theorem dX9_laysRaw_104 : decode cX9_laysRaw 104 = .ok (.istore_n 3, 1) := by decide +kernel
theorem dX9_laysRaw_105 : decode cX9_laysRaw 105 = .ok (.aload_n 0, 1) := by decide +kernel
theorem dX9_laysRaw_106 : decode cX9_laysRaw 106 = .ok (.getfield 7, 3) := by decide +kernel
theorem dX9_laysRaw_109 : decode cX9_laysRaw 109 = .ok (.iload_n 1, 1) := by decide +kernel
theorem dX9_laysRaw_110 : decode cX9_laysRaw 110 = .ok (.aload_n 0, 1) := by decide +kernel
theorem dX9_laysRaw_111 : decode cX9_laysRaw 111 = .ok (.getfield 23, 3) := by decide +kernel
theorem dX9_laysRaw_114 : decode cX9_laysRaw 114 = .ok (.iload 4, 2) := by decide +kernel
theorem dX9_laysRaw_116 : decode cX9_laysRaw 116 = .ok (.iaload, 1) := by decide +kernel
theorem dX9_laysRaw_117 : decode cX9_laysRaw 117 = .ok (.iconst 5, 1) := by decide +kernel
theorem dX9_laysRaw_118 : decode cX9_laysRaw 118 = .ok (.invokestatic 51, 3) := by decide +kernel
theorem dX9_laysRaw_121 : decode cX9_laysRaw 121 = .ok (.iload_n 3, 1) := by decide +kernel
theorem dX9_laysRaw_122 : decode cX9_laysRaw 122 = .ok (.iastore, 1) := by decide +kernel
theorem dX9_laysRaw_123 : decode cX9_laysRaw 123 = .ok (.aload_n 0, 1) := by decide +kernel
theorem dX9_laysRaw_124 : decode cX9_laysRaw 124 = .ok (.getfield 7, 3) := by decide +kernel
theorem dX9_laysRaw_127 : decode cX9_laysRaw 127 = .ok (.iload_n 1, 1) := by decide +kernel
theorem dX9_laysRaw_128 : decode cX9_laysRaw 128 = .ok (.aload_n 0, 1) := by decide +kernel
theorem dX9_laysRaw_129 : decode cX9_laysRaw 129 = .ok (.getfield 23, 3) := by decide +kernel
theorem dX9_laysRaw_132 : decode cX9_laysRaw 132 = .ok (.iload 4, 2) := by decide +kernel
theorem dX9_laysRaw_134 : decode cX9_laysRaw 134 = .ok (.iaload, 1) := by decide +kernel
theorem dX9_laysRaw_135 : decode cX9_laysRaw 135 = .ok (.bipush 7, 2) := by decide +kernel
theorem dX9_laysRaw_137 : decode cX9_laysRaw 137 = .ok (.invokestatic 51, 3) := by decide +kernel
theorem dX9_laysRaw_140 : decode cX9_laysRaw 140 = .ok (.iload_n 2, 1) := by decide +kernel
theorem dX9_laysRaw_141 : decode cX9_laysRaw 141 = .ok (.iastore, 1) := by decide +kernel
theorem dX9_laysRaw_142 : decode cX9_laysRaw 142 = .ok (.aload_n 0, 1) := by decide +kernel
theorem dX9_laysRaw_143 : decode cX9_laysRaw 143 = .ok (.getfield 7, 3) := by decide +kernel
theorem dX9_laysRaw_146 : decode cX9_laysRaw 146 = .ok (.iload_n 1, 1) := by decide +kernel
theorem dX9_laysRaw_147 : decode cX9_laysRaw 147 = .ok (.aload_n 0, 1) := by decide +kernel
theorem dX9_laysRaw_148 : decode cX9_laysRaw 148 = .ok (.getfield 23, 3) := by decide +kernel
theorem dX9_laysRaw_151 : decode cX9_laysRaw 151 = .ok (.iload 4, 2) := by decide +kernel
theorem dX9_laysRaw_153 : decode cX9_laysRaw 153 = .ok (.iaload, 1) := by decide +kernel
theorem dX9_laysRaw_154 : decode cX9_laysRaw 154 = .ok (.bipush 8, 2) := by decide +kernel
theorem dX9_laysRaw_156 : decode cX9_laysRaw 156 = .ok (.invokestatic 51, 3) := by decide +kernel
theorem dX9_laysRaw_159 : decode cX9_laysRaw 159 = .ok (.iload 4, 2) := by decide +kernel
theorem dX9_laysRaw_161 : decode cX9_laysRaw 161 = .ok (.iconst 1, 1) := by decide +kernel
theorem dX9_laysRaw_162 : decode cX9_laysRaw 162 = .ok (.iadd, 1) := by decide +kernel
theorem dX9_laysRaw_163 : decode cX9_laysRaw 163 = .ok (.iastore, 1) := by decide +kernel
theorem dX9_laysRaw_164 : decode cX9_laysRaw 164 = .ok (.iinc 4 1, 3) := by decide +kernel
theorem dX9_laysRaw_167 : decode cX9_laysRaw 167 = .ok (.goto (-160), 3) := by decide +kernel
theorem dX9_laysRaw_170 : decode cX9_laysRaw 170 = .ok (.aload_n 0, 1) := by decide +kernel
theorem dX9_laysRaw_171 : decode cX9_laysRaw 171 = .ok (.getfield 7, 3) := by decide +kernel
theorem dX9_laysRaw_174 : decode cX9_laysRaw 174 = .ok (.iload_n 1, 1) := by decide +kernel
theorem dX9_laysRaw_175 : decode cX9_laysRaw 175 = .ok (.bipush 6, 2) := by decide +kernel
theorem dX9_laysRaw_177 : decode cX9_laysRaw 177 = .ok (.invokestatic 87, 3) := by decide +kernel
theorem dX9_laysRaw_180 : decode cX9_laysRaw 180 = .ok (.iload_n 2, 1) := by decide +kernel
theorem dX9_laysRaw_181 : decode cX9_laysRaw 181 = .ok (.iconst 1, 1) := by decide +kernel
theorem dX9_laysRaw_182 : decode cX9_laysRaw 182 = .ok (.iadd, 1) := by decide +kernel
theorem dX9_laysRaw_183 : decode cX9_laysRaw 183 = .ok (.iastore, 1) := by decide +kernel
theorem dX9_laysRaw_184 : decode cX9_laysRaw 184 = .ok (.return_, 1) := by decide +kernel
set_option maxRecDepth 20000 in
theorem ggX9_doesCount_X9_at : GoodIn wsX9_doesCount wsX9_at := goodIn_r _ [5] rfl (by decide +kernel)
set_option maxRecDepth 20000 in
theorem gX9_doesCount_X9_at : GoodIn wsX9_doesCount (va_wsS RX9 87 yX9_at wsX9_at) := goodIn_app (goodIn_of _ (by decide +kernel)) ggX9_doesCount_X9_at
set_option maxRecDepth 20000 in
theorem ggX9_doesCount_X9_at_ : GoodIn wsX9_doesCount wsX9_at_ := goodIn_r _ [8] rfl (by decide +kernel)
set_option maxRecDepth 20000 in
theorem gX9_doesCount_X9_at_ : GoodIn wsX9_doesCount (va_wsS RX9 51 yX9_at_ wsX9_at_) := goodIn_app (goodIn_of _ (by decide +kernel)) ggX9_doesCount_X9_at_
theorem dX9_doesCount_0 : decode cX9_doesCount 0 = .ok (.aload_n 0, 1) := by decide +kernel
theorem dX9_doesCount_1 : decode cX9_doesCount 1 = .ok (.getfield 7, 3) := by decide +kernel
theorem dX9_doesCount_4 : decode cX9_doesCount 4 = .ok (.iload_n 1, 1) := by decide +kernel
theorem dX9_doesCount_5 : decode cX9_doesCount 5 = .ok (.iconst 0, 1) := by decide +kernel
theorem dX9_doesCount_6 : decode cX9_doesCount 6 = .ok (.invokestatic 87, 3) := by decide +kernel
theorem dX9_doesCount_9 : decode cX9_doesCount 9 = .ok (.iaload, 1) := by decide +kernel
theorem dX9_doesCount_10 : decode cX9_doesCount 10 = .ok (.iconst 1, 1) := by decide +kernel
theorem dX9_doesCount_11 : decode cX9_doesCount 11 = .ok (.if_icmp .gt 46, 3) := by decide +kernel
theorem dX9_doesCount_14 : decode cX9_doesCount 14 = .ok (.aload_n 0, 1) := by decide +kernel
theorem dX9_doesCount_15 : decode cX9_doesCount 15 = .ok (.getfield 7, 3) := by decide +kernel
theorem dX9_doesCount_18 : decode cX9_doesCount 18 = .ok (.iload_n 1, 1) := by decide +kernel
theorem dX9_doesCount_19 : decode cX9_doesCount 19 = .ok (.iload_n 2, 1) := by decide +kernel
theorem dX9_doesCount_20 : decode cX9_doesCount 20 = .ok (.iconst 1, 1) := by decide +kernel
theorem dX9_doesCount_21 : decode cX9_doesCount 21 = .ok (.invokestatic 51, 3) := by decide +kernel
theorem dX9_doesCount_24 : decode cX9_doesCount 24 = .ok (.iaload, 1) := by decide +kernel
theorem dX9_doesCount_25 : decode cX9_doesCount 25 = .ok (.iconst (-1), 1) := by decide +kernel
theorem dX9_doesCount_26 : decode cX9_doesCount 26 = .ok (.if_icmp .eq 31, 3) := by decide +kernel
theorem dX9_doesCount_29 : decode cX9_doesCount 29 = .ok (.aload_n 0, 1) := by decide +kernel
theorem dX9_doesCount_30 : decode cX9_doesCount 30 = .ok (.getfield 7, 3) := by decide +kernel
theorem dX9_doesCount_33 : decode cX9_doesCount 33 = .ok (.iload_n 1, 1) := by decide +kernel
theorem dX9_doesCount_34 : decode cX9_doesCount 34 = .ok (.iload_n 2, 1) := by decide +kernel
theorem dX9_doesCount_35 : decode cX9_doesCount 35 = .ok (.iconst 1, 1) := by decide +kernel
theorem dX9_doesCount_36 : decode cX9_doesCount 36 = .ok (.invokestatic 51, 3) := by decide +kernel
theorem dX9_doesCount_39 : decode cX9_doesCount 39 = .ok (.iaload, 1) := by decide +kernel
theorem dX9_doesCount_40 : decode cX9_doesCount 40 = .ok (.aload_n 0, 1) := by decide +kernel
theorem dX9_doesCount_41 : decode cX9_doesCount 41 = .ok (.getfield 7, 3) := by decide +kernel
theorem dX9_doesCount_44 : decode cX9_doesCount 44 = .ok (.iload_n 1, 1) := by decide +kernel
theorem dX9_doesCount_45 : decode cX9_doesCount 45 = .ok (.iconst 4, 1) := by decide +kernel
theorem dX9_doesCount_46 : decode cX9_doesCount 46 = .ok (.invokestatic 87, 3) := by decide +kernel
theorem dX9_doesCount_49 : decode cX9_doesCount 49 = .ok (.iaload, 1) := by decide +kernel
theorem dX9_doesCount_50 : decode cX9_doesCount 50 = .ok (.if_icmp .gt 7, 3) := by decide +kernel
theorem dX9_doesCount_53 : decode cX9_doesCount 53 = .ok (.iconst 1, 1) := by decide +kernel
theorem dX9_doesCount_54 : decode cX9_doesCount 54 = .ok (.goto 4, 3) := by decide +kernel
theorem dX9_doesCount_57 : decode cX9_doesCount 57 = .ok (.iconst 0, 1) := by decide +kernel
theorem dX9_doesCount_58 : decode cX9_doesCount 58 = .ok (.ireturn, 1) := by decide +kernel
set_option maxRecDepth 20000 in
theorem ggX9_timeOf_X9_at_ : GoodIn wsX9_timeOf wsX9_at_ := goodIn_r _ [5] rfl (by decide +kernel)
set_option maxRecDepth 20000 in
theorem gX9_timeOf_X9_at_ : GoodIn wsX9_timeOf (va_wsS RX9 51 yX9_at_ wsX9_at_) := goodIn_app (goodIn_of _ (by decide +kernel)) ggX9_timeOf_X9_at_
set_option maxRecDepth 20000 in
theorem ggX9_timeOf_X9_doesCount : GoodIn wsX9_timeOf wsX9_doesCount := goodIn_r _ [9, 1, 10, 11, 4, 12, 2, 3, 5, 17, 18, 19, 20, 21, 22, 23, 24, 25, 26, 27, 28, 29, 30, 31, 32, 33, 34] rfl (by decide +kernel)
set_option maxRecDepth 20000 in
theorem gX9_timeOf_X9_doesCount : GoodIn wsX9_timeOf (wsV RX9 120 RX9 yX9_doesCount wsX9_doesCount) := goodIn_app (goodIn_of _ (by decide +kernel)) ggX9_timeOf_X9_doesCount
set_option maxRecDepth 20000 in
theorem ggX9_timeOf_X9_hasFinish : GoodIn wsX9_timeOf wsX9_hasFinish := goodIn_r _ [16, 1, 2, 3, 4, 5, 17, 18, 19, 20, 21, 22, 23, 24, 25, 26, 27, 28, 29, 30, 31, 32, 33, 34] rfl (by decide +kernel)
set_option maxRecDepth 20000 in
theorem gX9_timeOf_X9_hasFinish : GoodIn wsX9_timeOf (wsV RX9 55 RX9 yX9_hasFinish wsX9_hasFinish) := goodIn_app (goodIn_of _ (by decide +kernel)) ggX9_timeOf_X9_hasFinish
theorem dX9_timeOf_0 : decode cX9_timeOf 0 = .ok (.aload_n 0, 1) := by decide +kernel
theorem dX9_timeOf_1 : decode cX9_timeOf 1 = .ok (.getfield 7, 3) := by decide +kernel
theorem dX9_timeOf_4 : decode cX9_timeOf 4 = .ok (.iload_n 1, 1) := by decide +kernel
theorem dX9_timeOf_5 : decode cX9_timeOf 5 = .ok (.iload_n 2, 1) := by decide +kernel
theorem dX9_timeOf_6 : decode cX9_timeOf 6 = .ok (.iconst 5, 1) := by decide +kernel
theorem dX9_timeOf_7 : decode cX9_timeOf 7 = .ok (.invokestatic 51, 3) := by decide +kernel
theorem dX9_timeOf_10 : decode cX9_timeOf 10 = .ok (.iaload, 1) := by decide +kernel
theorem dX9_timeOf_11 : decode cX9_timeOf 11 = .ok (.istore_n 3, 1) := by decide +kernel
theorem dX9_timeOf_12 : decode cX9_timeOf 12 = .ok (.iload_n 2, 1) := by decide +kernel
theorem dX9_timeOf_13 : decode cX9_timeOf 13 = .ok (.istore 4, 2) := by decide +kernel
theorem dX9_timeOf_15 : decode cX9_timeOf 15 = .ok (.iconst 1, 1) := by decide +kernel
theorem dX9_timeOf_16 : decode cX9_timeOf 16 = .ok (.iload_n 2, 1) := by decide +kernel
theorem dX9_timeOf_17 : decode cX9_timeOf 17 = .ok (.ishl, 1) := by decide +kernel
theorem dX9_timeOf_18 : decode cX9_timeOf 18 = .ok (.istore 5, 2) := by decide +kernel
theorem dX9_timeOf_20 : decode cX9_timeOf 20 = .ok (.aload_n 0, 1) := by decide +kernel
theorem dX9_timeOf_21 : decode cX9_timeOf 21 = .ok (.iload_n 1, 1) := by decide +kernel
theorem dX9_timeOf_22 : decode cX9_timeOf 22 = .ok (.iload 4, 2) := by decide +kernel
theorem dX9_timeOf_24 : decode cX9_timeOf 24 = .ok (.invokevirtual 120, 3) := by decide +kernel
theorem dX9_timeOf_27 : decode cX9_timeOf 27 = .ok (.ifCond .eq 95, 3) := by decide +kernel
theorem dX9_timeOf_30 : decode cX9_timeOf 30 = .ok (.aload_n 0, 1) := by decide +kernel
theorem dX9_timeOf_31 : decode cX9_timeOf 31 = .ok (.getfield 7, 3) := by decide +kernel
theorem dX9_timeOf_34 : decode cX9_timeOf 34 = .ok (.iload_n 1, 1) := by decide +kernel
theorem dX9_timeOf_35 : decode cX9_timeOf 35 = .ok (.iload 4, 2) := by decide +kernel
theorem dX9_timeOf_37 : decode cX9_timeOf 37 = .ok (.iconst 2, 1) := by decide +kernel
theorem dX9_timeOf_38 : decode cX9_timeOf 38 = .ok (.invokestatic 51, 3) := by decide +kernel
theorem dX9_timeOf_41 : decode cX9_timeOf 41 = .ok (.iaload, 1) := by decide +kernel
theorem dX9_timeOf_42 : decode cX9_timeOf 42 = .ok (.istore 6, 2) := by decide +kernel
theorem dX9_timeOf_44 : decode cX9_timeOf 44 = .ok (.iload 6, 2) := by decide +kernel
theorem dX9_timeOf_46 : decode cX9_timeOf 46 = .ok (.iconst (-1), 1) := by decide +kernel
theorem dX9_timeOf_47 : decode cX9_timeOf 47 = .ok (.if_icmp .eq 24, 3) := by decide +kernel
theorem dX9_timeOf_50 : decode cX9_timeOf 50 = .ok (.aload_n 0, 1) := by decide +kernel
theorem dX9_timeOf_51 : decode cX9_timeOf 51 = .ok (.iload_n 1, 1) := by decide +kernel
theorem dX9_timeOf_52 : decode cX9_timeOf 52 = .ok (.iload 6, 2) := by decide +kernel
theorem dX9_timeOf_54 : decode cX9_timeOf 54 = .ok (.invokevirtual 55, 3) := by decide +kernel
theorem dX9_timeOf_57 : decode cX9_timeOf 57 = .ok (.ifCond .eq 14, 3) := by decide +kernel
theorem dX9_timeOf_60 : decode cX9_timeOf 60 = .ok (.iload 5, 2) := by decide +kernel
theorem dX9_timeOf_62 : decode cX9_timeOf 62 = .ok (.iload 6, 2) := by decide +kernel
theorem dX9_timeOf_64 : decode cX9_timeOf 64 = .ok (.ishr, 1) := by decide +kernel
theorem dX9_timeOf_65 : decode cX9_timeOf 65 = .ok (.iconst 1, 1) := by decide +kernel
theorem dX9_timeOf_66 : decode cX9_timeOf 66 = .ok (.iand, 1) := by decide +kernel
theorem dX9_timeOf_67 : decode cX9_timeOf 67 = .ok (.iconst 1, 1) := by decide +kernel
theorem dX9_timeOf_68 : decode cX9_timeOf 68 = .ok (.if_icmp .ne 5, 3) := by decide +kernel
theorem dX9_timeOf_71 : decode cX9_timeOf 71 = .ok (.iload_n 3, 1) := by decide +kernel
theorem dX9_timeOf_72 : decode cX9_timeOf 72 = .ok (.ireturn, 1) := by decide +kernel
theorem dX9_timeOf_73 : decode cX9_timeOf 73 = .ok (.aload_n 0, 1) := by decide +kernel
theorem dX9_timeOf_74 : decode cX9_timeOf 74 = .ok (.getfield 7, 3) := by decide +kernel
theorem dX9_timeOf_77 : decode cX9_timeOf 77 = .ok (.iload_n 1, 1) := by decide +kernel
theorem dX9_timeOf_78 : decode cX9_timeOf 78 = .ok (.iload 6, 2) := by decide +kernel
theorem dX9_timeOf_80 : decode cX9_timeOf 80 = .ok (.iconst 5, 1) := by decide +kernel
theorem dX9_timeOf_81 : decode cX9_timeOf 81 = .ok (.invokestatic 51, 3) := by decide +kernel
theorem dX9_timeOf_84 : decode cX9_timeOf 84 = .ok (.iaload, 1) := by decide +kernel
theorem dX9_timeOf_85 : decode cX9_timeOf 85 = .ok (.iload_n 3, 1) := by decide +kernel
theorem dX9_timeOf_86 : decode cX9_timeOf 86 = .ok (.if_icmp .ge 18, 3) := by decide +kernel
theorem dX9_timeOf_89 : decode cX9_timeOf 89 = .ok (.aload_n 0, 1) := by decide +kernel
theorem dX9_timeOf_90 : decode cX9_timeOf 90 = .ok (.getfield 7, 3) := by decide +kernel
theorem dX9_timeOf_93 : decode cX9_timeOf 93 = .ok (.iload_n 1, 1) := by decide +kernel
theorem dX9_timeOf_94 : decode cX9_timeOf 94 = .ok (.iload 6, 2) := by decide +kernel
theorem dX9_timeOf_96 : decode cX9_timeOf 96 = .ok (.iconst 5, 1) := by decide +kernel
theorem dX9_timeOf_97 : decode cX9_timeOf 97 = .ok (.invokestatic 51, 3) := by decide +kernel
theorem dX9_timeOf_100 : decode cX9_timeOf 100 = .ok (.iaload, 1) := by decide +kernel
theorem dX9_timeOf_101 : decode cX9_timeOf 101 = .ok (.goto 4, 3) := by decide +kernel
theorem dX9_timeOf_104 : decode cX9_timeOf 104 = .ok (.iload_n 3, 1) := by decide +kernel
theorem dX9_timeOf_105 : decode cX9_timeOf 105 = .ok (.istore_n 3, 1) := by decide +kernel
theorem dX9_timeOf_106 : decode cX9_timeOf 106 = .ok (.iload 5, 2) := by decide +kernel
theorem dX9_timeOf_108 : decode cX9_timeOf 108 = .ok (.iconst 1, 1) := by decide +kernel
theorem dX9_timeOf_109 : decode cX9_timeOf 109 = .ok (.iload 6, 2) := by decide +kernel
theorem dX9_timeOf_111 : decode cX9_timeOf 111 = .ok (.ishl, 1) := by decide +kernel
theorem dX9_timeOf_112 : decode cX9_timeOf 112 = .ok (.ior, 1) := by decide +kernel
theorem dX9_timeOf_113 : decode cX9_timeOf 113 = .ok (.istore 5, 2) := by decide +kernel
theorem dX9_timeOf_115 : decode cX9_timeOf 115 = .ok (.iload 6, 2) := by decide +kernel
theorem dX9_timeOf_117 : decode cX9_timeOf 117 = .ok (.istore 4, 2) := by decide +kernel
theorem dX9_timeOf_119 : decode cX9_timeOf 119 = .ok (.goto (-99), 3) := by decide +kernel
theorem dX9_timeOf_122 : decode cX9_timeOf 122 = .ok (.iload_n 3, 1) := by decide +kernel
theorem dX9_timeOf_123 : decode cX9_timeOf 123 = .ok (.ireturn, 1) := by decide +kernel
set_option maxRecDepth 20000 in
theorem ggX9_isLate_X9_hasFinish : GoodIn wsX9_isLate wsX9_hasFinish := goodIn_r _ [6, 1, 7, 8, 5, 9, 13, 14, 15, 16, 17, 18, 19, 20, 21, 22, 23, 24, 25, 26, 27, 28, 29, 30] rfl (by decide +kernel)
set_option maxRecDepth 20000 in
theorem gX9_isLate_X9_hasFinish : GoodIn wsX9_isLate (wsV RX9 55 RX9 yX9_hasFinish wsX9_hasFinish) := goodIn_app (goodIn_of _ (by decide +kernel)) ggX9_isLate_X9_hasFinish
set_option maxRecDepth 20000 in
theorem ggX9_isLate_X9_at_ : GoodIn wsX9_isLate wsX9_at_ := goodIn_r _ [9] rfl (by decide +kernel)
set_option maxRecDepth 20000 in
theorem gX9_isLate_X9_at_ : GoodIn wsX9_isLate (va_wsS RX9 51 yX9_at_ wsX9_at_) := goodIn_app (goodIn_of _ (by decide +kernel)) ggX9_isLate_X9_at_
set_option maxRecDepth 20000 in
theorem ggX9_isLate_X9_at : GoodIn wsX9_isLate wsX9_at := goodIn_r _ [12] rfl (by decide +kernel)
set_option maxRecDepth 20000 in
theorem gX9_isLate_X9_at : GoodIn wsX9_isLate (va_wsS RX9 87 yX9_at wsX9_at) := goodIn_app (goodIn_of _ (by decide +kernel)) ggX9_isLate_X9_at
theorem dX9_isLate_0 : decode cX9_isLate 0 = .ok (.aload_n 0, 1) := by decide +kernel
theorem dX9_isLate_1 : decode cX9_isLate 1 = .ok (.iload_n 1, 1) := by decide +kernel
theorem dX9_isLate_2 : decode cX9_isLate 2 = .ok (.iload_n 2, 1) := by decide +kernel
theorem dX9_isLate_3 : decode cX9_isLate 3 = .ok (.invokevirtual 55, 3) := by decide +kernel
theorem dX9_isLate_6 : decode cX9_isLate 6 = .ok (.ifCond .eq 47, 3) := by decide +kernel
theorem dX9_isLate_9 : decode cX9_isLate 9 = .ok (.aload_n 0, 1) := by decide +kernel
theorem dX9_isLate_10 : decode cX9_isLate 10 = .ok (.getfield 7, 3) := by decide +kernel
theorem dX9_isLate_13 : decode cX9_isLate 13 = .ok (.iload_n 1, 1) := by decide +kernel
theorem dX9_isLate_14 : decode cX9_isLate 14 = .ok (.iload_n 2, 1) := by decide +kernel
theorem dX9_isLate_15 : decode cX9_isLate 15 = .ok (.iconst 4, 1) := by decide +kernel
theorem dX9_isLate_16 : decode cX9_isLate 16 = .ok (.invokestatic 51, 3) := by decide +kernel
theorem dX9_isLate_19 : decode cX9_isLate 19 = .ok (.iaload, 1) := by decide +kernel
theorem dX9_isLate_20 : decode cX9_isLate 20 = .ok (.ifCond .ne 33, 3) := by decide +kernel
theorem dX9_isLate_23 : decode cX9_isLate 23 = .ok (.aload_n 0, 1) := by decide +kernel
theorem dX9_isLate_24 : decode cX9_isLate 24 = .ok (.getfield 7, 3) := by decide +kernel
theorem dX9_isLate_27 : decode cX9_isLate 27 = .ok (.iload_n 1, 1) := by decide +kernel
theorem dX9_isLate_28 : decode cX9_isLate 28 = .ok (.iload_n 2, 1) := by decide +kernel
theorem dX9_isLate_29 : decode cX9_isLate 29 = .ok (.bipush 6, 2) := by decide +kernel
theorem dX9_isLate_31 : decode cX9_isLate 31 = .ok (.invokestatic 51, 3) := by decide +kernel
theorem dX9_isLate_34 : decode cX9_isLate 34 = .ok (.iaload, 1) := by decide +kernel
theorem dX9_isLate_35 : decode cX9_isLate 35 = .ok (.aload_n 0, 1) := by decide +kernel
theorem dX9_isLate_36 : decode cX9_isLate 36 = .ok (.getfield 7, 3) := by decide +kernel
theorem dX9_isLate_39 : decode cX9_isLate 39 = .ok (.iload_n 1, 1) := by decide +kernel
theorem dX9_isLate_40 : decode cX9_isLate 40 = .ok (.bipush 9, 2) := by decide +kernel
theorem dX9_isLate_42 : decode cX9_isLate 42 = .ok (.invokestatic 87, 3) := by decide +kernel
theorem dX9_isLate_45 : decode cX9_isLate 45 = .ok (.iaload, 1) := by decide +kernel
theorem dX9_isLate_46 : decode cX9_isLate 46 = .ok (.if_icmp .le 7, 3) := by decide +kernel
theorem dX9_isLate_49 : decode cX9_isLate 49 = .ok (.iconst 1, 1) := by decide +kernel
theorem dX9_isLate_50 : decode cX9_isLate 50 = .ok (.goto 4, 3) := by decide +kernel
theorem dX9_isLate_53 : decode cX9_isLate 53 = .ok (.iconst 0, 1) := by decide +kernel
theorem dX9_isLate_54 : decode cX9_isLate 54 = .ok (.ireturn, 1) := by decide +kernel
theorem dX9_hundredths_0 : decode cX9_hundredths 0 = .ok (.iload_n 0, 1) := by decide +kernel
theorem dX9_hundredths_1 : decode cX9_hundredths 1 = .ok (.ifCond .ne 8, 3) := by decide +kernel
theorem dX9_hundredths_4 : decode cX9_hundredths 4 = .ok (.bipush 7, 2) := by decide +kernel
theorem dX9_hundredths_6 : decode cX9_hundredths 6 = .ok (.goto 25, 3) := by decide +kernel
theorem dX9_hundredths_9 : decode cX9_hundredths 9 = .ok (.iload_n 0, 1) := by decide +kernel
theorem dX9_hundredths_10 : decode cX9_hundredths 10 = .ok (.iconst 1, 1) := by decide +kernel
theorem dX9_hundredths_11 : decode cX9_hundredths 11 = .ok (.if_icmp .ne 8, 3) := by decide +kernel
theorem dX9_hundredths_14 : decode cX9_hundredths 14 = .ok (.bipush 10, 2) := by decide +kernel
theorem dX9_hundredths_16 : decode cX9_hundredths 16 = .ok (.goto 15, 3) := by decide +kernel
theorem dX9_hundredths_19 : decode cX9_hundredths 19 = .ok (.iload_n 0, 1) := by decide +kernel
theorem dX9_hundredths_20 : decode cX9_hundredths 20 = .ok (.iconst 2, 1) := by decide +kernel
theorem dX9_hundredths_21 : decode cX9_hundredths 21 = .ok (.if_icmp .ne 8, 3) := by decide +kernel
theorem dX9_hundredths_24 : decode cX9_hundredths 24 = .ok (.bipush 15, 2) := by decide +kernel
theorem dX9_hundredths_26 : decode cX9_hundredths 26 = .ok (.goto 5, 3) := by decide +kernel
theorem dX9_hundredths_29 : decode cX9_hundredths 29 = .ok (.bipush 30, 2) := by decide +kernel
theorem dX9_hundredths_31 : decode cX9_hundredths 31 = .ok (.ireturn, 1) := by decide +kernel
set_option maxRecDepth 20000 in
theorem ggX9_laysLimit_X9_at_ : GoodIn wsX9_laysLimit wsX9_at_ := goodIn_r _ [7] rfl (by decide +kernel)
set_option maxRecDepth 20000 in
theorem gX9_laysLimit_X9_at_ : GoodIn wsX9_laysLimit (va_wsS RX9 51 yX9_at_ wsX9_at_) := goodIn_app (goodIn_of _ (by decide +kernel)) ggX9_laysLimit_X9_at_
set_option maxRecDepth 20000 in
theorem ggX9_laysLimit_X9_at : GoodIn wsX9_laysLimit wsX9_at := goodIn_r _ [10] rfl (by decide +kernel)
set_option maxRecDepth 20000 in
theorem gX9_laysLimit_X9_at : GoodIn wsX9_laysLimit (va_wsS RX9 87 yX9_at wsX9_at) := goodIn_app (goodIn_of _ (by decide +kernel)) ggX9_laysLimit_X9_at
set_option maxRecDepth 20000 in
theorem ggX9_laysLimit_X9_hundredths : GoodIn wsX9_laysLimit wsX9_hundredths := goodIn_r _ [13] rfl (by decide +kernel)
set_option maxRecDepth 20000 in
theorem gX9_laysLimit_X9_hundredths : GoodIn wsX9_laysLimit (va_wsS RX9 123 yX9_hundredths wsX9_hundredths) := goodIn_app (goodIn_of _ (by decide +kernel)) ggX9_laysLimit_X9_hundredths
theorem dX9_laysLimit_0 : decode cX9_laysLimit 0 = .ok (.aload_n 0, 1) := by decide +kernel
theorem dX9_laysLimit_1 : decode cX9_laysLimit 1 = .ok (.getfield 7, 3) := by decide +kernel
theorem dX9_laysLimit_4 : decode cX9_laysLimit 4 = .ok (.iload_n 1, 1) := by decide +kernel
theorem dX9_laysLimit_5 : decode cX9_laysLimit 5 = .ok (.aload_n 0, 1) := by decide +kernel
theorem dX9_laysLimit_6 : decode cX9_laysLimit 6 = .ok (.getfield 23, 3) := by decide +kernel
theorem dX9_laysLimit_9 : decode cX9_laysLimit 9 = .ok (.iconst 0, 1) := by decide +kernel
theorem dX9_laysLimit_10 : decode cX9_laysLimit 10 = .ok (.iaload, 1) := by decide +kernel
theorem dX9_laysLimit_11 : decode cX9_laysLimit 11 = .ok (.bipush 6, 2) := by decide +kernel
theorem dX9_laysLimit_13 : decode cX9_laysLimit 13 = .ok (.invokestatic 51, 3) := by decide +kernel
theorem dX9_laysLimit_16 : decode cX9_laysLimit 16 = .ok (.iaload, 1) := by decide +kernel
theorem dX9_laysLimit_17 : decode cX9_laysLimit 17 = .ok (.istore_n 2, 1) := by decide +kernel
theorem dX9_laysLimit_18 : decode cX9_laysLimit 18 = .ok (.iconst 1, 1) := by decide +kernel
theorem dX9_laysLimit_19 : decode cX9_laysLimit 19 = .ok (.istore_n 3, 1) := by decide +kernel
theorem dX9_laysLimit_20 : decode cX9_laysLimit 20 = .ok (.iload_n 3, 1) := by decide +kernel
theorem dX9_laysLimit_21 : decode cX9_laysLimit 21 = .ok (.aload_n 0, 1) := by decide +kernel
theorem dX9_laysLimit_22 : decode cX9_laysLimit 22 = .ok (.getfield 114, 3) := by decide +kernel
theorem dX9_laysLimit_25 : decode cX9_laysLimit 25 = .ok (.if_icmp .ge 52, 3) := by decide +kernel
theorem dX9_laysLimit_28 : decode cX9_laysLimit 28 = .ok (.aload_n 0, 1) := by decide +kernel
theorem dX9_laysLimit_29 : decode cX9_laysLimit 29 = .ok (.getfield 7, 3) := by decide +kernel
theorem dX9_laysLimit_32 : decode cX9_laysLimit 32 = .ok (.iload_n 1, 1) := by decide +kernel
theorem dX9_laysLimit_33 : decode cX9_laysLimit 33 = .ok (.aload_n 0, 1) := by decide +kernel
theorem dX9_laysLimit_34 : decode cX9_laysLimit 34 = .ok (.getfield 23, 3) := by decide +kernel
theorem dX9_laysLimit_37 : decode cX9_laysLimit 37 = .ok (.iload_n 3, 1) := by decide +kernel
theorem dX9_laysLimit_38 : decode cX9_laysLimit 38 = .ok (.iaload, 1) := by decide +kernel
theorem dX9_laysLimit_39 : decode cX9_laysLimit 39 = .ok (.bipush 6, 2) := by decide +kernel
theorem dX9_laysLimit_41 : decode cX9_laysLimit 41 = .ok (.invokestatic 51, 3) := by decide +kernel
theorem dX9_laysLimit_44 : decode cX9_laysLimit 44 = .ok (.iaload, 1) := by decide +kernel
theorem dX9_laysLimit_45 : decode cX9_laysLimit 45 = .ok (.iload_n 2, 1) := by decide +kernel
theorem dX9_laysLimit_46 : decode cX9_laysLimit 46 = .ok (.if_icmp .ge 23, 3) := by decide +kernel
theorem dX9_laysLimit_49 : decode cX9_laysLimit 49 = .ok (.aload_n 0, 1) := by decide +kernel
theorem dX9_laysLimit_50 : decode cX9_laysLimit 50 = .ok (.getfield 7, 3) := by decide +kernel
theorem dX9_laysLimit_53 : decode cX9_laysLimit 53 = .ok (.iload_n 1, 1) := by decide +kernel
theorem dX9_laysLimit_54 : decode cX9_laysLimit 54 = .ok (.aload_n 0, 1) := by decide +kernel
theorem dX9_laysLimit_55 : decode cX9_laysLimit 55 = .ok (.getfield 23, 3) := by decide +kernel
theorem dX9_laysLimit_58 : decode cX9_laysLimit 58 = .ok (.iload_n 3, 1) := by decide +kernel
theorem dX9_laysLimit_59 : decode cX9_laysLimit 59 = .ok (.iaload, 1) := by decide +kernel
theorem dX9_laysLimit_60 : decode cX9_laysLimit 60 = .ok (.bipush 6, 2) := by decide +kernel
theorem dX9_laysLimit_62 : decode cX9_laysLimit 62 = .ok (.invokestatic 51, 3) := by decide +kernel
theorem dX9_laysLimit_65 : decode cX9_laysLimit 65 = .ok (.iaload, 1) := by decide +kernel
theorem dX9_laysLimit_66 : decode cX9_laysLimit 66 = .ok (.goto 4, 3) := by decide +kernel
theorem dX9_laysLimit_69 : decode cX9_laysLimit 69 = .ok (.iload_n 2, 1) := by decide +kernel
theorem dX9_laysLimit_70 : decode cX9_laysLimit 70 = .ok (.istore_n 2, 1) := by decide +kernel
theorem dX9_laysLimit_71 : decode cX9_laysLimit 71 = .ok (.iinc 3 1, 3) := by decide +kernel
theorem dX9_laysLimit_74 : decode cX9_laysLimit 74 = .ok (.goto (-54), 3) := by decide +kernel
theorem dX9_laysLimit_77 : decode cX9_laysLimit 77 = .ok (.aload_n 0, 1) := by decide +kernel
theorem dX9_laysLimit_78 : decode cX9_laysLimit 78 = .ok (.getfield 7, 3) := by decide +kernel
theorem dX9_laysLimit_81 : decode cX9_laysLimit 81 = .ok (.iload_n 1, 1) := by decide +kernel
theorem dX9_laysLimit_82 : decode cX9_laysLimit 82 = .ok (.iconst 1, 1) := by decide +kernel
theorem dX9_laysLimit_83 : decode cX9_laysLimit 83 = .ok (.invokestatic 87, 3) := by decide +kernel
theorem dX9_laysLimit_86 : decode cX9_laysLimit 86 = .ok (.iaload, 1) := by decide +kernel
theorem dX9_laysLimit_87 : decode cX9_laysLimit 87 = .ok (.sipush 3600, 3) := by decide +kernel
theorem dX9_laysLimit_90 : decode cX9_laysLimit 90 = .ok (.imul, 1) := by decide +kernel
theorem dX9_laysLimit_91 : decode cX9_laysLimit 91 = .ok (.iload_n 2, 1) := by decide +kernel
theorem dX9_laysLimit_92 : decode cX9_laysLimit 92 = .ok (.ifCond .ne 7, 3) := by decide +kernel
theorem dX9_laysLimit_95 : decode cX9_laysLimit 95 = .ok (.iconst 1, 1) := by decide +kernel
theorem dX9_laysLimit_96 : decode cX9_laysLimit 96 = .ok (.goto 4, 3) := by decide +kernel
theorem dX9_laysLimit_99 : decode cX9_laysLimit 99 = .ok (.iload_n 2, 1) := by decide +kernel
theorem dX9_laysLimit_100 : decode cX9_laysLimit 100 = .ok (.idiv, 1) := by decide +kernel
theorem dX9_laysLimit_101 : decode cX9_laysLimit 101 = .ok (.istore_n 3, 1) := by decide +kernel
theorem dX9_laysLimit_102 : decode cX9_laysLimit 102 = .ok (.iload_n 3, 1) := by decide +kernel
theorem dX9_laysLimit_103 : decode cX9_laysLimit 103 = .ok (.bipush 38, 2) := by decide +kernel
theorem dX9_laysLimit_105 : decode cX9_laysLimit 105 = .ok (.if_icmp .le 12, 3) := by decide +kernel
theorem dX9_laysLimit_108 : decode cX9_laysLimit 108 = .ok (.iload_n 3, 1) := by decide +kernel
theorem dX9_laysLimit_109 : decode cX9_laysLimit 109 = .ok (.bipush 38, 2) := by decide +kernel
theorem dX9_laysLimit_111 : decode cX9_laysLimit 111 = .ok (.isub, 1) := by decide +kernel
theorem dX9_laysLimit_112 : decode cX9_laysLimit 112 = .ok (.iconst 2, 1) := by decide +kernel
theorem dX9_laysLimit_113 : decode cX9_laysLimit 113 = .ok (.idiv, 1) := by decide +kernel
theorem dX9_laysLimit_114 : decode cX9_laysLimit 114 = .ok (.goto 4, 3) := by decide +kernel
theorem dX9_laysLimit_117 : decode cX9_laysLimit 117 = .ok (.iconst 0, 1) := by decide +kernel
theorem dX9_laysLimit_118 : decode cX9_laysLimit 118 = .ok (.istore 4, 2) := by decide +kernel
theorem dX9_laysLimit_120 : decode cX9_laysLimit 120 = .ok (.aload_n 0, 1) := by decide +kernel
theorem dX9_laysLimit_121 : decode cX9_laysLimit 121 = .ok (.getfield 7, 3) := by decide +kernel
theorem dX9_laysLimit_124 : decode cX9_laysLimit 124 = .ok (.iload_n 1, 1) := by decide +kernel
theorem dX9_laysLimit_125 : decode cX9_laysLimit 125 = .ok (.iconst 0, 1) := by decide +kernel
theorem dX9_laysLimit_126 : decode cX9_laysLimit 126 = .ok (.invokestatic 87, 3) := by decide +kernel
theorem dX9_laysLimit_129 : decode cX9_laysLimit 129 = .ok (.iaload, 1) := by decide +kernel
theorem dX9_laysLimit_130 : decode cX9_laysLimit 130 = .ok (.invokestatic 123, 3) := by decide +kernel
theorem dX9_laysLimit_133 : decode cX9_laysLimit 133 = .ok (.iload 4, 2) := by decide +kernel
theorem dX9_laysLimit_135 : decode cX9_laysLimit 135 = .ok (.bipush 10, 2) := by decide +kernel
theorem dX9_laysLimit_137 : decode cX9_laysLimit 137 = .ok (.if_icmp .le 8, 3) := by decide +kernel
theorem dX9_laysLimit_140 : decode cX9_laysLimit 140 = .ok (.bipush 10, 2) := by decide +kernel
theorem dX9_laysLimit_142 : decode cX9_laysLimit 142 = .ok (.goto 5, 3) := by decide +kernel
theorem dX9_laysLimit_145 : decode cX9_laysLimit 145 = .ok (.iload 4, 2) := by decide +kernel
theorem dX9_laysLimit_147 : decode cX9_laysLimit 147 = .ok (.iadd, 1) := by decide +kernel
theorem dX9_laysLimit_148 : decode cX9_laysLimit 148 = .ok (.istore 5, 2) := by decide +kernel
theorem dX9_laysLimit_150 : decode cX9_laysLimit 150 = .ok (.aload_n 0, 1) := by decide +kernel
theorem dX9_laysLimit_151 : decode cX9_laysLimit 151 = .ok (.getfield 7, 3) := by decide +kernel
theorem dX9_laysLimit_154 : decode cX9_laysLimit 154 = .ok (.iload_n 1, 1) := by decide +kernel
theorem dX9_laysLimit_155 : decode cX9_laysLimit 155 = .ok (.bipush 7, 2) := by decide +kernel
theorem dX9_laysLimit_157 : decode cX9_laysLimit 157 = .ok (.invokestatic 87, 3) := by decide +kernel
theorem dX9_laysLimit_160 : decode cX9_laysLimit 160 = .ok (.iload_n 2, 1) := by decide +kernel
theorem dX9_laysLimit_161 : decode cX9_laysLimit 161 = .ok (.iastore, 1) := by decide +kernel
theorem dX9_laysLimit_162 : decode cX9_laysLimit 162 = .ok (.aload_n 0, 1) := by decide +kernel
theorem dX9_laysLimit_163 : decode cX9_laysLimit 163 = .ok (.getfield 7, 3) := by decide +kernel
theorem dX9_laysLimit_166 : decode cX9_laysLimit 166 = .ok (.iload_n 1, 1) := by decide +kernel
theorem dX9_laysLimit_167 : decode cX9_laysLimit 167 = .ok (.bipush 8, 2) := by decide +kernel
theorem dX9_laysLimit_169 : decode cX9_laysLimit 169 = .ok (.invokestatic 87, 3) := by decide +kernel
theorem dX9_laysLimit_172 : decode cX9_laysLimit 172 = .ok (.iload_n 3, 1) := by decide +kernel
theorem dX9_laysLimit_173 : decode cX9_laysLimit 173 = .ok (.iastore, 1) := by decide +kernel
theorem dX9_laysLimit_174 : decode cX9_laysLimit 174 = .ok (.aload_n 0, 1) := by decide +kernel
theorem dX9_laysLimit_175 : decode cX9_laysLimit 175 = .ok (.getfield 7, 3) := by decide +kernel
theorem dX9_laysLimit_178 : decode cX9_laysLimit 178 = .ok (.iload_n 1, 1) := by decide +kernel
theorem dX9_laysLimit_179 : decode cX9_laysLimit 179 = .ok (.bipush 9, 2) := by decide +kernel
theorem dX9_laysLimit_181 : decode cX9_laysLimit 181 = .ok (.invokestatic 87, 3) := by decide +kernel
theorem dX9_laysLimit_184 : decode cX9_laysLimit 184 = .ok (.iload_n 2, 1) := by decide +kernel
theorem dX9_laysLimit_185 : decode cX9_laysLimit 185 = .ok (.iload_n 2, 1) := by decide +kernel
theorem dX9_laysLimit_186 : decode cX9_laysLimit 186 = .ok (.iload 5, 2) := by decide +kernel
theorem dX9_laysLimit_188 : decode cX9_laysLimit 188 = .ok (.imul, 1) := by decide +kernel
theorem dX9_laysLimit_189 : decode cX9_laysLimit 189 = .ok (.bipush 100, 2) := by decide +kernel
theorem dX9_laysLimit_191 : decode cX9_laysLimit 191 = .ok (.idiv, 1) := by decide +kernel
theorem dX9_laysLimit_192 : decode cX9_laysLimit 192 = .ok (.iadd, 1) := by decide +kernel
theorem dX9_laysLimit_193 : decode cX9_laysLimit 193 = .ok (.iastore, 1) := by decide +kernel
theorem dX9_laysLimit_194 : decode cX9_laysLimit 194 = .ok (.return_, 1) := by decide +kernel
set_option maxRecDepth 20000 in
theorem ggX9_pointsFor_X9_at : GoodIn wsX9_pointsFor wsX9_at := goodIn_r _ [8] rfl (by decide +kernel)
set_option maxRecDepth 20000 in
theorem gX9_pointsFor_X9_at : GoodIn wsX9_pointsFor (va_wsS RX9 87 yX9_at wsX9_at) := goodIn_app (goodIn_of _ (by decide +kernel)) ggX9_pointsFor_X9_at
theorem dX9_pointsFor_0 : decode cX9_pointsFor 0 = .ok (.iload_n 2, 1) := by decide +kernel
theorem dX9_pointsFor_1 : decode cX9_pointsFor 1 = .ok (.iconst 4, 1) := by decide +kernel
theorem dX9_pointsFor_2 : decode cX9_pointsFor 2 = .ok (.if_icmp .le 5, 3) := by decide +kernel
theorem dX9_pointsFor_5 : decode cX9_pointsFor 5 = .ok (.iconst 0, 1) := by decide +kernel
theorem dX9_pointsFor_6 : decode cX9_pointsFor 6 = .ok (.ireturn, 1) := by decide +kernel
theorem dX9_pointsFor_7 : decode cX9_pointsFor 7 = .ok (.aload_n 0, 1) := by decide +kernel
theorem dX9_pointsFor_8 : decode cX9_pointsFor 8 = .ok (.getfield 7, 3) := by decide +kernel
theorem dX9_pointsFor_11 : decode cX9_pointsFor 11 = .ok (.iload_n 1, 1) := by decide +kernel
theorem dX9_pointsFor_12 : decode cX9_pointsFor 12 = .ok (.iconst 0, 1) := by decide +kernel
theorem dX9_pointsFor_13 : decode cX9_pointsFor 13 = .ok (.invokestatic 87, 3) := by decide +kernel
theorem dX9_pointsFor_16 : decode cX9_pointsFor 16 = .ok (.iaload, 1) := by decide +kernel
theorem dX9_pointsFor_17 : decode cX9_pointsFor 17 = .ok (.ifCond .ne 11, 3) := by decide +kernel
theorem dX9_pointsFor_20 : decode cX9_pointsFor 20 = .ok (.getstatic 126, 3) := by decide +kernel
theorem dX9_pointsFor_23 : decode cX9_pointsFor 23 = .ok (.iload_n 2, 1) := by decide +kernel
theorem dX9_pointsFor_24 : decode cX9_pointsFor 24 = .ok (.iaload, 1) := by decide +kernel
theorem dX9_pointsFor_25 : decode cX9_pointsFor 25 = .ok (.goto 30, 3) := by decide +kernel
theorem dX9_pointsFor_28 : decode cX9_pointsFor 28 = .ok (.aload_n 0, 1) := by decide +kernel
theorem dX9_pointsFor_29 : decode cX9_pointsFor 29 = .ok (.getfield 7, 3) := by decide +kernel
theorem dX9_pointsFor_32 : decode cX9_pointsFor 32 = .ok (.iload_n 1, 1) := by decide +kernel
theorem dX9_pointsFor_33 : decode cX9_pointsFor 33 = .ok (.iconst 0, 1) := by decide +kernel
theorem dX9_pointsFor_34 : decode cX9_pointsFor 34 = .ok (.invokestatic 87, 3) := by decide +kernel
theorem dX9_pointsFor_37 : decode cX9_pointsFor 37 = .ok (.iaload, 1) := by decide +kernel
theorem dX9_pointsFor_38 : decode cX9_pointsFor 38 = .ok (.iconst 1, 1) := by decide +kernel
theorem dX9_pointsFor_39 : decode cX9_pointsFor 39 = .ok (.if_icmp .ne 11, 3) := by decide +kernel
theorem dX9_pointsFor_42 : decode cX9_pointsFor 42 = .ok (.getstatic 129, 3) := by decide +kernel
theorem dX9_pointsFor_45 : decode cX9_pointsFor 45 = .ok (.iload_n 2, 1) := by decide +kernel
theorem dX9_pointsFor_46 : decode cX9_pointsFor 46 = .ok (.iaload, 1) := by decide +kernel
theorem dX9_pointsFor_47 : decode cX9_pointsFor 47 = .ok (.goto 8, 3) := by decide +kernel
theorem dX9_pointsFor_50 : decode cX9_pointsFor 50 = .ok (.getstatic 132, 3) := by decide +kernel
theorem dX9_pointsFor_53 : decode cX9_pointsFor 53 = .ok (.iload_n 2, 1) := by decide +kernel
theorem dX9_pointsFor_54 : decode cX9_pointsFor 54 = .ok (.iaload, 1) := by decide +kernel
theorem dX9_pointsFor_55 : decode cX9_pointsFor 55 = .ok (.ireturn, 1) := by decide +kernel
theorem dX9_dotsFor_0 : decode cX9_dotsFor 0 = .ok (.iload_n 0, 1) := by decide +kernel
theorem dX9_dotsFor_1 : decode cX9_dotsFor 1 = .ok (.tableswitch 70 1 3 #[27, 42, 57], 27) := by decide +kernel
theorem dX9_dotsFor_28 : decode cX9_dotsFor 28 = .ok (.iload_n 1, 1) := by decide +kernel
theorem dX9_dotsFor_29 : decode cX9_dotsFor 29 = .ok (.iconst 4, 1) := by decide +kernel
theorem dX9_dotsFor_30 : decode cX9_dotsFor 30 = .ok (.if_icmp .ge 11, 3) := by decide +kernel
theorem dX9_dotsFor_33 : decode cX9_dotsFor 33 = .ok (.getstatic 135, 3) := by decide +kernel
theorem dX9_dotsFor_36 : decode cX9_dotsFor 36 = .ok (.iload_n 1, 1) := by decide +kernel
theorem dX9_dotsFor_37 : decode cX9_dotsFor 37 = .ok (.iaload, 1) := by decide +kernel
theorem dX9_dotsFor_38 : decode cX9_dotsFor 38 = .ok (.goto 4, 3) := by decide +kernel
theorem dX9_dotsFor_41 : decode cX9_dotsFor 41 = .ok (.iconst 0, 1) := by decide +kernel
theorem dX9_dotsFor_42 : decode cX9_dotsFor 42 = .ok (.ireturn, 1) := by decide +kernel
theorem dX9_dotsFor_43 : decode cX9_dotsFor 43 = .ok (.iload_n 1, 1) := by decide +kernel
theorem dX9_dotsFor_44 : decode cX9_dotsFor 44 = .ok (.iconst 4, 1) := by decide +kernel
theorem dX9_dotsFor_45 : decode cX9_dotsFor 45 = .ok (.if_icmp .ge 11, 3) := by decide +kernel
theorem dX9_dotsFor_48 : decode cX9_dotsFor 48 = .ok (.getstatic 138, 3) := by decide +kernel
theorem dX9_dotsFor_51 : decode cX9_dotsFor 51 = .ok (.iload_n 1, 1) := by decide +kernel
theorem dX9_dotsFor_52 : decode cX9_dotsFor 52 = .ok (.iaload, 1) := by decide +kernel
theorem dX9_dotsFor_53 : decode cX9_dotsFor 53 = .ok (.goto 4, 3) := by decide +kernel
theorem dX9_dotsFor_56 : decode cX9_dotsFor 56 = .ok (.iconst 0, 1) := by decide +kernel
theorem dX9_dotsFor_57 : decode cX9_dotsFor 57 = .ok (.ireturn, 1) := by decide +kernel
theorem dX9_dotsFor_58 : decode cX9_dotsFor 58 = .ok (.iload_n 1, 1) := by decide +kernel
theorem dX9_dotsFor_59 : decode cX9_dotsFor 59 = .ok (.iconst 2, 1) := by decide +kernel
theorem dX9_dotsFor_60 : decode cX9_dotsFor 60 = .ok (.if_icmp .ge 9, 3) := by decide +kernel
theorem dX9_dotsFor_63 : decode cX9_dotsFor 63 = .ok (.iconst 2, 1) := by decide +kernel
theorem dX9_dotsFor_64 : decode cX9_dotsFor 64 = .ok (.iload_n 1, 1) := by decide +kernel
theorem dX9_dotsFor_65 : decode cX9_dotsFor 65 = .ok (.isub, 1) := by decide +kernel
theorem dX9_dotsFor_66 : decode cX9_dotsFor 66 = .ok (.goto 4, 3) := by decide +kernel
theorem dX9_dotsFor_69 : decode cX9_dotsFor 69 = .ok (.iconst 0, 1) := by decide +kernel
theorem dX9_dotsFor_70 : decode cX9_dotsFor 70 = .ok (.ireturn, 1) := by decide +kernel
theorem dX9_dotsFor_71 : decode cX9_dotsFor 71 = .ok (.iload_n 1, 1) := by decide +kernel
theorem dX9_dotsFor_72 : decode cX9_dotsFor 72 = .ok (.ifCond .ne 7, 3) := by decide +kernel
theorem dX9_dotsFor_75 : decode cX9_dotsFor 75 = .ok (.iconst 1, 1) := by decide +kernel
theorem dX9_dotsFor_76 : decode cX9_dotsFor 76 = .ok (.goto 4, 3) := by decide +kernel
theorem dX9_dotsFor_79 : decode cX9_dotsFor 79 = .ok (.iconst 0, 1) := by decide +kernel
theorem dX9_dotsFor_80 : decode cX9_dotsFor 80 = .ok (.ireturn, 1) := by decide +kernel
set_option maxRecDepth 20000 in
theorem ggX9_adds_X9_isLate : GoodIn wsX9_adds wsX9_isLate := goodIn_r _ [6, 1, 7, 8, 9, 5, 10, 11, 12, 13, 14, 15, 16, 17, 18, 19, 20, 21, 22, 23, 24, 25, 26, 27, 28, 29, 30, 31, 32, 33, 34] rfl (by decide +kernel)
set_option maxRecDepth 20000 in
theorem gX9_adds_X9_isLate : GoodIn wsX9_adds (wsV RX9 141 RX9 yX9_isLate wsX9_isLate) := goodIn_app (goodIn_of _ (by decide +kernel)) ggX9_adds_X9_isLate
set_option maxRecDepth 20000 in
theorem ggX9_adds_X9_at_ : GoodIn wsX9_adds wsX9_at_ := goodIn_r _ [13] rfl (by decide +kernel)
set_option maxRecDepth 20000 in
theorem gX9_adds_X9_at_ : GoodIn wsX9_adds (va_wsS RX9 51 yX9_at_ wsX9_at_) := goodIn_app (goodIn_of _ (by decide +kernel)) ggX9_adds_X9_at_
theorem dX9_adds_0 : decode cX9_adds 0 = .ok (.iload_n 3, 1) := by decide +kernel
theorem dX9_adds_1 : decode cX9_adds 1 = .ok (.bipush 9, 2) := by decide +kernel
theorem dX9_adds_3 : decode cX9_adds 3 = .ok (.if_icmp .eq 12, 3) := by decide +kernel
theorem dX9_adds_6 : decode cX9_adds 6 = .ok (.aload_n 0, 1) := by decide +kernel
theorem dX9_adds_7 : decode cX9_adds 7 = .ok (.iload_n 1, 1) := by decide +kernel
theorem dX9_adds_8 : decode cX9_adds 8 = .ok (.iload_n 2, 1) := by decide +kernel
theorem dX9_adds_9 : decode cX9_adds 9 = .ok (.invokevirtual 141, 3) := by decide +kernel
theorem dX9_adds_12 : decode cX9_adds 12 = .ok (.ifCond .ne 19, 3) := by decide +kernel
theorem dX9_adds_15 : decode cX9_adds 15 = .ok (.aload_n 0, 1) := by decide +kernel
theorem dX9_adds_16 : decode cX9_adds 16 = .ok (.getfield 7, 3) := by decide +kernel
theorem dX9_adds_19 : decode cX9_adds 19 = .ok (.iload_n 1, 1) := by decide +kernel
theorem dX9_adds_20 : decode cX9_adds 20 = .ok (.iload_n 2, 1) := by decide +kernel
theorem dX9_adds_21 : decode cX9_adds 21 = .ok (.iload_n 3, 1) := by decide +kernel
theorem dX9_adds_22 : decode cX9_adds 22 = .ok (.invokestatic 51, 3) := by decide +kernel
theorem dX9_adds_25 : decode cX9_adds 25 = .ok (.dup2, 1) := by decide +kernel
theorem dX9_adds_26 : decode cX9_adds 26 = .ok (.iaload, 1) := by decide +kernel
theorem dX9_adds_27 : decode cX9_adds 27 = .ok (.iload 4, 2) := by decide +kernel
theorem dX9_adds_29 : decode cX9_adds 29 = .ok (.iadd, 1) := by decide +kernel
theorem dX9_adds_30 : decode cX9_adds 30 = .ok (.iastore, 1) := by decide +kernel
theorem dX9_adds_31 : decode cX9_adds 31 = .ok (.return_, 1) := by decide +kernel
set_option maxRecDepth 20000 in
theorem ggX9_laysPrizes_X9_at : GoodIn wsX9_laysPrizes wsX9_at := goodIn_r _ [8] rfl (by decide +kernel)
set_option maxRecDepth 20000 in
theorem gX9_laysPrizes_X9_at : GoodIn wsX9_laysPrizes (va_wsS RX9 87 yX9_at wsX9_at) := goodIn_app (goodIn_of _ (by decide +kernel)) ggX9_laysPrizes_X9_at
set_option maxRecDepth 20000 in
theorem ggX9_laysPrizes_X9_adds : GoodIn wsX9_laysPrizes wsX9_adds := goodIn_r _ [12, 2, 13, 14, 15, 7, 16, 17, 18, 19, 20, 21, 22, 23, 5, 6, 8, 39, 40, 41, 42, 43, 44, 45, 46, 47, 48, 49, 50, 51, 52, 53, 54, 55, 56] rfl (by decide +kernel)
set_option maxRecDepth 20000 in
theorem gX9_laysPrizes_X9_adds : GoodIn wsX9_laysPrizes (wsV RX9 144 RX9 yX9_adds wsX9_adds) := goodIn_app (goodIn_of _ (by decide +kernel)) ggX9_laysPrizes_X9_adds
set_option maxRecDepth 20000 in
theorem ggX9_laysPrizes_X9_pointsFor : GoodIn wsX9_laysPrizes wsX9_pointsFor := goodIn_r _ [27, 2, 28, 29, 30, 5, 6, 7, 8, 39, 40, 41, 42, 43, 44, 45, 46, 47, 48, 49, 50, 51, 52, 53, 54, 55, 56] rfl (by decide +kernel)
set_option maxRecDepth 20000 in
theorem gX9_laysPrizes_X9_pointsFor : GoodIn wsX9_laysPrizes (wsV RX9 148 RX9 yX9_pointsFor wsX9_pointsFor) := goodIn_app (goodIn_of _ (by decide +kernel)) ggX9_laysPrizes_X9_pointsFor
set_option maxRecDepth 20000 in
theorem ggX9_laysPrizes_X9_mark : GoodIn wsX9_laysPrizes wsX9_mark := goodIn_r _ [33] rfl (by decide +kernel)
set_option maxRecDepth 20000 in
theorem gX9_laysPrizes_X9_mark : GoodIn wsX9_laysPrizes (va_wsS RX9 92 yX9_mark wsX9_mark) := goodIn_app (goodIn_of _ (by decide +kernel)) ggX9_laysPrizes_X9_mark
set_option maxRecDepth 20000 in
theorem ggX9_laysPrizes_X9_hasFinish : GoodIn wsX9_laysPrizes wsX9_hasFinish := goodIn_r _ [20, 2, 21, 22, 7, 23, 39, 40, 41, 42, 43, 44, 45, 46, 47, 48, 49, 50, 51, 52, 53, 54, 55, 56] rfl (by decide +kernel)
set_option maxRecDepth 20000 in
theorem gX9_laysPrizes_X9_hasFinish : GoodIn wsX9_laysPrizes (wsV RX9 55 RX9 yX9_hasFinish wsX9_hasFinish) := goodIn_app (goodIn_of _ (by decide +kernel)) ggX9_laysPrizes_X9_hasFinish
set_option maxRecDepth 20000 in
theorem ggX9_laysPrizes_X9_dotsFor : GoodIn wsX9_laysPrizes wsX9_dotsFor := goodIn_r _ [36, 37, 38] rfl (by decide +kernel)
set_option maxRecDepth 20000 in
theorem gX9_laysPrizes_X9_dotsFor : GoodIn wsX9_laysPrizes (va_wsS RX9 154 yX9_dotsFor wsX9_dotsFor) := goodIn_app (goodIn_of _ (by decide +kernel)) ggX9_laysPrizes_X9_dotsFor
theorem dX9_laysPrizes_0 : decode cX9_laysPrizes 0 = .ok (.iconst 0, 1) := by decide +kernel
theorem dX9_laysPrizes_1 : decode cX9_laysPrizes 1 = .ok (.istore_n 2, 1) := by decide +kernel
theorem dX9_laysPrizes_2 : decode cX9_laysPrizes 2 = .ok (.iload_n 2, 1) := by decide +kernel
theorem dX9_laysPrizes_3 : decode cX9_laysPrizes 3 = .ok (.aload_n 0, 1) := by decide +kernel
theorem dX9_laysPrizes_4 : decode cX9_laysPrizes 4 = .ok (.getfield 114, 3) := by decide +kernel
theorem dX9_laysPrizes_7 : decode cX9_laysPrizes 7 = .ok (.if_icmp .ge 80, 3) := by decide +kernel
theorem dX9_laysPrizes_10 : decode cX9_laysPrizes 10 = .ok (.aload_n 0, 1) := by decide +kernel
theorem dX9_laysPrizes_11 : decode cX9_laysPrizes 11 = .ok (.getfield 7, 3) := by decide +kernel
theorem dX9_laysPrizes_14 : decode cX9_laysPrizes 14 = .ok (.iload_n 1, 1) := by decide +kernel
theorem dX9_laysPrizes_15 : decode cX9_laysPrizes 15 = .ok (.iconst 0, 1) := by decide +kernel
theorem dX9_laysPrizes_16 : decode cX9_laysPrizes 16 = .ok (.invokestatic 87, 3) := by decide +kernel
theorem dX9_laysPrizes_19 : decode cX9_laysPrizes 19 = .ok (.iaload, 1) := by decide +kernel
theorem dX9_laysPrizes_20 : decode cX9_laysPrizes 20 = .ok (.iconst 3, 1) := by decide +kernel
theorem dX9_laysPrizes_21 : decode cX9_laysPrizes 21 = .ok (.if_icmp .eq 41, 3) := by decide +kernel
theorem dX9_laysPrizes_24 : decode cX9_laysPrizes 24 = .ok (.iload_n 2, 1) := by decide +kernel
theorem dX9_laysPrizes_25 : decode cX9_laysPrizes 25 = .ok (.iconst 3, 1) := by decide +kernel
theorem dX9_laysPrizes_26 : decode cX9_laysPrizes 26 = .ok (.if_icmp .ge 36, 3) := by decide +kernel
theorem dX9_laysPrizes_29 : decode cX9_laysPrizes 29 = .ok (.aload_n 0, 1) := by decide +kernel
theorem dX9_laysPrizes_30 : decode cX9_laysPrizes 30 = .ok (.iload_n 1, 1) := by decide +kernel
theorem dX9_laysPrizes_31 : decode cX9_laysPrizes 31 = .ok (.aload_n 0, 1) := by decide +kernel
theorem dX9_laysPrizes_32 : decode cX9_laysPrizes 32 = .ok (.getfield 23, 3) := by decide +kernel
theorem dX9_laysPrizes_35 : decode cX9_laysPrizes 35 = .ok (.iload_n 2, 1) := by decide +kernel
theorem dX9_laysPrizes_36 : decode cX9_laysPrizes 36 = .ok (.iaload, 1) := by decide +kernel
theorem dX9_laysPrizes_37 : decode cX9_laysPrizes 37 = .ok (.bipush 9, 2) := by decide +kernel
theorem dX9_laysPrizes_39 : decode cX9_laysPrizes 39 = .ok (.iload_n 2, 1) := by decide +kernel
theorem dX9_laysPrizes_40 : decode cX9_laysPrizes 40 = .ok (.ifCond .ne 8, 3) := by decide +kernel
theorem dX9_laysPrizes_43 : decode cX9_laysPrizes 43 = .ok (.bipush 10, 2) := by decide +kernel
theorem dX9_laysPrizes_45 : decode cX9_laysPrizes 45 = .ok (.goto 14, 3) := by decide +kernel
theorem dX9_laysPrizes_48 : decode cX9_laysPrizes 48 = .ok (.iload_n 2, 1) := by decide +kernel
theorem dX9_laysPrizes_49 : decode cX9_laysPrizes 49 = .ok (.iconst 1, 1) := by decide +kernel
theorem dX9_laysPrizes_50 : decode cX9_laysPrizes 50 = .ok (.if_icmp .ne 8, 3) := by decide +kernel
theorem dX9_laysPrizes_53 : decode cX9_laysPrizes 53 = .ok (.bipush 6, 2) := by decide +kernel
theorem dX9_laysPrizes_55 : decode cX9_laysPrizes 55 = .ok (.goto 4, 3) := by decide +kernel
theorem dX9_laysPrizes_58 : decode cX9_laysPrizes 58 = .ok (.iconst 4, 1) := by decide +kernel
theorem dX9_laysPrizes_59 : decode cX9_laysPrizes 59 = .ok (.invokevirtual 144, 3) := by decide +kernel
theorem dX9_laysPrizes_62 : decode cX9_laysPrizes 62 = .ok (.aload_n 0, 1) := by decide +kernel
theorem dX9_laysPrizes_63 : decode cX9_laysPrizes 63 = .ok (.iload_n 1, 1) := by decide +kernel
theorem dX9_laysPrizes_64 : decode cX9_laysPrizes 64 = .ok (.aload_n 0, 1) := by decide +kernel
theorem dX9_laysPrizes_65 : decode cX9_laysPrizes 65 = .ok (.getfield 23, 3) := by decide +kernel
theorem dX9_laysPrizes_68 : decode cX9_laysPrizes 68 = .ok (.iload_n 2, 1) := by decide +kernel
theorem dX9_laysPrizes_69 : decode cX9_laysPrizes 69 = .ok (.iaload, 1) := by decide +kernel
theorem dX9_laysPrizes_70 : decode cX9_laysPrizes 70 = .ok (.bipush 10, 2) := by decide +kernel
theorem dX9_laysPrizes_72 : decode cX9_laysPrizes 72 = .ok (.aload_n 0, 1) := by decide +kernel
theorem dX9_laysPrizes_73 : decode cX9_laysPrizes 73 = .ok (.iload_n 1, 1) := by decide +kernel
theorem dX9_laysPrizes_74 : decode cX9_laysPrizes 74 = .ok (.iload_n 2, 1) := by decide +kernel
theorem dX9_laysPrizes_75 : decode cX9_laysPrizes 75 = .ok (.invokevirtual 148, 3) := by decide +kernel
theorem dX9_laysPrizes_78 : decode cX9_laysPrizes 78 = .ok (.invokevirtual 144, 3) := by decide +kernel
theorem dX9_laysPrizes_81 : decode cX9_laysPrizes 81 = .ok (.iinc 2 1, 3) := by decide +kernel
theorem dX9_laysPrizes_84 : decode cX9_laysPrizes 84 = .ok (.goto (-82), 3) := by decide +kernel
theorem dX9_laysPrizes_87 : decode cX9_laysPrizes 87 = .ok (.iconst 0, 1) := by decide +kernel
